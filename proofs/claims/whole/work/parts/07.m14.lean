noncomputable def f_X8_valueAt_L18 (M : MS) (a0 : Int32) (a1 : Int32) (x3_1 : Int32) : Option ((Int32) ⊕ (Int32)) :=
  z_chk (z_in a0 10) (if (M.1 11 a0.toNatClampNeg) ≤ (x3_1 + (1 : Int32)) then some (.inl (x3_1)) else z_chk (z_in ((((12 : Int32) * a0) + x3_1) + (1 : Int32)) 120) (z_chk (z_in (((12 : Int32) * a0) + (M.1 12 ((((12 : Int32) * a0) + x3_1) + (1 : Int32)).toNatClampNeg)) 120) (if a1 < (M.1 8 (((12 : Int32) * a0) + (M.1 12 ((((12 : Int32) * a0) + x3_1) + (1 : Int32)).toNatClampNeg)).toNatClampNeg) then some (.inl (x3_1)) else some (.inr ((x3_1 + 1))))))
noncomputable def f_X8_valueAt (M : MS) (a0 : Int32) (a1 : Int32) : Option (MS) :=
  z_chk (z_in a0 10) (if (M.1 11 a0.toNatClampNeg) = 0 then z_bd (f_X8_is M (0 : Int64) (1 : Int64)) fun M_4 => some M_4 else z_bd (z_lp (fun x => f_X8_valueAt_L18 M a0 a1 x) ((0 : Int32))) fun y3_2 => z_chk (z_in (((36 : Int32) * a0) + ((3 : Int32) * y3_2)) 360) (z_chk (z_in (((36 : Int32) * a0) + ((3 : Int32) * y3_2)) 360) (z_chk (z_in ((((36 : Int32) * a0) + ((3 : Int32) * y3_2)) + (1 : Int32)) 360) (z_chk (z_in ((((36 : Int32) * a0) + ((3 : Int32) * y3_2)) + (1 : Int32)) 360) (z_chk (z_in ((((36 : Int32) * a0) + ((3 : Int32) * y3_2)) + (2 : Int32)) 360) (z_chk (z_in ((((36 : Int32) * a0) + ((3 : Int32) * y3_2)) + (2 : Int32)) 360) (z_bd (f_X8_valueOf M (M.2 13 (((36 : Int32) * a0) + ((3 : Int32) * y3_2)).toNatClampNeg) (M.2 14 (((36 : Int32) * a0) + ((3 : Int32) * y3_2)).toNatClampNeg) (M.2 13 ((((36 : Int32) * a0) + ((3 : Int32) * y3_2)) + (1 : Int32)).toNatClampNeg) (M.2 14 ((((36 : Int32) * a0) + ((3 : Int32) * y3_2)) + (1 : Int32)).toNatClampNeg) (M.2 13 ((((36 : Int32) * a0) + ((3 : Int32) * y3_2)) + (2 : Int32)).toNatClampNeg) (M.2 14 ((((36 : Int32) * a0) + ((3 : Int32) * y3_2)) + (2 : Int32)).toNatClampNeg) a1) fun M_3 => some M_3)))))))
set_option maxHeartbeats 4000000 in
set_option maxRecDepth 100000 in
theorem mt_X8_valueAt (l : Launch) (D : va_G) (cI cJ : ClassId) (o sz : Nat) (M : MS) (a0 : Int32) (a1 : Int32) {N_ : MS} (h : f_X8_valueAt M a0 a1 = some N_) : Met l yX8_valueAt (z_wd yX8_valueAt cX8_valueAt 5 none) (z_rm 4 184) (va_Pc [.ref o, .int a0, .int a1] (m_C D cI cJ o sz M)) (va_Qv (fun (M1 : MS) => M1 = N_) (m_C D cI cJ o sz) (m_A o)) 0 0 (m_A o) := by
  refine Met.ofW (cc := cX8_valueAt) (maxL := 5) (ret := none) (by decide) rfl ?_
  intro p e s m args below meth c s₁ B hml hv
  obtain ⟨hav, hz, hP0, hK⟩ := hv
  have hx := B.exec
  have hb := B.bytes
  have hr := B.returns
  have hts := atoms_spec (ws := z_wd yX8_valueAt cX8_valueAt 5 none) B.pre
  have hown : s.vm.findClass RX8 = some m.cls := findClass_of_methodNamed B.named
  have hlocks := B.notSynchronized
  have hc : m_X p s m args c cX8_valueAt 5 D cI cJ := ⟨hx, hb, hml, fun w hw => hts w (List.mem_cons_of_mem _ hw), hown, hK⟩
  have hl := lv_entry ([.ref o, .int a0, .int a1]) (n := 5) (Nat.le_of_ble_eq_true rfl)
  have hE : entryFrame m args 5 = F0 m 0 ((lg_sl ([.ref o, .int a0, .int a1]) ++ List.replicate (5 - (lg_sl ([.ref o, .int a0, .int a1])).length) Slot.unset).toArray) [] := by rw [hav]; exact lg_entry_eq m _ _
  rw [hE]
  clear hE hav
  generalize (lg_sl ([.ref o, .int a0, .int a1]) ++ List.replicate (5 - (lg_sl ([.ref o, .int a0, .int a1])).length) Slot.unset).toArray = ls at hl ⊢
  have hl : lv_has ls 5 [(0, .ref o), (1, .int a0), (2, .int a1)] := hl
  obtain ⟨Q, hQ⟩ : ∃ Q, Q = MQ below (va_Qv (fun (M1 : MS) => M1 = N_) (m_C D cI cJ o sz) (m_A o)) args s 0 0 (m_A o) := ⟨_, rfl⟩
  rw [← hQ]
  suffices hmain : ∀ (H : Heap) (locs : List Loc), va_P D z_cls (m_W cI cJ o M) H → va_S (m_A o) s.heap H locs → W p l e (z_rm 4 184) s m args below meth c H locs 0 0 Q (F0 m 0 ls []) from hmain s.heap [] hP0 va_S.rf
  clear hP0
  intro H locs hP hS
  unfold f_X8_valueAt at h
  refine lv_aload_n hx hb dX8_valueAt_0 rfl (lv_at hl 0 rfl) ?_
  refine m_get (k := 11) (v := .ref (o + 11)) hc hP (by decide) wF_X8_40 rfl dX8_valueAt_1 ?_
  refine lv_iload_n hx hb dX8_valueAt_4 rfl (lv_at hl 1 rfl) ?_
  obtain ⟨c_5, h⟩ := z_chk_some h
  refine m_iald (k := 11) (j := 11) hc hP (ma_11 ..) c_5 dX8_valueAt_5 ?_
  refine lv_if_ne (tgt := 16) hx hb dX8_valueAt_6 (by decide) (fun c_6 => ?_) (fun c_6 => ?_)
  · replace h := z_in_ c_6 h
    refine lv_iconst (v := 0) hx hb dX8_valueAt_16 (by decide) ?_
    refine lv_istore_n (lv' := [(3, .int (0 : Int32)), (0, .ref o), (1, .int a0), (2, .int a1)]) hx hb dX8_valueAt_17 rfl hl (by decide) rfl (fun ls hl => ?_)
    obtain ⟨y3_2, hlp, h⟩ := z_bd_some h
    refine z_lp_ind (P := fun x => ∀ (H : Heap) (locs : List Loc) (ls : Array Slot), va_P D z_cls (m_W cI cJ o M) H → va_S (m_A o) s.heap H locs → lv_has ls 5 [(0, .ref o), (1, .int a0), (2, .int a1), (3, .int x)] → W p l e (z_rm 4 184) s m args below meth c H locs 0 0 Q (F0 m 18 ls [])) (Qe := fun y => ∀ (H : Heap) (locs : List Loc) (ls : Array Slot), va_P D z_cls (m_W cI cJ o M) H → va_S (m_A o) s.heap H locs → lv_has ls 5 [(0, .ref o), (1, .int a0), (2, .int a1), (3, .int y)] → W p l e (z_rm 4 184) s m args below meth c H locs 0 0 Q (F0 m 63 ls [])) ?_ hlp ?_ H locs ls hP hS (lv_sub hl [1, 2, 3, 0] rfl)
    · clear h hlp hP hS hl
      rintro x3_1 oo h K_18 H locs ls hP hS hl
      have hP : va_P D z_cls (m_W cI cJ o M) H := hP
      have hl : lv_has ls 5 [(0, .ref o), (1, .int a0), (2, .int a1), (3, .int x3_1)] := hl
      have h : f_X8_valueAt_L18 M a0 a1 x3_1 = some oo := h
      unfold f_X8_valueAt_L18 at h
      refine lv_iload_n hx hb dX8_valueAt_18 rfl (lv_at hl 3 rfl) ?_
      refine lv_iconst (v := 1) hx hb dX8_valueAt_19 (by decide) ?_
      refine lv_iadd hx hb dX8_valueAt_20 ?_
      refine lv_aload_n hx hb dX8_valueAt_21 rfl (lv_at hl 0 rfl) ?_
      refine m_get (k := 11) (v := .ref (o + 11)) hc hP (by decide) wF_X8_40 rfl dX8_valueAt_22 ?_
      refine lv_iload_n hx hb dX8_valueAt_25 rfl (lv_at hl 1 rfl) ?_
      obtain ⟨c_26, h⟩ := z_chk_some h
      refine m_iald (k := 11) (j := 11) hc hP (ma_11 ..) c_26 dX8_valueAt_26 ?_
      refine lv_icmp_ge (tgt := 63) hx hb dX8_valueAt_27 (by decide) (fun c_27 => ?_) (fun c_27 => ?_)
      · replace h := z_ip_ c_27 h
        cases h
        exact K_18 H locs ls hP hS (lv_sub hl [0, 1, 2, 3] rfl)
      · replace h := z_in_ c_27 h
        refine lv_aload_n hx hb dX8_valueAt_30 rfl (lv_at hl 0 rfl) ?_
        refine m_get (k := 8) (v := .ref (o + 8)) hc hP (by decide) wF_X8_31 rfl dX8_valueAt_31 ?_
        refine lv_bipush (v := 12) hx hb dX8_valueAt_34 (by decide) ?_
        refine lv_iload_n hx hb dX8_valueAt_36 rfl (lv_at hl 1 rfl) ?_
        refine lv_imul hx hb dX8_valueAt_37 ?_
        refine lv_aload_n hx hb dX8_valueAt_38 rfl (lv_at hl 0 rfl) ?_
        refine m_get (k := 12) (v := .ref (o + 12)) hc hP (by decide) wF_X8_43 rfl dX8_valueAt_39 ?_
        refine lv_bipush (v := 12) hx hb dX8_valueAt_42 (by decide) ?_
        refine lv_iload_n hx hb dX8_valueAt_44 rfl (lv_at hl 1 rfl) ?_
        refine lv_imul hx hb dX8_valueAt_45 ?_
        refine lv_iload_n hx hb dX8_valueAt_46 rfl (lv_at hl 3 rfl) ?_
        refine lv_iadd hx hb dX8_valueAt_47 ?_
        refine lv_iconst (v := 1) hx hb dX8_valueAt_48 (by decide) ?_
        refine lv_iadd hx hb dX8_valueAt_49 ?_
        obtain ⟨c_50, h⟩ := z_chk_some h
        refine m_iald (k := 12) (j := 12) hc hP (ma_12 ..) c_50 dX8_valueAt_50 ?_
        refine lv_iadd hx hb dX8_valueAt_51 ?_
        obtain ⟨c_52, h⟩ := z_chk_some h
        refine m_iald (k := 8) (j := 8) hc hP (ma_8 ..) c_52 dX8_valueAt_52 ?_
        refine lv_iload_n hx hb dX8_valueAt_53 rfl (lv_at hl 2 rfl) ?_
        refine lv_icmp_gt (tgt := 63) hx hb dX8_valueAt_54 (by decide) (fun c_54 => ?_) (fun c_54 => ?_)
        · replace h := z_ip_ c_54 h
          cases h
          exact K_18 H locs ls hP hS (lv_sub hl [0, 1, 2, 3] rfl)
        · replace h := z_in_ c_54 h
          refine lv_iinc (v := (x3_1 + 1)) (lv' := [(3, .int (x3_1 + 1)), (0, .ref o), (1, .int a0), (2, .int a1)]) hx hb dX8_valueAt_57 hl (k := 3) rfl rfl (by decide) rfl (fun ls hl => ?_)
          refine lv_goto (tgt := 18) hx hb dX8_valueAt_60 (by decide) ?_
          cases h
          exact K_18 H locs ls hP hS (lv_sub hl [1, 2, 3, 0] rfl)
    · clear hlp hP hS hl
      intro H locs ls hP hS hl
      have hP : va_P D z_cls (m_W cI cJ o M) H := hP
      have hl : lv_has ls 5 [(0, .ref o), (1, .int a0), (2, .int a1), (3, .int y3_2)] := hl
      refine lv_bipush (v := 36) hx hb dX8_valueAt_63 (by decide) ?_
      refine lv_iload_n hx hb dX8_valueAt_65 rfl (lv_at hl 1 rfl) ?_
      refine lv_imul hx hb dX8_valueAt_66 ?_
      refine lv_iconst (v := 3) hx hb dX8_valueAt_67 (by decide) ?_
      refine lv_iload_n hx hb dX8_valueAt_68 rfl (lv_at hl 3 rfl) ?_
      refine lv_imul hx hb dX8_valueAt_69 ?_
      refine lv_iadd hx hb dX8_valueAt_70 ?_
      refine lv_istore (lv' := [(4, .int (((36 : Int32) * a0) + ((3 : Int32) * y3_2))), (0, .ref o), (1, .int a0), (2, .int a1), (3, .int y3_2)]) hx hb dX8_valueAt_71 hl (by decide) rfl (fun ls hl => ?_)
      refine lv_aload_n hx hb dX8_valueAt_73 rfl (lv_at hl 1 rfl) ?_
      refine lv_aload_n hx hb dX8_valueAt_74 rfl (lv_at hl 1 rfl) ?_
      refine m_get (k := 13) (v := .ref (o + 13)) hc hP (by decide) wF_X8_46 rfl dX8_valueAt_75 ?_
      refine lv_iload hx hb dX8_valueAt_78 (lv_at hl 0 rfl) ?_
      obtain ⟨c_80, h⟩ := z_chk_some h
      refine m_lald (k := 13) (j := 13) hc hP (ma_13 ..) c_80 dX8_valueAt_80 ?_
      refine lv_aload_n hx hb dX8_valueAt_81 rfl (lv_at hl 1 rfl) ?_
      refine m_get (k := 14) (v := .ref (o + 14)) hc hP (by decide) wF_X8_50 rfl dX8_valueAt_82 ?_
      refine lv_iload hx hb dX8_valueAt_85 (lv_at hl 0 rfl) ?_
      obtain ⟨c_87, h⟩ := z_chk_some h
      refine m_lald (k := 14) (j := 14) hc hP (ma_14 ..) c_87 dX8_valueAt_87 ?_
      refine lv_aload_n hx hb dX8_valueAt_88 rfl (lv_at hl 1 rfl) ?_
      refine m_get (k := 13) (v := .ref (o + 13)) hc hP (by decide) wF_X8_46 rfl dX8_valueAt_89 ?_
      refine lv_iload hx hb dX8_valueAt_92 (lv_at hl 0 rfl) ?_
      refine lv_iconst (v := 1) hx hb dX8_valueAt_94 (by decide) ?_
      refine lv_iadd hx hb dX8_valueAt_95 ?_
      obtain ⟨c_96, h⟩ := z_chk_some h
      refine m_lald (k := 13) (j := 13) hc hP (ma_13 ..) c_96 dX8_valueAt_96 ?_
      refine lv_aload_n hx hb dX8_valueAt_97 rfl (lv_at hl 1 rfl) ?_
      refine m_get (k := 14) (v := .ref (o + 14)) hc hP (by decide) wF_X8_50 rfl dX8_valueAt_98 ?_
      refine lv_iload hx hb dX8_valueAt_101 (lv_at hl 0 rfl) ?_
      refine lv_iconst (v := 1) hx hb dX8_valueAt_103 (by decide) ?_
      refine lv_iadd hx hb dX8_valueAt_104 ?_
      obtain ⟨c_105, h⟩ := z_chk_some h
      refine m_lald (k := 14) (j := 14) hc hP (ma_14 ..) c_105 dX8_valueAt_105 ?_
      refine lv_aload_n hx hb dX8_valueAt_106 rfl (lv_at hl 1 rfl) ?_
      refine m_get (k := 13) (v := .ref (o + 13)) hc hP (by decide) wF_X8_46 rfl dX8_valueAt_107 ?_
      refine lv_iload hx hb dX8_valueAt_110 (lv_at hl 0 rfl) ?_
      refine lv_iconst (v := 2) hx hb dX8_valueAt_112 (by decide) ?_
      refine lv_iadd hx hb dX8_valueAt_113 ?_
      obtain ⟨c_114, h⟩ := z_chk_some h
      refine m_lald (k := 13) (j := 13) hc hP (ma_13 ..) c_114 dX8_valueAt_114 ?_
      refine lv_aload_n hx hb dX8_valueAt_115 rfl (lv_at hl 1 rfl) ?_
      refine m_get (k := 14) (v := .ref (o + 14)) hc hP (by decide) wF_X8_50 rfl dX8_valueAt_116 ?_
      refine lv_iload hx hb dX8_valueAt_119 (lv_at hl 0 rfl) ?_
      refine lv_iconst (v := 2) hx hb dX8_valueAt_121 (by decide) ?_
      refine lv_iadd hx hb dX8_valueAt_122 ?_
      obtain ⟨c_123, h⟩ := z_chk_some h
      refine m_lald (k := 14) (j := 14) hc hP (ma_14 ..) c_123 dX8_valueAt_123 ?_
      refine lv_iload_n hx hb dX8_valueAt_124 rfl (lv_at hl 3 rfl) ?_
      obtain ⟨M_3, eM_3, h⟩ := z_bd_some h
      refine m_callv (As := [.long (M.2 13 (((36 : Int32) * a0) + ((3 : Int32) * y3_2)).toNatClampNeg), .long (M.2 14 (((36 : Int32) * a0) + ((3 : Int32) * y3_2)).toNatClampNeg), .long (M.2 13 ((((36 : Int32) * a0) + ((3 : Int32) * y3_2)) + (1 : Int32)).toNatClampNeg), .long (M.2 14 ((((36 : Int32) * a0) + ((3 : Int32) * y3_2)) + (1 : Int32)).toNatClampNeg), .long (M.2 13 ((((36 : Int32) * a0) + ((3 : Int32) * y3_2)) + (2 : Int32)).toNatClampNeg), .long (M.2 14 ((((36 : Int32) * a0) + ((3 : Int32) * y3_2)) + (2 : Int32)).toNatClampNeg), .int a1]) (M' := M_3) (n := 7) hc hP hS (mt_X8_valueOf l D cI cJ o H.size M (M.2 13 (((36 : Int32) * a0) + ((3 : Int32) * y3_2)).toNatClampNeg) (M.2 14 (((36 : Int32) * a0) + ((3 : Int32) * y3_2)).toNatClampNeg) (M.2 13 ((((36 : Int32) * a0) + ((3 : Int32) * y3_2)) + (1 : Int32)).toNatClampNeg) (M.2 14 ((((36 : Int32) * a0) + ((3 : Int32) * y3_2)) + (1 : Int32)).toNatClampNeg) (M.2 13 ((((36 : Int32) * a0) + ((3 : Int32) * y3_2)) + (2 : Int32)).toNatClampNeg) (M.2 14 ((((36 : Int32) * a0) + ((3 : Int32) * y3_2)) + (2 : Int32)).toNatClampNeg) a1 eM_3) wM_X8_225 wI_X8_valueOf wS_X8_valueOf wZ_X8 wC_X8_valueOf md_X8_valueOf ⟨rfl, rfl, Nat.le_of_ble_eq_true rfl, Nat.le_of_ble_eq_true rfl⟩ rfl hl.1 rfl (Nat.le_of_ble_eq_true rfl) dX8_valueAt_125 ⟨Nat.zero_le _, Nat.zero_le _⟩ (fun H locs hP hS => ?_)
      cases h
      rw [hQ]
      exact m_retv hc hr hlocks hP hS hz dX8_valueAt_128
  · replace h := z_ip_ c_6 h
    refine lv_aload_n hx hb dX8_valueAt_9 rfl (lv_at hl 0 rfl) ?_
    refine lv_lconst (v := 0) hx hb dX8_valueAt_10 (by decide) ?_
    refine lv_lconst (v := 1) hx hb dX8_valueAt_11 (by decide) ?_
    obtain ⟨M_4, eM_4, h⟩ := z_bd_some h
    refine m_callv (As := [.long (0 : Int64), .long (1 : Int64)]) (M' := M_4) (n := 2) hc hP hS (mt_X8_is l D cI cJ o H.size M (0 : Int64) (1 : Int64) eM_4) wM_X8_111 wI_X8_is wS_X8_is wZ_X8 wC_X8_is md_X8_is ⟨rfl, rfl, Nat.le_of_ble_eq_true rfl, Nat.le_of_ble_eq_true rfl⟩ rfl hl.1 rfl (Nat.le_of_ble_eq_true rfl) dX8_valueAt_12 ⟨Nat.zero_le _, Nat.zero_le _⟩ (fun H locs hP hS => ?_)
    cases h
    rw [hQ]
    exact m_retv hc hr hlocks hP hS hz dX8_valueAt_15
theorem md_X8_valueAt : yX8_valueAt.cls ≠ "java/lang/invoke/MethodHandle" ∧ yX8_valueAt.cls ≠ "java/lang/invoke/VarHandle" ∧ (parseMethodDescriptor yX8_valueAt.desc).map (fun d => d.parameters.length) = some 2 := by decide +kernel
noncomputable def f_X8_missAt (M : MS) (a0 : Int32) (a1 : Int32) : Option (MS) :=
  z_chk (z_in (((12 : Int32) * a0) + a1) 120) (z_bd (f_X8_valueAt M a0 (M.1 8 (((12 : Int32) * a0) + a1).toNatClampNeg)) fun M_1 => z_chk (z_in (((12 : Int32) * a0) + a1) 120) (z_bd (f_X8_plus M_1 (M_1.1 9 (((12 : Int32) * a0) + a1).toNatClampNeg).toInt64 (1 : Int64) (-(M_1.2 21 0)) (M_1.2 22 0)) fun M_2 => z_chk (z_in (((12 : Int32) * a0) + a1) 120) (z_bd (f_X8_times M_2 (M_2.2 21 0) (M_2.2 22 0) (M_2.1 10 (((12 : Int32) * a0) + a1).toNatClampNeg).toInt64 (1 : Int64)) fun M_3 => some M_3)))
set_option maxHeartbeats 4000000 in
set_option maxRecDepth 100000 in
theorem mt_X8_missAt (l : Launch) (D : va_G) (cI cJ : ClassId) (o sz : Nat) (M : MS) (a0 : Int32) (a1 : Int32) {N_ : MS} (h : f_X8_missAt M a0 a1 = some N_) : Met l yX8_missAt (z_wd yX8_missAt cX8_missAt 4 none) (z_rm 5 224) (va_Pc [.ref o, .int a0, .int a1] (m_C D cI cJ o sz M)) (va_Qv (fun (M1 : MS) => M1 = N_) (m_C D cI cJ o sz) (m_A o)) 0 0 (m_A o) := by
  refine Met.ofW (cc := cX8_missAt) (maxL := 4) (ret := none) (by decide) rfl ?_
  intro p e s m args below meth c s₁ B hml hv
  obtain ⟨hav, hz, hP0, hK⟩ := hv
  have hx := B.exec
  have hb := B.bytes
  have hr := B.returns
  have hts := atoms_spec (ws := z_wd yX8_missAt cX8_missAt 4 none) B.pre
  have hown : s.vm.findClass RX8 = some m.cls := findClass_of_methodNamed B.named
  have hlocks := B.notSynchronized
  have hc : m_X p s m args c cX8_missAt 4 D cI cJ := ⟨hx, hb, hml, fun w hw => hts w (List.mem_cons_of_mem _ hw), hown, hK⟩
  have hl := lv_entry ([.ref o, .int a0, .int a1]) (n := 4) (Nat.le_of_ble_eq_true rfl)
  have hE : entryFrame m args 4 = F0 m 0 ((lg_sl ([.ref o, .int a0, .int a1]) ++ List.replicate (4 - (lg_sl ([.ref o, .int a0, .int a1])).length) Slot.unset).toArray) [] := by rw [hav]; exact lg_entry_eq m _ _
  rw [hE]
  clear hE hav
  generalize (lg_sl ([.ref o, .int a0, .int a1]) ++ List.replicate (4 - (lg_sl ([.ref o, .int a0, .int a1])).length) Slot.unset).toArray = ls at hl ⊢
  have hl : lv_has ls 4 [(0, .ref o), (1, .int a0), (2, .int a1)] := hl
  obtain ⟨Q, hQ⟩ : ∃ Q, Q = MQ below (va_Qv (fun (M1 : MS) => M1 = N_) (m_C D cI cJ o sz) (m_A o)) args s 0 0 (m_A o) := ⟨_, rfl⟩
  rw [← hQ]
  suffices hmain : ∀ (H : Heap) (locs : List Loc), va_P D z_cls (m_W cI cJ o M) H → va_S (m_A o) s.heap H locs → W p l e (z_rm 5 224) s m args below meth c H locs 0 0 Q (F0 m 0 ls []) from hmain s.heap [] hP0 va_S.rf
  clear hP0
  intro H locs hP hS
  unfold f_X8_missAt at h
  refine lv_bipush (v := 12) hx hb dX8_missAt_0 (by decide) ?_
  refine lv_iload_n hx hb dX8_missAt_2 rfl (lv_at hl 1 rfl) ?_
  refine lv_imul hx hb dX8_missAt_3 ?_
  refine lv_iload_n hx hb dX8_missAt_4 rfl (lv_at hl 2 rfl) ?_
  refine lv_iadd hx hb dX8_missAt_5 ?_
  refine lv_istore_n (lv' := [(3, .int (((12 : Int32) * a0) + a1)), (0, .ref o), (1, .int a0), (2, .int a1)]) hx hb dX8_missAt_6 rfl hl (by decide) rfl (fun ls hl => ?_)
  refine lv_aload_n hx hb dX8_missAt_7 rfl (lv_at hl 1 rfl) ?_
  refine lv_iload_n hx hb dX8_missAt_8 rfl (lv_at hl 2 rfl) ?_
  refine lv_aload_n hx hb dX8_missAt_9 rfl (lv_at hl 1 rfl) ?_
  refine m_get (k := 8) (v := .ref (o + 8)) hc hP (by decide) wF_X8_31 rfl dX8_missAt_10 ?_
  refine lv_iload_n hx hb dX8_missAt_13 rfl (lv_at hl 0 rfl) ?_
  obtain ⟨c_14, h⟩ := z_chk_some h
  refine m_iald (k := 8) (j := 8) hc hP (ma_8 ..) c_14 dX8_missAt_14 ?_
  obtain ⟨M_1, eM_1, h⟩ := z_bd_some h
  refine m_callv (As := [.int a0, .int (M.1 8 (((12 : Int32) * a0) + a1).toNatClampNeg)]) (M' := M_1) (n := 2) hc hP hS (mt_X8_valueAt l D cI cJ o H.size M a0 (M.1 8 (((12 : Int32) * a0) + a1).toNatClampNeg) eM_1) wM_X8_229 wI_X8_valueAt wS_X8_valueAt wZ_X8 wC_X8_valueAt md_X8_valueAt ⟨rfl, rfl, Nat.le_of_ble_eq_true rfl, Nat.le_of_ble_eq_true rfl⟩ rfl hl.1 rfl (Nat.le_of_ble_eq_true rfl) dX8_missAt_15 ⟨Nat.zero_le _, Nat.zero_le _⟩ (fun H locs hP hS => ?_)
  refine lv_aload_n hx hb dX8_missAt_18 rfl (lv_at hl 1 rfl) ?_
  refine lv_aload_n hx hb dX8_missAt_19 rfl (lv_at hl 1 rfl) ?_
  refine m_get (k := 9) (v := .ref (o + 9)) hc hP (by decide) wF_X8_34 rfl dX8_missAt_20 ?_
  refine lv_iload_n hx hb dX8_missAt_23 rfl (lv_at hl 0 rfl) ?_
  obtain ⟨c_24, h⟩ := z_chk_some h
  refine m_iald (k := 9) (j := 9) hc hP (ma_9 ..) c_24 dX8_missAt_24 ?_
  refine lv_i2l (v := (M_1.1 9 (((12 : Int32) * a0) + a1).toNatClampNeg).toInt64) hx hb dX8_missAt_25 rfl ?_
  refine lv_lconst (v := 1) hx hb dX8_missAt_26 (by decide) ?_
  refine lv_aload_n hx hb dX8_missAt_27 rfl (lv_at hl 1 rfl) ?_
  refine m_get (k := 21) (v := .long (M_1.2 21 0)) hc hP (by decide) wF_X8_108 rfl dX8_missAt_28 ?_
  refine lv_lneg hx hb dX8_missAt_31 ?_
  refine lv_aload_n hx hb dX8_missAt_32 rfl (lv_at hl 1 rfl) ?_
  refine m_get (k := 22) (v := .long (M_1.2 22 0)) hc hP (by decide) wF_X8_65 rfl dX8_missAt_33 ?_
  obtain ⟨M_2, eM_2, h⟩ := z_bd_some h
  refine m_callv (As := [.long (M_1.1 9 (((12 : Int32) * a0) + a1).toNatClampNeg).toInt64, .long (1 : Int64), .long (-(M_1.2 21 0)), .long (M_1.2 22 0)]) (M' := M_2) (n := 4) hc hP hS (mt_X8_plus l D cI cJ o H.size M_1 (M_1.1 9 (((12 : Int32) * a0) + a1).toNatClampNeg).toInt64 (1 : Int64) (-(M_1.2 21 0)) (M_1.2 22 0) eM_2) wM_X8_164 wI_X8_plus wS_X8_plus wZ_X8 wC_X8_plus md_X8_plus ⟨rfl, rfl, Nat.le_of_ble_eq_true rfl, Nat.le_of_ble_eq_true rfl⟩ rfl hl.1 rfl (Nat.le_of_ble_eq_true rfl) dX8_missAt_36 ⟨Nat.zero_le _, Nat.zero_le _⟩ (fun H locs hP hS => ?_)
  refine lv_aload_n hx hb dX8_missAt_39 rfl (lv_at hl 1 rfl) ?_
  refine lv_aload_n hx hb dX8_missAt_40 rfl (lv_at hl 1 rfl) ?_
  refine m_get (k := 21) (v := .long (M_2.2 21 0)) hc hP (by decide) wF_X8_108 rfl dX8_missAt_41 ?_
  refine lv_aload_n hx hb dX8_missAt_44 rfl (lv_at hl 1 rfl) ?_
  refine m_get (k := 22) (v := .long (M_2.2 22 0)) hc hP (by decide) wF_X8_65 rfl dX8_missAt_45 ?_
  refine lv_aload_n hx hb dX8_missAt_48 rfl (lv_at hl 1 rfl) ?_
  refine m_get (k := 10) (v := .ref (o + 10)) hc hP (by decide) wF_X8_37 rfl dX8_missAt_49 ?_
  refine lv_iload_n hx hb dX8_missAt_52 rfl (lv_at hl 0 rfl) ?_
  obtain ⟨c_53, h⟩ := z_chk_some h
  refine m_iald (k := 10) (j := 10) hc hP (ma_10 ..) c_53 dX8_missAt_53 ?_
  refine lv_i2l (v := (M_2.1 10 (((12 : Int32) * a0) + a1).toNatClampNeg).toInt64) hx hb dX8_missAt_54 rfl ?_
  refine lv_lconst (v := 1) hx hb dX8_missAt_55 (by decide) ?_
  obtain ⟨M_3, eM_3, h⟩ := z_bd_some h
  refine m_callv (As := [.long (M_2.2 21 0), .long (M_2.2 22 0), .long (M_2.1 10 (((12 : Int32) * a0) + a1).toNatClampNeg).toInt64, .long (1 : Int64)]) (M' := M_3) (n := 4) hc hP hS (mt_X8_times l D cI cJ o H.size M_2 (M_2.2 21 0) (M_2.2 22 0) (M_2.1 10 (((12 : Int32) * a0) + a1).toNatClampNeg).toInt64 (1 : Int64) eM_3) wM_X8_168 wI_X8_times wS_X8_times wZ_X8 wC_X8_times md_X8_times ⟨rfl, rfl, Nat.le_of_ble_eq_true rfl, Nat.le_of_ble_eq_true rfl⟩ rfl hl.1 rfl (Nat.le_of_ble_eq_true rfl) dX8_missAt_56 ⟨Nat.zero_le _, Nat.zero_le _⟩ (fun H locs hP hS => ?_)
  cases h
  rw [hQ]
  exact m_retv hc hr hlocks hP hS hz dX8_missAt_59
theorem md_X8_missAt : yX8_missAt.cls ≠ "java/lang/invoke/MethodHandle" ∧ yX8_missAt.cls ≠ "java/lang/invoke/VarHandle" ∧ (parseMethodDescriptor yX8_missAt.desc).map (fun d => d.parameters.length) = some 2 := by decide +kernel
noncomputable def f_X8_findLevel_L12 (a0 : Int32) (x2_3 : Int32) (M_4 : MS) : Option ((MS) ⊕ (Int32 × MS)) :=
  z_chk (z_in a0 10) (if (M_4.1 7 a0.toNatClampNeg) ≤ x2_3 then some (.inl (M_4)) else z_bd (f_X8_missAt M_4 a0 x2_3) fun M_6 => z_bd (if 0 ≤ (lg_cmp (M_6.2 21 0) (0 : Int64)) then some ((M_6.2 21 0)) else some ((-(M_6.2 21 0)))) fun v_7 => z_bd (f_X8_compare v_7 (M_6.2 22 0) (M_6.2 33 0) (M_6.2 34 0)) fun r_8 => if r_8 ≤ 0 then some (.inr ((x2_3 + 1), M_6)) else z_lt (sJ M_6 33 0 v_7) fun M_9 => z_lt (sJ M_9 34 0 (M_9.2 22 0)) fun M_10 => some (.inr ((x2_3 + 1), M_10)))
noncomputable def f_X8_findLevel (M : MS) (a0 : Int32) : Option (MS) :=
  z_lt (sJ M 33 0 (0 : Int64)) fun M_1 => z_lt (sJ M_1 34 0 (1 : Int64)) fun M_2 => z_bd (z_lp (fun x => f_X8_findLevel_L12 a0 x.1 x.2) ((0 : Int32), M_2)) fun M_5 => some M_5
set_option maxHeartbeats 4000000 in
set_option maxRecDepth 100000 in
theorem mt_X8_findLevel (l : Launch) (D : va_G) (cI cJ : ClassId) (o sz : Nat) (M : MS) (a0 : Int32) {N_ : MS} (h : f_X8_findLevel M a0 = some N_) : Met l yX8_findLevel (z_wd yX8_findLevel cX8_findLevel 5 none) (z_rm 6 263) (va_Pc [.ref o, .int a0] (m_C D cI cJ o sz M)) (va_Qv (fun (M1 : MS) => M1 = N_) (m_C D cI cJ o sz) (m_A o)) 0 0 (m_A o) := by
  refine Met.ofW (cc := cX8_findLevel) (maxL := 5) (ret := none) (by decide) rfl ?_
  intro p e s m args below meth c s₁ B hml hv
  obtain ⟨hav, hz, hP0, hK⟩ := hv
  have hx := B.exec
  have hb := B.bytes
  have hr := B.returns
  have hts := atoms_spec (ws := z_wd yX8_findLevel cX8_findLevel 5 none) B.pre
  have hown : s.vm.findClass RX8 = some m.cls := findClass_of_methodNamed B.named
  have hlocks := B.notSynchronized
  have hc : m_X p s m args c cX8_findLevel 5 D cI cJ := ⟨hx, hb, hml, fun w hw => hts w (List.mem_cons_of_mem _ hw), hown, hK⟩
  have hl := lv_entry ([.ref o, .int a0]) (n := 5) (Nat.le_of_ble_eq_true rfl)
  have hE : entryFrame m args 5 = F0 m 0 ((lg_sl ([.ref o, .int a0]) ++ List.replicate (5 - (lg_sl ([.ref o, .int a0])).length) Slot.unset).toArray) [] := by rw [hav]; exact lg_entry_eq m _ _
  rw [hE]
  clear hE hav
  generalize (lg_sl ([.ref o, .int a0]) ++ List.replicate (5 - (lg_sl ([.ref o, .int a0])).length) Slot.unset).toArray = ls at hl ⊢
  have hl : lv_has ls 5 [(0, .ref o), (1, .int a0)] := hl
  obtain ⟨Q, hQ⟩ : ∃ Q, Q = MQ below (va_Qv (fun (M1 : MS) => M1 = N_) (m_C D cI cJ o sz) (m_A o)) args s 0 0 (m_A o) := ⟨_, rfl⟩
  rw [← hQ]
  suffices hmain : ∀ (H : Heap) (locs : List Loc), va_P D z_cls (m_W cI cJ o M) H → va_S (m_A o) s.heap H locs → W p l e (z_rm 6 263) s m args below meth c H locs 0 0 Q (F0 m 0 ls []) from hmain s.heap [] hP0 va_S.rf
  clear hP0
  intro H locs hP hS
  unfold f_X8_findLevel at h
  refine lv_aload_n hx hb dX8_findLevel_0 rfl (lv_at hl 0 rfl) ?_
  refine lv_lconst (v := 0) hx hb dX8_findLevel_1 (by decide) ?_
  obtain ⟨M_1, eM_1, h⟩ := z_lt_some h
  refine m_put (k := 33) (M' := M_1) (ty := .long) hc hP hS (by decide) wF_X8_232 rfl (by decide +kernel) rfl rfl (by rw [eM_1]; exact mp_33 ..) dX8_findLevel_2 (fun H locs hP hS => ?_)
  refine lv_aload_n hx hb dX8_findLevel_5 rfl (lv_at hl 0 rfl) ?_
  refine lv_lconst (v := 1) hx hb dX8_findLevel_6 (by decide) ?_
  obtain ⟨M_2, eM_2, h⟩ := z_lt_some h
  refine m_put (k := 34) (M' := M_2) (ty := .long) hc hP hS (by decide) wF_X8_235 rfl (by decide +kernel) rfl rfl (by rw [eM_2]; exact mp_34 ..) dX8_findLevel_7 (fun H locs hP hS => ?_)
  refine lv_iconst (v := 0) hx hb dX8_findLevel_10 (by decide) ?_
  refine lv_istore_n (lv' := [(2, .int (0 : Int32)), (0, .ref o), (1, .int a0)]) hx hb dX8_findLevel_11 rfl hl (by decide) rfl (fun ls hl => ?_)
  obtain ⟨M_5, hlp, h⟩ := z_bd_some h
  refine z_lp_ind (P := fun x => ∀ (H : Heap) (locs : List Loc) (ls : Array Slot), va_P D z_cls (m_W cI cJ o x.2) H → va_S (m_A o) s.heap H locs → lv_has ls 5 [(0, .ref o), (1, .int a0), (2, .int x.1)] → W p l e (z_rm 6 263) s m args below meth c H locs 0 0 Q (F0 m 12 ls [])) (Qe := fun y => ∀ (H : Heap) (locs : List Loc) (ls : Array Slot), va_P D z_cls (m_W cI cJ o y) H → va_S (m_A o) s.heap H locs → lv_has ls 5 [] → W p l e (z_rm 6 263) s m args below meth c H locs 0 0 Q (F0 m 88 ls [])) ?_ hlp ?_ H locs ls hP hS (lv_sub hl [1, 2, 0] rfl)
  · clear h hlp hP hS hl
    rintro ⟨x2_3, M_4⟩ oo h K_12 H locs ls hP hS hl
    have hP : va_P D z_cls (m_W cI cJ o M_4) H := hP
    have hl : lv_has ls 5 [(0, .ref o), (1, .int a0), (2, .int x2_3)] := hl
    have h : f_X8_findLevel_L12 a0 x2_3 M_4 = some oo := h
    unfold f_X8_findLevel_L12 at h
    refine lv_iload_n hx hb dX8_findLevel_12 rfl (lv_at hl 2 rfl) ?_
    refine lv_aload_n hx hb dX8_findLevel_13 rfl (lv_at hl 0 rfl) ?_
    refine m_get (k := 7) (v := .ref (o + 7)) hc hP (by decide) wF_X8_28 rfl dX8_findLevel_14 ?_
    refine lv_iload_n hx hb dX8_findLevel_17 rfl (lv_at hl 1 rfl) ?_
    obtain ⟨c_18, h⟩ := z_chk_some h
    refine m_iald (k := 7) (j := 7) hc hP (ma_7 ..) c_18 dX8_findLevel_18 ?_
    refine lv_icmp_ge (tgt := 88) hx hb dX8_findLevel_19 (by decide) (fun c_19 => ?_) (fun c_19 => ?_)
    · replace h := z_ip_ c_19 h
      cases h
      exact K_12 H locs ls hP hS (lv_sub hl [] rfl)
    · replace h := z_in_ c_19 h
      refine lv_aload_n hx hb dX8_findLevel_22 rfl (lv_at hl 0 rfl) ?_
      refine lv_iload_n hx hb dX8_findLevel_23 rfl (lv_at hl 1 rfl) ?_
      refine lv_iload_n hx hb dX8_findLevel_24 rfl (lv_at hl 2 rfl) ?_
      obtain ⟨M_6, eM_6, h⟩ := z_bd_some h
      refine m_callv (As := [.int a0, .int x2_3]) (M' := M_6) (n := 2) hc hP hS (mt_X8_missAt l D cI cJ o H.size M_4 a0 x2_3 eM_6) wM_X8_238 wI_X8_missAt wS_X8_missAt wZ_X8 wC_X8_missAt md_X8_missAt ⟨rfl, rfl, Nat.le_of_ble_eq_true rfl, Nat.le_of_ble_eq_true rfl⟩ rfl hl.1 rfl (Nat.le_of_ble_eq_true rfl) dX8_findLevel_25 ⟨Nat.zero_le _, Nat.zero_le _⟩ (fun H locs hP hS => ?_)
      refine lv_aload_n hx hb dX8_findLevel_28 rfl (lv_at hl 0 rfl) ?_
      refine m_get (k := 21) (v := .long (M_6.2 21 0)) hc hP (by decide) wF_X8_108 rfl dX8_findLevel_29 ?_
      refine lv_lconst (v := 0) hx hb dX8_findLevel_32 (by decide) ?_
      refine W.lcmp hx hb dX8_findLevel_33 ?_
      obtain ⟨v_7, hJ, h⟩ := z_bd_some h
      have J_49 : ∀ (H : Heap) (locs : List Loc) (ls : Array Slot), va_P D z_cls (m_W cI cJ o M_6) H → va_S (m_A o) s.heap H locs → lv_has ls 5 [(0, .ref o), (1, .int a0), (2, .int x2_3)] → W p l e (z_rm 6 263) s m args below meth c H locs 0 0 Q (F0 m 49 ls [.long v_7]) := by
        intro H locs ls hP hS hl
        refine lv_lstore_n (lv' := [(3, .long v_7), (0, .ref o), (1, .int a0), (2, .int x2_3)]) hx hb dX8_findLevel_49 rfl hl (by decide) rfl (fun ls hl => ?_)
        refine lv_lload_n hx hb dX8_findLevel_50 rfl (lv_at hl 0 rfl) ?_
        refine lv_aload_n hx hb dX8_findLevel_51 rfl (lv_at hl 1 rfl) ?_
        refine m_get (k := 22) (v := .long (M_6.2 22 0)) hc hP (by decide) wF_X8_65 rfl dX8_findLevel_52 ?_
        refine lv_aload_n hx hb dX8_findLevel_55 rfl (lv_at hl 1 rfl) ?_
        refine m_get (k := 33) (v := .long (M_6.2 33 0)) hc hP (by decide) wF_X8_232 rfl dX8_findLevel_56 ?_
        refine lv_aload_n hx hb dX8_findLevel_59 rfl (lv_at hl 1 rfl) ?_
        refine m_get (k := 34) (v := .long (M_6.2 34 0)) hc hP (by decide) wF_X8_235 rfl dX8_findLevel_60 ?_
        obtain ⟨r_8, er_8, h⟩ := z_bd_some h
        refine s_calli (As := [.long v_7, .long (M_6.2 22 0), .long (M_6.2 33 0), .long (M_6.2 34 0)]) (r := r_8) (n := 4) hc.s (mt_X8_compare l v_7 (M_6.2 22 0) (M_6.2 33 0) (M_6.2 34 0) er_8) wM_X8_201 wT_X8_compare wZ_X8 wC_X8_compare md_X8_compare ⟨rfl, rfl, Nat.le_of_ble_eq_true rfl, Nat.le_of_ble_eq_true rfl⟩ rfl hl.1 rfl (Nat.le_of_ble_eq_true rfl) dX8_findLevel_63 ⟨Nat.zero_le _, Nat.zero_le _⟩ ?_
        refine lv_if_le (tgt := 82) hx hb dX8_findLevel_66 (by decide) (fun c_66 => ?_) (fun c_66 => ?_)
        · replace h := z_ip_ c_66 h
          refine lv_iinc (v := (x2_3 + 1)) (lv' := [(2, .int (x2_3 + 1)), (3, .long v_7), (0, .ref o), (1, .int a0)]) hx hb dX8_findLevel_82 hl (k := 3) rfl rfl (by decide) rfl (fun ls hl => ?_)
          refine lv_goto (tgt := 12) hx hb dX8_findLevel_85 (by decide) ?_
          cases h
          exact K_12 H locs ls hP hS (lv_sub hl [2, 3, 0] rfl)
        · replace h := z_in_ c_66 h
          refine lv_aload_n hx hb dX8_findLevel_69 rfl (lv_at hl 1 rfl) ?_
          refine lv_lload_n hx hb dX8_findLevel_70 rfl (lv_at hl 0 rfl) ?_
          obtain ⟨M_9, eM_9, h⟩ := z_lt_some h
          refine m_put (k := 33) (M' := M_9) (ty := .long) hc hP hS (by decide) wF_X8_232 rfl (by decide +kernel) rfl rfl (by rw [eM_9]; exact mp_33 ..) dX8_findLevel_71 (fun H locs hP hS => ?_)
          refine lv_aload_n hx hb dX8_findLevel_74 rfl (lv_at hl 1 rfl) ?_
          refine lv_aload_n hx hb dX8_findLevel_75 rfl (lv_at hl 1 rfl) ?_
          refine m_get (k := 22) (v := .long (M_9.2 22 0)) hc hP (by decide) wF_X8_65 rfl dX8_findLevel_76 ?_
          obtain ⟨M_10, eM_10, h⟩ := z_lt_some h
          refine m_put (k := 34) (M' := M_10) (ty := .long) hc hP hS (by decide) wF_X8_235 rfl (by decide +kernel) rfl rfl (by rw [eM_10]; exact mp_34 ..) dX8_findLevel_79 (fun H locs hP hS => ?_)
          refine lv_iinc (v := (x2_3 + 1)) (lv' := [(2, .int (x2_3 + 1)), (3, .long v_7), (0, .ref o), (1, .int a0)]) hx hb dX8_findLevel_82 hl (k := 3) rfl rfl (by decide) rfl (fun ls hl => ?_)
          refine lv_goto (tgt := 12) hx hb dX8_findLevel_85 (by decide) ?_
          cases h
          exact K_12 H locs ls hP hS (lv_sub hl [2, 3, 0] rfl)
      clear h
      have h := hJ
      clear hJ
      refine lv_if_ge (tgt := 45) hx hb dX8_findLevel_34 (by decide) (fun c_34 => ?_) (fun c_34 => ?_)
      · replace h := z_ip_ c_34 h
        refine lv_aload_n hx hb dX8_findLevel_45 rfl (lv_at hl 0 rfl) ?_
        refine m_get (k := 21) (v := .long (M_6.2 21 0)) hc hP (by decide) wF_X8_108 rfl dX8_findLevel_46 ?_
        cases h
        exact J_49 H locs ls hP hS (lv_sub hl [0, 1, 2] rfl)
      · replace h := z_in_ c_34 h
        refine lv_aload_n hx hb dX8_findLevel_37 rfl (lv_at hl 0 rfl) ?_
        refine m_get (k := 21) (v := .long (M_6.2 21 0)) hc hP (by decide) wF_X8_108 rfl dX8_findLevel_38 ?_
        refine lv_lneg hx hb dX8_findLevel_41 ?_
        refine lv_goto (tgt := 49) hx hb dX8_findLevel_42 (by decide) ?_
        cases h
        exact J_49 H locs ls hP hS (lv_sub hl [0, 1, 2] rfl)
  · clear hlp hP hS hl
    intro H locs ls hP hS hl
    have hP : va_P D z_cls (m_W cI cJ o M_5) H := hP
    have hl : lv_has ls 5 [] := hl
    cases h
    rw [hQ]
    exact m_retv hc hr hlocks hP hS hz dX8_findLevel_88
theorem md_X8_findLevel : yX8_findLevel.cls ≠ "java/lang/invoke/MethodHandle" ∧ yX8_findLevel.cls ≠ "java/lang/invoke/VarHandle" ∧ (parseMethodDescriptor yX8_findLevel.desc).map (fun d => d.parameters.length) = some 1 := by decide +kernel
