noncomputable def f_X8_take_L48 (a0 : Int32) (x3_6 : Int32) (M_7 : MS) : Option ((MS) ⊕ (Int32 × MS)) :=
  z_chk (z_in a0 6) (if (((12 : Int32) * a0) + (M_7.1 0 a0.toNatClampNeg)) ≤ x3_6 then some (.inl (M_7)) else z_chk (z_in (x3_6 + (1 : Int32)) 72) (z_chk (z_in x3_6 72) (z_lt (sI M_7 1 x3_6.toNatClampNeg (M_7.1 1 (x3_6 + (1 : Int32)).toNatClampNeg)) fun M_9 => z_chk (z_in (x3_6 + (1 : Int32)) 72) (z_chk (z_in x3_6 72) (z_lt (sI M_9 2 x3_6.toNatClampNeg (M_9.1 2 (x3_6 + (1 : Int32)).toNatClampNeg)) fun M_10 => z_chk (z_in (x3_6 + (1 : Int32)) 72) (z_chk (z_in x3_6 72) (z_lt (sI M_10 3 x3_6.toNatClampNeg (M_10.1 3 (x3_6 + (1 : Int32)).toNatClampNeg)) fun M_11 => some (.inr ((x3_6 + 1), M_11)))))))))
noncomputable def f_X8_take (M : MS) (a0 : Int32) (a1 : Int32) : Option (Int32 × MS) :=
  z_bd (f_X8_in a0 (0 : Int32) (5 : Int32)) fun r_1 => if r_1 = 0 then z_bd2 (f_X8_refused M (1 : Int32)) fun r_3 M_2 => some (r_3, M_2) else z_chk (z_in a0 6) (z_bd (f_X8_in a1 (0 : Int32) ((M.1 0 a0.toNatClampNeg) - (1 : Int32))) fun r_4 => if r_4 = 0 then z_bd2 (f_X8_refused M (1 : Int32)) fun r_15 M_14 => some (r_15, M_14) else z_chk (z_in a0 6) (z_chk (z_in a0 6) (z_lt (sI M 0 a0.toNatClampNeg ((M.1 0 a0.toNatClampNeg) - (1 : Int32))) fun M_5 => z_bd (z_lp (fun x => f_X8_take_L48 a0 x.1 x.2) ((((12 : Int32) * a0) + a1), M_5)) fun M_8 => z_chk (z_in a0 6) (z_bd2 (f_X8_done M_8 (M_8.1 0 a0.toNatClampNeg)) fun r_13 M_12 => some (r_13, M_12)))))
set_option maxHeartbeats 4000000 in
set_option maxRecDepth 100000 in
theorem mt_X8_take (l : Launch) (D : va_G) (cI cJ : ClassId) (o sz : Nat) (M : MS) (a0 : Int32) (a1 : Int32) {r_ : Int32} {N_ : MS} (h : f_X8_take M a0 a1 = some (r_, N_)) : Met l yX8_take (z_wd yX8_take cX8_take 4 (some .int)) (z_rm 1 38) (va_Pc [.ref o, .int a0, .int a1] (m_C D cI cJ o sz M)) (va_Qi (fun (r1 : Int32) (M1 : MS) => r1 = r_ ∧ M1 = N_) (m_C D cI cJ o sz) (m_A o)) 0 0 (m_A o) := by
  refine Met.ofW (cc := cX8_take) (maxL := 4) (ret := (some .int)) (by decide) rfl ?_
  intro p e s m args below meth c s₁ B hml hv
  obtain ⟨hav, hz, hP0, hK⟩ := hv
  have hx := B.exec
  have hb := B.bytes
  have hr := B.returns
  have hts := atoms_spec (ws := z_wd yX8_take cX8_take 4 (some .int)) B.pre
  have hown : s.vm.findClass RX8 = some m.cls := findClass_of_methodNamed B.named
  have hlocks := B.notSynchronized
  have hc : m_X p s m args c cX8_take 4 D cI cJ := ⟨hx, hb, hml, fun w hw => hts w (List.mem_cons_of_mem _ hw), hown, hK⟩
  have hl := lv_entry ([.ref o, .int a0, .int a1]) (n := 4) (Nat.le_of_ble_eq_true rfl)
  have hE : entryFrame m args 4 = F0 m 0 ((lg_sl ([.ref o, .int a0, .int a1]) ++ List.replicate (4 - (lg_sl ([.ref o, .int a0, .int a1])).length) Slot.unset).toArray) [] := by rw [hav]; exact lg_entry_eq m _ _
  rw [hE]
  clear hE hav
  generalize (lg_sl ([.ref o, .int a0, .int a1]) ++ List.replicate (4 - (lg_sl ([.ref o, .int a0, .int a1])).length) Slot.unset).toArray = ls at hl ⊢
  have hl : lv_has ls 4 [(0, .ref o), (1, .int a0), (2, .int a1)] := hl
  obtain ⟨Q, hQ⟩ : ∃ Q, Q = MQ below (va_Qi (fun (r1 : Int32) (M1 : MS) => r1 = r_ ∧ M1 = N_) (m_C D cI cJ o sz) (m_A o)) args s 0 0 (m_A o) := ⟨_, rfl⟩
  rw [← hQ]
  suffices hmain : ∀ (H : Heap) (locs : List Loc), va_P D z_cls (m_W cI cJ o M) H → va_S (m_A o) s.heap H locs → W p l e (z_rm 1 38) s m args below meth c H locs 0 0 Q (F0 m 0 ls []) from hmain s.heap [] hP0 va_S.rf
  clear hP0
  intro H locs hP hS
  unfold f_X8_take at h
  refine lv_iload_n hx hb dX8_take_0 rfl (lv_at hl 1 rfl) ?_
  refine lv_iconst (v := 0) hx hb dX8_take_1 (by decide) ?_
  refine lv_iconst (v := 5) hx hb dX8_take_2 (by decide) ?_
  obtain ⟨r_1, er_1, h⟩ := z_bd_some h
  refine s_calli (As := [.int a0, .int (0 : Int32), .int (5 : Int32)]) (r := r_1) (n := 3) hc.s (mt_X8_in l a0 (0 : Int32) (5 : Int32) er_1) wM_X8_100 wT_X8_in wZ_X8 wC_X8_in md_X8_in ⟨rfl, rfl, Nat.le_of_ble_eq_true rfl, Nat.le_of_ble_eq_true rfl⟩ rfl hl.1 rfl (Nat.le_of_ble_eq_true rfl) dX8_take_3 ⟨Nat.zero_le _, Nat.zero_le _⟩ ?_
  refine lv_if_eq (tgt := 25) hx hb dX8_take_6 (by decide) (fun c_6 => ?_) (fun c_6 => ?_)
  · replace h := z_ip_ c_6 h
    refine lv_aload_n hx hb dX8_take_25 rfl (lv_at hl 0 rfl) ?_
    refine lv_iconst (v := 1) hx hb dX8_take_26 (by decide) ?_
    obtain ⟨r_3, M_2, er_3, h⟩ := z_bd2_some h
    refine m_calli (As := [.int (1 : Int32)]) (r := r_3) (M' := M_2) (n := 1) hc hP hS (mt_X8_refused l D cI cJ o H.size M (1 : Int32) er_3) wM_X8_118 wI_X8_refused wS_X8_refused wZ_X8 wC_X8_refused md_X8_refused ⟨rfl, rfl, Nat.le_of_ble_eq_true rfl, Nat.le_of_ble_eq_true rfl⟩ rfl hl.1 rfl (Nat.le_of_ble_eq_true rfl) dX8_take_27 ⟨Nat.zero_le _, Nat.zero_le _⟩ (fun H locs hP hS => ?_)
    cases h
    rw [hQ]
    exact m_reti hc hr hlocks hP hS hz dX8_take_30
  · replace h := z_in_ c_6 h
    refine lv_iload_n hx hb dX8_take_9 rfl (lv_at hl 2 rfl) ?_
    refine lv_iconst (v := 0) hx hb dX8_take_10 (by decide) ?_
    refine lv_aload_n hx hb dX8_take_11 rfl (lv_at hl 0 rfl) ?_
    refine m_get (k := 0) (v := .ref (o + 1)) hc hP (by decide) wF_X8_7 rfl dX8_take_12 ?_
    refine lv_iload_n hx hb dX8_take_15 rfl (lv_at hl 1 rfl) ?_
    obtain ⟨c_16, h⟩ := z_chk_some h
    refine m_iald (k := 0) (j := 1) hc hP (ma_0 ..) c_16 dX8_take_16 ?_
    refine lv_iconst (v := 1) hx hb dX8_take_17 (by decide) ?_
    refine lv_isub hx hb dX8_take_18 ?_
    obtain ⟨r_4, er_4, h⟩ := z_bd_some h
    refine s_calli (As := [.int a1, .int (0 : Int32), .int ((M.1 0 a0.toNatClampNeg) - (1 : Int32))]) (r := r_4) (n := 3) hc.s (mt_X8_in l a1 (0 : Int32) ((M.1 0 a0.toNatClampNeg) - (1 : Int32)) er_4) wM_X8_100 wT_X8_in wZ_X8 wC_X8_in md_X8_in ⟨rfl, rfl, Nat.le_of_ble_eq_true rfl, Nat.le_of_ble_eq_true rfl⟩ rfl hl.1 rfl (Nat.le_of_ble_eq_true rfl) dX8_take_19 ⟨Nat.zero_le _, Nat.zero_le _⟩ ?_
    refine lv_if_ne (tgt := 31) hx hb dX8_take_22 (by decide) (fun c_22 => ?_) (fun c_22 => ?_)
    · replace h := z_in_ c_22 h
      refine lv_aload_n hx hb dX8_take_31 rfl (lv_at hl 0 rfl) ?_
      refine m_get (k := 0) (v := .ref (o + 1)) hc hP (by decide) wF_X8_7 rfl dX8_take_32 ?_
      refine lv_iload_n hx hb dX8_take_35 rfl (lv_at hl 1 rfl) ?_
      refine lv_dup2_11 hx hb dX8_take_36 rfl rfl ?_
      obtain ⟨c_37, h⟩ := z_chk_some h
      refine m_iald (k := 0) (j := 1) hc hP (ma_0 ..) c_37 dX8_take_37 ?_
      refine lv_iconst (v := 1) hx hb dX8_take_38 (by decide) ?_
      refine lv_isub hx hb dX8_take_39 ?_
      obtain ⟨c_40, h⟩ := z_chk_some h
      obtain ⟨M_5, eM_5, h⟩ := z_lt_some h
      refine m_iast (k := 0) (j := 1) (M' := M_5) hc hP hS (ma_0 ..) c_40 (by rw [eM_5]; exact mp_0 ..) dX8_take_40 (fun H locs hP hS => ?_)
      refine lv_bipush (v := 12) hx hb dX8_take_41 (by decide) ?_
      refine lv_iload_n hx hb dX8_take_43 rfl (lv_at hl 1 rfl) ?_
      refine lv_imul hx hb dX8_take_44 ?_
      refine lv_iload_n hx hb dX8_take_45 rfl (lv_at hl 2 rfl) ?_
      refine lv_iadd hx hb dX8_take_46 ?_
      refine lv_istore_n (lv' := [(3, .int (((12 : Int32) * a0) + a1)), (0, .ref o), (1, .int a0), (2, .int a1)]) hx hb dX8_take_47 rfl hl (by decide) rfl (fun ls hl => ?_)
      obtain ⟨M_8, hlp, h⟩ := z_bd_some h
      refine z_lp_ind (P := fun x => ∀ (H : Heap) (locs : List Loc) (ls : Array Slot), va_P D z_cls (m_W cI cJ o x.2) H → va_S (m_A o) s.heap H locs → lv_has ls 4 [(0, .ref o), (1, .int a0), (3, .int x.1)] → W p l e (z_rm 1 38) s m args below meth c H locs 0 0 Q (F0 m 48 ls [])) (Qe := fun y => ∀ (H : Heap) (locs : List Loc) (ls : Array Slot), va_P D z_cls (m_W cI cJ o y) H → va_S (m_A o) s.heap H locs → lv_has ls 4 [(0, .ref o), (1, .int a0)] → W p l e (z_rm 1 38) s m args below meth c H locs 0 0 Q (F0 m 111 ls [])) ?_ hlp ?_ H locs ls hP hS (lv_sub hl [1, 2, 0] rfl)
      · clear h hlp hP hS hl
        rintro ⟨x3_6, M_7⟩ oo h K_48 H locs ls hP hS hl
        have hP : va_P D z_cls (m_W cI cJ o M_7) H := hP
        have hl : lv_has ls 4 [(0, .ref o), (1, .int a0), (3, .int x3_6)] := hl
        have h : f_X8_take_L48 a0 x3_6 M_7 = some oo := h
        unfold f_X8_take_L48 at h
        refine lv_iload_n hx hb dX8_take_48 rfl (lv_at hl 2 rfl) ?_
        refine lv_bipush (v := 12) hx hb dX8_take_49 (by decide) ?_
        refine lv_iload_n hx hb dX8_take_51 rfl (lv_at hl 1 rfl) ?_
        refine lv_imul hx hb dX8_take_52 ?_
        refine lv_aload_n hx hb dX8_take_53 rfl (lv_at hl 0 rfl) ?_
        refine m_get (k := 0) (v := .ref (o + 1)) hc hP (by decide) wF_X8_7 rfl dX8_take_54 ?_
        refine lv_iload_n hx hb dX8_take_57 rfl (lv_at hl 1 rfl) ?_
        obtain ⟨c_58, h⟩ := z_chk_some h
        refine m_iald (k := 0) (j := 1) hc hP (ma_0 ..) c_58 dX8_take_58 ?_
        refine lv_iadd hx hb dX8_take_59 ?_
        refine lv_icmp_ge (tgt := 111) hx hb dX8_take_60 (by decide) (fun c_60 => ?_) (fun c_60 => ?_)
        · replace h := z_ip_ c_60 h
          cases h
          exact K_48 H locs ls hP hS (lv_sub hl [0, 1] rfl)
        · replace h := z_in_ c_60 h
          refine lv_aload_n hx hb dX8_take_63 rfl (lv_at hl 0 rfl) ?_
          refine m_get (k := 1) (v := .ref (o + 2)) hc hP (by decide) wF_X8_13 rfl dX8_take_64 ?_
          refine lv_iload_n hx hb dX8_take_67 rfl (lv_at hl 2 rfl) ?_
          refine lv_aload_n hx hb dX8_take_68 rfl (lv_at hl 0 rfl) ?_
          refine m_get (k := 1) (v := .ref (o + 2)) hc hP (by decide) wF_X8_13 rfl dX8_take_69 ?_
          refine lv_iload_n hx hb dX8_take_72 rfl (lv_at hl 2 rfl) ?_
          refine lv_iconst (v := 1) hx hb dX8_take_73 (by decide) ?_
          refine lv_iadd hx hb dX8_take_74 ?_
          obtain ⟨c_75, h⟩ := z_chk_some h
          refine m_iald (k := 1) (j := 2) hc hP (ma_1 ..) c_75 dX8_take_75 ?_
          obtain ⟨c_76, h⟩ := z_chk_some h
          obtain ⟨M_9, eM_9, h⟩ := z_lt_some h
          refine m_iast (k := 1) (j := 2) (M' := M_9) hc hP hS (ma_1 ..) c_76 (by rw [eM_9]; exact mp_1 ..) dX8_take_76 (fun H locs hP hS => ?_)
          refine lv_aload_n hx hb dX8_take_77 rfl (lv_at hl 0 rfl) ?_
          refine m_get (k := 2) (v := .ref (o + 3)) hc hP (by decide) wF_X8_16 rfl dX8_take_78 ?_
          refine lv_iload_n hx hb dX8_take_81 rfl (lv_at hl 2 rfl) ?_
          refine lv_aload_n hx hb dX8_take_82 rfl (lv_at hl 0 rfl) ?_
          refine m_get (k := 2) (v := .ref (o + 3)) hc hP (by decide) wF_X8_16 rfl dX8_take_83 ?_
          refine lv_iload_n hx hb dX8_take_86 rfl (lv_at hl 2 rfl) ?_
          refine lv_iconst (v := 1) hx hb dX8_take_87 (by decide) ?_
          refine lv_iadd hx hb dX8_take_88 ?_
          obtain ⟨c_89, h⟩ := z_chk_some h
          refine m_iald (k := 2) (j := 3) hc hP (ma_2 ..) c_89 dX8_take_89 ?_
          obtain ⟨c_90, h⟩ := z_chk_some h
          obtain ⟨M_10, eM_10, h⟩ := z_lt_some h
          refine m_iast (k := 2) (j := 3) (M' := M_10) hc hP hS (ma_2 ..) c_90 (by rw [eM_10]; exact mp_2 ..) dX8_take_90 (fun H locs hP hS => ?_)
          refine lv_aload_n hx hb dX8_take_91 rfl (lv_at hl 0 rfl) ?_
          refine m_get (k := 3) (v := .ref (o + 4)) hc hP (by decide) wF_X8_19 rfl dX8_take_92 ?_
          refine lv_iload_n hx hb dX8_take_95 rfl (lv_at hl 2 rfl) ?_
          refine lv_aload_n hx hb dX8_take_96 rfl (lv_at hl 0 rfl) ?_
          refine m_get (k := 3) (v := .ref (o + 4)) hc hP (by decide) wF_X8_19 rfl dX8_take_97 ?_
          refine lv_iload_n hx hb dX8_take_100 rfl (lv_at hl 2 rfl) ?_
          refine lv_iconst (v := 1) hx hb dX8_take_101 (by decide) ?_
          refine lv_iadd hx hb dX8_take_102 ?_
          obtain ⟨c_103, h⟩ := z_chk_some h
          refine m_iald (k := 3) (j := 4) hc hP (ma_3 ..) c_103 dX8_take_103 ?_
          obtain ⟨c_104, h⟩ := z_chk_some h
          obtain ⟨M_11, eM_11, h⟩ := z_lt_some h
          refine m_iast (k := 3) (j := 4) (M' := M_11) hc hP hS (ma_3 ..) c_104 (by rw [eM_11]; exact mp_3 ..) dX8_take_104 (fun H locs hP hS => ?_)
          refine lv_iinc (v := (x3_6 + 1)) (lv' := [(3, .int (x3_6 + 1)), (0, .ref o), (1, .int a0)]) hx hb dX8_take_105 hl (k := 2) rfl rfl (by decide) rfl (fun ls hl => ?_)
          refine lv_goto (tgt := 48) hx hb dX8_take_108 (by decide) ?_
          cases h
          exact K_48 H locs ls hP hS (lv_sub hl [1, 2, 0] rfl)
      · clear hlp hP hS hl
        intro H locs ls hP hS hl
        have hP : va_P D z_cls (m_W cI cJ o M_8) H := hP
        have hl : lv_has ls 4 [(0, .ref o), (1, .int a0)] := hl
        refine lv_aload_n hx hb dX8_take_111 rfl (lv_at hl 0 rfl) ?_
        refine lv_aload_n hx hb dX8_take_112 rfl (lv_at hl 0 rfl) ?_
        refine m_get (k := 0) (v := .ref (o + 1)) hc hP (by decide) wF_X8_7 rfl dX8_take_113 ?_
        refine lv_iload_n hx hb dX8_take_116 rfl (lv_at hl 1 rfl) ?_
        obtain ⟨c_117, h⟩ := z_chk_some h
        refine m_iald (k := 0) (j := 1) hc hP (ma_0 ..) c_117 dX8_take_117 ?_
        obtain ⟨r_13, M_12, er_13, h⟩ := z_bd2_some h
        refine m_calli (As := [.int (M_8.1 0 a0.toNatClampNeg)]) (r := r_13) (M' := M_12) (n := 1) hc hP hS (mt_X8_done l D cI cJ o H.size M_8 (M_8.1 0 a0.toNatClampNeg) er_13) wM_X8_130 wI_X8_done wS_X8_done wZ_X8 wC_X8_done md_X8_done ⟨rfl, rfl, Nat.le_of_ble_eq_true rfl, Nat.le_of_ble_eq_true rfl⟩ rfl hl.1 rfl (Nat.le_of_ble_eq_true rfl) dX8_take_118 ⟨Nat.zero_le _, Nat.zero_le _⟩ (fun H locs hP hS => ?_)
        cases h
        rw [hQ]
        exact m_reti hc hr hlocks hP hS hz dX8_take_121
    · replace h := z_ip_ c_22 h
      refine lv_aload_n hx hb dX8_take_25 rfl (lv_at hl 0 rfl) ?_
      refine lv_iconst (v := 1) hx hb dX8_take_26 (by decide) ?_
      obtain ⟨r_15, M_14, er_15, h⟩ := z_bd2_some h
      refine m_calli (As := [.int (1 : Int32)]) (r := r_15) (M' := M_14) (n := 1) hc hP hS (mt_X8_refused l D cI cJ o H.size M (1 : Int32) er_15) wM_X8_118 wI_X8_refused wS_X8_refused wZ_X8 wC_X8_refused md_X8_refused ⟨rfl, rfl, Nat.le_of_ble_eq_true rfl, Nat.le_of_ble_eq_true rfl⟩ rfl hl.1 rfl (Nat.le_of_ble_eq_true rfl) dX8_take_27 ⟨Nat.zero_le _, Nat.zero_le _⟩ (fun H locs hP hS => ?_)
      cases h
      rw [hQ]
      exact m_reti hc hr hlocks hP hS hz dX8_take_30
theorem md_X8_take : yX8_take.cls ≠ "java/lang/invoke/MethodHandle" ∧ yX8_take.cls ≠ "java/lang/invoke/VarHandle" ∧ (parseMethodDescriptor yX8_take.desc).map (fun d => d.parameters.length) = some 2 := by decide +kernel
noncomputable def f_X8_number (M : MS) (a0 : Int32) (a1 : Int32) (a2 : Int32) (a3 : Int64) (a4 : Int64) : Option (MS) :=
  z_chk (z_in ((((36 : Int32) * a0) + ((3 : Int32) * a1)) + a2) 360) (z_lt (sJ M 13 ((((36 : Int32) * a0) + ((3 : Int32) * a1)) + a2).toNatClampNeg a3) fun M_1 => z_chk (z_in ((((36 : Int32) * a0) + ((3 : Int32) * a1)) + a2) 360) (z_lt (sJ M_1 14 ((((36 : Int32) * a0) + ((3 : Int32) * a1)) + a2).toNatClampNeg a4) fun M_2 => some M_2))
set_option maxHeartbeats 4000000 in
set_option maxRecDepth 100000 in
theorem mt_X8_number (l : Launch) (D : va_G) (cI cJ : ClassId) (o sz : Nat) (M : MS) (a0 : Int32) (a1 : Int32) (a2 : Int32) (a3 : Int64) (a4 : Int64) {N_ : MS} (h : f_X8_number M a0 a1 a2 a3 a4 = some N_) : Met l yX8_number (z_wd yX8_number cX8_number 9 none) (z_rm 0 0) (va_Pc [.ref o, .int a0, .int a1, .int a2, .long a3, .long a4] (m_C D cI cJ o sz M)) (va_Qv (fun (M1 : MS) => M1 = N_) (m_C D cI cJ o sz) (m_A o)) 0 0 (m_A o) := by
  refine Met.ofW (cc := cX8_number) (maxL := 9) (ret := none) (by decide) rfl ?_
  intro p e s m args below meth c s₁ B hml hv
  obtain ⟨hav, hz, hP0, hK⟩ := hv
  have hx := B.exec
  have hb := B.bytes
  have hr := B.returns
  have hts := atoms_spec (ws := z_wd yX8_number cX8_number 9 none) B.pre
  have hown : s.vm.findClass RX8 = some m.cls := findClass_of_methodNamed B.named
  have hlocks := B.notSynchronized
  have hc : m_X p s m args c cX8_number 9 D cI cJ := ⟨hx, hb, hml, fun w hw => hts w (List.mem_cons_of_mem _ hw), hown, hK⟩
  have hl := lv_entry ([.ref o, .int a0, .int a1, .int a2, .long a3, .long a4]) (n := 9) (Nat.le_of_ble_eq_true rfl)
  have hE : entryFrame m args 9 = F0 m 0 ((lg_sl ([.ref o, .int a0, .int a1, .int a2, .long a3, .long a4]) ++ List.replicate (9 - (lg_sl ([.ref o, .int a0, .int a1, .int a2, .long a3, .long a4])).length) Slot.unset).toArray) [] := by rw [hav]; exact lg_entry_eq m _ _
  rw [hE]
  clear hE hav
  generalize (lg_sl ([.ref o, .int a0, .int a1, .int a2, .long a3, .long a4]) ++ List.replicate (9 - (lg_sl ([.ref o, .int a0, .int a1, .int a2, .long a3, .long a4])).length) Slot.unset).toArray = ls at hl ⊢
  have hl : lv_has ls 9 [(0, .ref o), (1, .int a0), (2, .int a1), (3, .int a2), (4, .long a3), (6, .long a4)] := hl
  obtain ⟨Q, hQ⟩ : ∃ Q, Q = MQ below (va_Qv (fun (M1 : MS) => M1 = N_) (m_C D cI cJ o sz) (m_A o)) args s 0 0 (m_A o) := ⟨_, rfl⟩
  rw [← hQ]
  suffices hmain : ∀ (H : Heap) (locs : List Loc), va_P D z_cls (m_W cI cJ o M) H → va_S (m_A o) s.heap H locs → W p l e (z_rm 0 0) s m args below meth c H locs 0 0 Q (F0 m 0 ls []) from hmain s.heap [] hP0 va_S.rf
  clear hP0
  intro H locs hP hS
  unfold f_X8_number at h
  refine lv_bipush (v := 36) hx hb dX8_number_0 (by decide) ?_
  refine lv_iload_n hx hb dX8_number_2 rfl (lv_at hl 1 rfl) ?_
  refine lv_imul hx hb dX8_number_3 ?_
  refine lv_iconst (v := 3) hx hb dX8_number_4 (by decide) ?_
  refine lv_iload_n hx hb dX8_number_5 rfl (lv_at hl 2 rfl) ?_
  refine lv_imul hx hb dX8_number_6 ?_
  refine lv_iadd hx hb dX8_number_7 ?_
  refine lv_iload_n hx hb dX8_number_8 rfl (lv_at hl 3 rfl) ?_
  refine lv_iadd hx hb dX8_number_9 ?_
  refine lv_istore (lv' := [(8, .int ((((36 : Int32) * a0) + ((3 : Int32) * a1)) + a2)), (0, .ref o), (1, .int a0), (2, .int a1), (3, .int a2), (4, .long a3), (6, .long a4)]) hx hb dX8_number_10 hl (by decide) rfl (fun ls hl => ?_)
  refine lv_aload_n hx hb dX8_number_12 rfl (lv_at hl 1 rfl) ?_
  refine m_get (k := 13) (v := .ref (o + 13)) hc hP (by decide) wF_X8_46 rfl dX8_number_13 ?_
  refine lv_iload hx hb dX8_number_16 (lv_at hl 0 rfl) ?_
  refine lv_lload hx hb dX8_number_18 (lv_at hl 5 rfl) ?_
  obtain ⟨c_20, h⟩ := z_chk_some h
  obtain ⟨M_1, eM_1, h⟩ := z_lt_some h
  refine m_last (k := 13) (j := 13) (M' := M_1) hc hP hS (ma_13 ..) c_20 (by rw [eM_1]; exact mp_13 ..) dX8_number_20 (fun H locs hP hS => ?_)
  refine lv_aload_n hx hb dX8_number_21 rfl (lv_at hl 1 rfl) ?_
  refine m_get (k := 14) (v := .ref (o + 14)) hc hP (by decide) wF_X8_50 rfl dX8_number_22 ?_
  refine lv_iload hx hb dX8_number_25 (lv_at hl 0 rfl) ?_
  refine lv_lload hx hb dX8_number_27 (lv_at hl 6 rfl) ?_
  obtain ⟨c_29, h⟩ := z_chk_some h
  obtain ⟨M_2, eM_2, h⟩ := z_lt_some h
  refine m_last (k := 14) (j := 14) (M' := M_2) hc hP hS (ma_14 ..) c_29 (by rw [eM_2]; exact mp_14 ..) dX8_number_29 (fun H locs hP hS => ?_)
  cases h
  rw [hQ]
  exact m_retv hc hr hlocks hP hS hz dX8_number_30
theorem md_X8_number : yX8_number.cls ≠ "java/lang/invoke/MethodHandle" ∧ yX8_number.cls ≠ "java/lang/invoke/VarHandle" ∧ (parseMethodDescriptor yX8_number.desc).map (fun d => d.parameters.length) = some 5 := by decide +kernel
noncomputable def f_X8_newFit_L48 (M : MS) (a0 : Int32) (x5_5 : Int32) (M_6 : MS) : Option ((MS) ⊕ (Int32 × MS)) :=
  z_chk (z_in a0 6) (if (M_6.1 0 a0.toNatClampNeg) ≤ x5_5 then some (.inl (M_6)) else z_chk (z_in (((12 : Int32) * a0) + x5_5) 72) (z_chk (z_in (((12 : Int32) * (M.1 4 0)) + x5_5) 120) (z_lt (sI M_6 8 (((12 : Int32) * (M.1 4 0)) + x5_5).toNatClampNeg (M_6.1 1 (((12 : Int32) * a0) + x5_5).toNatClampNeg)) fun M_8 => z_chk (z_in (((12 : Int32) * a0) + x5_5) 72) (z_chk (z_in (((12 : Int32) * (M.1 4 0)) + x5_5) 120) (z_lt (sI M_8 9 (((12 : Int32) * (M.1 4 0)) + x5_5).toNatClampNeg (M_8.1 2 (((12 : Int32) * a0) + x5_5).toNatClampNeg)) fun M_9 => z_chk (z_in (((12 : Int32) * a0) + x5_5) 72) (z_chk (z_in (((12 : Int32) * (M.1 4 0)) + x5_5) 120) (z_lt (sI M_9 10 (((12 : Int32) * (M.1 4 0)) + x5_5).toNatClampNeg (M_9.1 3 (((12 : Int32) * a0) + x5_5).toNatClampNeg)) fun M_10 => some (.inr ((x5_5 + 1), M_10)))))))))
noncomputable def f_X8_newFit (M : MS) (a0 : Int32) (a1 : Int32) (a2 : Int32) : Option (Int32 × MS) :=
  z_lt (sI M 4 0 ((M.1 4 0) + (1 : Int32))) fun M_1 => z_chk (z_in (M.1 4 0) 10) (z_lt (sI M_1 5 (M.1 4 0).toNatClampNeg a1) fun M_2 => z_chk (z_in (M.1 4 0) 10) (z_lt (sI M_2 6 (M.1 4 0).toNatClampNeg a2) fun M_3 => z_chk (z_in a0 6) (z_chk (z_in (M.1 4 0) 10) (z_lt (sI M_3 7 (M.1 4 0).toNatClampNeg (M_3.1 0 a0.toNatClampNeg)) fun M_4 => z_bd (z_lp (fun x => f_X8_newFit_L48 M a0 x.1 x.2) ((0 : Int32), M_4)) fun M_7 => z_chk (z_in (M.1 4 0) 10) (z_lt (sI M_7 11 (M.1 4 0).toNatClampNeg (1 : Int32)) fun M_11 => z_chk (z_in ((12 : Int32) * (M.1 4 0)) 120) (z_lt (sI M_11 12 ((12 : Int32) * (M.1 4 0)).toNatClampNeg (0 : Int32)) fun M_12 => z_bd (f_X8_number M_12 (M.1 4 0) (0 : Int32) (0 : Int32) (0 : Int64) (1 : Int64)) fun M_13 => z_bd (f_X8_number M_13 (M.1 4 0) (0 : Int32) (1 : Int32) (0 : Int64) (1 : Int64)) fun M_14 => z_bd (f_X8_number M_14 (M.1 4 0) (0 : Int32) (2 : Int32) (0 : Int64) (1 : Int64)) fun M_15 => some ((M.1 4 0), M_15)))))))
set_option maxHeartbeats 4000000 in
set_option maxRecDepth 100000 in
theorem mt_X8_newFit (l : Launch) (D : va_G) (cI cJ : ClassId) (o sz : Nat) (M : MS) (a0 : Int32) (a1 : Int32) (a2 : Int32) {r_ : Int32} {N_ : MS} (h : f_X8_newFit M a0 a1 a2 = some (r_, N_)) : Met l yX8_newFit (z_wd yX8_newFit cX8_newFit 6 (some .int)) (z_rm 1 44) (va_Pc [.ref o, .int a0, .int a1, .int a2] (m_C D cI cJ o sz M)) (va_Qi (fun (r1 : Int32) (M1 : MS) => r1 = r_ ∧ M1 = N_) (m_C D cI cJ o sz) (m_A o)) 0 0 (m_A o) := by
  refine Met.ofW (cc := cX8_newFit) (maxL := 6) (ret := (some .int)) (by decide) rfl ?_
  intro p e s m args below meth c s₁ B hml hv
  obtain ⟨hav, hz, hP0, hK⟩ := hv
  have hx := B.exec
  have hb := B.bytes
  have hr := B.returns
  have hts := atoms_spec (ws := z_wd yX8_newFit cX8_newFit 6 (some .int)) B.pre
  have hown : s.vm.findClass RX8 = some m.cls := findClass_of_methodNamed B.named
  have hlocks := B.notSynchronized
  have hc : m_X p s m args c cX8_newFit 6 D cI cJ := ⟨hx, hb, hml, fun w hw => hts w (List.mem_cons_of_mem _ hw), hown, hK⟩
  have hl := lv_entry ([.ref o, .int a0, .int a1, .int a2]) (n := 6) (Nat.le_of_ble_eq_true rfl)
  have hE : entryFrame m args 6 = F0 m 0 ((lg_sl ([.ref o, .int a0, .int a1, .int a2]) ++ List.replicate (6 - (lg_sl ([.ref o, .int a0, .int a1, .int a2])).length) Slot.unset).toArray) [] := by rw [hav]; exact lg_entry_eq m _ _
  rw [hE]
  clear hE hav
  generalize (lg_sl ([.ref o, .int a0, .int a1, .int a2]) ++ List.replicate (6 - (lg_sl ([.ref o, .int a0, .int a1, .int a2])).length) Slot.unset).toArray = ls at hl ⊢
  have hl : lv_has ls 6 [(0, .ref o), (1, .int a0), (2, .int a1), (3, .int a2)] := hl
  obtain ⟨Q, hQ⟩ : ∃ Q, Q = MQ below (va_Qi (fun (r1 : Int32) (M1 : MS) => r1 = r_ ∧ M1 = N_) (m_C D cI cJ o sz) (m_A o)) args s 0 0 (m_A o) := ⟨_, rfl⟩
  rw [← hQ]
  suffices hmain : ∀ (H : Heap) (locs : List Loc), va_P D z_cls (m_W cI cJ o M) H → va_S (m_A o) s.heap H locs → W p l e (z_rm 1 44) s m args below meth c H locs 0 0 Q (F0 m 0 ls []) from hmain s.heap [] hP0 va_S.rf
  clear hP0
  intro H locs hP hS
  unfold f_X8_newFit at h
  refine lv_aload_n hx hb dX8_newFit_0 rfl (lv_at hl 0 rfl) ?_
  refine m_get (k := 4) (v := .int (M.1 4 0)) hc hP (by decide) wF_X8_97 rfl dX8_newFit_1 ?_
  refine lv_istore (lv' := [(4, .int (M.1 4 0)), (0, .ref o), (1, .int a0), (2, .int a1), (3, .int a2)]) hx hb dX8_newFit_4 hl (by decide) rfl (fun ls hl => ?_)
  refine lv_aload_n hx hb dX8_newFit_6 rfl (lv_at hl 1 rfl) ?_
  refine lv_dup hx hb dX8_newFit_7 rfl ?_
  refine m_get (k := 4) (v := .int (M.1 4 0)) hc hP (by decide) wF_X8_97 rfl dX8_newFit_8 ?_
  refine lv_iconst (v := 1) hx hb dX8_newFit_11 (by decide) ?_
  refine lv_iadd hx hb dX8_newFit_12 ?_
  obtain ⟨M_1, eM_1, h⟩ := z_lt_some h
  refine m_put (k := 4) (M' := M_1) (ty := .int) hc hP hS (by decide) wF_X8_97 rfl (by decide +kernel) rfl rfl (by rw [eM_1]; exact mp_4 ..) dX8_newFit_13 (fun H locs hP hS => ?_)
  refine lv_aload_n hx hb dX8_newFit_16 rfl (lv_at hl 1 rfl) ?_
  refine m_get (k := 5) (v := .ref (o + 5)) hc hP (by decide) wF_X8_22 rfl dX8_newFit_17 ?_
  refine lv_iload hx hb dX8_newFit_20 (lv_at hl 0 rfl) ?_
  refine lv_iload_n hx hb dX8_newFit_22 rfl (lv_at hl 3 rfl) ?_
  obtain ⟨c_23, h⟩ := z_chk_some h
  obtain ⟨M_2, eM_2, h⟩ := z_lt_some h
  refine m_iast (k := 5) (j := 5) (M' := M_2) hc hP hS (ma_5 ..) c_23 (by rw [eM_2]; exact mp_5 ..) dX8_newFit_23 (fun H locs hP hS => ?_)
  refine lv_aload_n hx hb dX8_newFit_24 rfl (lv_at hl 1 rfl) ?_
  refine m_get (k := 6) (v := .ref (o + 6)) hc hP (by decide) wF_X8_25 rfl dX8_newFit_25 ?_
  refine lv_iload hx hb dX8_newFit_28 (lv_at hl 0 rfl) ?_
  refine lv_iload_n hx hb dX8_newFit_30 rfl (lv_at hl 4 rfl) ?_
  obtain ⟨c_31, h⟩ := z_chk_some h
  obtain ⟨M_3, eM_3, h⟩ := z_lt_some h
  refine m_iast (k := 6) (j := 6) (M' := M_3) hc hP hS (ma_6 ..) c_31 (by rw [eM_3]; exact mp_6 ..) dX8_newFit_31 (fun H locs hP hS => ?_)
  refine lv_aload_n hx hb dX8_newFit_32 rfl (lv_at hl 1 rfl) ?_
  refine m_get (k := 7) (v := .ref (o + 7)) hc hP (by decide) wF_X8_28 rfl dX8_newFit_33 ?_
  refine lv_iload hx hb dX8_newFit_36 (lv_at hl 0 rfl) ?_
  refine lv_aload_n hx hb dX8_newFit_38 rfl (lv_at hl 1 rfl) ?_
  refine m_get (k := 0) (v := .ref (o + 1)) hc hP (by decide) wF_X8_7 rfl dX8_newFit_39 ?_
  refine lv_iload_n hx hb dX8_newFit_42 rfl (lv_at hl 2 rfl) ?_
  obtain ⟨c_43, h⟩ := z_chk_some h
  refine m_iald (k := 0) (j := 1) hc hP (ma_0 ..) c_43 dX8_newFit_43 ?_
  obtain ⟨c_44, h⟩ := z_chk_some h
  obtain ⟨M_4, eM_4, h⟩ := z_lt_some h
  refine m_iast (k := 7) (j := 7) (M' := M_4) hc hP hS (ma_7 ..) c_44 (by rw [eM_4]; exact mp_7 ..) dX8_newFit_44 (fun H locs hP hS => ?_)
  refine lv_iconst (v := 0) hx hb dX8_newFit_45 (by decide) ?_
  refine lv_istore (lv' := [(5, .int (0 : Int32)), (4, .int (M.1 4 0)), (0, .ref o), (1, .int a0), (2, .int a1), (3, .int a2)]) hx hb dX8_newFit_46 hl (by decide) rfl (fun ls hl => ?_)
  obtain ⟨M_7, hlp, h⟩ := z_bd_some h
  refine z_lp_ind (P := fun x => ∀ (H : Heap) (locs : List Loc) (ls : Array Slot), va_P D z_cls (m_W cI cJ o x.2) H → va_S (m_A o) s.heap H locs → lv_has ls 6 [(0, .ref o), (1, .int a0), (4, .int (M.1 4 0)), (5, .int x.1)] → W p l e (z_rm 1 44) s m args below meth c H locs 0 0 Q (F0 m 48 ls [])) (Qe := fun y => ∀ (H : Heap) (locs : List Loc) (ls : Array Slot), va_P D z_cls (m_W cI cJ o y) H → va_S (m_A o) s.heap H locs → lv_has ls 6 [(0, .ref o), (4, .int (M.1 4 0))] → W p l e (z_rm 1 44) s m args below meth c H locs 0 0 Q (F0 m 140 ls [])) ?_ hlp ?_ H locs ls hP hS (lv_sub hl [2, 3, 1, 0] rfl)
  · clear h hlp hP hS hl
    rintro ⟨x5_5, M_6⟩ oo h K_48 H locs ls hP hS hl
    have hP : va_P D z_cls (m_W cI cJ o M_6) H := hP
    have hl : lv_has ls 6 [(0, .ref o), (1, .int a0), (4, .int (M.1 4 0)), (5, .int x5_5)] := hl
    have h : f_X8_newFit_L48 M a0 x5_5 M_6 = some oo := h
    unfold f_X8_newFit_L48 at h
    refine lv_iload hx hb dX8_newFit_48 (lv_at hl 3 rfl) ?_
    refine lv_aload_n hx hb dX8_newFit_50 rfl (lv_at hl 0 rfl) ?_
    refine m_get (k := 0) (v := .ref (o + 1)) hc hP (by decide) wF_X8_7 rfl dX8_newFit_51 ?_
    refine lv_iload_n hx hb dX8_newFit_54 rfl (lv_at hl 1 rfl) ?_
    obtain ⟨c_55, h⟩ := z_chk_some h
    refine m_iald (k := 0) (j := 1) hc hP (ma_0 ..) c_55 dX8_newFit_55 ?_
    refine lv_icmp_ge (tgt := 140) hx hb dX8_newFit_56 (by decide) (fun c_56 => ?_) (fun c_56 => ?_)
    · replace h := z_ip_ c_56 h
      cases h
      exact K_48 H locs ls hP hS (lv_sub hl [0, 2] rfl)
    · replace h := z_in_ c_56 h
      refine lv_aload_n hx hb dX8_newFit_59 rfl (lv_at hl 0 rfl) ?_
      refine m_get (k := 8) (v := .ref (o + 8)) hc hP (by decide) wF_X8_31 rfl dX8_newFit_60 ?_
      refine lv_bipush (v := 12) hx hb dX8_newFit_63 (by decide) ?_
      refine lv_iload hx hb dX8_newFit_65 (lv_at hl 2 rfl) ?_
      refine lv_imul hx hb dX8_newFit_67 ?_
      refine lv_iload hx hb dX8_newFit_68 (lv_at hl 3 rfl) ?_
      refine lv_iadd hx hb dX8_newFit_70 ?_
      refine lv_aload_n hx hb dX8_newFit_71 rfl (lv_at hl 0 rfl) ?_
      refine m_get (k := 1) (v := .ref (o + 2)) hc hP (by decide) wF_X8_13 rfl dX8_newFit_72 ?_
      refine lv_bipush (v := 12) hx hb dX8_newFit_75 (by decide) ?_
      refine lv_iload_n hx hb dX8_newFit_77 rfl (lv_at hl 1 rfl) ?_
      refine lv_imul hx hb dX8_newFit_78 ?_
      refine lv_iload hx hb dX8_newFit_79 (lv_at hl 3 rfl) ?_
      refine lv_iadd hx hb dX8_newFit_81 ?_
      obtain ⟨c_82, h⟩ := z_chk_some h
      refine m_iald (k := 1) (j := 2) hc hP (ma_1 ..) c_82 dX8_newFit_82 ?_
      obtain ⟨c_83, h⟩ := z_chk_some h
      obtain ⟨M_8, eM_8, h⟩ := z_lt_some h
      refine m_iast (k := 8) (j := 8) (M' := M_8) hc hP hS (ma_8 ..) c_83 (by rw [eM_8]; exact mp_8 ..) dX8_newFit_83 (fun H locs hP hS => ?_)
      refine lv_aload_n hx hb dX8_newFit_84 rfl (lv_at hl 0 rfl) ?_
      refine m_get (k := 9) (v := .ref (o + 9)) hc hP (by decide) wF_X8_34 rfl dX8_newFit_85 ?_
      refine lv_bipush (v := 12) hx hb dX8_newFit_88 (by decide) ?_
      refine lv_iload hx hb dX8_newFit_90 (lv_at hl 2 rfl) ?_
      refine lv_imul hx hb dX8_newFit_92 ?_
      refine lv_iload hx hb dX8_newFit_93 (lv_at hl 3 rfl) ?_
      refine lv_iadd hx hb dX8_newFit_95 ?_
      refine lv_aload_n hx hb dX8_newFit_96 rfl (lv_at hl 0 rfl) ?_
      refine m_get (k := 2) (v := .ref (o + 3)) hc hP (by decide) wF_X8_16 rfl dX8_newFit_97 ?_
      refine lv_bipush (v := 12) hx hb dX8_newFit_100 (by decide) ?_
      refine lv_iload_n hx hb dX8_newFit_102 rfl (lv_at hl 1 rfl) ?_
      refine lv_imul hx hb dX8_newFit_103 ?_
      refine lv_iload hx hb dX8_newFit_104 (lv_at hl 3 rfl) ?_
      refine lv_iadd hx hb dX8_newFit_106 ?_
      obtain ⟨c_107, h⟩ := z_chk_some h
      refine m_iald (k := 2) (j := 3) hc hP (ma_2 ..) c_107 dX8_newFit_107 ?_
      obtain ⟨c_108, h⟩ := z_chk_some h
      obtain ⟨M_9, eM_9, h⟩ := z_lt_some h
      refine m_iast (k := 9) (j := 9) (M' := M_9) hc hP hS (ma_9 ..) c_108 (by rw [eM_9]; exact mp_9 ..) dX8_newFit_108 (fun H locs hP hS => ?_)
      refine lv_aload_n hx hb dX8_newFit_109 rfl (lv_at hl 0 rfl) ?_
      refine m_get (k := 10) (v := .ref (o + 10)) hc hP (by decide) wF_X8_37 rfl dX8_newFit_110 ?_
      refine lv_bipush (v := 12) hx hb dX8_newFit_113 (by decide) ?_
      refine lv_iload hx hb dX8_newFit_115 (lv_at hl 2 rfl) ?_
      refine lv_imul hx hb dX8_newFit_117 ?_
      refine lv_iload hx hb dX8_newFit_118 (lv_at hl 3 rfl) ?_
      refine lv_iadd hx hb dX8_newFit_120 ?_
      refine lv_aload_n hx hb dX8_newFit_121 rfl (lv_at hl 0 rfl) ?_
      refine m_get (k := 3) (v := .ref (o + 4)) hc hP (by decide) wF_X8_19 rfl dX8_newFit_122 ?_
      refine lv_bipush (v := 12) hx hb dX8_newFit_125 (by decide) ?_
      refine lv_iload_n hx hb dX8_newFit_127 rfl (lv_at hl 1 rfl) ?_
      refine lv_imul hx hb dX8_newFit_128 ?_
      refine lv_iload hx hb dX8_newFit_129 (lv_at hl 3 rfl) ?_
      refine lv_iadd hx hb dX8_newFit_131 ?_
      obtain ⟨c_132, h⟩ := z_chk_some h
      refine m_iald (k := 3) (j := 4) hc hP (ma_3 ..) c_132 dX8_newFit_132 ?_
      obtain ⟨c_133, h⟩ := z_chk_some h
      obtain ⟨M_10, eM_10, h⟩ := z_lt_some h
      refine m_iast (k := 10) (j := 10) (M' := M_10) hc hP hS (ma_10 ..) c_133 (by rw [eM_10]; exact mp_10 ..) dX8_newFit_133 (fun H locs hP hS => ?_)
      refine lv_iinc (v := (x5_5 + 1)) (lv' := [(5, .int (x5_5 + 1)), (0, .ref o), (1, .int a0), (4, .int (M.1 4 0))]) hx hb dX8_newFit_134 hl (k := 3) rfl rfl (by decide) rfl (fun ls hl => ?_)
      refine lv_goto (tgt := 48) hx hb dX8_newFit_137 (by decide) ?_
      cases h
      exact K_48 H locs ls hP hS (lv_sub hl [1, 2, 3, 0] rfl)
  · clear hlp hP hS hl
    intro H locs ls hP hS hl
    have hP : va_P D z_cls (m_W cI cJ o M_7) H := hP
    have hl : lv_has ls 6 [(0, .ref o), (4, .int (M.1 4 0))] := hl
    refine lv_aload_n hx hb dX8_newFit_140 rfl (lv_at hl 0 rfl) ?_
    refine m_get (k := 11) (v := .ref (o + 11)) hc hP (by decide) wF_X8_40 rfl dX8_newFit_141 ?_
    refine lv_iload hx hb dX8_newFit_144 (lv_at hl 1 rfl) ?_
    refine lv_iconst (v := 1) hx hb dX8_newFit_146 (by decide) ?_
    obtain ⟨c_147, h⟩ := z_chk_some h
    obtain ⟨M_11, eM_11, h⟩ := z_lt_some h
    refine m_iast (k := 11) (j := 11) (M' := M_11) hc hP hS (ma_11 ..) c_147 (by rw [eM_11]; exact mp_11 ..) dX8_newFit_147 (fun H locs hP hS => ?_)
    refine lv_aload_n hx hb dX8_newFit_148 rfl (lv_at hl 0 rfl) ?_
    refine m_get (k := 12) (v := .ref (o + 12)) hc hP (by decide) wF_X8_43 rfl dX8_newFit_149 ?_
    refine lv_bipush (v := 12) hx hb dX8_newFit_152 (by decide) ?_
    refine lv_iload hx hb dX8_newFit_154 (lv_at hl 1 rfl) ?_
    refine lv_imul hx hb dX8_newFit_156 ?_
    refine lv_iconst (v := 0) hx hb dX8_newFit_157 (by decide) ?_
    obtain ⟨c_158, h⟩ := z_chk_some h
    obtain ⟨M_12, eM_12, h⟩ := z_lt_some h
    refine m_iast (k := 12) (j := 12) (M' := M_12) hc hP hS (ma_12 ..) c_158 (by rw [eM_12]; exact mp_12 ..) dX8_newFit_158 (fun H locs hP hS => ?_)
    refine lv_aload_n hx hb dX8_newFit_159 rfl (lv_at hl 0 rfl) ?_
    refine lv_iload hx hb dX8_newFit_160 (lv_at hl 1 rfl) ?_
    refine lv_iconst (v := 0) hx hb dX8_newFit_162 (by decide) ?_
    refine lv_iconst (v := 0) hx hb dX8_newFit_163 (by decide) ?_
    refine lv_lconst (v := 0) hx hb dX8_newFit_164 (by decide) ?_
    refine lv_lconst (v := 1) hx hb dX8_newFit_165 (by decide) ?_
    obtain ⟨M_13, eM_13, h⟩ := z_bd_some h
    refine m_callv (As := [.int (M.1 4 0), .int (0 : Int32), .int (0 : Int32), .long (0 : Int64), .long (1 : Int64)]) (M' := M_13) (n := 5) hc hP hS (mt_X8_number l D cI cJ o H.size M_12 (M.1 4 0) (0 : Int32) (0 : Int32) (0 : Int64) (1 : Int64) eM_13) wM_X8_133 wI_X8_number wS_X8_number wZ_X8 wC_X8_number md_X8_number ⟨rfl, rfl, Nat.le_of_ble_eq_true rfl, Nat.le_of_ble_eq_true rfl⟩ rfl hl.1 rfl (Nat.le_of_ble_eq_true rfl) dX8_newFit_166 ⟨Nat.zero_le _, Nat.zero_le _⟩ (fun H locs hP hS => ?_)
    refine lv_aload_n hx hb dX8_newFit_169 rfl (lv_at hl 0 rfl) ?_
    refine lv_iload hx hb dX8_newFit_170 (lv_at hl 1 rfl) ?_
    refine lv_iconst (v := 0) hx hb dX8_newFit_172 (by decide) ?_
    refine lv_iconst (v := 1) hx hb dX8_newFit_173 (by decide) ?_
    refine lv_lconst (v := 0) hx hb dX8_newFit_174 (by decide) ?_
    refine lv_lconst (v := 1) hx hb dX8_newFit_175 (by decide) ?_
    obtain ⟨M_14, eM_14, h⟩ := z_bd_some h
    refine m_callv (As := [.int (M.1 4 0), .int (0 : Int32), .int (1 : Int32), .long (0 : Int64), .long (1 : Int64)]) (M' := M_14) (n := 5) hc hP hS (mt_X8_number l D cI cJ o H.size M_13 (M.1 4 0) (0 : Int32) (1 : Int32) (0 : Int64) (1 : Int64) eM_14) wM_X8_133 wI_X8_number wS_X8_number wZ_X8 wC_X8_number md_X8_number ⟨rfl, rfl, Nat.le_of_ble_eq_true rfl, Nat.le_of_ble_eq_true rfl⟩ rfl hl.1 rfl (Nat.le_of_ble_eq_true rfl) dX8_newFit_176 ⟨Nat.zero_le _, Nat.zero_le _⟩ (fun H locs hP hS => ?_)
    refine lv_aload_n hx hb dX8_newFit_179 rfl (lv_at hl 0 rfl) ?_
    refine lv_iload hx hb dX8_newFit_180 (lv_at hl 1 rfl) ?_
    refine lv_iconst (v := 0) hx hb dX8_newFit_182 (by decide) ?_
    refine lv_iconst (v := 2) hx hb dX8_newFit_183 (by decide) ?_
    refine lv_lconst (v := 0) hx hb dX8_newFit_184 (by decide) ?_
    refine lv_lconst (v := 1) hx hb dX8_newFit_185 (by decide) ?_
    obtain ⟨M_15, eM_15, h⟩ := z_bd_some h
    refine m_callv (As := [.int (M.1 4 0), .int (0 : Int32), .int (2 : Int32), .long (0 : Int64), .long (1 : Int64)]) (M' := M_15) (n := 5) hc hP hS (mt_X8_number l D cI cJ o H.size M_14 (M.1 4 0) (0 : Int32) (2 : Int32) (0 : Int64) (1 : Int64) eM_15) wM_X8_133 wI_X8_number wS_X8_number wZ_X8 wC_X8_number md_X8_number ⟨rfl, rfl, Nat.le_of_ble_eq_true rfl, Nat.le_of_ble_eq_true rfl⟩ rfl hl.1 rfl (Nat.le_of_ble_eq_true rfl) dX8_newFit_186 ⟨Nat.zero_le _, Nat.zero_le _⟩ (fun H locs hP hS => ?_)
    refine lv_iload hx hb dX8_newFit_189 (lv_at hl 1 rfl) ?_
    cases h
    rw [hQ]
    exact m_reti hc hr hlocks hP hS hz dX8_newFit_191
theorem md_X8_newFit : yX8_newFit.cls ≠ "java/lang/invoke/MethodHandle" ∧ yX8_newFit.cls ≠ "java/lang/invoke/VarHandle" ∧ (parseMethodDescriptor yX8_newFit.desc).map (fun d => d.parameters.length) = some 3 := by decide +kernel
