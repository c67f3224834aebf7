noncomputable def f_X8_study_L5 (a0 : Int32) (a1 : Int32) (x3_1 : Int32) (x4_2 : Int32) (M_3 : MS) : Option ((Int32 × MS) ⊕ (Int32 × Int32 × MS)) :=
  z_chk (z_in a0 10) (if (M_3.1 7 a0.toNatClampNeg) ≤ x4_2 then some (.inl (x3_1, M_3)) else z_bd (f_X8_has a1 x4_2) fun r_6 => if r_6 = 0 then some (.inr (x3_1, (x4_2 + 1), M_3)) else z_chk (z_in x3_1 12) (z_lt (sI M_3 23 x3_1.toNatClampNeg x4_2) fun M_7 => some (.inr ((x3_1 + 1), (x4_2 + 1), M_7))))
noncomputable def f_X8_study_L51 (a0 : Int32) (y3_4 : Int32) (x4_9 : Int32) (M_10 : MS) : Option ((MS) ⊕ (Int32 × MS)) :=
  if y3_4 ≤ (x4_9 + (1 : Int32)) then some (.inl (M_10)) else z_chk (z_in x4_9 12) (z_chk (z_in (((12 : Int32) * a0) + (M_10.1 23 x4_9.toNatClampNeg)) 120) (z_bd (if (x4_9 - x4_9 / (2 : Int32) * (2 : Int32)) = 0 then some ((-(M_10.2 26 0))) else some ((M_10.2 26 0))) fun v_12 => z_chk (z_in (((12 : Int32) * a0) + (M_10.1 23 x4_9.toNatClampNeg)) 120) (z_bd (f_X8_plus M_10 (M_10.1 9 (((12 : Int32) * a0) + (M_10.1 23 x4_9.toNatClampNeg)).toNatClampNeg).toInt64 (1 : Int64) v_12 ((M_10.2 27 0) * (M_10.1 10 (((12 : Int32) * a0) + (M_10.1 23 x4_9.toNatClampNeg)).toNatClampNeg).toInt64)) fun M_13 => z_chk (z_in x4_9 3) (z_lt (sJ M_13 24 x4_9.toNatClampNeg (M_13.2 21 0)) fun M_14 => z_chk (z_in x4_9 3) (z_lt (sJ M_14 25 x4_9.toNatClampNeg (M_14.2 22 0)) fun M_15 => some (.inr ((x4_9 + 1), M_15)))))))
noncomputable def f_X8_study (M : MS) (a0 : Int32) (a1 : Int32) : Option (MS) :=
  z_bd2 (z_lp (fun x => f_X8_study_L5 a0 a1 x.1 x.2.1 x.2.2) ((0 : Int32), (0 : Int32), M)) fun y3_4 M_5 => z_bd (f_X8_findHigh M_5 a0 y3_4) fun M_8 => z_bd (z_lp (fun x => f_X8_study_L51 a0 y3_4 x.1 x.2) ((0 : Int32), M_8)) fun M_11 => z_bd (f_X8_through M_11 a0 (y3_4 - (1 : Int32))) fun M_16 => z_bd (f_X8_ofX M_16 a0) fun M_17 => some M_17
set_option maxHeartbeats 4000000 in
set_option maxRecDepth 100000 in
theorem mt_X8_study (l : Launch) (D : va_G) (cI cJ : ClassId) (o sz : Nat) (M : MS) (a0 : Int32) (a1 : Int32) {N_ : MS} (h : f_X8_study M a0 a1 = some N_) : Met l yX8_study (z_wd yX8_study cX8_study 6 none) (z_rm 5 220) (va_Pc [.ref o, .int a0, .int a1] (m_C D cI cJ o sz M)) (va_Qv (fun (M1 : MS) => M1 = N_) (m_C D cI cJ o sz) (m_A o)) 0 0 (m_A o) := by
  refine Met.ofW (cc := cX8_study) (maxL := 6) (ret := none) (by decide) rfl ?_
  intro p e s m args below meth c s₁ B hml hv
  obtain ⟨hav, hz, hP0, hK⟩ := hv
  have hx := B.exec
  have hb := B.bytes
  have hr := B.returns
  have hts := atoms_spec (ws := z_wd yX8_study cX8_study 6 none) B.pre
  have hown : s.vm.findClass RX8 = some m.cls := findClass_of_methodNamed B.named
  have hlocks := B.notSynchronized
  have hc : m_X p s m args c cX8_study 6 D cI cJ := ⟨hx, hb, hml, fun w hw => hts w (List.mem_cons_of_mem _ hw), hown, hK⟩
  have hl := lv_entry ([.ref o, .int a0, .int a1]) (n := 6) (Nat.le_of_ble_eq_true rfl)
  have hE : entryFrame m args 6 = F0 m 0 ((lg_sl ([.ref o, .int a0, .int a1]) ++ List.replicate (6 - (lg_sl ([.ref o, .int a0, .int a1])).length) Slot.unset).toArray) [] := by rw [hav]; exact lg_entry_eq m _ _
  rw [hE]
  clear hE hav
  generalize (lg_sl ([.ref o, .int a0, .int a1]) ++ List.replicate (6 - (lg_sl ([.ref o, .int a0, .int a1])).length) Slot.unset).toArray = ls at hl ⊢
  have hl : lv_has ls 6 [(0, .ref o), (1, .int a0), (2, .int a1)] := hl
  obtain ⟨Q, hQ⟩ : ∃ Q, Q = MQ below (va_Qv (fun (M1 : MS) => M1 = N_) (m_C D cI cJ o sz) (m_A o)) args s 0 0 (m_A o) := ⟨_, rfl⟩
  rw [← hQ]
  suffices hmain : ∀ (H : Heap) (locs : List Loc), va_P D z_cls (m_W cI cJ o M) H → va_S (m_A o) s.heap H locs → W p l e (z_rm 5 220) s m args below meth c H locs 0 0 Q (F0 m 0 ls []) from hmain s.heap [] hP0 va_S.rf
  clear hP0
  intro H locs hP hS
  unfold f_X8_study at h
  refine lv_iconst (v := 0) hx hb dX8_study_0 (by decide) ?_
  refine lv_istore_n (lv' := [(3, .int (0 : Int32)), (0, .ref o), (1, .int a0), (2, .int a1)]) hx hb dX8_study_1 rfl hl (by decide) rfl (fun ls hl => ?_)
  refine lv_iconst (v := 0) hx hb dX8_study_2 (by decide) ?_
  refine lv_istore (lv' := [(4, .int (0 : Int32)), (3, .int (0 : Int32)), (0, .ref o), (1, .int a0), (2, .int a1)]) hx hb dX8_study_3 hl (by decide) rfl (fun ls hl => ?_)
  obtain ⟨y3_4, M_5, hlp, h⟩ := z_bd2_some h
  refine z_lp_ind (P := fun x => ∀ (H : Heap) (locs : List Loc) (ls : Array Slot), va_P D z_cls (m_W cI cJ o x.2.2) H → va_S (m_A o) s.heap H locs → lv_has ls 6 [(0, .ref o), (1, .int a0), (2, .int a1), (3, .int x.1), (4, .int x.2.1)] → W p l e (z_rm 5 220) s m args below meth c H locs 0 0 Q (F0 m 5 ls [])) (Qe := fun y => ∀ (H : Heap) (locs : List Loc) (ls : Array Slot), va_P D z_cls (m_W cI cJ o y.2) H → va_S (m_A o) s.heap H locs → lv_has ls 6 [(0, .ref o), (1, .int a0), (3, .int y.1)] → W p l e (z_rm 5 220) s m args below meth c H locs 0 0 Q (F0 m 42 ls [])) ?_ hlp ?_ H locs ls hP hS (lv_sub hl [2, 3, 4, 1, 0] rfl)
  · clear h hlp hP hS hl
    rintro ⟨x3_1, x4_2, M_3⟩ oo h K_5 H locs ls hP hS hl
    have hP : va_P D z_cls (m_W cI cJ o M_3) H := hP
    have hl : lv_has ls 6 [(0, .ref o), (1, .int a0), (2, .int a1), (3, .int x3_1), (4, .int x4_2)] := hl
    have h : f_X8_study_L5 a0 a1 x3_1 x4_2 M_3 = some oo := h
    unfold f_X8_study_L5 at h
    refine lv_iload hx hb dX8_study_5 (lv_at hl 4 rfl) ?_
    refine lv_aload_n hx hb dX8_study_7 rfl (lv_at hl 0 rfl) ?_
    refine m_get (k := 7) (v := .ref (o + 7)) hc hP (by decide) wF_X8_28 rfl dX8_study_8 ?_
    refine lv_iload_n hx hb dX8_study_11 rfl (lv_at hl 1 rfl) ?_
    obtain ⟨c_12, h⟩ := z_chk_some h
    refine m_iald (k := 7) (j := 7) hc hP (ma_7 ..) c_12 dX8_study_12 ?_
    refine lv_icmp_ge (tgt := 42) hx hb dX8_study_13 (by decide) (fun c_13 => ?_) (fun c_13 => ?_)
    · replace h := z_ip_ c_13 h
      cases h
      exact K_5 H locs ls hP hS (lv_sub hl [0, 1, 3] rfl)
    · replace h := z_in_ c_13 h
      refine lv_iload_n hx hb dX8_study_16 rfl (lv_at hl 2 rfl) ?_
      refine lv_iload hx hb dX8_study_17 (lv_at hl 4 rfl) ?_
      obtain ⟨r_6, er_6, h⟩ := z_bd_some h
      refine s_calli (As := [.int a1, .int x4_2]) (r := r_6) (n := 2) hc.s (mt_X8_has l a1 x4_2 er_6) wM_X8_171 wT_X8_has wZ_X8 wC_X8_has md_X8_has ⟨rfl, rfl, Nat.le_of_ble_eq_true rfl, Nat.le_of_ble_eq_true rfl⟩ rfl hl.1 rfl (Nat.le_of_ble_eq_true rfl) dX8_study_19 ⟨Nat.zero_le _, Nat.zero_le _⟩ ?_
      refine lv_if_eq (tgt := 36) hx hb dX8_study_22 (by decide) (fun c_22 => ?_) (fun c_22 => ?_)
      · replace h := z_ip_ c_22 h
        refine lv_iinc (v := (x4_2 + 1)) (lv' := [(4, .int (x4_2 + 1)), (0, .ref o), (1, .int a0), (2, .int a1), (3, .int x3_1)]) hx hb dX8_study_36 hl (k := 4) rfl rfl (by decide) rfl (fun ls hl => ?_)
        refine lv_goto (tgt := 5) hx hb dX8_study_39 (by decide) ?_
        cases h
        exact K_5 H locs ls hP hS (lv_sub hl [1, 2, 3, 4, 0] rfl)
      · replace h := z_in_ c_22 h
        refine lv_aload_n hx hb dX8_study_25 rfl (lv_at hl 0 rfl) ?_
        refine m_get (k := 23) (v := .ref (o + 19)) hc hP (by decide) wF_X8_69 rfl dX8_study_26 ?_
        refine lv_iload_n hx hb dX8_study_29 rfl (lv_at hl 3 rfl) ?_
        refine lv_iload hx hb dX8_study_30 (lv_at hl 4 rfl) ?_
        obtain ⟨c_32, h⟩ := z_chk_some h
        obtain ⟨M_7, eM_7, h⟩ := z_lt_some h
        refine m_iast (k := 23) (j := 19) (M' := M_7) hc hP hS (ma_23 ..) c_32 (by rw [eM_7]; exact mp_23 ..) dX8_study_32 (fun H locs hP hS => ?_)
        refine lv_iinc (v := (x3_1 + 1)) (lv' := [(3, .int (x3_1 + 1)), (0, .ref o), (1, .int a0), (2, .int a1), (4, .int x4_2)]) hx hb dX8_study_33 hl (k := 3) rfl rfl (by decide) rfl (fun ls hl => ?_)
        refine lv_iinc (v := (x4_2 + 1)) (lv' := [(4, .int (x4_2 + 1)), (3, .int (x3_1 + 1)), (0, .ref o), (1, .int a0), (2, .int a1)]) hx hb dX8_study_36 hl (k := 4) rfl rfl (by decide) rfl (fun ls hl => ?_)
        refine lv_goto (tgt := 5) hx hb dX8_study_39 (by decide) ?_
        cases h
        exact K_5 H locs ls hP hS (lv_sub hl [2, 3, 4, 1, 0] rfl)
  · clear hlp hP hS hl
    intro H locs ls hP hS hl
    have hP : va_P D z_cls (m_W cI cJ o M_5) H := hP
    have hl : lv_has ls 6 [(0, .ref o), (1, .int a0), (3, .int y3_4)] := hl
    refine lv_aload_n hx hb dX8_study_42 rfl (lv_at hl 0 rfl) ?_
    refine lv_iload_n hx hb dX8_study_43 rfl (lv_at hl 1 rfl) ?_
    refine lv_iload_n hx hb dX8_study_44 rfl (lv_at hl 2 rfl) ?_
    obtain ⟨M_8, eM_8, h⟩ := z_bd_some h
    refine m_callv (As := [.int a0, .int y3_4]) (M' := M_8) (n := 2) hc hP hS (mt_X8_findHigh l D cI cJ o H.size M_5 a0 y3_4 eM_8) wM_X8_174 wI_X8_findHigh wS_X8_findHigh wZ_X8 wC_X8_findHigh md_X8_findHigh ⟨rfl, rfl, Nat.le_of_ble_eq_true rfl, Nat.le_of_ble_eq_true rfl⟩ rfl hl.1 rfl (Nat.le_of_ble_eq_true rfl) dX8_study_45 ⟨Nat.zero_le _, Nat.zero_le _⟩ (fun H locs hP hS => ?_)
    refine lv_iconst (v := 0) hx hb dX8_study_48 (by decide) ?_
    refine lv_istore (lv' := [(4, .int (0 : Int32)), (0, .ref o), (1, .int a0), (3, .int y3_4)]) hx hb dX8_study_49 hl (by decide) rfl (fun ls hl => ?_)
    obtain ⟨M_11, hlp, h⟩ := z_bd_some h
    refine z_lp_ind (P := fun x => ∀ (H : Heap) (locs : List Loc) (ls : Array Slot), va_P D z_cls (m_W cI cJ o x.2) H → va_S (m_A o) s.heap H locs → lv_has ls 6 [(0, .ref o), (1, .int a0), (3, .int y3_4), (4, .int x.1)] → W p l e (z_rm 5 220) s m args below meth c H locs 0 0 Q (F0 m 51 ls [])) (Qe := fun y => ∀ (H : Heap) (locs : List Loc) (ls : Array Slot), va_P D z_cls (m_W cI cJ o y) H → va_S (m_A o) s.heap H locs → lv_has ls 6 [(0, .ref o), (1, .int a0), (3, .int y3_4)] → W p l e (z_rm 5 220) s m args below meth c H locs 0 0 Q (F0 m 146 ls [])) ?_ hlp ?_ H locs ls hP hS (lv_sub hl [1, 2, 3, 0] rfl)
    · clear h hlp hP hS hl
      rintro ⟨x4_9, M_10⟩ oo h K_51 H locs ls hP hS hl
      have hP : va_P D z_cls (m_W cI cJ o M_10) H := hP
      have hl : lv_has ls 6 [(0, .ref o), (1, .int a0), (3, .int y3_4), (4, .int x4_9)] := hl
      have h : f_X8_study_L51 a0 y3_4 x4_9 M_10 = some oo := h
      unfold f_X8_study_L51 at h
      refine lv_iload hx hb dX8_study_51 (lv_at hl 3 rfl) ?_
      refine lv_iconst (v := 1) hx hb dX8_study_53 (by decide) ?_
      refine lv_iadd hx hb dX8_study_54 ?_
      refine lv_iload_n hx hb dX8_study_55 rfl (lv_at hl 2 rfl) ?_
      refine lv_icmp_ge (tgt := 146) hx hb dX8_study_56 (by decide) (fun c_56 => ?_) (fun c_56 => ?_)
      · replace h := z_ip_ c_56 h
        cases h
        exact K_51 H locs ls hP hS (lv_sub hl [0, 1, 2] rfl)
      · replace h := z_in_ c_56 h
        refine lv_bipush (v := 12) hx hb dX8_study_59 (by decide) ?_
        refine lv_iload_n hx hb dX8_study_61 rfl (lv_at hl 1 rfl) ?_
        refine lv_imul hx hb dX8_study_62 ?_
        refine lv_aload_n hx hb dX8_study_63 rfl (lv_at hl 0 rfl) ?_
        refine m_get (k := 23) (v := .ref (o + 19)) hc hP (by decide) wF_X8_69 rfl dX8_study_64 ?_
        refine lv_iload hx hb dX8_study_67 (lv_at hl 3 rfl) ?_
        obtain ⟨c_69, h⟩ := z_chk_some h
        refine m_iald (k := 23) (j := 19) hc hP (ma_23 ..) c_69 dX8_study_69 ?_
        refine lv_iadd hx hb dX8_study_70 ?_
        refine lv_istore (lv' := [(5, .int (((12 : Int32) * a0) + (M_10.1 23 x4_9.toNatClampNeg))), (0, .ref o), (1, .int a0), (3, .int y3_4), (4, .int x4_9)]) hx hb dX8_study_71 hl (by decide) rfl (fun ls hl => ?_)
        refine lv_aload_n hx hb dX8_study_73 rfl (lv_at hl 1 rfl) ?_
        refine lv_aload_n hx hb dX8_study_74 rfl (lv_at hl 1 rfl) ?_
        refine m_get (k := 9) (v := .ref (o + 9)) hc hP (by decide) wF_X8_34 rfl dX8_study_75 ?_
        refine lv_iload hx hb dX8_study_78 (lv_at hl 0 rfl) ?_
        obtain ⟨c_80, h⟩ := z_chk_some h
        refine m_iald (k := 9) (j := 9) hc hP (ma_9 ..) c_80 dX8_study_80 ?_
        refine lv_i2l (v := (M_10.1 9 (((12 : Int32) * a0) + (M_10.1 23 x4_9.toNatClampNeg)).toNatClampNeg).toInt64) hx hb dX8_study_81 rfl ?_
        refine lv_lconst (v := 1) hx hb dX8_study_82 (by decide) ?_
        refine lv_iload hx hb dX8_study_83 (lv_at hl 4 rfl) ?_
        refine lv_iconst (v := 2) hx hb dX8_study_85 (by decide) ?_
        refine lv_irem hx hb dX8_study_86 (by decide) ?_
        obtain ⟨v_12, hJ, h⟩ := z_bd_some h
        have J_102 : ∀ (H : Heap) (locs : List Loc) (ls : Array Slot), va_P D z_cls (m_W cI cJ o M_10) H → va_S (m_A o) s.heap H locs → lv_has ls 6 [(0, .ref o), (1, .int a0), (3, .int y3_4), (4, .int x4_9), (5, .int (((12 : Int32) * a0) + (M_10.1 23 x4_9.toNatClampNeg)))] → W p l e (z_rm 5 220) s m args below meth c H locs 0 0 Q (F0 m 102 ls [.long v_12, .long (1 : Int64), .long (M_10.1 9 (((12 : Int32) * a0) + (M_10.1 23 x4_9.toNatClampNeg)).toNatClampNeg).toInt64, .ref o]) := by
          intro H locs ls hP hS hl
          refine lv_aload_n hx hb dX8_study_102 rfl (lv_at hl 0 rfl) ?_
          refine m_get (k := 27) (v := .long (M_10.2 27 0)) hc hP (by decide) wF_X8_157 rfl dX8_study_103 ?_
          refine lv_aload_n hx hb dX8_study_106 rfl (lv_at hl 0 rfl) ?_
          refine m_get (k := 10) (v := .ref (o + 10)) hc hP (by decide) wF_X8_37 rfl dX8_study_107 ?_
          refine lv_iload hx hb dX8_study_110 (lv_at hl 4 rfl) ?_
          obtain ⟨c_112, h⟩ := z_chk_some h
          refine m_iald (k := 10) (j := 10) hc hP (ma_10 ..) c_112 dX8_study_112 ?_
          refine lv_i2l (v := (M_10.1 10 (((12 : Int32) * a0) + (M_10.1 23 x4_9.toNatClampNeg)).toNatClampNeg).toInt64) hx hb dX8_study_113 rfl ?_
          refine lv_lmul hx hb dX8_study_114 ?_
          obtain ⟨M_13, eM_13, h⟩ := z_bd_some h
          refine m_callv (As := [.long (M_10.1 9 (((12 : Int32) * a0) + (M_10.1 23 x4_9.toNatClampNeg)).toNatClampNeg).toInt64, .long (1 : Int64), .long v_12, .long ((M_10.2 27 0) * (M_10.1 10 (((12 : Int32) * a0) + (M_10.1 23 x4_9.toNatClampNeg)).toNatClampNeg).toInt64)]) (M' := M_13) (n := 4) hc hP hS (mt_X8_plus l D cI cJ o H.size M_10 (M_10.1 9 (((12 : Int32) * a0) + (M_10.1 23 x4_9.toNatClampNeg)).toNatClampNeg).toInt64 (1 : Int64) v_12 ((M_10.2 27 0) * (M_10.1 10 (((12 : Int32) * a0) + (M_10.1 23 x4_9.toNatClampNeg)).toNatClampNeg).toInt64) eM_13) wM_X8_164 wI_X8_plus wS_X8_plus wZ_X8 wC_X8_plus md_X8_plus ⟨rfl, rfl, Nat.le_of_ble_eq_true rfl, Nat.le_of_ble_eq_true rfl⟩ rfl hl.1 rfl (Nat.le_of_ble_eq_true rfl) dX8_study_115 ⟨Nat.zero_le _, Nat.zero_le _⟩ (fun H locs hP hS => ?_)
          refine lv_aload_n hx hb dX8_study_118 rfl (lv_at hl 0 rfl) ?_
          refine m_get (k := 24) (v := .ref (o + 20)) hc hP (by decide) wF_X8_72 rfl dX8_study_119 ?_
          refine lv_iload hx hb dX8_study_122 (lv_at hl 3 rfl) ?_
          refine lv_aload_n hx hb dX8_study_124 rfl (lv_at hl 0 rfl) ?_
          refine m_get (k := 21) (v := .long (M_13.2 21 0)) hc hP (by decide) wF_X8_108 rfl dX8_study_125 ?_
          obtain ⟨c_128, h⟩ := z_chk_some h
          obtain ⟨M_14, eM_14, h⟩ := z_lt_some h
          refine m_last (k := 24) (j := 20) (M' := M_14) hc hP hS (ma_24 ..) c_128 (by rw [eM_14]; exact mp_24 ..) dX8_study_128 (fun H locs hP hS => ?_)
          refine lv_aload_n hx hb dX8_study_129 rfl (lv_at hl 0 rfl) ?_
          refine m_get (k := 25) (v := .ref (o + 21)) hc hP (by decide) wF_X8_75 rfl dX8_study_130 ?_
          refine lv_iload hx hb dX8_study_133 (lv_at hl 3 rfl) ?_
          refine lv_aload_n hx hb dX8_study_135 rfl (lv_at hl 0 rfl) ?_
          refine m_get (k := 22) (v := .long (M_14.2 22 0)) hc hP (by decide) wF_X8_65 rfl dX8_study_136 ?_
          obtain ⟨c_139, h⟩ := z_chk_some h
          obtain ⟨M_15, eM_15, h⟩ := z_lt_some h
          refine m_last (k := 25) (j := 21) (M' := M_15) hc hP hS (ma_25 ..) c_139 (by rw [eM_15]; exact mp_25 ..) dX8_study_139 (fun H locs hP hS => ?_)
          refine lv_iinc (v := (x4_9 + 1)) (lv' := [(4, .int (x4_9 + 1)), (0, .ref o), (1, .int a0), (3, .int y3_4), (5, .int (((12 : Int32) * a0) + (M_10.1 23 x4_9.toNatClampNeg)))]) hx hb dX8_study_140 hl (k := 3) rfl rfl (by decide) rfl (fun ls hl => ?_)
          refine lv_goto (tgt := 51) hx hb dX8_study_143 (by decide) ?_
          cases h
          exact K_51 H locs ls hP hS (lv_sub hl [1, 2, 3, 0] rfl)
        clear h
        have h := hJ
        clear hJ
        refine lv_if_ne (tgt := 98) hx hb dX8_study_87 (by decide) (fun c_87 => ?_) (fun c_87 => ?_)
        · replace h := z_in_ c_87 h
          refine lv_aload_n hx hb dX8_study_98 rfl (lv_at hl 1 rfl) ?_
          refine m_get (k := 26) (v := .long (M_10.2 26 0)) hc hP (by decide) wF_X8_154 rfl dX8_study_99 ?_
          cases h
          exact J_102 H locs ls hP hS (lv_sub hl [1, 2, 3, 4, 0] rfl)
        · replace h := z_ip_ c_87 h
          refine lv_aload_n hx hb dX8_study_90 rfl (lv_at hl 1 rfl) ?_
          refine m_get (k := 26) (v := .long (M_10.2 26 0)) hc hP (by decide) wF_X8_154 rfl dX8_study_91 ?_
          refine lv_lneg hx hb dX8_study_94 ?_
          refine lv_goto (tgt := 102) hx hb dX8_study_95 (by decide) ?_
          cases h
          exact J_102 H locs ls hP hS (lv_sub hl [1, 2, 3, 4, 0] rfl)
    · clear hlp hP hS hl
      intro H locs ls hP hS hl
      have hP : va_P D z_cls (m_W cI cJ o M_11) H := hP
      have hl : lv_has ls 6 [(0, .ref o), (1, .int a0), (3, .int y3_4)] := hl
      refine lv_aload_n hx hb dX8_study_146 rfl (lv_at hl 0 rfl) ?_
      refine lv_iload_n hx hb dX8_study_147 rfl (lv_at hl 1 rfl) ?_
      refine lv_iload_n hx hb dX8_study_148 rfl (lv_at hl 2 rfl) ?_
      refine lv_iconst (v := 1) hx hb dX8_study_149 (by decide) ?_
      refine lv_isub hx hb dX8_study_150 ?_
      obtain ⟨M_16, eM_16, h⟩ := z_bd_some h
      refine m_callv (As := [.int a0, .int (y3_4 - (1 : Int32))]) (M' := M_16) (n := 2) hc hP hS (mt_X8_through l D cI cJ o H.size M_11 a0 (y3_4 - (1 : Int32)) eM_16) wM_X8_178 wI_X8_through wS_X8_through wZ_X8 wC_X8_through md_X8_through ⟨rfl, rfl, Nat.le_of_ble_eq_true rfl, Nat.le_of_ble_eq_true rfl⟩ rfl hl.1 rfl (Nat.le_of_ble_eq_true rfl) dX8_study_151 ⟨Nat.zero_le _, Nat.zero_le _⟩ (fun H locs hP hS => ?_)
      refine lv_aload_n hx hb dX8_study_154 rfl (lv_at hl 0 rfl) ?_
      refine lv_iload_n hx hb dX8_study_155 rfl (lv_at hl 1 rfl) ?_
      obtain ⟨M_17, eM_17, h⟩ := z_bd_some h
      refine m_callv (As := [.int a0]) (M' := M_17) (n := 1) hc hP hS (mt_X8_ofX l D cI cJ o H.size M_16 a0 eM_17) wM_X8_181 wI_X8_ofX wS_X8_ofX wZ_X8 wC_X8_ofX md_X8_ofX ⟨rfl, rfl, Nat.le_of_ble_eq_true rfl, Nat.le_of_ble_eq_true rfl⟩ rfl hl.1 rfl (Nat.le_of_ble_eq_true rfl) dX8_study_156 ⟨Nat.zero_le _, Nat.zero_le _⟩ (fun H locs hP hS => ?_)
      cases h
      rw [hQ]
      exact m_retv hc hr hlocks hP hS hz dX8_study_159
theorem md_X8_study : yX8_study.cls ≠ "java/lang/invoke/MethodHandle" ∧ yX8_study.cls ≠ "java/lang/invoke/VarHandle" ∧ (parseMethodDescriptor yX8_study.desc).map (fun d => d.parameters.length) = some 2 := by decide +kernel
noncomputable def f_X8_areTurns (M : MS) (a0 : Int32) (a1 : Int32) : Option (Int32) :=
  z_bd (f_X8_isFit M a0) fun r_1 => z_bd (if r_1 = 0 then some ((0 : Int32)) else z_chk (z_in a0 10) (if (M.1 5 a0.toNatClampNeg) = (1 : Int32) then if a1 < 0 then some ((0 : Int32)) else z_chk (z_in a0 10) (if (a1 >>> ((M.1 7 a0.toNatClampNeg) &&& 31)) = 0 then some ((1 : Int32)) else some ((0 : Int32))) else z_chk (z_in a0 10) (if (M.1 5 a0.toNatClampNeg) = (2 : Int32) then if a1 < 0 then some ((0 : Int32)) else z_chk (z_in a0 10) (if (a1 >>> ((M.1 7 a0.toNatClampNeg) &&& 31)) = 0 then some ((1 : Int32)) else some ((0 : Int32))) else some ((0 : Int32))))) fun v_2 => if v_2 = 0 then some (0 : Int32) else z_bd (f_X8_ones a1) fun r_3 => z_bd (f_X8_freeNumbers M a0) fun r_4 => if r_3 = (r_4 + (1 : Int32)) then some (1 : Int32) else some (0 : Int32)
set_option maxHeartbeats 4000000 in
set_option maxRecDepth 100000 in
theorem mt_X8_areTurns (l : Launch) (D : va_G) (cI cJ : ClassId) (o sz : Nat) (M : MS) (a0 : Int32) (a1 : Int32) {r_ : Int32} (h : f_X8_areTurns M a0 a1 = some r_) : Met l yX8_areTurns (z_wd yX8_areTurns cX8_areTurns 4 (some .boolean)) (z_rm 2 75) (va_Pc [.ref o, .int a0, .int a1] (m_C D cI cJ o sz M)) (va_Qi (fun (r1 : Int32) (M1 : MS) => r1 = r_ ∧ M1 = M) (m_C D cI cJ o sz) (m_A o)) 0 0 (m_A o) := by
  refine Met.ofW (cc := cX8_areTurns) (maxL := 4) (ret := (some .boolean)) (by decide) rfl ?_
  intro p e s m args below meth c s₁ B hml hv
  obtain ⟨hav, hz, hP0, hK⟩ := hv
  have hx := B.exec
  have hb := B.bytes
  have hr := B.returns
  have hts := atoms_spec (ws := z_wd yX8_areTurns cX8_areTurns 4 (some .boolean)) B.pre
  have hown : s.vm.findClass RX8 = some m.cls := findClass_of_methodNamed B.named
  have hlocks := B.notSynchronized
  have hc : m_X p s m args c cX8_areTurns 4 D cI cJ := ⟨hx, hb, hml, fun w hw => hts w (List.mem_cons_of_mem _ hw), hown, hK⟩
  have hl := lv_entry ([.ref o, .int a0, .int a1]) (n := 4) (Nat.le_of_ble_eq_true rfl)
  have hE : entryFrame m args 4 = F0 m 0 ((lg_sl ([.ref o, .int a0, .int a1]) ++ List.replicate (4 - (lg_sl ([.ref o, .int a0, .int a1])).length) Slot.unset).toArray) [] := by rw [hav]; exact lg_entry_eq m _ _
  rw [hE]
  clear hE hav
  generalize (lg_sl ([.ref o, .int a0, .int a1]) ++ List.replicate (4 - (lg_sl ([.ref o, .int a0, .int a1])).length) Slot.unset).toArray = ls at hl ⊢
  have hl : lv_has ls 4 [(0, .ref o), (1, .int a0), (2, .int a1)] := hl
  obtain ⟨Q, hQ⟩ : ∃ Q, Q = MQ below (va_Qi (fun (r1 : Int32) (M1 : MS) => r1 = r_ ∧ M1 = M) (m_C D cI cJ o sz) (m_A o)) args s 0 0 (m_A o) := ⟨_, rfl⟩
  rw [← hQ]
  suffices hmain : ∀ (H : Heap) (locs : List Loc), va_P D z_cls (m_W cI cJ o M) H → va_S (m_A o) s.heap H locs → W p l e (z_rm 2 75) s m args below meth c H locs 0 0 Q (F0 m 0 ls []) from hmain s.heap [] hP0 va_S.rf
  clear hP0
  intro H locs hP hS
  unfold f_X8_areTurns at h
  refine lv_aload_n hx hb dX8_areTurns_0 rfl (lv_at hl 0 rfl) ?_
  refine lv_iload_n hx hb dX8_areTurns_1 rfl (lv_at hl 1 rfl) ?_
  obtain ⟨r_1, er_1, h⟩ := z_bd_some h
  refine m_calli (As := [.int a0]) (r := r_1) (M' := M) (n := 1) hc hP hS (mt_X8_isFit l D cI cJ o H.size M a0 er_1) wM_X8_185 wI_X8_isFit wS_X8_isFit wZ_X8 wC_X8_isFit md_X8_isFit ⟨rfl, rfl, Nat.le_of_ble_eq_true rfl, Nat.le_of_ble_eq_true rfl⟩ rfl hl.1 rfl (Nat.le_of_ble_eq_true rfl) dX8_areTurns_2 ⟨Nat.zero_le _, Nat.zero_le _⟩ (fun H locs hP hS => ?_)
  obtain ⟨v_2, hJ, h⟩ := z_bd_some h
  have J_48 : ∀ (H : Heap) (locs : List Loc) (ls : Array Slot), va_P D z_cls (m_W cI cJ o M) H → va_S (m_A o) s.heap H locs → lv_has ls 4 [(0, .ref o), (1, .int a0), (2, .int a1)] → W p l e (z_rm 2 75) s m args below meth c H locs 0 0 Q (F0 m 48 ls [.int v_2]) := by
    intro H locs ls hP hS hl
    refine lv_istore_n (lv' := [(3, .int v_2), (0, .ref o), (1, .int a0), (2, .int a1)]) hx hb dX8_areTurns_48 rfl hl (by decide) rfl (fun ls hl => ?_)
    refine lv_iload_n hx hb dX8_areTurns_49 rfl (lv_at hl 0 rfl) ?_
    refine lv_if_eq (tgt := 71) hx hb dX8_areTurns_50 (by decide) (fun c_50 => ?_) (fun c_50 => ?_)
    · replace h := z_ip_ c_50 h
      refine lv_iconst (v := 0) hx hb dX8_areTurns_71 (by decide) ?_
      cases h
      rw [hQ]
      exact m_retz hc hr hlocks (by decide) hP hS hz dX8_areTurns_72
    · replace h := z_in_ c_50 h
      refine lv_iload_n hx hb dX8_areTurns_53 rfl (lv_at hl 3 rfl) ?_
      obtain ⟨r_3, er_3, h⟩ := z_bd_some h
      refine s_calli (As := [.int a1]) (r := r_3) (n := 1) hc.s (mt_X8_ones l a1 er_3) wM_X8_189 wT_X8_ones wZ_X8 wC_X8_ones md_X8_ones ⟨rfl, rfl, Nat.le_of_ble_eq_true rfl, Nat.le_of_ble_eq_true rfl⟩ rfl hl.1 rfl (Nat.le_of_ble_eq_true rfl) dX8_areTurns_54 ⟨Nat.zero_le _, Nat.zero_le _⟩ ?_
      refine lv_aload_n hx hb dX8_areTurns_57 rfl (lv_at hl 1 rfl) ?_
      refine lv_iload_n hx hb dX8_areTurns_58 rfl (lv_at hl 2 rfl) ?_
      obtain ⟨r_4, er_4, h⟩ := z_bd_some h
      refine m_calli (As := [.int a0]) (r := r_4) (M' := M) (n := 1) hc hP hS (mt_X8_freeNumbers l D cI cJ o H.size M a0 er_4) wM_X8_192 wI_X8_freeNumbers wS_X8_freeNumbers wZ_X8 wC_X8_freeNumbers md_X8_freeNumbers ⟨rfl, rfl, Nat.le_of_ble_eq_true rfl, Nat.le_of_ble_eq_true rfl⟩ rfl hl.1 rfl (Nat.le_of_ble_eq_true rfl) dX8_areTurns_59 ⟨Nat.zero_le _, Nat.zero_le _⟩ (fun H locs hP hS => ?_)
      refine lv_iconst (v := 1) hx hb dX8_areTurns_62 (by decide) ?_
      refine lv_iadd hx hb dX8_areTurns_63 ?_
      refine lv_icmp_ne (tgt := 71) hx hb dX8_areTurns_64 (by decide) (fun c_64 => ?_) (fun c_64 => ?_)
      · replace h := z_in_ c_64 h
        refine lv_iconst (v := 0) hx hb dX8_areTurns_71 (by decide) ?_
        cases h
        rw [hQ]
        exact m_retz hc hr hlocks (by decide) hP hS hz dX8_areTurns_72
      · replace h := z_ip_ c_64 h
        refine lv_iconst (v := 1) hx hb dX8_areTurns_67 (by decide) ?_
        refine lv_goto (tgt := 72) hx hb dX8_areTurns_68 (by decide) ?_
        cases h
        rw [hQ]
        exact m_retz hc hr hlocks (by decide) hP hS hz dX8_areTurns_72
  clear h
  have h := hJ
  clear hJ
  refine lv_if_eq (tgt := 47) hx hb dX8_areTurns_5 (by decide) (fun c_5 => ?_) (fun c_5 => ?_)
  · replace h := z_ip_ c_5 h
    refine lv_iconst (v := 0) hx hb dX8_areTurns_47 (by decide) ?_
    cases h
    exact J_48 H locs ls hP hS (lv_sub hl [0, 1, 2] rfl)
  · replace h := z_in_ c_5 h
    refine lv_aload_n hx hb dX8_areTurns_8 rfl (lv_at hl 0 rfl) ?_
    refine m_get (k := 5) (v := .ref (o + 5)) hc hP (by decide) wF_X8_22 rfl dX8_areTurns_9 ?_
    refine lv_iload_n hx hb dX8_areTurns_12 rfl (lv_at hl 1 rfl) ?_
    obtain ⟨c_13, h⟩ := z_chk_some h
    refine m_iald (k := 5) (j := 5) hc hP (ma_5 ..) c_13 dX8_areTurns_13 ?_
    refine lv_iconst (v := 1) hx hb dX8_areTurns_14 (by decide) ?_
    refine lv_icmp_eq (tgt := 28) hx hb dX8_areTurns_15 (by decide) (fun c_15 => ?_) (fun c_15 => ?_)
    · replace h := z_ip_ c_15 h
      refine lv_iload_n hx hb dX8_areTurns_28 rfl (lv_at hl 2 rfl) ?_
      refine lv_if_lt (tgt := 47) hx hb dX8_areTurns_29 (by decide) (fun c_29 => ?_) (fun c_29 => ?_)
      · replace h := z_ip_ c_29 h
        refine lv_iconst (v := 0) hx hb dX8_areTurns_47 (by decide) ?_
        cases h
        exact J_48 H locs ls hP hS (lv_sub hl [0, 1, 2] rfl)
      · replace h := z_in_ c_29 h
        refine lv_iload_n hx hb dX8_areTurns_32 rfl (lv_at hl 2 rfl) ?_
        refine lv_aload_n hx hb dX8_areTurns_33 rfl (lv_at hl 0 rfl) ?_
        refine m_get (k := 7) (v := .ref (o + 7)) hc hP (by decide) wF_X8_28 rfl dX8_areTurns_34 ?_
        refine lv_iload_n hx hb dX8_areTurns_37 rfl (lv_at hl 1 rfl) ?_
        obtain ⟨c_38, h⟩ := z_chk_some h
        refine m_iald (k := 7) (j := 7) hc hP (ma_7 ..) c_38 dX8_areTurns_38 ?_
        refine lv_ishr hx hb dX8_areTurns_39 ?_
        refine lv_if_ne (tgt := 47) hx hb dX8_areTurns_40 (by decide) (fun c_40 => ?_) (fun c_40 => ?_)
        · replace h := z_in_ c_40 h
          refine lv_iconst (v := 0) hx hb dX8_areTurns_47 (by decide) ?_
          cases h
          exact J_48 H locs ls hP hS (lv_sub hl [0, 1, 2] rfl)
        · replace h := z_ip_ c_40 h
          refine lv_iconst (v := 1) hx hb dX8_areTurns_43 (by decide) ?_
          refine lv_goto (tgt := 48) hx hb dX8_areTurns_44 (by decide) ?_
          cases h
          exact J_48 H locs ls hP hS (lv_sub hl [0, 1, 2] rfl)
    · replace h := z_in_ c_15 h
      refine lv_aload_n hx hb dX8_areTurns_18 rfl (lv_at hl 0 rfl) ?_
      refine m_get (k := 5) (v := .ref (o + 5)) hc hP (by decide) wF_X8_22 rfl dX8_areTurns_19 ?_
      refine lv_iload_n hx hb dX8_areTurns_22 rfl (lv_at hl 1 rfl) ?_
      obtain ⟨c_23, h⟩ := z_chk_some h
      refine m_iald (k := 5) (j := 5) hc hP (ma_5 ..) c_23 dX8_areTurns_23 ?_
      refine lv_iconst (v := 2) hx hb dX8_areTurns_24 (by decide) ?_
      refine lv_icmp_ne (tgt := 47) hx hb dX8_areTurns_25 (by decide) (fun c_25 => ?_) (fun c_25 => ?_)
      · replace h := z_in_ c_25 h
        refine lv_iconst (v := 0) hx hb dX8_areTurns_47 (by decide) ?_
        cases h
        exact J_48 H locs ls hP hS (lv_sub hl [0, 1, 2] rfl)
      · replace h := z_ip_ c_25 h
        refine lv_iload_n hx hb dX8_areTurns_28 rfl (lv_at hl 2 rfl) ?_
        refine lv_if_lt (tgt := 47) hx hb dX8_areTurns_29 (by decide) (fun c_29 => ?_) (fun c_29 => ?_)
        · replace h := z_ip_ c_29 h
          refine lv_iconst (v := 0) hx hb dX8_areTurns_47 (by decide) ?_
          cases h
          exact J_48 H locs ls hP hS (lv_sub hl [0, 1, 2] rfl)
        · replace h := z_in_ c_29 h
          refine lv_iload_n hx hb dX8_areTurns_32 rfl (lv_at hl 2 rfl) ?_
          refine lv_aload_n hx hb dX8_areTurns_33 rfl (lv_at hl 0 rfl) ?_
          refine m_get (k := 7) (v := .ref (o + 7)) hc hP (by decide) wF_X8_28 rfl dX8_areTurns_34 ?_
          refine lv_iload_n hx hb dX8_areTurns_37 rfl (lv_at hl 1 rfl) ?_
          obtain ⟨c_38, h⟩ := z_chk_some h
          refine m_iald (k := 7) (j := 7) hc hP (ma_7 ..) c_38 dX8_areTurns_38 ?_
          refine lv_ishr hx hb dX8_areTurns_39 ?_
          refine lv_if_ne (tgt := 47) hx hb dX8_areTurns_40 (by decide) (fun c_40 => ?_) (fun c_40 => ?_)
          · replace h := z_in_ c_40 h
            refine lv_iconst (v := 0) hx hb dX8_areTurns_47 (by decide) ?_
            cases h
            exact J_48 H locs ls hP hS (lv_sub hl [0, 1, 2] rfl)
          · replace h := z_ip_ c_40 h
            refine lv_iconst (v := 1) hx hb dX8_areTurns_43 (by decide) ?_
            refine lv_goto (tgt := 48) hx hb dX8_areTurns_44 (by decide) ?_
            cases h
            exact J_48 H locs ls hP hS (lv_sub hl [0, 1, 2] rfl)
theorem md_X8_areTurns : yX8_areTurns.cls ≠ "java/lang/invoke/MethodHandle" ∧ yX8_areTurns.cls ≠ "java/lang/invoke/VarHandle" ∧ (parseMethodDescriptor yX8_areTurns.desc).map (fun d => d.parameters.length) = some 2 := by decide +kernel
noncomputable def f_X8_isAhead (a0 : Int32) (a1 : Int32) : Option (Int32) :=
  if (((a0 ^^^ a1) &&& (-(a0 ^^^ a1))) &&& a0) = 0 then some (0 : Int32) else some (1 : Int32)
set_option maxHeartbeats 4000000 in
set_option maxRecDepth 100000 in
theorem mt_X8_isAhead (l : Launch) (a0 : Int32) (a1 : Int32) {r_ : Int32} (h : f_X8_isAhead a0 a1 = some r_) : Met l yX8_isAhead (z_wd yX8_isAhead cX8_isAhead 3 (some .boolean)) (z_rm 0 0) (va_Pc [.int a0, .int a1] (fun _ => True)) (vp_Si (fun r1 : Int32 => r1 = r_)) 0 0 (fun _ => False) := by
  refine Met.ofW (cc := cX8_isAhead) (maxL := 3) (ret := (some .boolean)) (by decide) rfl ?_
  intro p e s m args below meth c s₁ B hml hv
  obtain ⟨hav, -⟩ := hv
  have hx := B.exec
  have hb := B.bytes
  have hr := B.returns
  have hts := atoms_spec (ws := z_wd yX8_isAhead cX8_isAhead 3 (some .boolean)) B.pre
  have hown : s.vm.findClass RX8 = some m.cls := findClass_of_methodNamed B.named
  have hlocks := B.notSynchronized
  have hc : s_X p s m args c cX8_isAhead 3 RX8 := ⟨hx, hb, hml, fun w hw => hts w (List.mem_cons_of_mem _ hw), hown⟩
  have hl := lv_entry ([.int a0, .int a1]) (n := 3) (Nat.le_of_ble_eq_true rfl)
  have hE : entryFrame m args 3 = F0 m 0 ((lg_sl ([.int a0, .int a1]) ++ List.replicate (3 - (lg_sl ([.int a0, .int a1])).length) Slot.unset).toArray) [] := by rw [hav]; exact lg_entry_eq m _ _
  rw [hE]
  clear hE hav
  generalize (lg_sl ([.int a0, .int a1]) ++ List.replicate (3 - (lg_sl ([.int a0, .int a1])).length) Slot.unset).toArray = ls at hl ⊢
  have hl : lv_has ls 3 [(0, .int a0), (1, .int a1)] := hl
  obtain ⟨Q, hQ⟩ : ∃ Q, Q = MQ below (vp_Si (fun r1 : Int32 => r1 = r_)) args s 0 0 (fun _ => False) := ⟨_, rfl⟩
  rw [← hQ]
  show W p l e (z_rm 0 0) s m args below meth c s.heap [] 0 0 Q (F0 m 0 ls [])
  unfold f_X8_isAhead at h
  refine lv_iload_n hx hb dX8_isAhead_0 rfl (lv_at hl 0 rfl) ?_
  refine lv_iload_n hx hb dX8_isAhead_1 rfl (lv_at hl 1 rfl) ?_
  refine lv_ixor hx hb dX8_isAhead_2 ?_
  refine lv_istore_n (lv' := [(2, .int (a0 ^^^ a1)), (0, .int a0), (1, .int a1)]) hx hb dX8_isAhead_3 rfl hl (by decide) rfl (fun ls hl => ?_)
  refine lv_iload_n hx hb dX8_isAhead_4 rfl (lv_at hl 0 rfl) ?_
  refine lv_iload_n hx hb dX8_isAhead_5 rfl (lv_at hl 0 rfl) ?_
  refine lv_ineg hx hb dX8_isAhead_6 ?_
  refine lv_iand hx hb dX8_isAhead_7 ?_
  refine lv_iload_n hx hb dX8_isAhead_8 rfl (lv_at hl 1 rfl) ?_
  refine lv_iand hx hb dX8_isAhead_9 ?_
  refine lv_if_eq (tgt := 17) hx hb dX8_isAhead_10 (by decide) (fun c_10 => ?_) (fun c_10 => ?_)
  · replace h := z_ip_ c_10 h
    refine lv_iconst (v := 0) hx hb dX8_isAhead_17 (by decide) ?_
    cases h
    rw [hQ]
    exact s_retz hc hr hlocks (by decide) dX8_isAhead_18
  · replace h := z_in_ c_10 h
    refine lv_iconst (v := 1) hx hb dX8_isAhead_13 (by decide) ?_
    refine lv_goto (tgt := 18) hx hb dX8_isAhead_14 (by decide) ?_
    cases h
    rw [hQ]
    exact s_retz hc hr hlocks (by decide) dX8_isAhead_18
theorem md_X8_isAhead : yX8_isAhead.cls ≠ "java/lang/invoke/MethodHandle" ∧ yX8_isAhead.cls ≠ "java/lang/invoke/VarHandle" ∧ (parseMethodDescriptor yX8_isAhead.desc).map (fun d => d.parameters.length) = some 2 := by decide +kernel
