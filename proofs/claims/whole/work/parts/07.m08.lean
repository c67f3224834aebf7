noncomputable def f_X8_through_L2  (x3_1 : Int32) (M_2 : MS) : Option ((MS) ⊕ (Int32 × MS)) :=
  if (3 : Int32) ≤ x3_1 then some (.inl (M_2)) else z_chk (z_in x3_1 3) (z_lt (sJ M_2 28 x3_1.toNatClampNeg (0 : Int64)) fun M_4 => z_chk (z_in x3_1 3) (z_lt (sJ M_4 29 x3_1.toNatClampNeg (1 : Int64)) fun M_5 => some (.inr ((x3_1 + 1), M_5))))
noncomputable def f_X8_through (M : MS) (a0 : Int32) (a1 : Int32) : Option (MS) :=
  z_bd (z_lp (fun x => f_X8_through_L2  x.1 x.2) ((0 : Int32), M)) fun M_3 => if a1 = 0 then some M_3 else z_lt (sJ M_3 28 (0 : Int32).toNatClampNeg (M_3.2 24 (0 : Int32).toNatClampNeg)) fun M_6 => z_lt (sJ M_6 29 (0 : Int32).toNatClampNeg (M_6.2 25 (0 : Int32).toNatClampNeg)) fun M_7 => if a1 = (1 : Int32) then some M_7 else z_bd (f_X8_slope M_7 a0 (0 : Int32) (1 : Int32)) fun M_8 => z_bd3 (if a1 = (3 : Int32) then z_bd (f_X8_slope M_8 a0 (1 : Int32) (2 : Int32)) fun M_12 => z_bd (f_X8_plus M_12 (M_12.2 21 0) (M_12.2 22 0) (-(M_8.2 21 0)) (M_8.2 22 0)) fun M_13 => z_bd (f_X8_t M_13 a0 (2 : Int32)) fun r_14 => z_bd (f_X8_t M_13 a0 (0 : Int32)) fun r_15 => z_bd (f_X8_times M_13 (M_13.2 21 0) (M_13.2 22 0) (1 : Int64) (r_14 - r_15)) fun M_16 => some ((M_16.2 21 0), (M_16.2 22 0), M_16) else some ((0 : Int64), (1 : Int64), M_8)) fun x7_9 x9_10 M_11 => z_lt (sJ M_11 28 (2 : Int32).toNatClampNeg x7_9) fun M_17 => z_lt (sJ M_17 29 (2 : Int32).toNatClampNeg x9_10) fun M_18 => z_bd (f_X8_t M_18 a0 (0 : Int32)) fun r_19 => z_bd (f_X8_t M_18 a0 (1 : Int32)) fun r_20 => z_bd (f_X8_times M_18 x7_9 x9_10 (-(r_19 + r_20)) (1 : Int64)) fun M_21 => z_bd (f_X8_plus M_21 (M_21.2 21 0) (M_21.2 22 0) (M_8.2 21 0) (M_8.2 22 0)) fun M_22 => z_lt (sJ M_22 28 (1 : Int32).toNatClampNeg (M_22.2 21 0)) fun M_23 => z_lt (sJ M_23 29 (1 : Int32).toNatClampNeg (M_23.2 22 0)) fun M_24 => z_bd (f_X8_t M_24 a0 (0 : Int32)) fun r_25 => z_bd (f_X8_times M_24 x7_9 x9_10 r_25 (1 : Int64)) fun M_26 => z_bd (f_X8_plus M_26 (M_26.2 21 0) (M_26.2 22 0) (M_26.2 28 (1 : Int32).toNatClampNeg) (M_26.2 29 (1 : Int32).toNatClampNeg)) fun M_27 => z_bd (f_X8_t M_27 a0 (0 : Int32)) fun r_28 => z_bd (f_X8_times M_27 (M_27.2 21 0) (M_27.2 22 0) (-r_28) (1 : Int64)) fun M_29 => z_bd (f_X8_plus M_29 (M_29.2 21 0) (M_29.2 22 0) (M_29.2 24 (0 : Int32).toNatClampNeg) (M_29.2 25 (0 : Int32).toNatClampNeg)) fun M_30 => z_lt (sJ M_30 28 (0 : Int32).toNatClampNeg (M_30.2 21 0)) fun M_31 => z_lt (sJ M_31 29 (0 : Int32).toNatClampNeg (M_31.2 22 0)) fun M_32 => some M_32
set_option maxHeartbeats 4000000 in
set_option maxRecDepth 100000 in
theorem mt_X8_through (l : Launch) (D : va_G) (cI cJ : ClassId) (o sz : Nat) (M : MS) (a0 : Int32) (a1 : Int32) {N_ : MS} (h : f_X8_through M a0 a1 = some N_) : Met l yX8_through (z_wd yX8_through cX8_through 11 none) (z_rm 4 174) (va_Pc [.ref o, .int a0, .int a1] (m_C D cI cJ o sz M)) (va_Qv (fun (M1 : MS) => M1 = N_) (m_C D cI cJ o sz) (m_A o)) 0 0 (m_A o) := by
  refine Met.ofW (cc := cX8_through) (maxL := 11) (ret := none) (by decide) rfl ?_
  intro p e s m args below meth c s₁ B hml hv
  obtain ⟨hav, hz, hP0, hK⟩ := hv
  have hx := B.exec
  have hb := B.bytes
  have hr := B.returns
  have hts := atoms_spec (ws := z_wd yX8_through cX8_through 11 none) B.pre
  have hown : s.vm.findClass RX8 = some m.cls := findClass_of_methodNamed B.named
  have hlocks := B.notSynchronized
  have hc : m_X p s m args c cX8_through 11 D cI cJ := ⟨hx, hb, hml, fun w hw => hts w (List.mem_cons_of_mem _ hw), hown, hK⟩
  have hl := lv_entry ([.ref o, .int a0, .int a1]) (n := 11) (Nat.le_of_ble_eq_true rfl)
  have hE : entryFrame m args 11 = F0 m 0 ((lg_sl ([.ref o, .int a0, .int a1]) ++ List.replicate (11 - (lg_sl ([.ref o, .int a0, .int a1])).length) Slot.unset).toArray) [] := by rw [hav]; exact lg_entry_eq m _ _
  rw [hE]
  clear hE hav
  generalize (lg_sl ([.ref o, .int a0, .int a1]) ++ List.replicate (11 - (lg_sl ([.ref o, .int a0, .int a1])).length) Slot.unset).toArray = ls at hl ⊢
  have hl : lv_has ls 11 [(0, .ref o), (1, .int a0), (2, .int a1)] := hl
  obtain ⟨Q, hQ⟩ : ∃ Q, Q = MQ below (va_Qv (fun (M1 : MS) => M1 = N_) (m_C D cI cJ o sz) (m_A o)) args s 0 0 (m_A o) := ⟨_, rfl⟩
  rw [← hQ]
  suffices hmain : ∀ (H : Heap) (locs : List Loc), va_P D z_cls (m_W cI cJ o M) H → va_S (m_A o) s.heap H locs → W p l e (z_rm 4 174) s m args below meth c H locs 0 0 Q (F0 m 0 ls []) from hmain s.heap [] hP0 va_S.rf
  clear hP0
  intro H locs hP hS
  unfold f_X8_through at h
  refine lv_iconst (v := 0) hx hb dX8_through_0 (by decide) ?_
  refine lv_istore_n (lv' := [(3, .int (0 : Int32)), (0, .ref o), (1, .int a0), (2, .int a1)]) hx hb dX8_through_1 rfl hl (by decide) rfl (fun ls hl => ?_)
  obtain ⟨M_3, hlp, h⟩ := z_bd_some h
  refine z_lp_ind (P := fun x => ∀ (H : Heap) (locs : List Loc) (ls : Array Slot), va_P D z_cls (m_W cI cJ o x.2) H → va_S (m_A o) s.heap H locs → lv_has ls 11 [(0, .ref o), (1, .int a0), (2, .int a1), (3, .int x.1)] → W p l e (z_rm 4 174) s m args below meth c H locs 0 0 Q (F0 m 2 ls [])) (Qe := fun y => ∀ (H : Heap) (locs : List Loc) (ls : Array Slot), va_P D z_cls (m_W cI cJ o y) H → va_S (m_A o) s.heap H locs → lv_has ls 11 [(0, .ref o), (1, .int a0), (2, .int a1)] → W p l e (z_rm 4 174) s m args below meth c H locs 0 0 Q (F0 m 27 ls [])) ?_ hlp ?_ H locs ls hP hS (lv_sub hl [1, 2, 3, 0] rfl)
  · clear h hlp hP hS hl
    rintro ⟨x3_1, M_2⟩ oo h K_2 H locs ls hP hS hl
    have hP : va_P D z_cls (m_W cI cJ o M_2) H := hP
    have hl : lv_has ls 11 [(0, .ref o), (1, .int a0), (2, .int a1), (3, .int x3_1)] := hl
    have h : f_X8_through_L2  x3_1 M_2 = some oo := h
    unfold f_X8_through_L2 at h
    refine lv_iload_n hx hb dX8_through_2 rfl (lv_at hl 3 rfl) ?_
    refine lv_iconst (v := 3) hx hb dX8_through_3 (by decide) ?_
    refine lv_icmp_ge (tgt := 27) hx hb dX8_through_4 (by decide) (fun c_4 => ?_) (fun c_4 => ?_)
    · replace h := z_ip_ c_4 h
      cases h
      exact K_2 H locs ls hP hS (lv_sub hl [0, 1, 2] rfl)
    · replace h := z_in_ c_4 h
      refine lv_aload_n hx hb dX8_through_7 rfl (lv_at hl 0 rfl) ?_
      refine m_get (k := 28) (v := .ref (o + 22)) hc hP (by decide) wF_X8_78 rfl dX8_through_8 ?_
      refine lv_iload_n hx hb dX8_through_11 rfl (lv_at hl 3 rfl) ?_
      refine lv_lconst (v := 0) hx hb dX8_through_12 (by decide) ?_
      obtain ⟨c_13, h⟩ := z_chk_some h
      obtain ⟨M_4, eM_4, h⟩ := z_lt_some h
      refine m_last (k := 28) (j := 22) (M' := M_4) hc hP hS (ma_28 ..) c_13 (by rw [eM_4]; exact mp_28 ..) dX8_through_13 (fun H locs hP hS => ?_)
      refine lv_aload_n hx hb dX8_through_14 rfl (lv_at hl 0 rfl) ?_
      refine m_get (k := 29) (v := .ref (o + 23)) hc hP (by decide) wF_X8_81 rfl dX8_through_15 ?_
      refine lv_iload_n hx hb dX8_through_18 rfl (lv_at hl 3 rfl) ?_
      refine lv_lconst (v := 1) hx hb dX8_through_19 (by decide) ?_
      obtain ⟨c_20, h⟩ := z_chk_some h
      obtain ⟨M_5, eM_5, h⟩ := z_lt_some h
      refine m_last (k := 29) (j := 23) (M' := M_5) hc hP hS (ma_29 ..) c_20 (by rw [eM_5]; exact mp_29 ..) dX8_through_20 (fun H locs hP hS => ?_)
      refine lv_iinc (v := (x3_1 + 1)) (lv' := [(3, .int (x3_1 + 1)), (0, .ref o), (1, .int a0), (2, .int a1)]) hx hb dX8_through_21 hl (k := 3) rfl rfl (by decide) rfl (fun ls hl => ?_)
      refine lv_goto (tgt := 2) hx hb dX8_through_24 (by decide) ?_
      cases h
      exact K_2 H locs ls hP hS (lv_sub hl [1, 2, 3, 0] rfl)
  · clear hlp hP hS hl
    intro H locs ls hP hS hl
    have hP : va_P D z_cls (m_W cI cJ o M_3) H := hP
    have hl : lv_has ls 11 [(0, .ref o), (1, .int a0), (2, .int a1)] := hl
    refine lv_iload_n hx hb dX8_through_27 rfl (lv_at hl 2 rfl) ?_
    refine lv_if_ne (tgt := 32) hx hb dX8_through_28 (by decide) (fun c_28 => ?_) (fun c_28 => ?_)
    · replace h := z_in_ c_28 h
      refine lv_aload_n hx hb dX8_through_32 rfl (lv_at hl 0 rfl) ?_
      refine m_get (k := 28) (v := .ref (o + 22)) hc hP (by decide) wF_X8_78 rfl dX8_through_33 ?_
      refine lv_iconst (v := 0) hx hb dX8_through_36 (by decide) ?_
      refine lv_aload_n hx hb dX8_through_37 rfl (lv_at hl 0 rfl) ?_
      refine m_get (k := 24) (v := .ref (o + 20)) hc hP (by decide) wF_X8_72 rfl dX8_through_38 ?_
      refine lv_iconst (v := 0) hx hb dX8_through_41 (by decide) ?_
      refine m_lald (k := 24) (j := 20) hc hP (ma_24 ..) (show z_in (0 : Int32) 3 by decide) dX8_through_42 ?_
      obtain ⟨M_6, eM_6, h⟩ := z_lt_some h
      refine m_last (k := 28) (j := 22) (M' := M_6) hc hP hS (ma_28 ..) (show z_in (0 : Int32) 3 by decide) (by rw [eM_6]; exact mp_28 ..) dX8_through_43 (fun H locs hP hS => ?_)
      refine lv_aload_n hx hb dX8_through_44 rfl (lv_at hl 0 rfl) ?_
      refine m_get (k := 29) (v := .ref (o + 23)) hc hP (by decide) wF_X8_81 rfl dX8_through_45 ?_
      refine lv_iconst (v := 0) hx hb dX8_through_48 (by decide) ?_
      refine lv_aload_n hx hb dX8_through_49 rfl (lv_at hl 0 rfl) ?_
      refine m_get (k := 25) (v := .ref (o + 21)) hc hP (by decide) wF_X8_75 rfl dX8_through_50 ?_
      refine lv_iconst (v := 0) hx hb dX8_through_53 (by decide) ?_
      refine m_lald (k := 25) (j := 21) hc hP (ma_25 ..) (show z_in (0 : Int32) 3 by decide) dX8_through_54 ?_
      obtain ⟨M_7, eM_7, h⟩ := z_lt_some h
      refine m_last (k := 29) (j := 23) (M' := M_7) hc hP hS (ma_29 ..) (show z_in (0 : Int32) 3 by decide) (by rw [eM_7]; exact mp_29 ..) dX8_through_55 (fun H locs hP hS => ?_)
      refine lv_iload_n hx hb dX8_through_56 rfl (lv_at hl 2 rfl) ?_
      refine lv_iconst (v := 1) hx hb dX8_through_57 (by decide) ?_
      refine lv_icmp_ne (tgt := 62) hx hb dX8_through_58 (by decide) (fun c_58 => ?_) (fun c_58 => ?_)
      · replace h := z_in_ c_58 h
        refine lv_aload_n hx hb dX8_through_62 rfl (lv_at hl 0 rfl) ?_
        refine lv_iload_n hx hb dX8_through_63 rfl (lv_at hl 1 rfl) ?_
        refine lv_iconst (v := 0) hx hb dX8_through_64 (by decide) ?_
        refine lv_iconst (v := 1) hx hb dX8_through_65 (by decide) ?_
        obtain ⟨M_8, eM_8, h⟩ := z_bd_some h
        refine m_callv (As := [.int a0, .int (0 : Int32), .int (1 : Int32)]) (M' := M_8) (n := 3) hc hP hS (mt_X8_slope l D cI cJ o H.size M_7 a0 (0 : Int32) (1 : Int32) eM_8) wM_X8_160 wI_X8_slope wS_X8_slope wZ_X8 wC_X8_slope md_X8_slope ⟨rfl, rfl, Nat.le_of_ble_eq_true rfl, Nat.le_of_ble_eq_true rfl⟩ rfl hl.1 rfl (Nat.le_of_ble_eq_true rfl) dX8_through_66 ⟨Nat.zero_le _, Nat.zero_le _⟩ (fun H locs hP hS => ?_)
        refine lv_aload_n hx hb dX8_through_69 rfl (lv_at hl 0 rfl) ?_
        refine m_get (k := 21) (v := .long (M_8.2 21 0)) hc hP (by decide) wF_X8_108 rfl dX8_through_70 ?_
        refine lv_lstore_n (lv' := [(3, .long (M_8.2 21 0)), (0, .ref o), (1, .int a0), (2, .int a1)]) hx hb dX8_through_73 rfl hl (by decide) rfl (fun ls hl => ?_)
        refine lv_aload_n hx hb dX8_through_74 rfl (lv_at hl 1 rfl) ?_
        refine m_get (k := 22) (v := .long (M_8.2 22 0)) hc hP (by decide) wF_X8_65 rfl dX8_through_75 ?_
        refine lv_lstore (lv' := [(5, .long (M_8.2 22 0)), (3, .long (M_8.2 21 0)), (0, .ref o), (1, .int a0), (2, .int a1)]) hx hb dX8_through_78 hl (by decide) rfl (fun ls hl => ?_)
        refine lv_lconst (v := 0) hx hb dX8_through_80 (by decide) ?_
        refine lv_lstore (lv' := [(7, .long (0 : Int64)), (5, .long (M_8.2 22 0)), (3, .long (M_8.2 21 0)), (0, .ref o), (1, .int a0), (2, .int a1)]) hx hb dX8_through_81 hl (by decide) rfl (fun ls hl => ?_)
        refine lv_lconst (v := 1) hx hb dX8_through_83 (by decide) ?_
        refine lv_lstore (lv' := [(9, .long (1 : Int64)), (7, .long (0 : Int64)), (5, .long (M_8.2 22 0)), (3, .long (M_8.2 21 0)), (0, .ref o), (1, .int a0), (2, .int a1)]) hx hb dX8_through_84 hl (by decide) rfl (fun ls hl => ?_)
        refine lv_iload_n hx hb dX8_through_86 rfl (lv_at hl 6 rfl) ?_
        refine lv_iconst (v := 3) hx hb dX8_through_87 (by decide) ?_
        obtain ⟨x7_9, x9_10, M_11, hJ, h⟩ := z_bd3_some h
        have J_152 : ∀ (H : Heap) (locs : List Loc) (ls : Array Slot), va_P D z_cls (m_W cI cJ o M_11) H → va_S (m_A o) s.heap H locs → lv_has ls 11 [(0, .ref o), (1, .int a0), (3, .long (M_8.2 21 0)), (5, .long (M_8.2 22 0)), (7, .long x7_9), (9, .long x9_10)] → W p l e (z_rm 4 174) s m args below meth c H locs 0 0 Q (F0 m 152 ls []) := by
          intro H locs ls hP hS hl
          refine lv_aload_n hx hb dX8_through_152 rfl (lv_at hl 0 rfl) ?_
          refine m_get (k := 28) (v := .ref (o + 22)) hc hP (by decide) wF_X8_78 rfl dX8_through_153 ?_
          refine lv_iconst (v := 2) hx hb dX8_through_156 (by decide) ?_
          refine lv_lload hx hb dX8_through_157 (lv_at hl 4 rfl) ?_
          obtain ⟨M_17, eM_17, h⟩ := z_lt_some h
          refine m_last (k := 28) (j := 22) (M' := M_17) hc hP hS (ma_28 ..) (show z_in (2 : Int32) 3 by decide) (by rw [eM_17]; exact mp_28 ..) dX8_through_159 (fun H locs hP hS => ?_)
          refine lv_aload_n hx hb dX8_through_160 rfl (lv_at hl 0 rfl) ?_
          refine m_get (k := 29) (v := .ref (o + 23)) hc hP (by decide) wF_X8_81 rfl dX8_through_161 ?_
          refine lv_iconst (v := 2) hx hb dX8_through_164 (by decide) ?_
          refine lv_lload hx hb dX8_through_165 (lv_at hl 5 rfl) ?_
          obtain ⟨M_18, eM_18, h⟩ := z_lt_some h
          refine m_last (k := 29) (j := 23) (M' := M_18) hc hP hS (ma_29 ..) (show z_in (2 : Int32) 3 by decide) (by rw [eM_18]; exact mp_29 ..) dX8_through_167 (fun H locs hP hS => ?_)
          refine lv_aload_n hx hb dX8_through_168 rfl (lv_at hl 0 rfl) ?_
          refine lv_lload hx hb dX8_through_169 (lv_at hl 4 rfl) ?_
          refine lv_lload hx hb dX8_through_171 (lv_at hl 5 rfl) ?_
          refine lv_aload_n hx hb dX8_through_173 rfl (lv_at hl 0 rfl) ?_
          refine lv_iload_n hx hb dX8_through_174 rfl (lv_at hl 1 rfl) ?_
          refine lv_iconst (v := 0) hx hb dX8_through_175 (by decide) ?_
          obtain ⟨r_19, er_19, h⟩ := z_bd_some h
          refine m_calll (As := [.int a0, .int (0 : Int32)]) (r := r_19) (M' := M_18) (n := 2) hc hP hS (mt_X8_t l D cI cJ o H.size M_18 a0 (0 : Int32) er_19) wM_X8_149 wI_X8_t wS_X8_t wZ_X8 wC_X8_t md_X8_t ⟨rfl, rfl, Nat.le_of_ble_eq_true rfl, Nat.le_of_ble_eq_true rfl⟩ rfl hl.1 rfl (Nat.le_of_ble_eq_true rfl) dX8_through_176 ⟨Nat.zero_le _, Nat.zero_le _⟩ (fun H locs hP hS => ?_)
          refine lv_aload_n hx hb dX8_through_179 rfl (lv_at hl 0 rfl) ?_
          refine lv_iload_n hx hb dX8_through_180 rfl (lv_at hl 1 rfl) ?_
          refine lv_iconst (v := 1) hx hb dX8_through_181 (by decide) ?_
          obtain ⟨r_20, er_20, h⟩ := z_bd_some h
          refine m_calll (As := [.int a0, .int (1 : Int32)]) (r := r_20) (M' := M_18) (n := 2) hc hP hS (mt_X8_t l D cI cJ o H.size M_18 a0 (1 : Int32) er_20) wM_X8_149 wI_X8_t wS_X8_t wZ_X8 wC_X8_t md_X8_t ⟨rfl, rfl, Nat.le_of_ble_eq_true rfl, Nat.le_of_ble_eq_true rfl⟩ rfl hl.1 rfl (Nat.le_of_ble_eq_true rfl) dX8_through_182 ⟨Nat.zero_le _, Nat.zero_le _⟩ (fun H locs hP hS => ?_)
          refine lv_ladd hx hb dX8_through_185 ?_
          refine lv_lneg hx hb dX8_through_186 ?_
          refine lv_lconst (v := 1) hx hb dX8_through_187 (by decide) ?_
          obtain ⟨M_21, eM_21, h⟩ := z_bd_some h
          refine m_callv (As := [.long x7_9, .long x9_10, .long (-(r_19 + r_20)), .long (1 : Int64)]) (M' := M_21) (n := 4) hc hP hS (mt_X8_times l D cI cJ o H.size M_18 x7_9 x9_10 (-(r_19 + r_20)) (1 : Int64) eM_21) wM_X8_168 wI_X8_times wS_X8_times wZ_X8 wC_X8_times md_X8_times ⟨rfl, rfl, Nat.le_of_ble_eq_true rfl, Nat.le_of_ble_eq_true rfl⟩ rfl hl.1 rfl (Nat.le_of_ble_eq_true rfl) dX8_through_188 ⟨Nat.zero_le _, Nat.zero_le _⟩ (fun H locs hP hS => ?_)
          refine lv_aload_n hx hb dX8_through_191 rfl (lv_at hl 0 rfl) ?_
          refine lv_aload_n hx hb dX8_through_192 rfl (lv_at hl 0 rfl) ?_
          refine m_get (k := 21) (v := .long (M_21.2 21 0)) hc hP (by decide) wF_X8_108 rfl dX8_through_193 ?_
          refine lv_aload_n hx hb dX8_through_196 rfl (lv_at hl 0 rfl) ?_
          refine m_get (k := 22) (v := .long (M_21.2 22 0)) hc hP (by decide) wF_X8_65 rfl dX8_through_197 ?_
          refine lv_lload_n hx hb dX8_through_200 rfl (lv_at hl 2 rfl) ?_
          refine lv_lload hx hb dX8_through_201 (lv_at hl 3 rfl) ?_
          obtain ⟨M_22, eM_22, h⟩ := z_bd_some h
          refine m_callv (As := [.long (M_21.2 21 0), .long (M_21.2 22 0), .long (M_8.2 21 0), .long (M_8.2 22 0)]) (M' := M_22) (n := 4) hc hP hS (mt_X8_plus l D cI cJ o H.size M_21 (M_21.2 21 0) (M_21.2 22 0) (M_8.2 21 0) (M_8.2 22 0) eM_22) wM_X8_164 wI_X8_plus wS_X8_plus wZ_X8 wC_X8_plus md_X8_plus ⟨rfl, rfl, Nat.le_of_ble_eq_true rfl, Nat.le_of_ble_eq_true rfl⟩ rfl hl.1 rfl (Nat.le_of_ble_eq_true rfl) dX8_through_203 ⟨Nat.zero_le _, Nat.zero_le _⟩ (fun H locs hP hS => ?_)
          refine lv_aload_n hx hb dX8_through_206 rfl (lv_at hl 0 rfl) ?_
          refine m_get (k := 28) (v := .ref (o + 22)) hc hP (by decide) wF_X8_78 rfl dX8_through_207 ?_
          refine lv_iconst (v := 1) hx hb dX8_through_210 (by decide) ?_
          refine lv_aload_n hx hb dX8_through_211 rfl (lv_at hl 0 rfl) ?_
          refine m_get (k := 21) (v := .long (M_22.2 21 0)) hc hP (by decide) wF_X8_108 rfl dX8_through_212 ?_
          obtain ⟨M_23, eM_23, h⟩ := z_lt_some h
          refine m_last (k := 28) (j := 22) (M' := M_23) hc hP hS (ma_28 ..) (show z_in (1 : Int32) 3 by decide) (by rw [eM_23]; exact mp_28 ..) dX8_through_215 (fun H locs hP hS => ?_)
          refine lv_aload_n hx hb dX8_through_216 rfl (lv_at hl 0 rfl) ?_
          refine m_get (k := 29) (v := .ref (o + 23)) hc hP (by decide) wF_X8_81 rfl dX8_through_217 ?_
          refine lv_iconst (v := 1) hx hb dX8_through_220 (by decide) ?_
          refine lv_aload_n hx hb dX8_through_221 rfl (lv_at hl 0 rfl) ?_
          refine m_get (k := 22) (v := .long (M_23.2 22 0)) hc hP (by decide) wF_X8_65 rfl dX8_through_222 ?_
          obtain ⟨M_24, eM_24, h⟩ := z_lt_some h
          refine m_last (k := 29) (j := 23) (M' := M_24) hc hP hS (ma_29 ..) (show z_in (1 : Int32) 3 by decide) (by rw [eM_24]; exact mp_29 ..) dX8_through_225 (fun H locs hP hS => ?_)
          refine lv_aload_n hx hb dX8_through_226 rfl (lv_at hl 0 rfl) ?_
          refine lv_lload hx hb dX8_through_227 (lv_at hl 4 rfl) ?_
          refine lv_lload hx hb dX8_through_229 (lv_at hl 5 rfl) ?_
          refine lv_aload_n hx hb dX8_through_231 rfl (lv_at hl 0 rfl) ?_
          refine lv_iload_n hx hb dX8_through_232 rfl (lv_at hl 1 rfl) ?_
          refine lv_iconst (v := 0) hx hb dX8_through_233 (by decide) ?_
          obtain ⟨r_25, er_25, h⟩ := z_bd_some h
          refine m_calll (As := [.int a0, .int (0 : Int32)]) (r := r_25) (M' := M_24) (n := 2) hc hP hS (mt_X8_t l D cI cJ o H.size M_24 a0 (0 : Int32) er_25) wM_X8_149 wI_X8_t wS_X8_t wZ_X8 wC_X8_t md_X8_t ⟨rfl, rfl, Nat.le_of_ble_eq_true rfl, Nat.le_of_ble_eq_true rfl⟩ rfl hl.1 rfl (Nat.le_of_ble_eq_true rfl) dX8_through_234 ⟨Nat.zero_le _, Nat.zero_le _⟩ (fun H locs hP hS => ?_)
          refine lv_lconst (v := 1) hx hb dX8_through_237 (by decide) ?_
          obtain ⟨M_26, eM_26, h⟩ := z_bd_some h
          refine m_callv (As := [.long x7_9, .long x9_10, .long r_25, .long (1 : Int64)]) (M' := M_26) (n := 4) hc hP hS (mt_X8_times l D cI cJ o H.size M_24 x7_9 x9_10 r_25 (1 : Int64) eM_26) wM_X8_168 wI_X8_times wS_X8_times wZ_X8 wC_X8_times md_X8_times ⟨rfl, rfl, Nat.le_of_ble_eq_true rfl, Nat.le_of_ble_eq_true rfl⟩ rfl hl.1 rfl (Nat.le_of_ble_eq_true rfl) dX8_through_238 ⟨Nat.zero_le _, Nat.zero_le _⟩ (fun H locs hP hS => ?_)
          refine lv_aload_n hx hb dX8_through_241 rfl (lv_at hl 0 rfl) ?_
          refine lv_aload_n hx hb dX8_through_242 rfl (lv_at hl 0 rfl) ?_
          refine m_get (k := 21) (v := .long (M_26.2 21 0)) hc hP (by decide) wF_X8_108 rfl dX8_through_243 ?_
          refine lv_aload_n hx hb dX8_through_246 rfl (lv_at hl 0 rfl) ?_
          refine m_get (k := 22) (v := .long (M_26.2 22 0)) hc hP (by decide) wF_X8_65 rfl dX8_through_247 ?_
          refine lv_aload_n hx hb dX8_through_250 rfl (lv_at hl 0 rfl) ?_
          refine m_get (k := 28) (v := .ref (o + 22)) hc hP (by decide) wF_X8_78 rfl dX8_through_251 ?_
          refine lv_iconst (v := 1) hx hb dX8_through_254 (by decide) ?_
          refine m_lald (k := 28) (j := 22) hc hP (ma_28 ..) (show z_in (1 : Int32) 3 by decide) dX8_through_255 ?_
          refine lv_aload_n hx hb dX8_through_256 rfl (lv_at hl 0 rfl) ?_
          refine m_get (k := 29) (v := .ref (o + 23)) hc hP (by decide) wF_X8_81 rfl dX8_through_257 ?_
          refine lv_iconst (v := 1) hx hb dX8_through_260 (by decide) ?_
          refine m_lald (k := 29) (j := 23) hc hP (ma_29 ..) (show z_in (1 : Int32) 3 by decide) dX8_through_261 ?_
          obtain ⟨M_27, eM_27, h⟩ := z_bd_some h
          refine m_callv (As := [.long (M_26.2 21 0), .long (M_26.2 22 0), .long (M_26.2 28 (1 : Int32).toNatClampNeg), .long (M_26.2 29 (1 : Int32).toNatClampNeg)]) (M' := M_27) (n := 4) hc hP hS (mt_X8_plus l D cI cJ o H.size M_26 (M_26.2 21 0) (M_26.2 22 0) (M_26.2 28 (1 : Int32).toNatClampNeg) (M_26.2 29 (1 : Int32).toNatClampNeg) eM_27) wM_X8_164 wI_X8_plus wS_X8_plus wZ_X8 wC_X8_plus md_X8_plus ⟨rfl, rfl, Nat.le_of_ble_eq_true rfl, Nat.le_of_ble_eq_true rfl⟩ rfl hl.1 rfl (Nat.le_of_ble_eq_true rfl) dX8_through_262 ⟨Nat.zero_le _, Nat.zero_le _⟩ (fun H locs hP hS => ?_)
          refine lv_aload_n hx hb dX8_through_265 rfl (lv_at hl 0 rfl) ?_
          refine lv_aload_n hx hb dX8_through_266 rfl (lv_at hl 0 rfl) ?_
          refine m_get (k := 21) (v := .long (M_27.2 21 0)) hc hP (by decide) wF_X8_108 rfl dX8_through_267 ?_
          refine lv_aload_n hx hb dX8_through_270 rfl (lv_at hl 0 rfl) ?_
          refine m_get (k := 22) (v := .long (M_27.2 22 0)) hc hP (by decide) wF_X8_65 rfl dX8_through_271 ?_
          refine lv_aload_n hx hb dX8_through_274 rfl (lv_at hl 0 rfl) ?_
          refine lv_iload_n hx hb dX8_through_275 rfl (lv_at hl 1 rfl) ?_
          refine lv_iconst (v := 0) hx hb dX8_through_276 (by decide) ?_
          obtain ⟨r_28, er_28, h⟩ := z_bd_some h
          refine m_calll (As := [.int a0, .int (0 : Int32)]) (r := r_28) (M' := M_27) (n := 2) hc hP hS (mt_X8_t l D cI cJ o H.size M_27 a0 (0 : Int32) er_28) wM_X8_149 wI_X8_t wS_X8_t wZ_X8 wC_X8_t md_X8_t ⟨rfl, rfl, Nat.le_of_ble_eq_true rfl, Nat.le_of_ble_eq_true rfl⟩ rfl hl.1 rfl (Nat.le_of_ble_eq_true rfl) dX8_through_277 ⟨Nat.zero_le _, Nat.zero_le _⟩ (fun H locs hP hS => ?_)
          refine lv_lneg hx hb dX8_through_280 ?_
          refine lv_lconst (v := 1) hx hb dX8_through_281 (by decide) ?_
          obtain ⟨M_29, eM_29, h⟩ := z_bd_some h
          refine m_callv (As := [.long (M_27.2 21 0), .long (M_27.2 22 0), .long (-r_28), .long (1 : Int64)]) (M' := M_29) (n := 4) hc hP hS (mt_X8_times l D cI cJ o H.size M_27 (M_27.2 21 0) (M_27.2 22 0) (-r_28) (1 : Int64) eM_29) wM_X8_168 wI_X8_times wS_X8_times wZ_X8 wC_X8_times md_X8_times ⟨rfl, rfl, Nat.le_of_ble_eq_true rfl, Nat.le_of_ble_eq_true rfl⟩ rfl hl.1 rfl (Nat.le_of_ble_eq_true rfl) dX8_through_282 ⟨Nat.zero_le _, Nat.zero_le _⟩ (fun H locs hP hS => ?_)
          refine lv_aload_n hx hb dX8_through_285 rfl (lv_at hl 0 rfl) ?_
          refine lv_aload_n hx hb dX8_through_286 rfl (lv_at hl 0 rfl) ?_
          refine m_get (k := 21) (v := .long (M_29.2 21 0)) hc hP (by decide) wF_X8_108 rfl dX8_through_287 ?_
          refine lv_aload_n hx hb dX8_through_290 rfl (lv_at hl 0 rfl) ?_
          refine m_get (k := 22) (v := .long (M_29.2 22 0)) hc hP (by decide) wF_X8_65 rfl dX8_through_291 ?_
          refine lv_aload_n hx hb dX8_through_294 rfl (lv_at hl 0 rfl) ?_
          refine m_get (k := 24) (v := .ref (o + 20)) hc hP (by decide) wF_X8_72 rfl dX8_through_295 ?_
          refine lv_iconst (v := 0) hx hb dX8_through_298 (by decide) ?_
          refine m_lald (k := 24) (j := 20) hc hP (ma_24 ..) (show z_in (0 : Int32) 3 by decide) dX8_through_299 ?_
          refine lv_aload_n hx hb dX8_through_300 rfl (lv_at hl 0 rfl) ?_
          refine m_get (k := 25) (v := .ref (o + 21)) hc hP (by decide) wF_X8_75 rfl dX8_through_301 ?_
          refine lv_iconst (v := 0) hx hb dX8_through_304 (by decide) ?_
          refine m_lald (k := 25) (j := 21) hc hP (ma_25 ..) (show z_in (0 : Int32) 3 by decide) dX8_through_305 ?_
          obtain ⟨M_30, eM_30, h⟩ := z_bd_some h
          refine m_callv (As := [.long (M_29.2 21 0), .long (M_29.2 22 0), .long (M_29.2 24 (0 : Int32).toNatClampNeg), .long (M_29.2 25 (0 : Int32).toNatClampNeg)]) (M' := M_30) (n := 4) hc hP hS (mt_X8_plus l D cI cJ o H.size M_29 (M_29.2 21 0) (M_29.2 22 0) (M_29.2 24 (0 : Int32).toNatClampNeg) (M_29.2 25 (0 : Int32).toNatClampNeg) eM_30) wM_X8_164 wI_X8_plus wS_X8_plus wZ_X8 wC_X8_plus md_X8_plus ⟨rfl, rfl, Nat.le_of_ble_eq_true rfl, Nat.le_of_ble_eq_true rfl⟩ rfl hl.1 rfl (Nat.le_of_ble_eq_true rfl) dX8_through_306 ⟨Nat.zero_le _, Nat.zero_le _⟩ (fun H locs hP hS => ?_)
          refine lv_aload_n hx hb dX8_through_309 rfl (lv_at hl 0 rfl) ?_
          refine m_get (k := 28) (v := .ref (o + 22)) hc hP (by decide) wF_X8_78 rfl dX8_through_310 ?_
          refine lv_iconst (v := 0) hx hb dX8_through_313 (by decide) ?_
          refine lv_aload_n hx hb dX8_through_314 rfl (lv_at hl 0 rfl) ?_
          refine m_get (k := 21) (v := .long (M_30.2 21 0)) hc hP (by decide) wF_X8_108 rfl dX8_through_315 ?_
          obtain ⟨M_31, eM_31, h⟩ := z_lt_some h
          refine m_last (k := 28) (j := 22) (M' := M_31) hc hP hS (ma_28 ..) (show z_in (0 : Int32) 3 by decide) (by rw [eM_31]; exact mp_28 ..) dX8_through_318 (fun H locs hP hS => ?_)
          refine lv_aload_n hx hb dX8_through_319 rfl (lv_at hl 0 rfl) ?_
          refine m_get (k := 29) (v := .ref (o + 23)) hc hP (by decide) wF_X8_81 rfl dX8_through_320 ?_
          refine lv_iconst (v := 0) hx hb dX8_through_323 (by decide) ?_
          refine lv_aload_n hx hb dX8_through_324 rfl (lv_at hl 0 rfl) ?_
          refine m_get (k := 22) (v := .long (M_31.2 22 0)) hc hP (by decide) wF_X8_65 rfl dX8_through_325 ?_
          obtain ⟨M_32, eM_32, h⟩ := z_lt_some h
          refine m_last (k := 29) (j := 23) (M' := M_32) hc hP hS (ma_29 ..) (show z_in (0 : Int32) 3 by decide) (by rw [eM_32]; exact mp_29 ..) dX8_through_328 (fun H locs hP hS => ?_)
          cases h
          rw [hQ]
          exact m_retv hc hr hlocks hP hS hz dX8_through_329
        clear h
        have h := hJ
        clear hJ
        refine lv_icmp_ne (tgt := 152) hx hb dX8_through_88 (by decide) (fun c_88 => ?_) (fun c_88 => ?_)
        · replace h := z_in_ c_88 h
          cases h
          exact J_152 H locs ls hP hS (lv_sub hl [4, 5, 3, 2, 1, 0] rfl)
        · replace h := z_ip_ c_88 h
          refine lv_aload_n hx hb dX8_through_91 rfl (lv_at hl 4 rfl) ?_
          refine lv_iload_n hx hb dX8_through_92 rfl (lv_at hl 5 rfl) ?_
          refine lv_iconst (v := 1) hx hb dX8_through_93 (by decide) ?_
          refine lv_iconst (v := 2) hx hb dX8_through_94 (by decide) ?_
          obtain ⟨M_12, eM_12, h⟩ := z_bd_some h
          refine m_callv (As := [.int a0, .int (1 : Int32), .int (2 : Int32)]) (M' := M_12) (n := 3) hc hP hS (mt_X8_slope l D cI cJ o H.size M_8 a0 (1 : Int32) (2 : Int32) eM_12) wM_X8_160 wI_X8_slope wS_X8_slope wZ_X8 wC_X8_slope md_X8_slope ⟨rfl, rfl, Nat.le_of_ble_eq_true rfl, Nat.le_of_ble_eq_true rfl⟩ rfl hl.1 rfl (Nat.le_of_ble_eq_true rfl) dX8_through_95 ⟨Nat.zero_le _, Nat.zero_le _⟩ (fun H locs hP hS => ?_)
          refine lv_aload_n hx hb dX8_through_98 rfl (lv_at hl 4 rfl) ?_
          refine lv_aload_n hx hb dX8_through_99 rfl (lv_at hl 4 rfl) ?_
          refine m_get (k := 21) (v := .long (M_12.2 21 0)) hc hP (by decide) wF_X8_108 rfl dX8_through_100 ?_
          refine lv_aload_n hx hb dX8_through_103 rfl (lv_at hl 4 rfl) ?_
          refine m_get (k := 22) (v := .long (M_12.2 22 0)) hc hP (by decide) wF_X8_65 rfl dX8_through_104 ?_
          refine lv_lload_n hx hb dX8_through_107 rfl (lv_at hl 3 rfl) ?_
          refine lv_lneg hx hb dX8_through_108 ?_
          refine lv_lload hx hb dX8_through_109 (lv_at hl 2 rfl) ?_
          obtain ⟨M_13, eM_13, h⟩ := z_bd_some h
          refine m_callv (As := [.long (M_12.2 21 0), .long (M_12.2 22 0), .long (-(M_8.2 21 0)), .long (M_8.2 22 0)]) (M' := M_13) (n := 4) hc hP hS (mt_X8_plus l D cI cJ o H.size M_12 (M_12.2 21 0) (M_12.2 22 0) (-(M_8.2 21 0)) (M_8.2 22 0) eM_13) wM_X8_164 wI_X8_plus wS_X8_plus wZ_X8 wC_X8_plus md_X8_plus ⟨rfl, rfl, Nat.le_of_ble_eq_true rfl, Nat.le_of_ble_eq_true rfl⟩ rfl hl.1 rfl (Nat.le_of_ble_eq_true rfl) dX8_through_111 ⟨Nat.zero_le _, Nat.zero_le _⟩ (fun H locs hP hS => ?_)
          refine lv_aload_n hx hb dX8_through_114 rfl (lv_at hl 4 rfl) ?_
          refine lv_aload_n hx hb dX8_through_115 rfl (lv_at hl 4 rfl) ?_
          refine m_get (k := 21) (v := .long (M_13.2 21 0)) hc hP (by decide) wF_X8_108 rfl dX8_through_116 ?_
          refine lv_aload_n hx hb dX8_through_119 rfl (lv_at hl 4 rfl) ?_
          refine m_get (k := 22) (v := .long (M_13.2 22 0)) hc hP (by decide) wF_X8_65 rfl dX8_through_120 ?_
          refine lv_lconst (v := 1) hx hb dX8_through_123 (by decide) ?_
          refine lv_aload_n hx hb dX8_through_124 rfl (lv_at hl 4 rfl) ?_
          refine lv_iload_n hx hb dX8_through_125 rfl (lv_at hl 5 rfl) ?_
          refine lv_iconst (v := 2) hx hb dX8_through_126 (by decide) ?_
          obtain ⟨r_14, er_14, h⟩ := z_bd_some h
          refine m_calll (As := [.int a0, .int (2 : Int32)]) (r := r_14) (M' := M_13) (n := 2) hc hP hS (mt_X8_t l D cI cJ o H.size M_13 a0 (2 : Int32) er_14) wM_X8_149 wI_X8_t wS_X8_t wZ_X8 wC_X8_t md_X8_t ⟨rfl, rfl, Nat.le_of_ble_eq_true rfl, Nat.le_of_ble_eq_true rfl⟩ rfl hl.1 rfl (Nat.le_of_ble_eq_true rfl) dX8_through_127 ⟨Nat.zero_le _, Nat.zero_le _⟩ (fun H locs hP hS => ?_)
          refine lv_aload_n hx hb dX8_through_130 rfl (lv_at hl 4 rfl) ?_
          refine lv_iload_n hx hb dX8_through_131 rfl (lv_at hl 5 rfl) ?_
          refine lv_iconst (v := 0) hx hb dX8_through_132 (by decide) ?_
          obtain ⟨r_15, er_15, h⟩ := z_bd_some h
          refine m_calll (As := [.int a0, .int (0 : Int32)]) (r := r_15) (M' := M_13) (n := 2) hc hP hS (mt_X8_t l D cI cJ o H.size M_13 a0 (0 : Int32) er_15) wM_X8_149 wI_X8_t wS_X8_t wZ_X8 wC_X8_t md_X8_t ⟨rfl, rfl, Nat.le_of_ble_eq_true rfl, Nat.le_of_ble_eq_true rfl⟩ rfl hl.1 rfl (Nat.le_of_ble_eq_true rfl) dX8_through_133 ⟨Nat.zero_le _, Nat.zero_le _⟩ (fun H locs hP hS => ?_)
          refine lv_lsub hx hb dX8_through_136 ?_
          obtain ⟨M_16, eM_16, h⟩ := z_bd_some h
          refine m_callv (As := [.long (M_13.2 21 0), .long (M_13.2 22 0), .long (1 : Int64), .long (r_14 - r_15)]) (M' := M_16) (n := 4) hc hP hS (mt_X8_times l D cI cJ o H.size M_13 (M_13.2 21 0) (M_13.2 22 0) (1 : Int64) (r_14 - r_15) eM_16) wM_X8_168 wI_X8_times wS_X8_times wZ_X8 wC_X8_times md_X8_times ⟨rfl, rfl, Nat.le_of_ble_eq_true rfl, Nat.le_of_ble_eq_true rfl⟩ rfl hl.1 rfl (Nat.le_of_ble_eq_true rfl) dX8_through_137 ⟨Nat.zero_le _, Nat.zero_le _⟩ (fun H locs hP hS => ?_)
          refine lv_aload_n hx hb dX8_through_140 rfl (lv_at hl 4 rfl) ?_
          refine m_get (k := 21) (v := .long (M_16.2 21 0)) hc hP (by decide) wF_X8_108 rfl dX8_through_141 ?_
          refine lv_lstore (lv' := [(7, .long (M_16.2 21 0)), (9, .long (1 : Int64)), (5, .long (M_8.2 22 0)), (3, .long (M_8.2 21 0)), (0, .ref o), (1, .int a0), (2, .int a1)]) hx hb dX8_through_144 hl (by decide) rfl (fun ls hl => ?_)
          refine lv_aload_n hx hb dX8_through_146 rfl (lv_at hl 4 rfl) ?_
          refine m_get (k := 22) (v := .long (M_16.2 22 0)) hc hP (by decide) wF_X8_65 rfl dX8_through_147 ?_
          refine lv_lstore (lv' := [(9, .long (M_16.2 22 0)), (7, .long (M_16.2 21 0)), (5, .long (M_8.2 22 0)), (3, .long (M_8.2 21 0)), (0, .ref o), (1, .int a0), (2, .int a1)]) hx hb dX8_through_150 hl (by decide) rfl (fun ls hl => ?_)
          cases h
          exact J_152 H locs ls hP hS (lv_sub hl [4, 5, 3, 2, 1, 0] rfl)
      · replace h := z_ip_ c_58 h
        cases h
        rw [hQ]
        exact m_retv hc hr hlocks hP hS hz dX8_through_61
    · replace h := z_ip_ c_28 h
      cases h
      rw [hQ]
      exact m_retv hc hr hlocks hP hS hz dX8_through_31
theorem md_X8_through : yX8_through.cls ≠ "java/lang/invoke/MethodHandle" ∧ yX8_through.cls ≠ "java/lang/invoke/VarHandle" ∧ (parseMethodDescriptor yX8_through.desc).map (fun d => d.parameters.length) = some 2 := by decide +kernel
noncomputable def f_X8_freeNumbers (M : MS) (a0 : Int32) : Option (Int32) :=
  z_chk (z_in a0 10) (if (M.1 5 a0.toNatClampNeg) = (2 : Int32) then some (2 : Int32) else z_chk (z_in a0 10) (some ((M.1 6 a0.toNatClampNeg) + (1 : Int32))))
set_option maxHeartbeats 4000000 in
set_option maxRecDepth 100000 in
theorem mt_X8_freeNumbers (l : Launch) (D : va_G) (cI cJ : ClassId) (o sz : Nat) (M : MS) (a0 : Int32) {r_ : Int32} (h : f_X8_freeNumbers M a0 = some r_) : Met l yX8_freeNumbers (z_wd yX8_freeNumbers cX8_freeNumbers 2 (some .int)) (z_rm 0 0) (va_Pc [.ref o, .int a0] (m_C D cI cJ o sz M)) (va_Qi (fun (r1 : Int32) (M1 : MS) => r1 = r_ ∧ M1 = M) (m_C D cI cJ o sz) (m_A o)) 0 0 (m_A o) := by
  refine Met.ofW (cc := cX8_freeNumbers) (maxL := 2) (ret := (some .int)) (by decide) rfl ?_
  intro p e s m args below meth c s₁ B hml hv
  obtain ⟨hav, hz, hP0, hK⟩ := hv
  have hx := B.exec
  have hb := B.bytes
  have hr := B.returns
  have hts := atoms_spec (ws := z_wd yX8_freeNumbers cX8_freeNumbers 2 (some .int)) B.pre
  have hown : s.vm.findClass RX8 = some m.cls := findClass_of_methodNamed B.named
  have hlocks := B.notSynchronized
  have hc : m_X p s m args c cX8_freeNumbers 2 D cI cJ := ⟨hx, hb, hml, fun w hw => hts w (List.mem_cons_of_mem _ hw), hown, hK⟩
  have hl := lv_entry ([.ref o, .int a0]) (n := 2) (Nat.le_of_ble_eq_true rfl)
  have hE : entryFrame m args 2 = F0 m 0 ((lg_sl ([.ref o, .int a0]) ++ List.replicate (2 - (lg_sl ([.ref o, .int a0])).length) Slot.unset).toArray) [] := by rw [hav]; exact lg_entry_eq m _ _
  rw [hE]
  clear hE hav
  generalize (lg_sl ([.ref o, .int a0]) ++ List.replicate (2 - (lg_sl ([.ref o, .int a0])).length) Slot.unset).toArray = ls at hl ⊢
  have hl : lv_has ls 2 [(0, .ref o), (1, .int a0)] := hl
  obtain ⟨Q, hQ⟩ : ∃ Q, Q = MQ below (va_Qi (fun (r1 : Int32) (M1 : MS) => r1 = r_ ∧ M1 = M) (m_C D cI cJ o sz) (m_A o)) args s 0 0 (m_A o) := ⟨_, rfl⟩
  rw [← hQ]
  suffices hmain : ∀ (H : Heap) (locs : List Loc), va_P D z_cls (m_W cI cJ o M) H → va_S (m_A o) s.heap H locs → W p l e (z_rm 0 0) s m args below meth c H locs 0 0 Q (F0 m 0 ls []) from hmain s.heap [] hP0 va_S.rf
  clear hP0
  intro H locs hP hS
  unfold f_X8_freeNumbers at h
  refine lv_aload_n hx hb dX8_freeNumbers_0 rfl (lv_at hl 0 rfl) ?_
  refine m_get (k := 5) (v := .ref (o + 5)) hc hP (by decide) wF_X8_22 rfl dX8_freeNumbers_1 ?_
  refine lv_iload_n hx hb dX8_freeNumbers_4 rfl (lv_at hl 1 rfl) ?_
  obtain ⟨c_5, h⟩ := z_chk_some h
  refine m_iald (k := 5) (j := 5) hc hP (ma_5 ..) c_5 dX8_freeNumbers_5 ?_
  refine lv_iconst (v := 2) hx hb dX8_freeNumbers_6 (by decide) ?_
  refine lv_icmp_ne (tgt := 14) hx hb dX8_freeNumbers_7 (by decide) (fun c_7 => ?_) (fun c_7 => ?_)
  · replace h := z_in_ c_7 h
    refine lv_aload_n hx hb dX8_freeNumbers_14 rfl (lv_at hl 0 rfl) ?_
    refine m_get (k := 6) (v := .ref (o + 6)) hc hP (by decide) wF_X8_25 rfl dX8_freeNumbers_15 ?_
    refine lv_iload_n hx hb dX8_freeNumbers_18 rfl (lv_at hl 1 rfl) ?_
    obtain ⟨c_19, h⟩ := z_chk_some h
    refine m_iald (k := 6) (j := 6) hc hP (ma_6 ..) c_19 dX8_freeNumbers_19 ?_
    refine lv_iconst (v := 1) hx hb dX8_freeNumbers_20 (by decide) ?_
    refine lv_iadd hx hb dX8_freeNumbers_21 ?_
    cases h
    rw [hQ]
    exact m_reti hc hr hlocks hP hS hz dX8_freeNumbers_22
  · replace h := z_ip_ c_7 h
    refine lv_iconst (v := 2) hx hb dX8_freeNumbers_10 (by decide) ?_
    refine lv_goto (tgt := 22) hx hb dX8_freeNumbers_11 (by decide) ?_
    cases h
    rw [hQ]
    exact m_reti hc hr hlocks hP hS hz dX8_freeNumbers_22
theorem md_X8_freeNumbers : yX8_freeNumbers.cls ≠ "java/lang/invoke/MethodHandle" ∧ yX8_freeNumbers.cls ≠ "java/lang/invoke/VarHandle" ∧ (parseMethodDescriptor yX8_freeNumbers.desc).map (fun d => d.parameters.length) = some 1 := by decide +kernel
noncomputable def f_X8_ofX (M : MS) (a0 : Int32) : Option (MS) :=
  z_chk (z_in a0 10) (if (M.1 5 a0.toNatClampNeg) = (2 : Int32) then z_lt (sJ M 28 (2 : Int32).toNatClampNeg (M.2 28 (1 : Int32).toNatClampNeg)) fun M_1 => z_lt (sJ M_1 29 (2 : Int32).toNatClampNeg (M_1.2 29 (1 : Int32).toNatClampNeg)) fun M_2 => z_lt (sJ M_2 28 (1 : Int32).toNatClampNeg (0 : Int64)) fun M_3 => z_lt (sJ M_3 29 (1 : Int32).toNatClampNeg (1 : Int64)) fun M_4 => some M_4 else some M)
set_option maxHeartbeats 4000000 in
set_option maxRecDepth 100000 in
theorem mt_X8_ofX (l : Launch) (D : va_G) (cI cJ : ClassId) (o sz : Nat) (M : MS) (a0 : Int32) {N_ : MS} (h : f_X8_ofX M a0 = some N_) : Met l yX8_ofX (z_wd yX8_ofX cX8_ofX 2 none) (z_rm 0 0) (va_Pc [.ref o, .int a0] (m_C D cI cJ o sz M)) (va_Qv (fun (M1 : MS) => M1 = N_) (m_C D cI cJ o sz) (m_A o)) 0 0 (m_A o) := by
  refine Met.ofW (cc := cX8_ofX) (maxL := 2) (ret := none) (by decide) rfl ?_
  intro p e s m args below meth c s₁ B hml hv
  obtain ⟨hav, hz, hP0, hK⟩ := hv
  have hx := B.exec
  have hb := B.bytes
  have hr := B.returns
  have hts := atoms_spec (ws := z_wd yX8_ofX cX8_ofX 2 none) B.pre
  have hown : s.vm.findClass RX8 = some m.cls := findClass_of_methodNamed B.named
  have hlocks := B.notSynchronized
  have hc : m_X p s m args c cX8_ofX 2 D cI cJ := ⟨hx, hb, hml, fun w hw => hts w (List.mem_cons_of_mem _ hw), hown, hK⟩
  have hl := lv_entry ([.ref o, .int a0]) (n := 2) (Nat.le_of_ble_eq_true rfl)
  have hE : entryFrame m args 2 = F0 m 0 ((lg_sl ([.ref o, .int a0]) ++ List.replicate (2 - (lg_sl ([.ref o, .int a0])).length) Slot.unset).toArray) [] := by rw [hav]; exact lg_entry_eq m _ _
  rw [hE]
  clear hE hav
  generalize (lg_sl ([.ref o, .int a0]) ++ List.replicate (2 - (lg_sl ([.ref o, .int a0])).length) Slot.unset).toArray = ls at hl ⊢
  have hl : lv_has ls 2 [(0, .ref o), (1, .int a0)] := hl
  obtain ⟨Q, hQ⟩ : ∃ Q, Q = MQ below (va_Qv (fun (M1 : MS) => M1 = N_) (m_C D cI cJ o sz) (m_A o)) args s 0 0 (m_A o) := ⟨_, rfl⟩
  rw [← hQ]
  suffices hmain : ∀ (H : Heap) (locs : List Loc), va_P D z_cls (m_W cI cJ o M) H → va_S (m_A o) s.heap H locs → W p l e (z_rm 0 0) s m args below meth c H locs 0 0 Q (F0 m 0 ls []) from hmain s.heap [] hP0 va_S.rf
  clear hP0
  intro H locs hP hS
  unfold f_X8_ofX at h
  refine lv_aload_n hx hb dX8_ofX_0 rfl (lv_at hl 0 rfl) ?_
  refine m_get (k := 5) (v := .ref (o + 5)) hc hP (by decide) wF_X8_22 rfl dX8_ofX_1 ?_
  refine lv_iload_n hx hb dX8_ofX_4 rfl (lv_at hl 1 rfl) ?_
  obtain ⟨c_5, h⟩ := z_chk_some h
  refine m_iald (k := 5) (j := 5) hc hP (ma_5 ..) c_5 dX8_ofX_5 ?_
  refine lv_iconst (v := 2) hx hb dX8_ofX_6 (by decide) ?_
  refine lv_icmp_ne (tgt := 48) hx hb dX8_ofX_7 (by decide) (fun c_7 => ?_) (fun c_7 => ?_)
  · replace h := z_in_ c_7 h
    cases h
    rw [hQ]
    exact m_retv hc hr hlocks hP hS hz dX8_ofX_48
  · replace h := z_ip_ c_7 h
    refine lv_aload_n hx hb dX8_ofX_10 rfl (lv_at hl 0 rfl) ?_
    refine m_get (k := 28) (v := .ref (o + 22)) hc hP (by decide) wF_X8_78 rfl dX8_ofX_11 ?_
    refine lv_iconst (v := 2) hx hb dX8_ofX_14 (by decide) ?_
    refine lv_aload_n hx hb dX8_ofX_15 rfl (lv_at hl 0 rfl) ?_
    refine m_get (k := 28) (v := .ref (o + 22)) hc hP (by decide) wF_X8_78 rfl dX8_ofX_16 ?_
    refine lv_iconst (v := 1) hx hb dX8_ofX_19 (by decide) ?_
    refine m_lald (k := 28) (j := 22) hc hP (ma_28 ..) (show z_in (1 : Int32) 3 by decide) dX8_ofX_20 ?_
    obtain ⟨M_1, eM_1, h⟩ := z_lt_some h
    refine m_last (k := 28) (j := 22) (M' := M_1) hc hP hS (ma_28 ..) (show z_in (2 : Int32) 3 by decide) (by rw [eM_1]; exact mp_28 ..) dX8_ofX_21 (fun H locs hP hS => ?_)
    refine lv_aload_n hx hb dX8_ofX_22 rfl (lv_at hl 0 rfl) ?_
    refine m_get (k := 29) (v := .ref (o + 23)) hc hP (by decide) wF_X8_81 rfl dX8_ofX_23 ?_
    refine lv_iconst (v := 2) hx hb dX8_ofX_26 (by decide) ?_
    refine lv_aload_n hx hb dX8_ofX_27 rfl (lv_at hl 0 rfl) ?_
    refine m_get (k := 29) (v := .ref (o + 23)) hc hP (by decide) wF_X8_81 rfl dX8_ofX_28 ?_
    refine lv_iconst (v := 1) hx hb dX8_ofX_31 (by decide) ?_
    refine m_lald (k := 29) (j := 23) hc hP (ma_29 ..) (show z_in (1 : Int32) 3 by decide) dX8_ofX_32 ?_
    obtain ⟨M_2, eM_2, h⟩ := z_lt_some h
    refine m_last (k := 29) (j := 23) (M' := M_2) hc hP hS (ma_29 ..) (show z_in (2 : Int32) 3 by decide) (by rw [eM_2]; exact mp_29 ..) dX8_ofX_33 (fun H locs hP hS => ?_)
    refine lv_aload_n hx hb dX8_ofX_34 rfl (lv_at hl 0 rfl) ?_
    refine m_get (k := 28) (v := .ref (o + 22)) hc hP (by decide) wF_X8_78 rfl dX8_ofX_35 ?_
    refine lv_iconst (v := 1) hx hb dX8_ofX_38 (by decide) ?_
    refine lv_lconst (v := 0) hx hb dX8_ofX_39 (by decide) ?_
    obtain ⟨M_3, eM_3, h⟩ := z_lt_some h
    refine m_last (k := 28) (j := 22) (M' := M_3) hc hP hS (ma_28 ..) (show z_in (1 : Int32) 3 by decide) (by rw [eM_3]; exact mp_28 ..) dX8_ofX_40 (fun H locs hP hS => ?_)
    refine lv_aload_n hx hb dX8_ofX_41 rfl (lv_at hl 0 rfl) ?_
    refine m_get (k := 29) (v := .ref (o + 23)) hc hP (by decide) wF_X8_81 rfl dX8_ofX_42 ?_
    refine lv_iconst (v := 1) hx hb dX8_ofX_45 (by decide) ?_
    refine lv_lconst (v := 1) hx hb dX8_ofX_46 (by decide) ?_
    obtain ⟨M_4, eM_4, h⟩ := z_lt_some h
    refine m_last (k := 29) (j := 23) (M' := M_4) hc hP hS (ma_29 ..) (show z_in (1 : Int32) 3 by decide) (by rw [eM_4]; exact mp_29 ..) dX8_ofX_47 (fun H locs hP hS => ?_)
    cases h
    rw [hQ]
    exact m_retv hc hr hlocks hP hS hz dX8_ofX_48
theorem md_X8_ofX : yX8_ofX.cls ≠ "java/lang/invoke/MethodHandle" ∧ yX8_ofX.cls ≠ "java/lang/invoke/VarHandle" ∧ (parseMethodDescriptor yX8_ofX.desc).map (fun d => d.parameters.length) = some 1 := by decide +kernel
