noncomputable def f_X8_miss (M : MS) (a0 : Int32) (a1 : Int32) (a2 : Int32) : Option (Int64 × MS) :=
  z_bd (f_X8_isFit M a0) fun r_1 => if r_1 = 0 then some ((-1000000000000 : Int64), M) else z_chk (z_in a0 10) (z_bd (f_X8_in a1 (0 : Int32) ((M.1 7 a0.toNatClampNeg) - (1 : Int32))) fun r_2 => if r_2 = 0 then some ((-1000000000000 : Int64), M) else z_bd (f_X8_in a2 (0 : Int32) (1 : Int32)) fun r_3 => if r_3 = 0 then some ((-1000000000000 : Int64), M) else z_bd (f_X8_missAt M a0 a1) fun M_4 => z_bd (f_X8_told_ M_4 a2) fun r_5 => some (r_5, M_4))
set_option maxHeartbeats 4000000 in
set_option maxRecDepth 100000 in
theorem mt_X8_miss (l : Launch) (D : va_G) (cI cJ : ClassId) (o sz : Nat) (M : MS) (a0 : Int32) (a1 : Int32) (a2 : Int32) {r_ : Int64} {N_ : MS} (h : f_X8_miss M a0 a1 a2 = some (r_, N_)) : Met l yX8_miss (z_wd yX8_miss cX8_miss 4 (some .long)) (z_rm 6 263) (va_Pc [.ref o, .int a0, .int a1, .int a2] (m_C D cI cJ o sz M)) (va_Ql (fun (r1 : Int64) (M1 : MS) => r1 = r_ ∧ M1 = N_) (m_C D cI cJ o sz) (m_A o)) 0 0 (m_A o) := by
  refine Met.ofW (cc := cX8_miss) (maxL := 4) (ret := (some .long)) (by decide) rfl ?_
  intro p e s m args below meth c s₁ B hml hv
  obtain ⟨hav, hz, hP0, hK⟩ := hv
  have hx := B.exec
  have hb := B.bytes
  have hr := B.returns
  have hts := atoms_spec (ws := z_wd yX8_miss cX8_miss 4 (some .long)) B.pre
  have hown : s.vm.findClass RX8 = some m.cls := findClass_of_methodNamed B.named
  have hlocks := B.notSynchronized
  have hc : m_X p s m args c cX8_miss 4 D cI cJ := ⟨hx, hb, hml, fun w hw => hts w (List.mem_cons_of_mem _ hw), hown, hK⟩
  have hl := lv_entry ([.ref o, .int a0, .int a1, .int a2]) (n := 4) (Nat.le_of_ble_eq_true rfl)
  have hE : entryFrame m args 4 = F0 m 0 ((lg_sl ([.ref o, .int a0, .int a1, .int a2]) ++ List.replicate (4 - (lg_sl ([.ref o, .int a0, .int a1, .int a2])).length) Slot.unset).toArray) [] := by rw [hav]; exact lg_entry_eq m _ _
  rw [hE]
  clear hE hav
  generalize (lg_sl ([.ref o, .int a0, .int a1, .int a2]) ++ List.replicate (4 - (lg_sl ([.ref o, .int a0, .int a1, .int a2])).length) Slot.unset).toArray = ls at hl ⊢
  have hl : lv_has ls 4 [(0, .ref o), (1, .int a0), (2, .int a1), (3, .int a2)] := hl
  obtain ⟨Q, hQ⟩ : ∃ Q, Q = MQ below (va_Ql (fun (r1 : Int64) (M1 : MS) => r1 = r_ ∧ M1 = N_) (m_C D cI cJ o sz) (m_A o)) args s 0 0 (m_A o) := ⟨_, rfl⟩
  rw [← hQ]
  suffices hmain : ∀ (H : Heap) (locs : List Loc), va_P D z_cls (m_W cI cJ o M) H → va_S (m_A o) s.heap H locs → W p l e (z_rm 6 263) s m args below meth c H locs 0 0 Q (F0 m 0 ls []) from hmain s.heap [] hP0 va_S.rf
  clear hP0
  intro H locs hP hS
  unfold f_X8_miss at h
  refine lv_aload_n hx hb dX8_miss_0 rfl (lv_at hl 0 rfl) ?_
  refine lv_iload_n hx hb dX8_miss_1 rfl (lv_at hl 1 rfl) ?_
  obtain ⟨r_1, er_1, h⟩ := z_bd_some h
  refine m_calli (As := [.int a0]) (r := r_1) (M' := M) (n := 1) hc hP hS (mt_X8_isFit l D cI cJ o H.size M a0 er_1) wM_X8_185 wI_X8_isFit wS_X8_isFit wZ_X8 wC_X8_isFit md_X8_isFit ⟨rfl, rfl, Nat.le_of_ble_eq_true rfl, Nat.le_of_ble_eq_true rfl⟩ rfl hl.1 rfl (Nat.le_of_ble_eq_true rfl) dX8_miss_2 ⟨Nat.zero_le _, Nat.zero_le _⟩ (fun H locs hP hS => ?_)
  refine lv_if_eq (tgt := 33) hx hb dX8_miss_5 (by decide) (fun c_5 => ?_) (fun c_5 => ?_)
  · replace h := z_ip_ c_5 h
    refine lv_ldc2 (v := -1000000000000) hx hb hc.s.2.2.2.2 (hc.s.2.2.2.1 _ wL_X8_220) dX8_miss_33 ?_
    cases h
    rw [hQ]
    exact m_retl hc hr hlocks hP hS hz dX8_miss_36
  · replace h := z_in_ c_5 h
    refine lv_iload_n hx hb dX8_miss_8 rfl (lv_at hl 2 rfl) ?_
    refine lv_iconst (v := 0) hx hb dX8_miss_9 (by decide) ?_
    refine lv_aload_n hx hb dX8_miss_10 rfl (lv_at hl 0 rfl) ?_
    refine m_get (k := 7) (v := .ref (o + 7)) hc hP (by decide) wF_X8_28 rfl dX8_miss_11 ?_
    refine lv_iload_n hx hb dX8_miss_14 rfl (lv_at hl 1 rfl) ?_
    obtain ⟨c_15, h⟩ := z_chk_some h
    refine m_iald (k := 7) (j := 7) hc hP (ma_7 ..) c_15 dX8_miss_15 ?_
    refine lv_iconst (v := 1) hx hb dX8_miss_16 (by decide) ?_
    refine lv_isub hx hb dX8_miss_17 ?_
    obtain ⟨r_2, er_2, h⟩ := z_bd_some h
    refine s_calli (As := [.int a1, .int (0 : Int32), .int ((M.1 7 a0.toNatClampNeg) - (1 : Int32))]) (r := r_2) (n := 3) hc.s (mt_X8_in l a1 (0 : Int32) ((M.1 7 a0.toNatClampNeg) - (1 : Int32)) er_2) wM_X8_100 wT_X8_in wZ_X8 wC_X8_in md_X8_in ⟨rfl, rfl, Nat.le_of_ble_eq_true rfl, Nat.le_of_ble_eq_true rfl⟩ rfl hl.1 rfl (Nat.le_of_ble_eq_true rfl) dX8_miss_18 ⟨Nat.zero_le _, Nat.zero_le _⟩ ?_
    refine lv_if_eq (tgt := 33) hx hb dX8_miss_21 (by decide) (fun c_21 => ?_) (fun c_21 => ?_)
    · replace h := z_ip_ c_21 h
      refine lv_ldc2 (v := -1000000000000) hx hb hc.s.2.2.2.2 (hc.s.2.2.2.1 _ wL_X8_220) dX8_miss_33 ?_
      cases h
      rw [hQ]
      exact m_retl hc hr hlocks hP hS hz dX8_miss_36
    · replace h := z_in_ c_21 h
      refine lv_iload_n hx hb dX8_miss_24 rfl (lv_at hl 3 rfl) ?_
      refine lv_iconst (v := 0) hx hb dX8_miss_25 (by decide) ?_
      refine lv_iconst (v := 1) hx hb dX8_miss_26 (by decide) ?_
      obtain ⟨r_3, er_3, h⟩ := z_bd_some h
      refine s_calli (As := [.int a2, .int (0 : Int32), .int (1 : Int32)]) (r := r_3) (n := 3) hc.s (mt_X8_in l a2 (0 : Int32) (1 : Int32) er_3) wM_X8_100 wT_X8_in wZ_X8 wC_X8_in md_X8_in ⟨rfl, rfl, Nat.le_of_ble_eq_true rfl, Nat.le_of_ble_eq_true rfl⟩ rfl hl.1 rfl (Nat.le_of_ble_eq_true rfl) dX8_miss_27 ⟨Nat.zero_le _, Nat.zero_le _⟩ ?_
      refine lv_if_ne (tgt := 37) hx hb dX8_miss_30 (by decide) (fun c_30 => ?_) (fun c_30 => ?_)
      · replace h := z_in_ c_30 h
        refine lv_aload_n hx hb dX8_miss_37 rfl (lv_at hl 0 rfl) ?_
        refine lv_iload_n hx hb dX8_miss_38 rfl (lv_at hl 1 rfl) ?_
        refine lv_iload_n hx hb dX8_miss_39 rfl (lv_at hl 2 rfl) ?_
        obtain ⟨M_4, eM_4, h⟩ := z_bd_some h
        refine m_callv (As := [.int a0, .int a1]) (M' := M_4) (n := 2) hc hP hS (mt_X8_missAt l D cI cJ o H.size M a0 a1 eM_4) wM_X8_238 wI_X8_missAt wS_X8_missAt wZ_X8 wC_X8_missAt md_X8_missAt ⟨rfl, rfl, Nat.le_of_ble_eq_true rfl, Nat.le_of_ble_eq_true rfl⟩ rfl hl.1 rfl (Nat.le_of_ble_eq_true rfl) dX8_miss_40 ⟨Nat.zero_le _, Nat.zero_le _⟩ (fun H locs hP hS => ?_)
        refine lv_aload_n hx hb dX8_miss_43 rfl (lv_at hl 0 rfl) ?_
        refine lv_iload_n hx hb dX8_miss_44 rfl (lv_at hl 3 rfl) ?_
        obtain ⟨r_5, er_5, h⟩ := z_bd_some h
        refine m_calll (As := [.int a2]) (r := r_5) (M' := M_4) (n := 1) hc hP hS (mt_X8_told_ l D cI cJ o H.size M_4 a2 er_5) wM_X8_250 wI_X8_told_ wS_X8_told_ wZ_X8 wC_X8_told_ md_X8_told_ ⟨rfl, rfl, Nat.le_of_ble_eq_true rfl, Nat.le_of_ble_eq_true rfl⟩ rfl hl.1 rfl (Nat.le_of_ble_eq_true rfl) dX8_miss_45 ⟨Nat.zero_le _, Nat.zero_le _⟩ (fun H locs hP hS => ?_)
        cases h
        rw [hQ]
        exact m_retl hc hr hlocks hP hS hz dX8_miss_48
      · replace h := z_ip_ c_30 h
        refine lv_ldc2 (v := -1000000000000) hx hb hc.s.2.2.2.2 (hc.s.2.2.2.1 _ wL_X8_220) dX8_miss_33 ?_
        cases h
        rw [hQ]
        exact m_retl hc hr hlocks hP hS hz dX8_miss_36
theorem md_X8_miss : yX8_miss.cls ≠ "java/lang/invoke/MethodHandle" ∧ yX8_miss.cls ≠ "java/lang/invoke/VarHandle" ∧ (parseMethodDescriptor yX8_miss.desc).map (fun d => d.parameters.length) = some 3 := by decide +kernel
noncomputable def f_X8_level (M : MS) (a0 : Int32) (a1 : Int32) : Option (Int64 × MS) :=
  z_bd (f_X8_isFit M a0) fun r_1 => if r_1 = 0 then some ((-1000000000000 : Int64), M) else z_bd (f_X8_in a1 (0 : Int32) (1 : Int32)) fun r_2 => if r_2 = 0 then some ((-1000000000000 : Int64), M) else z_bd (f_X8_findLevel M a0) fun M_3 => if a1 = 0 then some ((M_3.2 33 0), M_3) else some ((M_3.2 34 0), M_3)
set_option maxHeartbeats 4000000 in
set_option maxRecDepth 100000 in
theorem mt_X8_level (l : Launch) (D : va_G) (cI cJ : ClassId) (o sz : Nat) (M : MS) (a0 : Int32) (a1 : Int32) {r_ : Int64} {N_ : MS} (h : f_X8_level M a0 a1 = some (r_, N_)) : Met l yX8_level (z_wd yX8_level cX8_level 3 (some .long)) (z_rm 7 303) (va_Pc [.ref o, .int a0, .int a1] (m_C D cI cJ o sz M)) (va_Ql (fun (r1 : Int64) (M1 : MS) => r1 = r_ ∧ M1 = N_) (m_C D cI cJ o sz) (m_A o)) 0 0 (m_A o) := by
  refine Met.ofW (cc := cX8_level) (maxL := 3) (ret := (some .long)) (by decide) rfl ?_
  intro p e s m args below meth c s₁ B hml hv
  obtain ⟨hav, hz, hP0, hK⟩ := hv
  have hx := B.exec
  have hb := B.bytes
  have hr := B.returns
  have hts := atoms_spec (ws := z_wd yX8_level cX8_level 3 (some .long)) B.pre
  have hown : s.vm.findClass RX8 = some m.cls := findClass_of_methodNamed B.named
  have hlocks := B.notSynchronized
  have hc : m_X p s m args c cX8_level 3 D cI cJ := ⟨hx, hb, hml, fun w hw => hts w (List.mem_cons_of_mem _ hw), hown, hK⟩
  have hl := lv_entry ([.ref o, .int a0, .int a1]) (n := 3) (Nat.le_of_ble_eq_true rfl)
  have hE : entryFrame m args 3 = F0 m 0 ((lg_sl ([.ref o, .int a0, .int a1]) ++ List.replicate (3 - (lg_sl ([.ref o, .int a0, .int a1])).length) Slot.unset).toArray) [] := by rw [hav]; exact lg_entry_eq m _ _
  rw [hE]
  clear hE hav
  generalize (lg_sl ([.ref o, .int a0, .int a1]) ++ List.replicate (3 - (lg_sl ([.ref o, .int a0, .int a1])).length) Slot.unset).toArray = ls at hl ⊢
  have hl : lv_has ls 3 [(0, .ref o), (1, .int a0), (2, .int a1)] := hl
  obtain ⟨Q, hQ⟩ : ∃ Q, Q = MQ below (va_Ql (fun (r1 : Int64) (M1 : MS) => r1 = r_ ∧ M1 = N_) (m_C D cI cJ o sz) (m_A o)) args s 0 0 (m_A o) := ⟨_, rfl⟩
  rw [← hQ]
  suffices hmain : ∀ (H : Heap) (locs : List Loc), va_P D z_cls (m_W cI cJ o M) H → va_S (m_A o) s.heap H locs → W p l e (z_rm 7 303) s m args below meth c H locs 0 0 Q (F0 m 0 ls []) from hmain s.heap [] hP0 va_S.rf
  clear hP0
  intro H locs hP hS
  unfold f_X8_level at h
  refine lv_aload_n hx hb dX8_level_0 rfl (lv_at hl 0 rfl) ?_
  refine lv_iload_n hx hb dX8_level_1 rfl (lv_at hl 1 rfl) ?_
  obtain ⟨r_1, er_1, h⟩ := z_bd_some h
  refine m_calli (As := [.int a0]) (r := r_1) (M' := M) (n := 1) hc hP hS (mt_X8_isFit l D cI cJ o H.size M a0 er_1) wM_X8_185 wI_X8_isFit wS_X8_isFit wZ_X8 wC_X8_isFit md_X8_isFit ⟨rfl, rfl, Nat.le_of_ble_eq_true rfl, Nat.le_of_ble_eq_true rfl⟩ rfl hl.1 rfl (Nat.le_of_ble_eq_true rfl) dX8_level_2 ⟨Nat.zero_le _, Nat.zero_le _⟩ (fun H locs hP hS => ?_)
  refine lv_if_eq (tgt := 17) hx hb dX8_level_5 (by decide) (fun c_5 => ?_) (fun c_5 => ?_)
  · replace h := z_ip_ c_5 h
    refine lv_ldc2 (v := -1000000000000) hx hb hc.s.2.2.2.2 (hc.s.2.2.2.1 _ wL_X8_220) dX8_level_17 ?_
    cases h
    rw [hQ]
    exact m_retl hc hr hlocks hP hS hz dX8_level_20
  · replace h := z_in_ c_5 h
    refine lv_iload_n hx hb dX8_level_8 rfl (lv_at hl 2 rfl) ?_
    refine lv_iconst (v := 0) hx hb dX8_level_9 (by decide) ?_
    refine lv_iconst (v := 1) hx hb dX8_level_10 (by decide) ?_
    obtain ⟨r_2, er_2, h⟩ := z_bd_some h
    refine s_calli (As := [.int a1, .int (0 : Int32), .int (1 : Int32)]) (r := r_2) (n := 3) hc.s (mt_X8_in l a1 (0 : Int32) (1 : Int32) er_2) wM_X8_100 wT_X8_in wZ_X8 wC_X8_in md_X8_in ⟨rfl, rfl, Nat.le_of_ble_eq_true rfl, Nat.le_of_ble_eq_true rfl⟩ rfl hl.1 rfl (Nat.le_of_ble_eq_true rfl) dX8_level_11 ⟨Nat.zero_le _, Nat.zero_le _⟩ ?_
    refine lv_if_ne (tgt := 21) hx hb dX8_level_14 (by decide) (fun c_14 => ?_) (fun c_14 => ?_)
    · replace h := z_in_ c_14 h
      refine lv_aload_n hx hb dX8_level_21 rfl (lv_at hl 0 rfl) ?_
      refine lv_iload_n hx hb dX8_level_22 rfl (lv_at hl 1 rfl) ?_
      obtain ⟨M_3, eM_3, h⟩ := z_bd_some h
      refine m_callv (As := [.int a0]) (M' := M_3) (n := 1) hc hP hS (mt_X8_findLevel l D cI cJ o H.size M a0 eM_3) wM_X8_241 wI_X8_findLevel wS_X8_findLevel wZ_X8 wC_X8_findLevel md_X8_findLevel ⟨rfl, rfl, Nat.le_of_ble_eq_true rfl, Nat.le_of_ble_eq_true rfl⟩ rfl hl.1 rfl (Nat.le_of_ble_eq_true rfl) dX8_level_23 ⟨Nat.zero_le _, Nat.zero_le _⟩ (fun H locs hP hS => ?_)
      refine lv_iload_n hx hb dX8_level_26 rfl (lv_at hl 2 rfl) ?_
      refine lv_if_ne (tgt := 37) hx hb dX8_level_27 (by decide) (fun c_27 => ?_) (fun c_27 => ?_)
      · replace h := z_in_ c_27 h
        refine lv_aload_n hx hb dX8_level_37 rfl (lv_at hl 0 rfl) ?_
        refine m_get (k := 34) (v := .long (M_3.2 34 0)) hc hP (by decide) wF_X8_235 rfl dX8_level_38 ?_
        cases h
        rw [hQ]
        exact m_retl hc hr hlocks hP hS hz dX8_level_41
      · replace h := z_ip_ c_27 h
        refine lv_aload_n hx hb dX8_level_30 rfl (lv_at hl 0 rfl) ?_
        refine m_get (k := 33) (v := .long (M_3.2 33 0)) hc hP (by decide) wF_X8_232 rfl dX8_level_31 ?_
        refine lv_goto (tgt := 41) hx hb dX8_level_34 (by decide) ?_
        cases h
        rw [hQ]
        exact m_retl hc hr hlocks hP hS hz dX8_level_41
    · replace h := z_ip_ c_14 h
      refine lv_ldc2 (v := -1000000000000) hx hb hc.s.2.2.2.2 (hc.s.2.2.2.1 _ wL_X8_220) dX8_level_17 ?_
      cases h
      rw [hQ]
      exact m_retl hc hr hlocks hP hS hz dX8_level_20
theorem md_X8_level : yX8_level.cls ≠ "java/lang/invoke/MethodHandle" ∧ yX8_level.cls ≠ "java/lang/invoke/VarHandle" ∧ (parseMethodDescriptor yX8_level.desc).map (fun d => d.parameters.length) = some 2 := by decide +kernel
noncomputable def f_X8_far_L20 (a0 : Int32) (x3_3 : Int32) (x4_4 : Int32) (M_5 : MS) : Option (((Int32 × MS) ⊕ (MS)) ⊕ (Int32 × Int32 × MS)) :=
  z_chk (z_in a0 10) (if (M_5.1 7 a0.toNatClampNeg) ≤ x4_4 then some (.inl (.inr (M_5))) else if x3_3 < 0 then some (.inl (.inr (M_5))) else z_bd2 (f_X8_isFar M_5 a0 x4_4) fun r_8 M_7 => if r_8 = 0 then some (.inr (x3_3, (x4_4 + 1), M_7)) else if x3_3 = 0 then some (.inl (.inl (x4_4, M_7))) else some (.inr ((x3_3 + (-1)), (x4_4 + 1), M_7)))
noncomputable def f_X8_far (M : MS) (a0 : Int32) (a1 : Int32) : Option (Int32 × MS) :=
  z_bd (f_X8_isFit M a0) fun r_1 => if r_1 = 0 then some ((-1 : Int32), M) else z_bd (f_X8_findLevel M a0) fun M_2 => z_bs (z_lp (fun x => f_X8_far_L20 a0 x.1 x.2.1 x.2.2) (a1, (0 : Int32), M_2)) fun y => some ((-1 : Int32), y)
set_option maxHeartbeats 4000000 in
set_option maxRecDepth 100000 in
theorem mt_X8_far (l : Launch) (D : va_G) (cI cJ : ClassId) (o sz : Nat) (M : MS) (a0 : Int32) (a1 : Int32) {r_ : Int32} {N_ : MS} (h : f_X8_far M a0 a1 = some (r_, N_)) : Met l yX8_far (z_wd yX8_far cX8_far 5 (some .int)) (z_rm 7 303) (va_Pc [.ref o, .int a0, .int a1] (m_C D cI cJ o sz M)) (va_Qi (fun (r1 : Int32) (M1 : MS) => r1 = r_ ∧ M1 = N_) (m_C D cI cJ o sz) (m_A o)) 0 0 (m_A o) := by
  refine Met.ofW (cc := cX8_far) (maxL := 5) (ret := (some .int)) (by decide) rfl ?_
  intro p e s m args below meth c s₁ B hml hv
  obtain ⟨hav, hz, hP0, hK⟩ := hv
  have hx := B.exec
  have hb := B.bytes
  have hr := B.returns
  have hts := atoms_spec (ws := z_wd yX8_far cX8_far 5 (some .int)) B.pre
  have hown : s.vm.findClass RX8 = some m.cls := findClass_of_methodNamed B.named
  have hlocks := B.notSynchronized
  have hc : m_X p s m args c cX8_far 5 D cI cJ := ⟨hx, hb, hml, fun w hw => hts w (List.mem_cons_of_mem _ hw), hown, hK⟩
  have hl := lv_entry ([.ref o, .int a0, .int a1]) (n := 5) (Nat.le_of_ble_eq_true rfl)
  have hE : entryFrame m args 5 = F0 m 0 ((lg_sl ([.ref o, .int a0, .int a1]) ++ List.replicate (5 - (lg_sl ([.ref o, .int a0, .int a1])).length) Slot.unset).toArray) [] := by rw [hav]; exact lg_entry_eq m _ _
  rw [hE]
  clear hE hav
  generalize (lg_sl ([.ref o, .int a0, .int a1]) ++ List.replicate (5 - (lg_sl ([.ref o, .int a0, .int a1])).length) Slot.unset).toArray = ls at hl ⊢
  have hl : lv_has ls 5 [(0, .ref o), (1, .int a0), (2, .int a1)] := hl
  obtain ⟨Q, hQ⟩ : ∃ Q, Q = MQ below (va_Qi (fun (r1 : Int32) (M1 : MS) => r1 = r_ ∧ M1 = N_) (m_C D cI cJ o sz) (m_A o)) args s 0 0 (m_A o) := ⟨_, rfl⟩
  rw [← hQ]
  suffices hmain : ∀ (H : Heap) (locs : List Loc), va_P D z_cls (m_W cI cJ o M) H → va_S (m_A o) s.heap H locs → W p l e (z_rm 7 303) s m args below meth c H locs 0 0 Q (F0 m 0 ls []) from hmain s.heap [] hP0 va_S.rf
  clear hP0
  intro H locs hP hS
  unfold f_X8_far at h
  refine lv_aload_n hx hb dX8_far_0 rfl (lv_at hl 0 rfl) ?_
  refine lv_iload_n hx hb dX8_far_1 rfl (lv_at hl 1 rfl) ?_
  obtain ⟨r_1, er_1, h⟩ := z_bd_some h
  refine m_calli (As := [.int a0]) (r := r_1) (M' := M) (n := 1) hc hP hS (mt_X8_isFit l D cI cJ o H.size M a0 er_1) wM_X8_185 wI_X8_isFit wS_X8_isFit wZ_X8 wC_X8_isFit md_X8_isFit ⟨rfl, rfl, Nat.le_of_ble_eq_true rfl, Nat.le_of_ble_eq_true rfl⟩ rfl hl.1 rfl (Nat.le_of_ble_eq_true rfl) dX8_far_2 ⟨Nat.zero_le _, Nat.zero_le _⟩ (fun H locs hP hS => ?_)
  refine lv_if_ne (tgt := 10) hx hb dX8_far_5 (by decide) (fun c_5 => ?_) (fun c_5 => ?_)
  · replace h := z_in_ c_5 h
    refine lv_aload_n hx hb dX8_far_10 rfl (lv_at hl 0 rfl) ?_
    refine lv_iload_n hx hb dX8_far_11 rfl (lv_at hl 1 rfl) ?_
    obtain ⟨M_2, eM_2, h⟩ := z_bd_some h
    refine m_callv (As := [.int a0]) (M' := M_2) (n := 1) hc hP hS (mt_X8_findLevel l D cI cJ o H.size M a0 eM_2) wM_X8_241 wI_X8_findLevel wS_X8_findLevel wZ_X8 wC_X8_findLevel md_X8_findLevel ⟨rfl, rfl, Nat.le_of_ble_eq_true rfl, Nat.le_of_ble_eq_true rfl⟩ rfl hl.1 rfl (Nat.le_of_ble_eq_true rfl) dX8_far_12 ⟨Nat.zero_le _, Nat.zero_le _⟩ (fun H locs hP hS => ?_)
    refine lv_iload_n hx hb dX8_far_15 rfl (lv_at hl 2 rfl) ?_
    refine lv_istore_n (lv' := [(3, .int a1), (0, .ref o), (1, .int a0), (2, .int a1)]) hx hb dX8_far_16 rfl hl (by decide) rfl (fun ls hl => ?_)
    refine lv_iconst (v := 0) hx hb dX8_far_17 (by decide) ?_
    refine lv_istore (lv' := [(4, .int (0 : Int32)), (3, .int a1), (0, .ref o), (1, .int a0), (2, .int a1)]) hx hb dX8_far_18 hl (by decide) rfl (fun ls hl => ?_)
    have LP_20 : ∀ ee, z_lp (fun x => f_X8_far_L20 a0 x.1 x.2.1 x.2.2) (a1, (0 : Int32), M_2) = some ee → ((fun z => match z with
      | .inl rr => rr = (r_, N_)
      | .inr y => ∀ (H : Heap) (locs : List Loc) (ls : Array Slot), va_P D z_cls (m_W cI cJ o y) H → va_S (m_A o) s.heap H locs → lv_has ls 5 [] → W p l e (z_rm 7 303) s m args below meth c H locs 0 0 Q (F0 m 61 ls []) : (Int32 × MS) ⊕ (MS) → Prop) ee) → W p l e (z_rm 7 303) s m args below meth c H locs 0 0 Q (F0 m 20 ls []) := by
      intro ee hlp hq
      refine z_lp_ind (P := fun x => ∀ (H : Heap) (locs : List Loc) (ls : Array Slot), va_P D z_cls (m_W cI cJ o x.2.2) H → va_S (m_A o) s.heap H locs → lv_has ls 5 [(0, .ref o), (1, .int a0), (3, .int x.1), (4, .int x.2.1)] → W p l e (z_rm 7 303) s m args below meth c H locs 0 0 Q (F0 m 20 ls [])) (Qe := fun z => match z with
      | .inl rr => rr = (r_, N_)
      | .inr y => ∀ (H : Heap) (locs : List Loc) (ls : Array Slot), va_P D z_cls (m_W cI cJ o y) H → va_S (m_A o) s.heap H locs → lv_has ls 5 [] → W p l e (z_rm 7 303) s m args below meth c H locs 0 0 Q (F0 m 61 ls [])) ?_ hlp hq H locs ls hP hS (lv_sub hl [2, 3, 1, 0] rfl)
      clear h hlp hq hP hS hl
      rintro ⟨x3_3, x4_4, M_5⟩ oo h K_20 H locs ls hP hS hl
      have hP : va_P D z_cls (m_W cI cJ o M_5) H := hP
      have hl : lv_has ls 5 [(0, .ref o), (1, .int a0), (3, .int x3_3), (4, .int x4_4)] := hl
      have h : f_X8_far_L20 a0 x3_3 x4_4 M_5 = some oo := h
      unfold f_X8_far_L20 at h
      refine lv_iload hx hb dX8_far_20 (lv_at hl 3 rfl) ?_
      refine lv_aload_n hx hb dX8_far_22 rfl (lv_at hl 0 rfl) ?_
      refine m_get (k := 7) (v := .ref (o + 7)) hc hP (by decide) wF_X8_28 rfl dX8_far_23 ?_
      refine lv_iload_n hx hb dX8_far_26 rfl (lv_at hl 1 rfl) ?_
      obtain ⟨c_27, h⟩ := z_chk_some h
      refine m_iald (k := 7) (j := 7) hc hP (ma_7 ..) c_27 dX8_far_27 ?_
      refine lv_icmp_ge (tgt := 61) hx hb dX8_far_28 (by decide) (fun c_28 => ?_) (fun c_28 => ?_)
      · replace h := z_ip_ c_28 h
        cases h
        exact K_20 H locs ls hP hS (lv_sub hl [] rfl)
      · replace h := z_in_ c_28 h
        refine lv_iload_n hx hb dX8_far_31 rfl (lv_at hl 2 rfl) ?_
        refine lv_if_lt (tgt := 61) hx hb dX8_far_32 (by decide) (fun c_32 => ?_) (fun c_32 => ?_)
        · replace h := z_ip_ c_32 h
          cases h
          exact K_20 H locs ls hP hS (lv_sub hl [] rfl)
        · replace h := z_in_ c_32 h
          refine lv_aload_n hx hb dX8_far_35 rfl (lv_at hl 0 rfl) ?_
          refine lv_iload_n hx hb dX8_far_36 rfl (lv_at hl 1 rfl) ?_
          refine lv_iload hx hb dX8_far_37 (lv_at hl 3 rfl) ?_
          obtain ⟨r_8, M_7, er_8, h⟩ := z_bd2_some h
          refine m_calli (As := [.int a0, .int x4_4]) (r := r_8) (M' := M_7) (n := 2) hc hP hS (mt_X8_isFar l D cI cJ o H.size M_5 a0 x4_4 er_8) wM_X8_244 wI_X8_isFar wS_X8_isFar wZ_X8 wC_X8_isFar md_X8_isFar ⟨rfl, rfl, Nat.le_of_ble_eq_true rfl, Nat.le_of_ble_eq_true rfl⟩ rfl hl.1 rfl (Nat.le_of_ble_eq_true rfl) dX8_far_39 ⟨Nat.zero_le _, Nat.zero_le _⟩ (fun H locs hP hS => ?_)
          refine lv_if_eq (tgt := 55) hx hb dX8_far_42 (by decide) (fun c_42 => ?_) (fun c_42 => ?_)
          · replace h := z_ip_ c_42 h
            refine lv_iinc (v := (x4_4 + 1)) (lv' := [(4, .int (x4_4 + 1)), (0, .ref o), (1, .int a0), (3, .int x3_3)]) hx hb dX8_far_55 hl (k := 3) rfl rfl (by decide) rfl (fun ls hl => ?_)
            refine lv_goto (tgt := 20) hx hb dX8_far_58 (by decide) ?_
            cases h
            exact K_20 H locs ls hP hS (lv_sub hl [1, 2, 3, 0] rfl)
          · replace h := z_in_ c_42 h
            refine lv_iload_n hx hb dX8_far_45 rfl (lv_at hl 2 rfl) ?_
            refine lv_if_ne (tgt := 52) hx hb dX8_far_46 (by decide) (fun c_46 => ?_) (fun c_46 => ?_)
            · replace h := z_in_ c_46 h
              refine lv_iinc (v := (x3_3 + (-1))) (lv' := [(3, .int (x3_3 + (-1))), (0, .ref o), (1, .int a0), (4, .int x4_4)]) hx hb dX8_far_52 hl (k := 2) rfl rfl (by decide) rfl (fun ls hl => ?_)
              refine lv_iinc (v := (x4_4 + 1)) (lv' := [(4, .int (x4_4 + 1)), (3, .int (x3_3 + (-1))), (0, .ref o), (1, .int a0)]) hx hb dX8_far_55 hl (k := 3) rfl rfl (by decide) rfl (fun ls hl => ?_)
              refine lv_goto (tgt := 20) hx hb dX8_far_58 (by decide) ?_
              cases h
              exact K_20 H locs ls hP hS (lv_sub hl [2, 3, 1, 0] rfl)
            · replace h := z_ip_ c_46 h
              refine lv_iload hx hb dX8_far_49 (lv_at hl 3 rfl) ?_
              cases h
              have K_20 : (x4_4, M_7) = (r_, N_) := K_20
              cases K_20
              rw [hQ]
              exact m_reti hc hr hlocks hP hS hz dX8_far_51
    rcases z_bs_some h with hlp | ⟨y, hlp, h⟩
    · exact LP_20 _ hlp rfl
    · refine LP_20 _ hlp ?_
      obtain ⟨M_6, rfl⟩ : ∃ z, z = y := ⟨_, rfl⟩
      clear hlp LP_20 hP hS hl
      show ∀ (H : Heap) (locs : List Loc) (ls : Array Slot), va_P D z_cls (m_W cI cJ o M_6) H → va_S (m_A o) s.heap H locs → lv_has ls 5 [] → W p l e (z_rm 7 303) s m args below meth c H locs 0 0 Q (F0 m 61 ls [])
      intro H locs ls hP hS hl
      have hP : va_P D z_cls (m_W cI cJ o M_6) H := hP
      have hl : lv_has ls 5 [] := hl
      refine lv_iconst (v := -1) hx hb dX8_far_61 (by decide) ?_
      cases h
      rw [hQ]
      exact m_reti hc hr hlocks hP hS hz dX8_far_62
  · replace h := z_ip_ c_5 h
    refine lv_iconst (v := -1) hx hb dX8_far_8 (by decide) ?_
    cases h
    rw [hQ]
    exact m_reti hc hr hlocks hP hS hz dX8_far_9
theorem md_X8_far : yX8_far.cls ≠ "java/lang/invoke/MethodHandle" ∧ yX8_far.cls ≠ "java/lang/invoke/VarHandle" ∧ (parseMethodDescriptor yX8_far.desc).map (fun d => d.parameters.length) = some 2 := by decide +kernel
