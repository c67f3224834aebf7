noncomputable def f_X8_begins (M : MS) (a0 : Int32) (a1 : Int32) : Option (Int32) :=
  z_bd (f_X8_isFit M a0) fun r_1 => if r_1 = 0 then some (-1 : Int32) else z_chk (z_in a0 10) (if (M.1 5 a0.toNatClampNeg) = (4 : Int32) then z_chk (z_in a0 10) (z_bd (f_X8_in a1 (0 : Int32) ((M.1 11 a0.toNatClampNeg) - (1 : Int32))) fun r_2 => if r_2 = 0 then some (-1 : Int32) else z_chk (z_in (((12 : Int32) * a0) + a1) 120) (some (M.1 12 (((12 : Int32) * a0) + a1).toNatClampNeg))) else some (-1 : Int32))
set_option maxHeartbeats 4000000 in
set_option maxRecDepth 100000 in
theorem mt_X8_begins (l : Launch) (D : va_G) (cI cJ : ClassId) (o sz : Nat) (M : MS) (a0 : Int32) (a1 : Int32) {r_ : Int32} (h : f_X8_begins M a0 a1 = some r_) : Met l yX8_begins (z_wd yX8_begins cX8_begins 3 (some .int)) (z_rm 2 75) (va_Pc [.ref o, .int a0, .int a1] (m_C D cI cJ o sz M)) (va_Qi (fun (r1 : Int32) (M1 : MS) => r1 = r_ ∧ M1 = M) (m_C D cI cJ o sz) (m_A o)) 0 0 (m_A o) := by
  refine Met.ofW (cc := cX8_begins) (maxL := 3) (ret := (some .int)) (by decide) rfl ?_
  intro p e s m args below meth c s₁ B hml hv
  obtain ⟨hav, hz, hP0, hK⟩ := hv
  have hx := B.exec
  have hb := B.bytes
  have hr := B.returns
  have hts := atoms_spec (ws := z_wd yX8_begins cX8_begins 3 (some .int)) B.pre
  have hown : s.vm.findClass RX8 = some m.cls := findClass_of_methodNamed B.named
  have hlocks := B.notSynchronized
  have hc : m_X p s m args c cX8_begins 3 D cI cJ := ⟨hx, hb, hml, fun w hw => hts w (List.mem_cons_of_mem _ hw), hown, hK⟩
  have hl := lv_entry ([.ref o, .int a0, .int a1]) (n := 3) (Nat.le_of_ble_eq_true rfl)
  have hE : entryFrame m args 3 = F0 m 0 ((lg_sl ([.ref o, .int a0, .int a1]) ++ List.replicate (3 - (lg_sl ([.ref o, .int a0, .int a1])).length) Slot.unset).toArray) [] := by rw [hav]; exact lg_entry_eq m _ _
  rw [hE]
  clear hE hav
  generalize (lg_sl ([.ref o, .int a0, .int a1]) ++ List.replicate (3 - (lg_sl ([.ref o, .int a0, .int a1])).length) Slot.unset).toArray = ls at hl ⊢
  have hl : lv_has ls 3 [(0, .ref o), (1, .int a0), (2, .int a1)] := hl
  obtain ⟨Q, hQ⟩ : ∃ Q, Q = MQ below (va_Qi (fun (r1 : Int32) (M1 : MS) => r1 = r_ ∧ M1 = M) (m_C D cI cJ o sz) (m_A o)) args s 0 0 (m_A o) := ⟨_, rfl⟩
  rw [← hQ]
  suffices hmain : ∀ (H : Heap) (locs : List Loc), va_P D z_cls (m_W cI cJ o M) H → va_S (m_A o) s.heap H locs → W p l e (z_rm 2 75) s m args below meth c H locs 0 0 Q (F0 m 0 ls []) from hmain s.heap [] hP0 va_S.rf
  clear hP0
  intro H locs hP hS
  unfold f_X8_begins at h
  refine lv_aload_n hx hb dX8_begins_0 rfl (lv_at hl 0 rfl) ?_
  refine lv_iload_n hx hb dX8_begins_1 rfl (lv_at hl 1 rfl) ?_
  obtain ⟨r_1, er_1, h⟩ := z_bd_some h
  refine m_calli (As := [.int a0]) (r := r_1) (M' := M) (n := 1) hc hP hS (mt_X8_isFit l D cI cJ o H.size M a0 er_1) wM_X8_185 wI_X8_isFit wS_X8_isFit wZ_X8 wC_X8_isFit md_X8_isFit ⟨rfl, rfl, Nat.le_of_ble_eq_true rfl, Nat.le_of_ble_eq_true rfl⟩ rfl hl.1 rfl (Nat.le_of_ble_eq_true rfl) dX8_begins_2 ⟨Nat.zero_le _, Nat.zero_le _⟩ (fun H locs hP hS => ?_)
  refine lv_if_eq (tgt := 48) hx hb dX8_begins_5 (by decide) (fun c_5 => ?_) (fun c_5 => ?_)
  · replace h := z_ip_ c_5 h
    refine lv_iconst (v := -1) hx hb dX8_begins_48 (by decide) ?_
    cases h
    rw [hQ]
    exact m_reti hc hr hlocks hP hS hz dX8_begins_49
  · replace h := z_in_ c_5 h
    refine lv_aload_n hx hb dX8_begins_8 rfl (lv_at hl 0 rfl) ?_
    refine m_get (k := 5) (v := .ref (o + 5)) hc hP (by decide) wF_X8_22 rfl dX8_begins_9 ?_
    refine lv_iload_n hx hb dX8_begins_12 rfl (lv_at hl 1 rfl) ?_
    obtain ⟨c_13, h⟩ := z_chk_some h
    refine m_iald (k := 5) (j := 5) hc hP (ma_5 ..) c_13 dX8_begins_13 ?_
    refine lv_iconst (v := 4) hx hb dX8_begins_14 (by decide) ?_
    refine lv_icmp_ne (tgt := 48) hx hb dX8_begins_15 (by decide) (fun c_15 => ?_) (fun c_15 => ?_)
    · replace h := z_in_ c_15 h
      refine lv_iconst (v := -1) hx hb dX8_begins_48 (by decide) ?_
      cases h
      rw [hQ]
      exact m_reti hc hr hlocks hP hS hz dX8_begins_49
    · replace h := z_ip_ c_15 h
      refine lv_iload_n hx hb dX8_begins_18 rfl (lv_at hl 2 rfl) ?_
      refine lv_iconst (v := 0) hx hb dX8_begins_19 (by decide) ?_
      refine lv_aload_n hx hb dX8_begins_20 rfl (lv_at hl 0 rfl) ?_
      refine m_get (k := 11) (v := .ref (o + 11)) hc hP (by decide) wF_X8_40 rfl dX8_begins_21 ?_
      refine lv_iload_n hx hb dX8_begins_24 rfl (lv_at hl 1 rfl) ?_
      obtain ⟨c_25, h⟩ := z_chk_some h
      refine m_iald (k := 11) (j := 11) hc hP (ma_11 ..) c_25 dX8_begins_25 ?_
      refine lv_iconst (v := 1) hx hb dX8_begins_26 (by decide) ?_
      refine lv_isub hx hb dX8_begins_27 ?_
      obtain ⟨r_2, er_2, h⟩ := z_bd_some h
      refine s_calli (As := [.int a1, .int (0 : Int32), .int ((M.1 11 a0.toNatClampNeg) - (1 : Int32))]) (r := r_2) (n := 3) hc.s (mt_X8_in l a1 (0 : Int32) ((M.1 11 a0.toNatClampNeg) - (1 : Int32)) er_2) wM_X8_100 wT_X8_in wZ_X8 wC_X8_in md_X8_in ⟨rfl, rfl, Nat.le_of_ble_eq_true rfl, Nat.le_of_ble_eq_true rfl⟩ rfl hl.1 rfl (Nat.le_of_ble_eq_true rfl) dX8_begins_28 ⟨Nat.zero_le _, Nat.zero_le _⟩ ?_
      refine lv_if_eq (tgt := 48) hx hb dX8_begins_31 (by decide) (fun c_31 => ?_) (fun c_31 => ?_)
      · replace h := z_ip_ c_31 h
        refine lv_iconst (v := -1) hx hb dX8_begins_48 (by decide) ?_
        cases h
        rw [hQ]
        exact m_reti hc hr hlocks hP hS hz dX8_begins_49
      · replace h := z_in_ c_31 h
        refine lv_aload_n hx hb dX8_begins_34 rfl (lv_at hl 0 rfl) ?_
        refine m_get (k := 12) (v := .ref (o + 12)) hc hP (by decide) wF_X8_43 rfl dX8_begins_35 ?_
        refine lv_bipush (v := 12) hx hb dX8_begins_38 (by decide) ?_
        refine lv_iload_n hx hb dX8_begins_40 rfl (lv_at hl 1 rfl) ?_
        refine lv_imul hx hb dX8_begins_41 ?_
        refine lv_iload_n hx hb dX8_begins_42 rfl (lv_at hl 2 rfl) ?_
        refine lv_iadd hx hb dX8_begins_43 ?_
        obtain ⟨c_44, h⟩ := z_chk_some h
        refine m_iald (k := 12) (j := 12) hc hP (ma_12 ..) c_44 dX8_begins_44 ?_
        refine lv_goto (tgt := 49) hx hb dX8_begins_45 (by decide) ?_
        cases h
        rw [hQ]
        exact m_reti hc hr hlocks hP hS hz dX8_begins_49
theorem md_X8_begins : yX8_begins.cls ≠ "java/lang/invoke/MethodHandle" ∧ yX8_begins.cls ≠ "java/lang/invoke/VarHandle" ∧ (parseMethodDescriptor yX8_begins.desc).map (fun d => d.parameters.length) = some 2 := by decide +kernel
noncomputable def f_X8_turns (M : MS) (a0 : Int32) : Option (Int32 × MS) :=
  z_bd (f_X8_isFit M a0) fun r_1 => if r_1 = 0 then some ((-1 : Int32), M) else z_chk (z_in a0 10) (if (M.1 5 a0.toNatClampNeg) = (1 : Int32) then z_bd2 (f_X8_bestTurns M a0) fun r_3 M_2 => some (r_3, M_2) else z_chk (z_in a0 10) (if (M.1 5 a0.toNatClampNeg) = (2 : Int32) then z_bd2 (f_X8_bestTurns M a0) fun r_5 M_4 => some (r_5, M_4) else some ((-1 : Int32), M)))
set_option maxHeartbeats 4000000 in
set_option maxRecDepth 100000 in
theorem mt_X8_turns (l : Launch) (D : va_G) (cI cJ : ClassId) (o sz : Nat) (M : MS) (a0 : Int32) {r_ : Int32} {N_ : MS} (h : f_X8_turns M a0 = some (r_, N_)) : Met l yX8_turns (z_wd yX8_turns cX8_turns 2 (some .int)) (z_rm 7 307) (va_Pc [.ref o, .int a0] (m_C D cI cJ o sz M)) (va_Qi (fun (r1 : Int32) (M1 : MS) => r1 = r_ ∧ M1 = N_) (m_C D cI cJ o sz) (m_A o)) 0 0 (m_A o) := by
  refine Met.ofW (cc := cX8_turns) (maxL := 2) (ret := (some .int)) (by decide) rfl ?_
  intro p e s m args below meth c s₁ B hml hv
  obtain ⟨hav, hz, hP0, hK⟩ := hv
  have hx := B.exec
  have hb := B.bytes
  have hr := B.returns
  have hts := atoms_spec (ws := z_wd yX8_turns cX8_turns 2 (some .int)) B.pre
  have hown : s.vm.findClass RX8 = some m.cls := findClass_of_methodNamed B.named
  have hlocks := B.notSynchronized
  have hc : m_X p s m args c cX8_turns 2 D cI cJ := ⟨hx, hb, hml, fun w hw => hts w (List.mem_cons_of_mem _ hw), hown, hK⟩
  have hl := lv_entry ([.ref o, .int a0]) (n := 2) (Nat.le_of_ble_eq_true rfl)
  have hE : entryFrame m args 2 = F0 m 0 ((lg_sl ([.ref o, .int a0]) ++ List.replicate (2 - (lg_sl ([.ref o, .int a0])).length) Slot.unset).toArray) [] := by rw [hav]; exact lg_entry_eq m _ _
  rw [hE]
  clear hE hav
  generalize (lg_sl ([.ref o, .int a0]) ++ List.replicate (2 - (lg_sl ([.ref o, .int a0])).length) Slot.unset).toArray = ls at hl ⊢
  have hl : lv_has ls 2 [(0, .ref o), (1, .int a0)] := hl
  obtain ⟨Q, hQ⟩ : ∃ Q, Q = MQ below (va_Qi (fun (r1 : Int32) (M1 : MS) => r1 = r_ ∧ M1 = N_) (m_C D cI cJ o sz) (m_A o)) args s 0 0 (m_A o) := ⟨_, rfl⟩
  rw [← hQ]
  suffices hmain : ∀ (H : Heap) (locs : List Loc), va_P D z_cls (m_W cI cJ o M) H → va_S (m_A o) s.heap H locs → W p l e (z_rm 7 307) s m args below meth c H locs 0 0 Q (F0 m 0 ls []) from hmain s.heap [] hP0 va_S.rf
  clear hP0
  intro H locs hP hS
  unfold f_X8_turns at h
  refine lv_aload_n hx hb dX8_turns_0 rfl (lv_at hl 0 rfl) ?_
  refine lv_iload_n hx hb dX8_turns_1 rfl (lv_at hl 1 rfl) ?_
  obtain ⟨r_1, er_1, h⟩ := z_bd_some h
  refine m_calli (As := [.int a0]) (r := r_1) (M' := M) (n := 1) hc hP hS (mt_X8_isFit l D cI cJ o H.size M a0 er_1) wM_X8_185 wI_X8_isFit wS_X8_isFit wZ_X8 wC_X8_isFit md_X8_isFit ⟨rfl, rfl, Nat.le_of_ble_eq_true rfl, Nat.le_of_ble_eq_true rfl⟩ rfl hl.1 rfl (Nat.le_of_ble_eq_true rfl) dX8_turns_2 ⟨Nat.zero_le _, Nat.zero_le _⟩ (fun H locs hP hS => ?_)
  refine lv_if_eq (tgt := 36) hx hb dX8_turns_5 (by decide) (fun c_5 => ?_) (fun c_5 => ?_)
  · replace h := z_ip_ c_5 h
    refine lv_iconst (v := -1) hx hb dX8_turns_36 (by decide) ?_
    cases h
    rw [hQ]
    exact m_reti hc hr hlocks hP hS hz dX8_turns_37
  · replace h := z_in_ c_5 h
    refine lv_aload_n hx hb dX8_turns_8 rfl (lv_at hl 0 rfl) ?_
    refine m_get (k := 5) (v := .ref (o + 5)) hc hP (by decide) wF_X8_22 rfl dX8_turns_9 ?_
    refine lv_iload_n hx hb dX8_turns_12 rfl (lv_at hl 1 rfl) ?_
    obtain ⟨c_13, h⟩ := z_chk_some h
    refine m_iald (k := 5) (j := 5) hc hP (ma_5 ..) c_13 dX8_turns_13 ?_
    refine lv_iconst (v := 1) hx hb dX8_turns_14 (by decide) ?_
    refine lv_icmp_eq (tgt := 28) hx hb dX8_turns_15 (by decide) (fun c_15 => ?_) (fun c_15 => ?_)
    · replace h := z_ip_ c_15 h
      refine lv_aload_n hx hb dX8_turns_28 rfl (lv_at hl 0 rfl) ?_
      refine lv_iload_n hx hb dX8_turns_29 rfl (lv_at hl 1 rfl) ?_
      obtain ⟨r_3, M_2, er_3, h⟩ := z_bd2_some h
      refine m_calli (As := [.int a0]) (r := r_3) (M' := M_2) (n := 1) hc hP hS (mt_X8_bestTurns l D cI cJ o H.size M a0 er_3) wM_X8_208 wI_X8_bestTurns wS_X8_bestTurns wZ_X8 wC_X8_bestTurns md_X8_bestTurns ⟨rfl, rfl, Nat.le_of_ble_eq_true rfl, Nat.le_of_ble_eq_true rfl⟩ rfl hl.1 rfl (Nat.le_of_ble_eq_true rfl) dX8_turns_30 ⟨Nat.zero_le _, Nat.zero_le _⟩ (fun H locs hP hS => ?_)
      refine lv_goto (tgt := 37) hx hb dX8_turns_33 (by decide) ?_
      cases h
      rw [hQ]
      exact m_reti hc hr hlocks hP hS hz dX8_turns_37
    · replace h := z_in_ c_15 h
      refine lv_aload_n hx hb dX8_turns_18 rfl (lv_at hl 0 rfl) ?_
      refine m_get (k := 5) (v := .ref (o + 5)) hc hP (by decide) wF_X8_22 rfl dX8_turns_19 ?_
      refine lv_iload_n hx hb dX8_turns_22 rfl (lv_at hl 1 rfl) ?_
      obtain ⟨c_23, h⟩ := z_chk_some h
      refine m_iald (k := 5) (j := 5) hc hP (ma_5 ..) c_23 dX8_turns_23 ?_
      refine lv_iconst (v := 2) hx hb dX8_turns_24 (by decide) ?_
      refine lv_icmp_ne (tgt := 36) hx hb dX8_turns_25 (by decide) (fun c_25 => ?_) (fun c_25 => ?_)
      · replace h := z_in_ c_25 h
        refine lv_iconst (v := -1) hx hb dX8_turns_36 (by decide) ?_
        cases h
        rw [hQ]
        exact m_reti hc hr hlocks hP hS hz dX8_turns_37
      · replace h := z_ip_ c_25 h
        refine lv_aload_n hx hb dX8_turns_28 rfl (lv_at hl 0 rfl) ?_
        refine lv_iload_n hx hb dX8_turns_29 rfl (lv_at hl 1 rfl) ?_
        obtain ⟨r_5, M_4, er_5, h⟩ := z_bd2_some h
        refine m_calli (As := [.int a0]) (r := r_5) (M' := M_4) (n := 1) hc hP hS (mt_X8_bestTurns l D cI cJ o H.size M a0 er_5) wM_X8_208 wI_X8_bestTurns wS_X8_bestTurns wZ_X8 wC_X8_bestTurns md_X8_bestTurns ⟨rfl, rfl, Nat.le_of_ble_eq_true rfl, Nat.le_of_ble_eq_true rfl⟩ rfl hl.1 rfl (Nat.le_of_ble_eq_true rfl) dX8_turns_30 ⟨Nat.zero_le _, Nat.zero_le _⟩ (fun H locs hP hS => ?_)
        refine lv_goto (tgt := 37) hx hb dX8_turns_33 (by decide) ?_
        cases h
        rw [hQ]
        exact m_reti hc hr hlocks hP hS hz dX8_turns_37
theorem md_X8_turns : yX8_turns.cls ≠ "java/lang/invoke/MethodHandle" ∧ yX8_turns.cls ≠ "java/lang/invoke/VarHandle" ∧ (parseMethodDescriptor yX8_turns.desc).map (fun d => d.parameters.length) = some 1 := by decide +kernel
noncomputable def f_X8_low (M : MS) (a0 : Int32) (a1 : Int32) (a2 : Int32) : Option (Int64 × MS) :=
  z_bd (f_X8_areTurns M a0 a1) fun r_1 => if r_1 = 0 then some ((-1000000000000 : Int64), M) else z_bd (f_X8_in a2 (0 : Int32) (1 : Int32)) fun r_2 => if r_2 = 0 then some ((-1000000000000 : Int64), M) else z_bd (f_X8_study M a0 a1) fun M_3 => if a2 = 0 then if 0 ≤ (lg_cmp (M_3.2 26 0) (0 : Int64)) then some ((M_3.2 26 0), M_3) else some ((-(M_3.2 26 0)), M_3) else some ((M_3.2 27 0), M_3)
set_option maxHeartbeats 4000000 in
set_option maxRecDepth 100000 in
theorem mt_X8_low (l : Launch) (D : va_G) (cI cJ : ClassId) (o sz : Nat) (M : MS) (a0 : Int32) (a1 : Int32) (a2 : Int32) {r_ : Int64} {N_ : MS} (h : f_X8_low M a0 a1 a2 = some (r_, N_)) : Met l yX8_low (z_wd yX8_low cX8_low 4 (some .long)) (z_rm 6 261) (va_Pc [.ref o, .int a0, .int a1, .int a2] (m_C D cI cJ o sz M)) (va_Ql (fun (r1 : Int64) (M1 : MS) => r1 = r_ ∧ M1 = N_) (m_C D cI cJ o sz) (m_A o)) 0 0 (m_A o) := by
  refine Met.ofW (cc := cX8_low) (maxL := 4) (ret := (some .long)) (by decide) rfl ?_
  intro p e s m args below meth c s₁ B hml hv
  obtain ⟨hav, hz, hP0, hK⟩ := hv
  have hx := B.exec
  have hb := B.bytes
  have hr := B.returns
  have hts := atoms_spec (ws := z_wd yX8_low cX8_low 4 (some .long)) B.pre
  have hown : s.vm.findClass RX8 = some m.cls := findClass_of_methodNamed B.named
  have hlocks := B.notSynchronized
  have hc : m_X p s m args c cX8_low 4 D cI cJ := ⟨hx, hb, hml, fun w hw => hts w (List.mem_cons_of_mem _ hw), hown, hK⟩
  have hl := lv_entry ([.ref o, .int a0, .int a1, .int a2]) (n := 4) (Nat.le_of_ble_eq_true rfl)
  have hE : entryFrame m args 4 = F0 m 0 ((lg_sl ([.ref o, .int a0, .int a1, .int a2]) ++ List.replicate (4 - (lg_sl ([.ref o, .int a0, .int a1, .int a2])).length) Slot.unset).toArray) [] := by rw [hav]; exact lg_entry_eq m _ _
  rw [hE]
  clear hE hav
  generalize (lg_sl ([.ref o, .int a0, .int a1, .int a2]) ++ List.replicate (4 - (lg_sl ([.ref o, .int a0, .int a1, .int a2])).length) Slot.unset).toArray = ls at hl ⊢
  have hl : lv_has ls 4 [(0, .ref o), (1, .int a0), (2, .int a1), (3, .int a2)] := hl
  obtain ⟨Q, hQ⟩ : ∃ Q, Q = MQ below (va_Ql (fun (r1 : Int64) (M1 : MS) => r1 = r_ ∧ M1 = N_) (m_C D cI cJ o sz) (m_A o)) args s 0 0 (m_A o) := ⟨_, rfl⟩
  rw [← hQ]
  suffices hmain : ∀ (H : Heap) (locs : List Loc), va_P D z_cls (m_W cI cJ o M) H → va_S (m_A o) s.heap H locs → W p l e (z_rm 6 261) s m args below meth c H locs 0 0 Q (F0 m 0 ls []) from hmain s.heap [] hP0 va_S.rf
  clear hP0
  intro H locs hP hS
  unfold f_X8_low at h
  refine lv_aload_n hx hb dX8_low_0 rfl (lv_at hl 0 rfl) ?_
  refine lv_iload_n hx hb dX8_low_1 rfl (lv_at hl 1 rfl) ?_
  refine lv_iload_n hx hb dX8_low_2 rfl (lv_at hl 2 rfl) ?_
  obtain ⟨r_1, er_1, h⟩ := z_bd_some h
  refine m_calli (As := [.int a0, .int a1]) (r := r_1) (M' := M) (n := 2) hc hP hS (mt_X8_areTurns l D cI cJ o H.size M a0 a1 er_1) wM_X8_195 wI_X8_areTurns wS_X8_areTurns wZ_X8 wC_X8_areTurns md_X8_areTurns ⟨rfl, rfl, Nat.le_of_ble_eq_true rfl, Nat.le_of_ble_eq_true rfl⟩ rfl hl.1 rfl (Nat.le_of_ble_eq_true rfl) dX8_low_3 ⟨Nat.zero_le _, Nat.zero_le _⟩ (fun H locs hP hS => ?_)
  refine lv_if_eq (tgt := 18) hx hb dX8_low_6 (by decide) (fun c_6 => ?_) (fun c_6 => ?_)
  · replace h := z_ip_ c_6 h
    refine lv_ldc2 (v := -1000000000000) hx hb hc.s.2.2.2.2 (hc.s.2.2.2.1 _ wL_X8_220) dX8_low_18 ?_
    cases h
    rw [hQ]
    exact m_retl hc hr hlocks hP hS hz dX8_low_21
  · replace h := z_in_ c_6 h
    refine lv_iload_n hx hb dX8_low_9 rfl (lv_at hl 3 rfl) ?_
    refine lv_iconst (v := 0) hx hb dX8_low_10 (by decide) ?_
    refine lv_iconst (v := 1) hx hb dX8_low_11 (by decide) ?_
    obtain ⟨r_2, er_2, h⟩ := z_bd_some h
    refine s_calli (As := [.int a2, .int (0 : Int32), .int (1 : Int32)]) (r := r_2) (n := 3) hc.s (mt_X8_in l a2 (0 : Int32) (1 : Int32) er_2) wM_X8_100 wT_X8_in wZ_X8 wC_X8_in md_X8_in ⟨rfl, rfl, Nat.le_of_ble_eq_true rfl, Nat.le_of_ble_eq_true rfl⟩ rfl hl.1 rfl (Nat.le_of_ble_eq_true rfl) dX8_low_12 ⟨Nat.zero_le _, Nat.zero_le _⟩ ?_
    refine lv_if_ne (tgt := 22) hx hb dX8_low_15 (by decide) (fun c_15 => ?_) (fun c_15 => ?_)
    · replace h := z_in_ c_15 h
      refine lv_aload_n hx hb dX8_low_22 rfl (lv_at hl 0 rfl) ?_
      refine lv_iload_n hx hb dX8_low_23 rfl (lv_at hl 1 rfl) ?_
      refine lv_iload_n hx hb dX8_low_24 rfl (lv_at hl 2 rfl) ?_
      obtain ⟨M_3, eM_3, h⟩ := z_bd_some h
      refine m_callv (As := [.int a0, .int a1]) (M' := M_3) (n := 2) hc hP hS (mt_X8_study l D cI cJ o H.size M a0 a1 eM_3) wM_X8_198 wI_X8_study wS_X8_study wZ_X8 wC_X8_study md_X8_study ⟨rfl, rfl, Nat.le_of_ble_eq_true rfl, Nat.le_of_ble_eq_true rfl⟩ rfl hl.1 rfl (Nat.le_of_ble_eq_true rfl) dX8_low_25 ⟨Nat.zero_le _, Nat.zero_le _⟩ (fun H locs hP hS => ?_)
      refine lv_iload_n hx hb dX8_low_28 rfl (lv_at hl 3 rfl) ?_
      refine lv_if_ne (tgt := 56) hx hb dX8_low_29 (by decide) (fun c_29 => ?_) (fun c_29 => ?_)
      · replace h := z_in_ c_29 h
        refine lv_aload_n hx hb dX8_low_56 rfl (lv_at hl 0 rfl) ?_
        refine m_get (k := 27) (v := .long (M_3.2 27 0)) hc hP (by decide) wF_X8_157 rfl dX8_low_57 ?_
        cases h
        rw [hQ]
        exact m_retl hc hr hlocks hP hS hz dX8_low_60
      · replace h := z_ip_ c_29 h
        refine lv_aload_n hx hb dX8_low_32 rfl (lv_at hl 0 rfl) ?_
        refine m_get (k := 26) (v := .long (M_3.2 26 0)) hc hP (by decide) wF_X8_154 rfl dX8_low_33 ?_
        refine lv_lconst (v := 0) hx hb dX8_low_36 (by decide) ?_
        refine W.lcmp hx hb dX8_low_37 ?_
        refine lv_if_ge (tgt := 49) hx hb dX8_low_38 (by decide) (fun c_38 => ?_) (fun c_38 => ?_)
        · replace h := z_ip_ c_38 h
          refine lv_aload_n hx hb dX8_low_49 rfl (lv_at hl 0 rfl) ?_
          refine m_get (k := 26) (v := .long (M_3.2 26 0)) hc hP (by decide) wF_X8_154 rfl dX8_low_50 ?_
          refine lv_goto (tgt := 60) hx hb dX8_low_53 (by decide) ?_
          cases h
          rw [hQ]
          exact m_retl hc hr hlocks hP hS hz dX8_low_60
        · replace h := z_in_ c_38 h
          refine lv_aload_n hx hb dX8_low_41 rfl (lv_at hl 0 rfl) ?_
          refine m_get (k := 26) (v := .long (M_3.2 26 0)) hc hP (by decide) wF_X8_154 rfl dX8_low_42 ?_
          refine lv_lneg hx hb dX8_low_45 ?_
          refine lv_goto (tgt := 60) hx hb dX8_low_46 (by decide) ?_
          cases h
          rw [hQ]
          exact m_retl hc hr hlocks hP hS hz dX8_low_60
    · replace h := z_ip_ c_15 h
      refine lv_ldc2 (v := -1000000000000) hx hb hc.s.2.2.2.2 (hc.s.2.2.2.1 _ wL_X8_220) dX8_low_18 ?_
      cases h
      rw [hQ]
      exact m_retl hc hr hlocks hP hS hz dX8_low_21
theorem md_X8_low : yX8_low.cls ≠ "java/lang/invoke/MethodHandle" ∧ yX8_low.cls ≠ "java/lang/invoke/VarHandle" ∧ (parseMethodDescriptor yX8_low.desc).map (fun d => d.parameters.length) = some 3 := by decide +kernel
