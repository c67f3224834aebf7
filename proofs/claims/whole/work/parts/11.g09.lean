noncomputable def f_X3_allows (S : GS) (a0 : Int32) (a1 : Int32) (a2 : Int32) : Option (Int32) :=
  z_bd (f_X7_isWithin a0 (-12 : Int32) (12 : Int32)) fun r_1 => if r_1 = 0 then some (0 : Int32) else z_bd (f_X7_isWithin a1 (-60 : Int32) (60 : Int32)) fun r_2 => if r_2 = 0 then some (0 : Int32) else z_bd (f_X7_isWithin a2 (1 : Int32) (4 : Int32)) fun r_3 => if r_3 = 0 then some (0 : Int32) else some (1 : Int32)
set_option maxHeartbeats 4000000 in
set_option maxRecDepth 100000 in
theorem mt_X3_allows (l : Launch) (D : va_G) (cs : Nat → ClassId) (A : Nat → Prop) (S : GS) (a0 : Int32) (a1 : Int32) (a2 : Int32) {r_ : Int32} (h : f_X3_allows S a0 a1 a2 = some r_) : Met l yX3_allows (z_wd yX3_allows cX3_allows 3 (some .boolean)) (z_rmA 1 38 0 0) (va_Pc [.int a0, .int a1, .int a2] (g_C D cs A S)) (g_Q (some (.int r_)) S D cs A) 0 0 A := by
  refine Met.ofW (cc := cX3_allows) (maxL := 3) (ret := (some .boolean)) (by decide) rfl ?_
  intro p e s m args below meth c s₁ B hml hv
  obtain ⟨hav, hP0, hK, hN, hSt, hAn⟩ := hv
  have hx := B.exec
  have hb := B.bytes
  have hr := B.returns
  have hts := atoms_spec (ws := z_wd yX3_allows cX3_allows 3 (some .boolean)) B.pre
  have hown : s.vm.findClass RX3 = some m.cls := findClass_of_methodNamed B.named
  have hlocks := B.notSynchronized
  have hc : g_X p s m args c cX3_allows 3 RX3 D cs A := ⟨⟨hx, hb, hml, fun w hw => hts w (List.mem_cons_of_mem _ hw), hown⟩, hK, hN, hSt, hAn⟩
  have hl := lv_entry ([.int a0, .int a1, .int a2]) (n := 3) (Nat.le_of_ble_eq_true rfl)
  have hE : entryFrame m args 3 = F0 m 0 ((lg_sl ([.int a0, .int a1, .int a2]) ++ List.replicate (3 - (lg_sl ([.int a0, .int a1, .int a2])).length) Slot.unset).toArray) [] := by rw [hav]; exact lg_entry_eq m _ _
  rw [hE]
  clear hE hav
  generalize (lg_sl ([.int a0, .int a1, .int a2]) ++ List.replicate (3 - (lg_sl ([.int a0, .int a1, .int a2])).length) Slot.unset).toArray = ls at hl ⊢
  have hl : lv_has ls 3 [(0, .int a0), (1, .int a1), (2, .int a2)] := hl
  obtain ⟨Q, hQ⟩ : ∃ Q, Q = MQ below (g_Q (some (.int r_)) S D cs A) args s 0 0 A := ⟨_, rfl⟩
  rw [← hQ]
  suffices hmain : ∀ (H : Heap) (locs : List Loc), g_P D cs A S H → va_S A s.heap H locs → W p l e (z_rmA 1 38 0 0) s m args below meth c H locs 0 0 Q (F0 m 0 ls []) from hmain s.heap [] hP0 va_S.rf
  clear hP0
  intro H locs hP hS
  unfold f_X3_allows at h
  refine lv_iload_n hx hb dX3_allows_0 rfl (lv_at hl 0 rfl) ?_
  refine lv_bipush (v := -12) hx hb dX3_allows_1 (by decide) ?_
  refine lv_bipush (v := 12) hx hb dX3_allows_3 (by decide) ?_
  obtain ⟨r_1, er_1, h⟩ := z_bd_some h
  refine g_callSNi (As := [.int a0, .int (-12 : Int32), .int (12 : Int32)]) (r := r_1) (n := 3) hc (mt_X7_isWithin l a0 (-12 : Int32) (12 : Int32) er_1) wH_X3_30 wT_X7_isWithin wZ_X7 wC_X7_isWithin md_X7_isWithin ⟨rfl, rfl, Nat.le_of_ble_eq_true rfl, Nat.le_of_ble_eq_true rfl⟩ rfl hl.1 rfl (Nat.le_of_ble_eq_true rfl) dX3_allows_5 ⟨Nat.le_of_ble_eq_true rfl, Nat.le_of_ble_eq_true rfl⟩ ?_
  refine lv_if_eq (tgt := 35) hx hb dX3_allows_8 (by decide) (fun c_8 => ?_) (fun c_8 => ?_)
  · replace h := z_ip_ c_8 h
    refine lv_iconst (v := 0) hx hb dX3_allows_35 (by decide) ?_
    cases h
    rw [hQ]
    exact g_retz hc hr hlocks (by decide) hP hS dX3_allows_36
  · replace h := z_in_ c_8 h
    refine lv_iload_n hx hb dX3_allows_11 rfl (lv_at hl 1 rfl) ?_
    refine lv_bipush (v := -60) hx hb dX3_allows_12 (by decide) ?_
    refine lv_bipush (v := 60) hx hb dX3_allows_14 (by decide) ?_
    obtain ⟨r_2, er_2, h⟩ := z_bd_some h
    refine g_callSNi (As := [.int a1, .int (-60 : Int32), .int (60 : Int32)]) (r := r_2) (n := 3) hc (mt_X7_isWithin l a1 (-60 : Int32) (60 : Int32) er_2) wH_X3_30 wT_X7_isWithin wZ_X7 wC_X7_isWithin md_X7_isWithin ⟨rfl, rfl, Nat.le_of_ble_eq_true rfl, Nat.le_of_ble_eq_true rfl⟩ rfl hl.1 rfl (Nat.le_of_ble_eq_true rfl) dX3_allows_16 ⟨Nat.le_of_ble_eq_true rfl, Nat.le_of_ble_eq_true rfl⟩ ?_
    refine lv_if_eq (tgt := 35) hx hb dX3_allows_19 (by decide) (fun c_19 => ?_) (fun c_19 => ?_)
    · replace h := z_ip_ c_19 h
      refine lv_iconst (v := 0) hx hb dX3_allows_35 (by decide) ?_
      cases h
      rw [hQ]
      exact g_retz hc hr hlocks (by decide) hP hS dX3_allows_36
    · replace h := z_in_ c_19 h
      refine lv_iload_n hx hb dX3_allows_22 rfl (lv_at hl 2 rfl) ?_
      refine lv_iconst (v := 1) hx hb dX3_allows_23 (by decide) ?_
      refine lv_iconst (v := 4) hx hb dX3_allows_24 (by decide) ?_
      obtain ⟨r_3, er_3, h⟩ := z_bd_some h
      refine g_callSNi (As := [.int a2, .int (1 : Int32), .int (4 : Int32)]) (r := r_3) (n := 3) hc (mt_X7_isWithin l a2 (1 : Int32) (4 : Int32) er_3) wH_X3_30 wT_X7_isWithin wZ_X7 wC_X7_isWithin md_X7_isWithin ⟨rfl, rfl, Nat.le_of_ble_eq_true rfl, Nat.le_of_ble_eq_true rfl⟩ rfl hl.1 rfl (Nat.le_of_ble_eq_true rfl) dX3_allows_25 ⟨Nat.le_of_ble_eq_true rfl, Nat.le_of_ble_eq_true rfl⟩ ?_
      refine lv_if_eq (tgt := 35) hx hb dX3_allows_28 (by decide) (fun c_28 => ?_) (fun c_28 => ?_)
      · replace h := z_ip_ c_28 h
        refine lv_iconst (v := 0) hx hb dX3_allows_35 (by decide) ?_
        cases h
        rw [hQ]
        exact g_retz hc hr hlocks (by decide) hP hS dX3_allows_36
      · replace h := z_in_ c_28 h
        refine lv_iconst (v := 1) hx hb dX3_allows_31 (by decide) ?_
        refine lv_goto (tgt := 36) hx hb dX3_allows_32 (by decide) ?_
        cases h
        rw [hQ]
        exact g_retz hc hr hlocks (by decide) hP hS dX3_allows_36
theorem md_X3_allows : yX3_allows.cls ≠ "java/lang/invoke/MethodHandle" ∧ yX3_allows.cls ≠ "java/lang/invoke/VarHandle" ∧ (parseMethodDescriptor yX3_allows.desc).map (fun d => d.parameters.length) = some 3 := by decide +kernel
noncomputable def f_X3_copy (S : GS) (o : Nat) : Option ((Option Nat) × GS) :=
  z_lt (g_nw S (.inr (.inr (.inr (3, [.null, .null, .null, .int 0]))))) fun S_1 => z_bd (f_X3_init_ S_1 S.2 o) fun S_2 => some ((some S.2), S_2)
set_option maxHeartbeats 4000000 in
set_option maxRecDepth 100000 in
theorem mt_X3_copy (l : Launch) (D : va_G) (cs : Nat → ClassId) (A : Nat → Prop) (S : GS) (o : Nat) {r_ : Option Nat} {N_ : GS} (h : f_X3_copy S o = some (r_, N_)) : Met l yX3_copy (z_wd yX3_copy cX3_copy 1 (some (.object "LevelFits$Points"))) (z_rmA 2 77 4 40) (va_Pc [.ref o] (g_C D cs A S)) (g_Q (some (va_rf r_)) N_ D cs A) 4 40 A := by
  refine Met.ofW (cc := cX3_copy) (maxL := 1) (ret := (some (.object "LevelFits$Points"))) (by decide) rfl ?_
  intro p e s m args below meth c s₁ B hml hv
  obtain ⟨hav, hP0, hK, hN, hSt, hAn⟩ := hv
  have hx := B.exec
  have hb := B.bytes
  have hr := B.returns
  have hts := atoms_spec (ws := z_wd yX3_copy cX3_copy 1 (some (.object "LevelFits$Points"))) B.pre
  have hown : s.vm.findClass RX3 = some m.cls := findClass_of_methodNamed B.named
  have hlocks := B.notSynchronized
  have hc : g_X p s m args c cX3_copy 1 RX3 D cs A := ⟨⟨hx, hb, hml, fun w hw => hts w (List.mem_cons_of_mem _ hw), hown⟩, hK, hN, hSt, hAn⟩
  have hl := lv_entry ([.ref o]) (n := 1) (Nat.le_of_ble_eq_true rfl)
  have hE : entryFrame m args 1 = F0 m 0 ((lg_sl ([.ref o]) ++ List.replicate (1 - (lg_sl ([.ref o])).length) Slot.unset).toArray) [] := by rw [hav]; exact lg_entry_eq m _ _
  rw [hE]
  clear hE hav
  generalize (lg_sl ([.ref o]) ++ List.replicate (1 - (lg_sl ([.ref o])).length) Slot.unset).toArray = ls at hl ⊢
  have hl : lv_has ls 1 [(0, .ref o)] := hl
  obtain ⟨Q, hQ⟩ : ∃ Q, Q = MQ below (g_Q (some (va_rf r_)) N_ D cs A) args s 4 40 A := ⟨_, rfl⟩
  rw [← hQ]
  suffices hmain : ∀ (H : Heap) (locs : List Loc), g_P D cs A S H → va_S A s.heap H locs → W p l e (z_rmA 2 77 4 40) s m args below meth c H locs 0 0 Q (F0 m 0 ls []) from hmain s.heap [] hP0 va_S.rf
  clear hP0
  intro H locs hP hS
  unfold f_X3_copy at h
  obtain ⟨S_1, eS_1, h⟩ := z_lt_some h
  refine g_new (ci := 3) tyX3 hc hP hS rfl z_inX3 tyX3_ok wK_X3_10 wN_X3 wZ_X3 gd_3 (Nat.le_of_ble_eq_true rfl) (Nat.le_of_ble_eq_true rfl) eS_1 dX3_copy_0 (fun H hP hS => ?_)
  show W p l e (z_rmA 2 77 4 40) s m args below meth c H locs (1) (4) Q (F0 m 3 ls [.ref S.2])
  refine lv_dup hx hb dX3_copy_3 rfl ?_
  refine lv_aload_n hx hb dX3_copy_4 rfl (lv_at hl 0 rfl) ?_
  obtain ⟨S_2, e_5, h⟩ := z_bd_some h
  refine g_callI (As := [.ref o]) (rv := none) (n := 1) hc hP hS (mt_X3_init_ l D cs A S_1 S.2 o e_5) wM_X3_34 wI_X3_init_ rfl wZ_X3 wC_X3_init_ md_X3_init_ ⟨rfl, rfl, Nat.le_of_ble_eq_true rfl, Nat.le_of_ble_eq_true rfl⟩ rfl hl.1 rfl (Nat.le_of_ble_eq_true rfl) dX3_copy_5 ⟨Nat.le_of_ble_eq_true rfl, Nat.le_of_ble_eq_true rfl⟩ (fun H locs hP hS => ?_)
  show W p l e (z_rmA 2 77 4 40) s m args below meth c H locs (4) (40) Q (F0 m 8 ls [.ref S.2])
  cases h
  rw [hQ]
  exact g_retq (r := some _) hc hr hlocks hP hS dX3_copy_8
theorem md_X3_copy : yX3_copy.cls ≠ "java/lang/invoke/MethodHandle" ∧ yX3_copy.cls ≠ "java/lang/invoke/VarHandle" ∧ (parseMethodDescriptor yX3_copy.desc).map (fun d => d.parameters.length) = some 0 := by decide +kernel
noncomputable def f_X3_isFull (S : GS) (o : Nat) : Option (Int32) :=
  z_bd (g_i S 3 3 o) fun f_1 => if f_1 < (12 : Int32) then some (0 : Int32) else some (1 : Int32)
set_option maxHeartbeats 4000000 in
set_option maxRecDepth 100000 in
theorem mt_X3_isFull (l : Launch) (D : va_G) (cs : Nat → ClassId) (A : Nat → Prop) (S : GS) (o : Nat) {r_ : Int32} (h : f_X3_isFull S o = some r_) : Met l yX3_isFull (z_wd yX3_isFull cX3_isFull 1 (some .boolean)) (z_rmA 0 0 0 0) (va_Pc [.ref o] (g_C D cs A S)) (g_Q (some (.int r_)) S D cs A) 0 0 A := by
  refine Met.ofW (cc := cX3_isFull) (maxL := 1) (ret := (some .boolean)) (by decide) rfl ?_
  intro p e s m args below meth c s₁ B hml hv
  obtain ⟨hav, hP0, hK, hN, hSt, hAn⟩ := hv
  have hx := B.exec
  have hb := B.bytes
  have hr := B.returns
  have hts := atoms_spec (ws := z_wd yX3_isFull cX3_isFull 1 (some .boolean)) B.pre
  have hown : s.vm.findClass RX3 = some m.cls := findClass_of_methodNamed B.named
  have hlocks := B.notSynchronized
  have hc : g_X p s m args c cX3_isFull 1 RX3 D cs A := ⟨⟨hx, hb, hml, fun w hw => hts w (List.mem_cons_of_mem _ hw), hown⟩, hK, hN, hSt, hAn⟩
  have hl := lv_entry ([.ref o]) (n := 1) (Nat.le_of_ble_eq_true rfl)
  have hE : entryFrame m args 1 = F0 m 0 ((lg_sl ([.ref o]) ++ List.replicate (1 - (lg_sl ([.ref o])).length) Slot.unset).toArray) [] := by rw [hav]; exact lg_entry_eq m _ _
  rw [hE]
  clear hE hav
  generalize (lg_sl ([.ref o]) ++ List.replicate (1 - (lg_sl ([.ref o])).length) Slot.unset).toArray = ls at hl ⊢
  have hl : lv_has ls 1 [(0, .ref o)] := hl
  obtain ⟨Q, hQ⟩ : ∃ Q, Q = MQ below (g_Q (some (.int r_)) S D cs A) args s 0 0 A := ⟨_, rfl⟩
  rw [← hQ]
  suffices hmain : ∀ (H : Heap) (locs : List Loc), g_P D cs A S H → va_S A s.heap H locs → W p l e (z_rmA 0 0 0 0) s m args below meth c H locs 0 0 Q (F0 m 0 ls []) from hmain s.heap [] hP0 va_S.rf
  clear hP0
  intro H locs hP hS
  unfold f_X3_isFull at h
  refine lv_aload_n hx hb dX3_isFull_0 rfl (lv_at hl 0 rfl) ?_
  obtain ⟨f_1, ef_1, h⟩ := z_bd_some h
  refine g_get (ci := 3) (k := 3) (v := .int f_1) hc hP rfl z_inX3 (by decide) wF_X3_21 (g_i_v ef_1) dX3_isFull_1 ?_
  refine lv_bipush (v := 12) hx hb dX3_isFull_4 (by decide) ?_
  refine lv_icmp_lt (tgt := 13) hx hb dX3_isFull_6 (by decide) (fun c_6 => ?_) (fun c_6 => ?_)
  · replace h := z_ip_ c_6 h
    refine lv_iconst (v := 0) hx hb dX3_isFull_13 (by decide) ?_
    cases h
    rw [hQ]
    exact g_retz hc hr hlocks (by decide) hP hS dX3_isFull_14
  · replace h := z_in_ c_6 h
    refine lv_iconst (v := 1) hx hb dX3_isFull_9 (by decide) ?_
    refine lv_goto (tgt := 14) hx hb dX3_isFull_10 (by decide) ?_
    cases h
    rw [hQ]
    exact g_retz hc hr hlocks (by decide) hP hS dX3_isFull_14
theorem md_X3_isFull : yX3_isFull.cls ≠ "java/lang/invoke/MethodHandle" ∧ yX3_isFull.cls ≠ "java/lang/invoke/VarHandle" ∧ (parseMethodDescriptor yX3_isFull.desc).map (fun d => d.parameters.length) = some 0 := by decide +kernel
noncomputable def f_X3_holds_L2 (S : GS) (a0 : Int32) (o : Nat) (x2_1 : Int32) : Option (((Int32) ⊕ (Unit)) ⊕ (Int32)) :=
  z_bd (g_i S 3 3 o) fun f_2 => if f_2 ≤ x2_1 then some (.inl (.inr ())) else z_bd (g_r S 3 0 o) fun f_3 => z_bd (g_rI S f_3 x2_1) fun v_4 => if v_4 = a0 then some (.inl (.inl (1 : Int32))) else some (.inr ((x2_1 + 1)))
noncomputable def f_X3_holds (S : GS) (o : Nat) (a0 : Int32) : Option (Int32) :=
  z_bs (z_lp (fun x => f_X3_holds_L2 S a0 o x) ((0 : Int32))) fun y => some (0 : Int32)
set_option maxHeartbeats 4000000 in
set_option maxRecDepth 100000 in
theorem mt_X3_holds (l : Launch) (D : va_G) (cs : Nat → ClassId) (A : Nat → Prop) (S : GS) (o : Nat) (a0 : Int32) {r_ : Int32} (h : f_X3_holds S o a0 = some r_) : Met l yX3_holds (z_wd yX3_holds cX3_holds 3 (some .boolean)) (z_rmA 0 0 0 0) (va_Pc [.ref o, .int a0] (g_C D cs A S)) (g_Q (some (.int r_)) S D cs A) 0 0 A := by
  refine Met.ofW (cc := cX3_holds) (maxL := 3) (ret := (some .boolean)) (by decide) rfl ?_
  intro p e s m args below meth c s₁ B hml hv
  obtain ⟨hav, hP0, hK, hN, hSt, hAn⟩ := hv
  have hx := B.exec
  have hb := B.bytes
  have hr := B.returns
  have hts := atoms_spec (ws := z_wd yX3_holds cX3_holds 3 (some .boolean)) B.pre
  have hown : s.vm.findClass RX3 = some m.cls := findClass_of_methodNamed B.named
  have hlocks := B.notSynchronized
  have hc : g_X p s m args c cX3_holds 3 RX3 D cs A := ⟨⟨hx, hb, hml, fun w hw => hts w (List.mem_cons_of_mem _ hw), hown⟩, hK, hN, hSt, hAn⟩
  have hl := lv_entry ([.ref o, .int a0]) (n := 3) (Nat.le_of_ble_eq_true rfl)
  have hE : entryFrame m args 3 = F0 m 0 ((lg_sl ([.ref o, .int a0]) ++ List.replicate (3 - (lg_sl ([.ref o, .int a0])).length) Slot.unset).toArray) [] := by rw [hav]; exact lg_entry_eq m _ _
  rw [hE]
  clear hE hav
  generalize (lg_sl ([.ref o, .int a0]) ++ List.replicate (3 - (lg_sl ([.ref o, .int a0])).length) Slot.unset).toArray = ls at hl ⊢
  have hl : lv_has ls 3 [(0, .ref o), (1, .int a0)] := hl
  obtain ⟨Q, hQ⟩ : ∃ Q, Q = MQ below (g_Q (some (.int r_)) S D cs A) args s 0 0 A := ⟨_, rfl⟩
  rw [← hQ]
  suffices hmain : ∀ (H : Heap) (locs : List Loc), g_P D cs A S H → va_S A s.heap H locs → W p l e (z_rmA 0 0 0 0) s m args below meth c H locs 0 0 Q (F0 m 0 ls []) from hmain s.heap [] hP0 va_S.rf
  clear hP0
  intro H locs hP hS
  unfold f_X3_holds at h
  refine lv_iconst (v := 0) hx hb dX3_holds_0 (by decide) ?_
  refine lv_istore_n (lv' := [(2, .int (0 : Int32)), (0, .ref o), (1, .int a0)]) hx hb dX3_holds_1 rfl hl (by decide) rfl (fun ls hl => ?_)
  have LP_2 : ∀ ee, z_lp (fun x => f_X3_holds_L2 S a0 o x) ((0 : Int32)) = some ee → ((fun z => match z with
      | .inl rr => rr = r_
      | .inr y => ∀ (H : Heap) (locs : List Loc) (ls : Array Slot), g_P D cs A S H → va_S A s.heap H locs → lv_has ls 3 [] → W p l e (z_rmA 0 0 0 0) s m args below meth c H locs (0) (0) Q (F0 m 28 ls []) : (Int32) ⊕ (Unit) → Prop) ee) → W p l e (z_rmA 0 0 0 0) s m args below meth c H locs (0) (0) Q (F0 m 2 ls []) := by
    intro ee hlp hq
    refine z_lp_ind (P := fun x => ∀ (H : Heap) (locs : List Loc) (ls : Array Slot), g_P D cs A S H → va_S A s.heap H locs → lv_has ls 3 [(0, .ref o), (1, .int a0), (2, .int x)] → W p l e (z_rmA 0 0 0 0) s m args below meth c H locs (0) (0) Q (F0 m 2 ls [])) (Qe := fun z => match z with
      | .inl rr => rr = r_
      | .inr y => ∀ (H : Heap) (locs : List Loc) (ls : Array Slot), g_P D cs A S H → va_S A s.heap H locs → lv_has ls 3 [] → W p l e (z_rmA 0 0 0 0) s m args below meth c H locs (0) (0) Q (F0 m 28 ls [])) ?_ hlp hq H locs ls hP hS (lv_sub hl [1, 2, 0] rfl)
    clear h hlp hq hP hS hl
    rintro x2_1 oo h K_2 H locs ls hP hS hl
    have hP : g_P D cs A S H := hP
    have hl : lv_has ls 3 [(0, .ref o), (1, .int a0), (2, .int x2_1)] := hl
    have h : f_X3_holds_L2 S a0 o x2_1 = some oo := h
    unfold f_X3_holds_L2 at h
    refine lv_iload_n hx hb dX3_holds_2 rfl (lv_at hl 2 rfl) ?_
    refine lv_aload_n hx hb dX3_holds_3 rfl (lv_at hl 0 rfl) ?_
    obtain ⟨f_2, ef_2, h⟩ := z_bd_some h
    refine g_get (ci := 3) (k := 3) (v := .int f_2) hc hP rfl z_inX3 (by decide) wF_X3_21 (g_i_v ef_2) dX3_holds_4 ?_
    refine lv_icmp_ge (tgt := 28) hx hb dX3_holds_7 (by decide) (fun c_7 => ?_) (fun c_7 => ?_)
    · replace h := z_ip_ c_7 h
      cases h
      exact K_2 H locs ls hP hS (lv_sub hl [] rfl)
    · replace h := z_in_ c_7 h
      refine lv_aload_n hx hb dX3_holds_10 rfl (lv_at hl 0 rfl) ?_
      obtain ⟨f_3, ef_3, h⟩ := z_bd_some h
      refine g_get (ci := 3) (k := 0) (v := .ref f_3) hc hP rfl z_inX3 (by decide) wF_X3_9 (g_r_v ef_3) dX3_holds_11 ?_
      refine lv_iload_n hx hb dX3_holds_14 rfl (lv_at hl 2 rfl) ?_
      obtain ⟨v_4, ev_4, h⟩ := z_bd_some h
      refine g_iald hc hP ev_4 dX3_holds_15 ?_
      refine lv_iload_n hx hb dX3_holds_16 rfl (lv_at hl 1 rfl) ?_
      refine lv_icmp_ne (tgt := 22) hx hb dX3_holds_17 (by decide) (fun c_17 => ?_) (fun c_17 => ?_)
      · replace h := z_in_ c_17 h
        refine lv_iinc (v := (x2_1 + 1)) (lv' := [(2, .int (x2_1 + 1)), (0, .ref o), (1, .int a0)]) hx hb dX3_holds_22 hl (k := 2) rfl rfl (by decide) rfl (fun ls hl => ?_)
        refine lv_goto (tgt := 2) hx hb dX3_holds_25 (by decide) ?_
        cases h
        exact K_2 H locs ls hP hS (lv_sub hl [1, 2, 0] rfl)
      · replace h := z_ip_ c_17 h
        refine lv_iconst (v := 1) hx hb dX3_holds_20 (by decide) ?_
        cases h
        have K_2 : (1 : Int32) = r_ := K_2
        cases K_2
        rw [hQ]
        exact g_retz hc hr hlocks (by decide) hP hS dX3_holds_21
  rcases z_bs_some h with hlp | ⟨y, hlp, h⟩
  · exact LP_2 _ hlp rfl
  · refine LP_2 _ hlp ?_
    skip
    clear hlp LP_2 hP hS hl
    show ∀ (H : Heap) (locs : List Loc) (ls : Array Slot), g_P D cs A S H → va_S A s.heap H locs → lv_has ls 3 [] → W p l e (z_rmA 0 0 0 0) s m args below meth c H locs (0) (0) Q (F0 m 28 ls [])
    intro H locs ls hP hS hl
    have hP : g_P D cs A S H := hP
    have hl : lv_has ls 3 [] := hl
    refine lv_iconst (v := 0) hx hb dX3_holds_28 (by decide) ?_
    cases h
    rw [hQ]
    exact g_retz hc hr hlocks (by decide) hP hS dX3_holds_29
theorem md_X3_holds : yX3_holds.cls ≠ "java/lang/invoke/MethodHandle" ∧ yX3_holds.cls ≠ "java/lang/invoke/VarHandle" ∧ (parseMethodDescriptor yX3_holds.desc).map (fun d => d.parameters.length) = some 1 := by decide +kernel
noncomputable def f_X3_move (S : GS) (o : Nat) (a0 : Int32) (a1 : Int32) : Option (GS) :=
  z_bd (g_r S 3 0 o) fun f_1 => z_bd (g_r S 3 0 o) fun f_2 => z_bd (g_rI S f_2 a0) fun v_3 => z_bd (g_wI S f_1 a1 v_3) fun S_4 => z_bd (g_r S_4 3 1 o) fun f_5 => z_bd (g_r S_4 3 1 o) fun f_6 => z_bd (g_rI S_4 f_6 a0) fun v_7 => z_bd (g_wI S_4 f_5 a1 v_7) fun S_8 => z_bd (g_r S_8 3 2 o) fun f_9 => z_bd (g_r S_8 3 2 o) fun f_10 => z_bd (g_rI S_8 f_10 a0) fun v_11 => z_bd (g_wI S_8 f_9 a1 v_11) fun S_12 => some S_12
set_option maxHeartbeats 4000000 in
set_option maxRecDepth 100000 in
theorem mt_X3_move (l : Launch) (D : va_G) (cs : Nat → ClassId) (A : Nat → Prop) (S : GS) (o : Nat) (a0 : Int32) (a1 : Int32) {N_ : GS} (h : f_X3_move S o a0 a1 = some N_) : Met l yX3_move (z_wd yX3_move cX3_move 3 none) (z_rmA 0 0 0 0) (va_Pc [.ref o, .int a0, .int a1] (g_C D cs A S)) (g_Q none N_ D cs A) 0 0 A := by
  refine Met.ofW (cc := cX3_move) (maxL := 3) (ret := none) (by decide) rfl ?_
  intro p e s m args below meth c s₁ B hml hv
  obtain ⟨hav, hP0, hK, hN, hSt, hAn⟩ := hv
  have hx := B.exec
  have hb := B.bytes
  have hr := B.returns
  have hts := atoms_spec (ws := z_wd yX3_move cX3_move 3 none) B.pre
  have hown : s.vm.findClass RX3 = some m.cls := findClass_of_methodNamed B.named
  have hlocks := B.notSynchronized
  have hc : g_X p s m args c cX3_move 3 RX3 D cs A := ⟨⟨hx, hb, hml, fun w hw => hts w (List.mem_cons_of_mem _ hw), hown⟩, hK, hN, hSt, hAn⟩
  have hl := lv_entry ([.ref o, .int a0, .int a1]) (n := 3) (Nat.le_of_ble_eq_true rfl)
  have hE : entryFrame m args 3 = F0 m 0 ((lg_sl ([.ref o, .int a0, .int a1]) ++ List.replicate (3 - (lg_sl ([.ref o, .int a0, .int a1])).length) Slot.unset).toArray) [] := by rw [hav]; exact lg_entry_eq m _ _
  rw [hE]
  clear hE hav
  generalize (lg_sl ([.ref o, .int a0, .int a1]) ++ List.replicate (3 - (lg_sl ([.ref o, .int a0, .int a1])).length) Slot.unset).toArray = ls at hl ⊢
  have hl : lv_has ls 3 [(0, .ref o), (1, .int a0), (2, .int a1)] := hl
  obtain ⟨Q, hQ⟩ : ∃ Q, Q = MQ below (g_Q none N_ D cs A) args s 0 0 A := ⟨_, rfl⟩
  rw [← hQ]
  suffices hmain : ∀ (H : Heap) (locs : List Loc), g_P D cs A S H → va_S A s.heap H locs → W p l e (z_rmA 0 0 0 0) s m args below meth c H locs 0 0 Q (F0 m 0 ls []) from hmain s.heap [] hP0 va_S.rf
  clear hP0
  intro H locs hP hS
  unfold f_X3_move at h
  refine lv_aload_n hx hb dX3_move_0 rfl (lv_at hl 0 rfl) ?_
  obtain ⟨f_1, ef_1, h⟩ := z_bd_some h
  refine g_get (ci := 3) (k := 0) (v := .ref f_1) hc hP rfl z_inX3 (by decide) wF_X3_9 (g_r_v ef_1) dX3_move_1 ?_
  refine lv_iload_n hx hb dX3_move_4 rfl (lv_at hl 2 rfl) ?_
  refine lv_aload_n hx hb dX3_move_5 rfl (lv_at hl 0 rfl) ?_
  obtain ⟨f_2, ef_2, h⟩ := z_bd_some h
  refine g_get (ci := 3) (k := 0) (v := .ref f_2) hc hP rfl z_inX3 (by decide) wF_X3_9 (g_r_v ef_2) dX3_move_6 ?_
  refine lv_iload_n hx hb dX3_move_9 rfl (lv_at hl 1 rfl) ?_
  obtain ⟨v_3, ev_3, h⟩ := z_bd_some h
  refine g_iald hc hP ev_3 dX3_move_10 ?_
  obtain ⟨S_4, eS_4, h⟩ := z_bd_some h
  refine g_iast hc hP hS eS_4 dX3_move_11 (fun H locs hP hS => ?_)
  refine lv_aload_n hx hb dX3_move_12 rfl (lv_at hl 0 rfl) ?_
  obtain ⟨f_5, ef_5, h⟩ := z_bd_some h
  refine g_get (ci := 3) (k := 1) (v := .ref f_5) hc hP rfl z_inX3 (by decide) wF_X3_15 (g_r_v ef_5) dX3_move_13 ?_
  refine lv_iload_n hx hb dX3_move_16 rfl (lv_at hl 2 rfl) ?_
  refine lv_aload_n hx hb dX3_move_17 rfl (lv_at hl 0 rfl) ?_
  obtain ⟨f_6, ef_6, h⟩ := z_bd_some h
  refine g_get (ci := 3) (k := 1) (v := .ref f_6) hc hP rfl z_inX3 (by decide) wF_X3_15 (g_r_v ef_6) dX3_move_18 ?_
  refine lv_iload_n hx hb dX3_move_21 rfl (lv_at hl 1 rfl) ?_
  obtain ⟨v_7, ev_7, h⟩ := z_bd_some h
  refine g_iald hc hP ev_7 dX3_move_22 ?_
  obtain ⟨S_8, eS_8, h⟩ := z_bd_some h
  refine g_iast hc hP hS eS_8 dX3_move_23 (fun H locs hP hS => ?_)
  refine lv_aload_n hx hb dX3_move_24 rfl (lv_at hl 0 rfl) ?_
  obtain ⟨f_9, ef_9, h⟩ := z_bd_some h
  refine g_get (ci := 3) (k := 2) (v := .ref f_9) hc hP rfl z_inX3 (by decide) wF_X3_18 (g_r_v ef_9) dX3_move_25 ?_
  refine lv_iload_n hx hb dX3_move_28 rfl (lv_at hl 2 rfl) ?_
  refine lv_aload_n hx hb dX3_move_29 rfl (lv_at hl 0 rfl) ?_
  obtain ⟨f_10, ef_10, h⟩ := z_bd_some h
  refine g_get (ci := 3) (k := 2) (v := .ref f_10) hc hP rfl z_inX3 (by decide) wF_X3_18 (g_r_v ef_10) dX3_move_30 ?_
  refine lv_iload_n hx hb dX3_move_33 rfl (lv_at hl 1 rfl) ?_
  obtain ⟨v_11, ev_11, h⟩ := z_bd_some h
  refine g_iald hc hP ev_11 dX3_move_34 ?_
  obtain ⟨S_12, eS_12, h⟩ := z_bd_some h
  refine g_iast hc hP hS eS_12 dX3_move_35 (fun H locs hP hS => ?_)
  cases h
  rw [hQ]
  exact g_retv hc hr hlocks hP hS dX3_move_36
theorem md_X3_move : yX3_move.cls ≠ "java/lang/invoke/MethodHandle" ∧ yX3_move.cls ≠ "java/lang/invoke/VarHandle" ∧ (parseMethodDescriptor yX3_move.desc).map (fun d => d.parameters.length) = some 2 := by decide +kernel
noncomputable def f_X3_insert_L18 (a0 : Int32) (o : Nat) (x4_3 : Int32) (S_4 : GS) : Option ((Int32 × GS) ⊕ (Int32 × GS)) :=
  if x4_3 ≤ 0 then some (.inl (x4_3, S_4)) else z_bd (g_r S_4 3 0 o) fun f_7 => z_bd (g_rI S_4 f_7 (x4_3 - (1 : Int32))) fun v_8 => if v_8 ≤ a0 then some (.inl (x4_3, S_4)) else z_chk (g_is S_4 3 o) (z_bd (f_X3_move S_4 o (x4_3 - (1 : Int32)) x4_3) fun S_9 => some (.inr ((x4_3 + (-1)), S_9)))
noncomputable def f_X3_insert (S : GS) (o : Nat) (a0 : Int32) (a1 : Int32) (a2 : Int32) : Option ((Int32) × GS) :=
  z_chk (g_is S 3 o) (z_bd (f_X3_isFull S o ) fun r_1 => if r_1 = 0 then z_bd (g_i S 3 3 o) fun f_2 => z_bd2 (z_lp (fun x => f_X3_insert_L18 a0 o x.1 x.2) (f_2, S)) fun y4_5 S_6 => z_bd (g_r S_6 3 0 o) fun f_10 => z_bd (g_wI S_6 f_10 y4_5 a0) fun S_11 => z_bd (g_r S_11 3 1 o) fun f_12 => z_bd (g_wI S_11 f_12 y4_5 a1) fun S_13 => z_bd (g_r S_13 3 2 o) fun f_14 => z_bd (g_wI S_13 f_14 y4_5 a2) fun S_15 => z_bd (g_i S_15 3 3 o) fun f_16 => z_bd (g_put S_15 3 3 o (.int (f_16 + (1 : Int32)))) fun S_17 => z_bd (g_i S_17 3 3 o) fun f_18 => some (f_18, S_17) else z_bd (g_i S 3 3 o) fun f_19 => some (f_19, S))
set_option maxHeartbeats 4000000 in
set_option maxRecDepth 100000 in
theorem mt_X3_insert (l : Launch) (D : va_G) (cs : Nat → ClassId) (A : Nat → Prop) (S : GS) (o : Nat) (a0 : Int32) (a1 : Int32) (a2 : Int32) {r_ : Int32} {N_ : GS} (h : f_X3_insert S o a0 a1 a2 = some (r_, N_)) : Met l yX3_insert (z_wd yX3_insert cX3_insert 5 (some .int)) (z_rmA 1 38 0 0) (va_Pc [.ref o, .int a0, .int a1, .int a2] (g_C D cs A S)) (g_Q (some (.int r_)) N_ D cs A) 0 0 A := by
  refine Met.ofW (cc := cX3_insert) (maxL := 5) (ret := (some .int)) (by decide) rfl ?_
  intro p e s m args below meth c s₁ B hml hv
  obtain ⟨hav, hP0, hK, hN, hSt, hAn⟩ := hv
  have hx := B.exec
  have hb := B.bytes
  have hr := B.returns
  have hts := atoms_spec (ws := z_wd yX3_insert cX3_insert 5 (some .int)) B.pre
  have hown : s.vm.findClass RX3 = some m.cls := findClass_of_methodNamed B.named
  have hlocks := B.notSynchronized
  have hc : g_X p s m args c cX3_insert 5 RX3 D cs A := ⟨⟨hx, hb, hml, fun w hw => hts w (List.mem_cons_of_mem _ hw), hown⟩, hK, hN, hSt, hAn⟩
  have hl := lv_entry ([.ref o, .int a0, .int a1, .int a2]) (n := 5) (Nat.le_of_ble_eq_true rfl)
  have hE : entryFrame m args 5 = F0 m 0 ((lg_sl ([.ref o, .int a0, .int a1, .int a2]) ++ List.replicate (5 - (lg_sl ([.ref o, .int a0, .int a1, .int a2])).length) Slot.unset).toArray) [] := by rw [hav]; exact lg_entry_eq m _ _
  rw [hE]
  clear hE hav
  generalize (lg_sl ([.ref o, .int a0, .int a1, .int a2]) ++ List.replicate (5 - (lg_sl ([.ref o, .int a0, .int a1, .int a2])).length) Slot.unset).toArray = ls at hl ⊢
  have hl : lv_has ls 5 [(0, .ref o), (1, .int a0), (2, .int a1), (3, .int a2)] := hl
  obtain ⟨Q, hQ⟩ : ∃ Q, Q = MQ below (g_Q (some (.int r_)) N_ D cs A) args s 0 0 A := ⟨_, rfl⟩
  rw [← hQ]
  suffices hmain : ∀ (H : Heap) (locs : List Loc), g_P D cs A S H → va_S A s.heap H locs → W p l e (z_rmA 1 38 0 0) s m args below meth c H locs 0 0 Q (F0 m 0 ls []) from hmain s.heap [] hP0 va_S.rf
  clear hP0
  intro H locs hP hS
  unfold f_X3_insert at h
  refine lv_aload_n hx hb dX3_insert_0 rfl (lv_at hl 0 rfl) ?_
  obtain ⟨ho_1, h⟩ := z_chk_some h
  obtain ⟨vs_, ho_1⟩ := Option.isSome_iff_exists.mp ho_1
  obtain ⟨r_1, e_1, h⟩ := z_bd_some h
  refine g_callV (ci := 3) (As := []) (rv := (some (.int r_1))) (n := 0) hc hP hS rfl ho_1 (mt_X3_isFull l D cs A S o  e_1) wM_X3_37 wI_X3_isFull wS_X3_isFull wZ_X3 wC_X3_isFull md_X3_isFull ⟨rfl, rfl, Nat.le_of_ble_eq_true rfl, Nat.le_of_ble_eq_true rfl⟩ rfl hl.1 rfl (Nat.le_of_ble_eq_true rfl) dX3_insert_1 ⟨Nat.le_of_ble_eq_true rfl, Nat.le_of_ble_eq_true rfl⟩ (fun H locs hP hS => ?_)
  show W p l e (z_rmA 1 38 0 0) s m args below meth c H locs (0) (0) Q (F0 m 4 ls [.int r_1])
  refine lv_if_eq (tgt := 12) hx hb dX3_insert_4 (by decide) (fun c_4 => ?_) (fun c_4 => ?_)
  · replace h := z_ip_ c_4 h
    refine lv_aload_n hx hb dX3_insert_12 rfl (lv_at hl 0 rfl) ?_
    obtain ⟨f_2, ef_2, h⟩ := z_bd_some h
    refine g_get (ci := 3) (k := 3) (v := .int f_2) hc hP rfl z_inX3 (by decide) wF_X3_21 (g_i_v ef_2) dX3_insert_13 ?_
    refine lv_istore (lv' := [(4, .int f_2), (0, .ref o), (1, .int a0), (2, .int a1), (3, .int a2)]) hx hb dX3_insert_16 hl (by decide) rfl (fun ls hl => ?_)
    obtain ⟨y4_5, S_6, hlp, h⟩ := z_bd2_some h
    refine z_lp_ind (P := fun x => ∀ (H : Heap) (locs : List Loc) (ls : Array Slot), g_P D cs A x.2 H → va_S A s.heap H locs → lv_has ls 5 [(0, .ref o), (1, .int a0), (2, .int a1), (3, .int a2), (4, .int x.1)] → W p l e (z_rmA 1 38 0 0) s m args below meth c H locs (0) (0) Q (F0 m 18 ls [])) (Qe := fun y => ∀ (H : Heap) (locs : List Loc) (ls : Array Slot), g_P D cs A y.2 H → va_S A s.heap H locs → lv_has ls 5 [(0, .ref o), (1, .int a0), (2, .int a1), (3, .int a2), (4, .int y.1)] → W p l e (z_rmA 1 38 0 0) s m args below meth c H locs (0) (0) Q (F0 m 52 ls [])) ?_ hlp ?_ H locs ls hP hS (lv_sub hl [1, 2, 3, 4, 0] rfl)
    · clear h hlp hP hS hl
      rintro ⟨x4_3, S_4⟩ oo h K_18 H locs ls hP hS hl
      have hP : g_P D cs A S_4 H := hP
      have hl : lv_has ls 5 [(0, .ref o), (1, .int a0), (2, .int a1), (3, .int a2), (4, .int x4_3)] := hl
      have h : f_X3_insert_L18 a0 o x4_3 S_4 = some oo := h
      unfold f_X3_insert_L18 at h
      refine lv_iload hx hb dX3_insert_18 (lv_at hl 4 rfl) ?_
      refine lv_if_le (tgt := 52) hx hb dX3_insert_20 (by decide) (fun c_20 => ?_) (fun c_20 => ?_)
      · replace h := z_ip_ c_20 h
        cases h
        exact K_18 H locs ls hP hS (lv_sub hl [0, 1, 2, 3, 4] rfl)
      · replace h := z_in_ c_20 h
        refine lv_aload_n hx hb dX3_insert_23 rfl (lv_at hl 0 rfl) ?_
        obtain ⟨f_7, ef_7, h⟩ := z_bd_some h
        refine g_get (ci := 3) (k := 0) (v := .ref f_7) hc hP rfl z_inX3 (by decide) wF_X3_9 (g_r_v ef_7) dX3_insert_24 ?_
        refine lv_iload hx hb dX3_insert_27 (lv_at hl 4 rfl) ?_
        refine lv_iconst (v := 1) hx hb dX3_insert_29 (by decide) ?_
        refine lv_isub hx hb dX3_insert_30 ?_
        obtain ⟨v_8, ev_8, h⟩ := z_bd_some h
        refine g_iald hc hP ev_8 dX3_insert_31 ?_
        refine lv_iload_n hx hb dX3_insert_32 rfl (lv_at hl 1 rfl) ?_
        refine lv_icmp_le (tgt := 52) hx hb dX3_insert_33 (by decide) (fun c_33 => ?_) (fun c_33 => ?_)
        · replace h := z_ip_ c_33 h
          cases h
          exact K_18 H locs ls hP hS (lv_sub hl [0, 1, 2, 3, 4] rfl)
        · replace h := z_in_ c_33 h
          refine lv_aload_n hx hb dX3_insert_36 rfl (lv_at hl 0 rfl) ?_
          refine lv_iload hx hb dX3_insert_37 (lv_at hl 4 rfl) ?_
          refine lv_iconst (v := 1) hx hb dX3_insert_39 (by decide) ?_
          refine lv_isub hx hb dX3_insert_40 ?_
          refine lv_iload hx hb dX3_insert_41 (lv_at hl 4 rfl) ?_
          obtain ⟨ho_43, h⟩ := z_chk_some h
          obtain ⟨vs_, ho_43⟩ := Option.isSome_iff_exists.mp ho_43
          obtain ⟨S_9, e_43, h⟩ := z_bd_some h
          refine g_callV (ci := 3) (As := [.int (x4_3 - (1 : Int32)), .int x4_3]) (rv := none) (n := 2) hc hP hS rfl ho_43 (mt_X3_move l D cs A S_4 o (x4_3 - (1 : Int32)) x4_3 e_43) wM_X3_41 wI_X3_move wS_X3_move wZ_X3 wC_X3_move md_X3_move ⟨rfl, rfl, Nat.le_of_ble_eq_true rfl, Nat.le_of_ble_eq_true rfl⟩ rfl hl.1 rfl (Nat.le_of_ble_eq_true rfl) dX3_insert_43 ⟨Nat.le_of_ble_eq_true rfl, Nat.le_of_ble_eq_true rfl⟩ (fun H locs hP hS => ?_)
          show W p l e (z_rmA 1 38 0 0) s m args below meth c H locs (0) (0) Q (F0 m 46 ls [])
          refine lv_iinc (v := (x4_3 + (-1))) (lv' := [(4, .int (x4_3 + (-1))), (0, .ref o), (1, .int a0), (2, .int a1), (3, .int a2)]) hx hb dX3_insert_46 hl (k := 4) rfl rfl (by decide) rfl (fun ls hl => ?_)
          refine lv_goto (tgt := 18) hx hb dX3_insert_49 (by decide) ?_
          cases h
          exact K_18 H locs ls hP hS (lv_sub hl [1, 2, 3, 4, 0] rfl)
    · clear hlp hP hS hl
      intro H locs ls hP hS hl
      have hP : g_P D cs A S_6 H := hP
      have hl : lv_has ls 5 [(0, .ref o), (1, .int a0), (2, .int a1), (3, .int a2), (4, .int y4_5)] := hl
      refine lv_aload_n hx hb dX3_insert_52 rfl (lv_at hl 0 rfl) ?_
      obtain ⟨f_10, ef_10, h⟩ := z_bd_some h
      refine g_get (ci := 3) (k := 0) (v := .ref f_10) hc hP rfl z_inX3 (by decide) wF_X3_9 (g_r_v ef_10) dX3_insert_53 ?_
      refine lv_iload hx hb dX3_insert_56 (lv_at hl 4 rfl) ?_
      refine lv_iload_n hx hb dX3_insert_58 rfl (lv_at hl 1 rfl) ?_
      obtain ⟨S_11, eS_11, h⟩ := z_bd_some h
      refine g_iast hc hP hS eS_11 dX3_insert_59 (fun H locs hP hS => ?_)
      refine lv_aload_n hx hb dX3_insert_60 rfl (lv_at hl 0 rfl) ?_
      obtain ⟨f_12, ef_12, h⟩ := z_bd_some h
      refine g_get (ci := 3) (k := 1) (v := .ref f_12) hc hP rfl z_inX3 (by decide) wF_X3_15 (g_r_v ef_12) dX3_insert_61 ?_
      refine lv_iload hx hb dX3_insert_64 (lv_at hl 4 rfl) ?_
      refine lv_iload_n hx hb dX3_insert_66 rfl (lv_at hl 2 rfl) ?_
      obtain ⟨S_13, eS_13, h⟩ := z_bd_some h
      refine g_iast hc hP hS eS_13 dX3_insert_67 (fun H locs hP hS => ?_)
      refine lv_aload_n hx hb dX3_insert_68 rfl (lv_at hl 0 rfl) ?_
      obtain ⟨f_14, ef_14, h⟩ := z_bd_some h
      refine g_get (ci := 3) (k := 2) (v := .ref f_14) hc hP rfl z_inX3 (by decide) wF_X3_18 (g_r_v ef_14) dX3_insert_69 ?_
      refine lv_iload hx hb dX3_insert_72 (lv_at hl 4 rfl) ?_
      refine lv_iload_n hx hb dX3_insert_74 rfl (lv_at hl 3 rfl) ?_
      obtain ⟨S_15, eS_15, h⟩ := z_bd_some h
      refine g_iast hc hP hS eS_15 dX3_insert_75 (fun H locs hP hS => ?_)
      refine lv_aload_n hx hb dX3_insert_76 rfl (lv_at hl 0 rfl) ?_
      refine lv_dup hx hb dX3_insert_77 rfl ?_
      obtain ⟨f_16, ef_16, h⟩ := z_bd_some h
      refine g_get (ci := 3) (k := 3) (v := .int f_16) hc hP rfl z_inX3 (by decide) wF_X3_21 (g_i_v ef_16) dX3_insert_78 ?_
      refine lv_iconst (v := 1) hx hb dX3_insert_81 (by decide) ?_
      refine lv_iadd hx hb dX3_insert_82 ?_
      obtain ⟨S_17, eS_17, h⟩ := z_bd_some h
      refine g_putf (ci := 3) (k := 3) (ty := .int) tyX3 hc hP hS rfl z_inX3 tyX3_ok nmX3 (by decide) wF_X3_21 rfl (by decide +kernel) rfl rfl eS_17 dX3_insert_83 (fun H locs hP hS => ?_)
      refine lv_aload_n hx hb dX3_insert_86 rfl (lv_at hl 0 rfl) ?_
      obtain ⟨f_18, ef_18, h⟩ := z_bd_some h
      refine g_get (ci := 3) (k := 3) (v := .int f_18) hc hP rfl z_inX3 (by decide) wF_X3_21 (g_i_v ef_18) dX3_insert_87 ?_
      cases h
      rw [hQ]
      exact g_reti hc hr hlocks hP hS dX3_insert_90
  · replace h := z_in_ c_4 h
    refine lv_aload_n hx hb dX3_insert_7 rfl (lv_at hl 0 rfl) ?_
    obtain ⟨f_19, ef_19, h⟩ := z_bd_some h
    refine g_get (ci := 3) (k := 3) (v := .int f_19) hc hP rfl z_inX3 (by decide) wF_X3_21 (g_i_v ef_19) dX3_insert_8 ?_
    cases h
    rw [hQ]
    exact g_reti hc hr hlocks hP hS dX3_insert_11
theorem md_X3_insert : yX3_insert.cls ≠ "java/lang/invoke/MethodHandle" ∧ yX3_insert.cls ≠ "java/lang/invoke/VarHandle" ∧ (parseMethodDescriptor yX3_insert.desc).map (fun d => d.parameters.length) = some 3 := by decide +kernel
