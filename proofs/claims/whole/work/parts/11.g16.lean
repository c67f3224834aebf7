noncomputable def f_X7_begins (S : GS) (o : Nat) (a0 : Int32) (a1 : Int32) : Option (Int32) :=
  z_chk (g_is S 7 o) (z_bd (f_X7_fitAt S o a0) fun q_1 => z_mt q_1 (some (-1 : Int32)) fun a_2 => z_bd (g_i S 1 1 a_2) fun f_3 => if f_3 = (4 : Int32) then z_chk (g_is S 1 a_2) (z_bd (f_X1_hasPart S a_2 a1) fun r_4 => if r_4 = 0 then some (-1 : Int32) else z_bd (g_r S 1 5 a_2) fun f_5 => z_bd (g_rI S f_5 a1) fun v_6 => some v_6) else some (-1 : Int32))
set_option maxHeartbeats 4000000 in
set_option maxRecDepth 100000 in
theorem mt_X7_begins (l : Launch) (D : va_G) (cs : Nat → ClassId) (A : Nat → Prop) (S : GS) (o : Nat) (a0 : Int32) (a1 : Int32) {r_ : Int32} (h : f_X7_begins S o a0 a1 = some r_) : Met l yX7_begins (z_wd yX7_begins cX7_begins 4 (some .int)) (z_rmA 1 37 0 0) (va_Pc [.ref o, .int a0, .int a1] (g_C D cs A S)) (g_Q (some (.int r_)) S D cs A) 0 0 A := by
  refine Met.ofW (cc := cX7_begins) (maxL := 4) (ret := (some .int)) (by decide) rfl ?_
  intro p e s m args below meth c s₁ B hml hv
  obtain ⟨hav, hP0, hK, hN, hSt, hAn⟩ := hv
  have hx := B.exec
  have hb := B.bytes
  have hr := B.returns
  have hts := atoms_spec (ws := z_wd yX7_begins cX7_begins 4 (some .int)) B.pre
  have hown : s.vm.findClass RX7 = some m.cls := findClass_of_methodNamed B.named
  have hlocks := B.notSynchronized
  have hc : g_X p s m args c cX7_begins 4 RX7 D cs A := ⟨⟨hx, hb, hml, fun w hw => hts w (List.mem_cons_of_mem _ hw), hown⟩, hK, hN, hSt, hAn⟩
  have hl := lv_entry ([.ref o, .int a0, .int a1]) (n := 4) (Nat.le_of_ble_eq_true rfl)
  have hE : entryFrame m args 4 = F0 m 0 ((lg_sl ([.ref o, .int a0, .int a1]) ++ List.replicate (4 - (lg_sl ([.ref o, .int a0, .int a1])).length) Slot.unset).toArray) [] := by rw [hav]; exact lg_entry_eq m _ _
  rw [hE]
  clear hE hav
  generalize (lg_sl ([.ref o, .int a0, .int a1]) ++ List.replicate (4 - (lg_sl ([.ref o, .int a0, .int a1])).length) Slot.unset).toArray = ls at hl ⊢
  have hl : lv_has ls 4 [(0, .ref o), (1, .int a0), (2, .int a1)] := hl
  obtain ⟨Q, hQ⟩ : ∃ Q, Q = MQ below (g_Q (some (.int r_)) S D cs A) args s 0 0 A := ⟨_, rfl⟩
  rw [← hQ]
  suffices hmain : ∀ (H : Heap) (locs : List Loc), g_P D cs A S H → va_S A s.heap H locs → W p l e (z_rmA 1 37 0 0) s m args below meth c H locs 0 0 Q (F0 m 0 ls []) from hmain s.heap [] hP0 va_S.rf
  clear hP0
  intro H locs hP hS
  unfold f_X7_begins at h
  refine lv_aload_n hx hb dX7_begins_0 rfl (lv_at hl 0 rfl) ?_
  refine lv_iload_n hx hb dX7_begins_1 rfl (lv_at hl 1 rfl) ?_
  obtain ⟨ho_2, h⟩ := z_chk_some h
  obtain ⟨vs_, ho_2⟩ := Option.isSome_iff_exists.mp ho_2
  obtain ⟨q_1, e_2, h⟩ := z_bd_some h
  refine g_callV (ci := 7) (As := [.int a0]) (rv := (some (va_rf q_1))) (n := 1) hc hP hS rfl ho_2 (mt_X7_fitAt l D cs A S o a0 e_2) wM_X7_172 wI_X7_fitAt wS_X7_fitAt wZ_X7 wC_X7_fitAt md_X7_fitAt ⟨rfl, rfl, Nat.le_of_ble_eq_true rfl, Nat.le_of_ble_eq_true rfl⟩ rfl hl.1 rfl (Nat.le_of_ble_eq_true rfl) dX7_begins_2 ⟨Nat.le_of_ble_eq_true rfl, Nat.le_of_ble_eq_true rfl⟩ (fun H locs hP hS => ?_)
  show W p l e (z_rmA 1 37 0 0) s m args below meth c H locs (0) (0) Q (F0 m 5 ls [va_rf q_1])
  refine q_astore_n (lv' := [(3, va_rf q_1), (0, .ref o), (1, .int a0), (2, .int a1)]) hx hb dX7_begins_5 rfl hl (by decide) rfl (fun ls hl => ?_)
  refine q_aload_n hx hb dX7_begins_6 rfl (lv_at hl 0 rfl) ?_
  rcases q_1 with _ | a_2
  · replace h := z_mt_n h
    refine lv_ifnullN (tgt := 26) hx hb dX7_begins_7 (by decide) ?_
    refine lv_iconst (v := -1) hx hb dX7_begins_26 (by decide) ?_
    cases h
    rw [hQ]
    exact g_reti hc hr hlocks hP hS dX7_begins_27
  · replace h := z_mt_s h
    refine lv_ifnull hx hb dX7_begins_7 ?_
    refine lv_aload_n hx hb dX7_begins_10 rfl (lv_at hl 0 rfl) ?_
    obtain ⟨f_3, ef_3, h⟩ := z_bd_some h
    refine g_getN (ci := 1) (k := 1) (v := .int f_3) hc hP rfl z_inX1 (by decide) wG_X7_176 (g_i_v ef_3) dX7_begins_11 ?_
    refine lv_iconst (v := 4) hx hb dX7_begins_14 (by decide) ?_
    refine lv_icmp_ne (tgt := 26) hx hb dX7_begins_15 (by decide) (fun c_15 => ?_) (fun c_15 => ?_)
    · replace h := z_in_ c_15 h
      refine lv_iconst (v := -1) hx hb dX7_begins_26 (by decide) ?_
      cases h
      rw [hQ]
      exact g_reti hc hr hlocks hP hS dX7_begins_27
    · replace h := z_ip_ c_15 h
      refine lv_aload_n hx hb dX7_begins_18 rfl (lv_at hl 0 rfl) ?_
      refine lv_iload_n hx hb dX7_begins_19 rfl (lv_at hl 3 rfl) ?_
      obtain ⟨ho_20, h⟩ := z_chk_some h
      obtain ⟨vs_, ho_20⟩ := Option.isSome_iff_exists.mp ho_20
      obtain ⟨r_4, e_20, h⟩ := z_bd_some h
      refine g_callV (ci := 1) (As := [.int a1]) (rv := (some (.int r_4))) (n := 1) hc hP hS rfl ho_20 (mt_X1_hasPart l D cs A S a_2 a1 e_20) wM_X7_189 wI_X1_hasPart wS_X1_hasPart wZ_X1 wC_X1_hasPart md_X1_hasPart ⟨rfl, rfl, Nat.le_of_ble_eq_true rfl, Nat.le_of_ble_eq_true rfl⟩ rfl hl.1 rfl (Nat.le_of_ble_eq_true rfl) dX7_begins_20 ⟨Nat.le_of_ble_eq_true rfl, Nat.le_of_ble_eq_true rfl⟩ (fun H locs hP hS => ?_)
      show W p l e (z_rmA 1 37 0 0) s m args below meth c H locs (0) (0) Q (F0 m 23 ls [.int r_4])
      refine lv_if_ne (tgt := 28) hx hb dX7_begins_23 (by decide) (fun c_23 => ?_) (fun c_23 => ?_)
      · replace h := z_in_ c_23 h
        refine lv_aload_n hx hb dX7_begins_28 rfl (lv_at hl 0 rfl) ?_
        obtain ⟨f_5, ef_5, h⟩ := z_bd_some h
        refine g_getN (ci := 1) (k := 5) (v := .ref f_5) hc hP rfl z_inX1 (by decide) wG_X7_230 (g_r_v ef_5) dX7_begins_29 ?_
        refine lv_iload_n hx hb dX7_begins_32 rfl (lv_at hl 3 rfl) ?_
        obtain ⟨v_6, ev_6, h⟩ := z_bd_some h
        refine g_iald hc hP ev_6 dX7_begins_33 ?_
        cases h
        rw [hQ]
        exact g_reti hc hr hlocks hP hS dX7_begins_34
      · replace h := z_ip_ c_23 h
        refine lv_iconst (v := -1) hx hb dX7_begins_26 (by decide) ?_
        cases h
        rw [hQ]
        exact g_reti hc hr hlocks hP hS dX7_begins_27
theorem md_X7_begins : yX7_begins.cls ≠ "java/lang/invoke/MethodHandle" ∧ yX7_begins.cls ≠ "java/lang/invoke/VarHandle" ∧ (parseMethodDescriptor yX7_begins.desc).map (fun d => d.parameters.length) = some 2 := by decide +kernel
noncomputable def f_X7_turns (S : GS) (o : Nat) (a0 : Int32) : Option (Int32) :=
  z_chk (g_is S 7 o) (z_bd (f_X7_fitAt S o a0) fun q_1 => z_mt q_1 (some (-1 : Int32)) fun a_2 => z_chk (g_is S 1 a_2) (z_bd (f_X1_hasTurns S a_2 ) fun r_3 => if r_3 = 0 then some (-1 : Int32) else z_chk (g_is S 1 a_2) (z_bd (f_X1_theTurns S a_2 ) fun r_4 => some r_4)))
set_option maxHeartbeats 4000000 in
set_option maxRecDepth 100000 in
theorem mt_X7_turns (l : Launch) (D : va_G) (cs : Nat → ClassId) (A : Nat → Prop) (S : GS) (o : Nat) (a0 : Int32) {r_ : Int32} (h : f_X7_turns S o a0 = some r_) : Met l yX7_turns (z_wd yX7_turns cX7_turns 3 (some .int)) (z_rmA 6 236 0 0) (va_Pc [.ref o, .int a0] (g_C D cs A S)) (g_Q (some (.int r_)) S D cs A) 0 0 A := by
  refine Met.ofW (cc := cX7_turns) (maxL := 3) (ret := (some .int)) (by decide) rfl ?_
  intro p e s m args below meth c s₁ B hml hv
  obtain ⟨hav, hP0, hK, hN, hSt, hAn⟩ := hv
  have hx := B.exec
  have hb := B.bytes
  have hr := B.returns
  have hts := atoms_spec (ws := z_wd yX7_turns cX7_turns 3 (some .int)) B.pre
  have hown : s.vm.findClass RX7 = some m.cls := findClass_of_methodNamed B.named
  have hlocks := B.notSynchronized
  have hc : g_X p s m args c cX7_turns 3 RX7 D cs A := ⟨⟨hx, hb, hml, fun w hw => hts w (List.mem_cons_of_mem _ hw), hown⟩, hK, hN, hSt, hAn⟩
  have hl := lv_entry ([.ref o, .int a0]) (n := 3) (Nat.le_of_ble_eq_true rfl)
  have hE : entryFrame m args 3 = F0 m 0 ((lg_sl ([.ref o, .int a0]) ++ List.replicate (3 - (lg_sl ([.ref o, .int a0])).length) Slot.unset).toArray) [] := by rw [hav]; exact lg_entry_eq m _ _
  rw [hE]
  clear hE hav
  generalize (lg_sl ([.ref o, .int a0]) ++ List.replicate (3 - (lg_sl ([.ref o, .int a0])).length) Slot.unset).toArray = ls at hl ⊢
  have hl : lv_has ls 3 [(0, .ref o), (1, .int a0)] := hl
  obtain ⟨Q, hQ⟩ : ∃ Q, Q = MQ below (g_Q (some (.int r_)) S D cs A) args s 0 0 A := ⟨_, rfl⟩
  rw [← hQ]
  suffices hmain : ∀ (H : Heap) (locs : List Loc), g_P D cs A S H → va_S A s.heap H locs → W p l e (z_rmA 6 236 0 0) s m args below meth c H locs 0 0 Q (F0 m 0 ls []) from hmain s.heap [] hP0 va_S.rf
  clear hP0
  intro H locs hP hS
  unfold f_X7_turns at h
  refine lv_aload_n hx hb dX7_turns_0 rfl (lv_at hl 0 rfl) ?_
  refine lv_iload_n hx hb dX7_turns_1 rfl (lv_at hl 1 rfl) ?_
  obtain ⟨ho_2, h⟩ := z_chk_some h
  obtain ⟨vs_, ho_2⟩ := Option.isSome_iff_exists.mp ho_2
  obtain ⟨q_1, e_2, h⟩ := z_bd_some h
  refine g_callV (ci := 7) (As := [.int a0]) (rv := (some (va_rf q_1))) (n := 1) hc hP hS rfl ho_2 (mt_X7_fitAt l D cs A S o a0 e_2) wM_X7_172 wI_X7_fitAt wS_X7_fitAt wZ_X7 wC_X7_fitAt md_X7_fitAt ⟨rfl, rfl, Nat.le_of_ble_eq_true rfl, Nat.le_of_ble_eq_true rfl⟩ rfl hl.1 rfl (Nat.le_of_ble_eq_true rfl) dX7_turns_2 ⟨Nat.le_of_ble_eq_true rfl, Nat.le_of_ble_eq_true rfl⟩ (fun H locs hP hS => ?_)
  show W p l e (z_rmA 6 236 0 0) s m args below meth c H locs (0) (0) Q (F0 m 5 ls [va_rf q_1])
  refine q_astore_n (lv' := [(2, va_rf q_1), (0, .ref o), (1, .int a0)]) hx hb dX7_turns_5 rfl hl (by decide) rfl (fun ls hl => ?_)
  refine q_aload_n hx hb dX7_turns_6 rfl (lv_at hl 0 rfl) ?_
  rcases q_1 with _ | a_2
  · replace h := z_mt_n h
    refine lv_ifnullN (tgt := 17) hx hb dX7_turns_7 (by decide) ?_
    refine lv_iconst (v := -1) hx hb dX7_turns_17 (by decide) ?_
    refine lv_goto (tgt := 25) hx hb dX7_turns_18 (by decide) ?_
    cases h
    rw [hQ]
    exact g_reti hc hr hlocks hP hS dX7_turns_25
  · replace h := z_mt_s h
    refine lv_ifnull hx hb dX7_turns_7 ?_
    refine lv_aload_n hx hb dX7_turns_10 rfl (lv_at hl 0 rfl) ?_
    obtain ⟨ho_11, h⟩ := z_chk_some h
    obtain ⟨vs_, ho_11⟩ := Option.isSome_iff_exists.mp ho_11
    obtain ⟨r_3, e_11, h⟩ := z_bd_some h
    refine g_callV (ci := 1) (As := []) (rv := (some (.int r_3))) (n := 0) hc hP hS rfl ho_11 (mt_X1_hasTurns l D cs A S a_2  e_11) wM_X7_233 wI_X1_hasTurns wS_X1_hasTurns wZ_X1 wC_X1_hasTurns md_X1_hasTurns ⟨rfl, rfl, Nat.le_of_ble_eq_true rfl, Nat.le_of_ble_eq_true rfl⟩ rfl hl.1 rfl (Nat.le_of_ble_eq_true rfl) dX7_turns_11 ⟨Nat.le_of_ble_eq_true rfl, Nat.le_of_ble_eq_true rfl⟩ (fun H locs hP hS => ?_)
    show W p l e (z_rmA 6 236 0 0) s m args below meth c H locs (0) (0) Q (F0 m 14 ls [.int r_3])
    refine lv_if_ne (tgt := 21) hx hb dX7_turns_14 (by decide) (fun c_14 => ?_) (fun c_14 => ?_)
    · replace h := z_in_ c_14 h
      refine lv_aload_n hx hb dX7_turns_21 rfl (lv_at hl 0 rfl) ?_
      obtain ⟨ho_22, h⟩ := z_chk_some h
      obtain ⟨vs_, ho_22⟩ := Option.isSome_iff_exists.mp ho_22
      obtain ⟨r_4, e_22, h⟩ := z_bd_some h
      refine g_callV (ci := 1) (As := []) (rv := (some (.int r_4))) (n := 0) hc hP hS rfl ho_22 (mt_X1_theTurns l D cs A S a_2  e_22) wM_X7_236 wI_X1_theTurns wS_X1_theTurns wZ_X1 wC_X1_theTurns md_X1_theTurns ⟨rfl, rfl, Nat.le_of_ble_eq_true rfl, Nat.le_of_ble_eq_true rfl⟩ rfl hl.1 rfl (Nat.le_of_ble_eq_true rfl) dX7_turns_22 ⟨Nat.le_of_ble_eq_true rfl, Nat.le_of_ble_eq_true rfl⟩ (fun H locs hP hS => ?_)
      show W p l e (z_rmA 6 236 0 0) s m args below meth c H locs (0) (0) Q (F0 m 25 ls [.int r_4])
      cases h
      rw [hQ]
      exact g_reti hc hr hlocks hP hS dX7_turns_25
    · replace h := z_ip_ c_14 h
      refine lv_iconst (v := -1) hx hb dX7_turns_17 (by decide) ?_
      refine lv_goto (tgt := 25) hx hb dX7_turns_18 (by decide) ?_
      cases h
      rw [hQ]
      exact g_reti hc hr hlocks hP hS dX7_turns_25
theorem md_X7_turns : yX7_turns.cls ≠ "java/lang/invoke/MethodHandle" ∧ yX7_turns.cls ≠ "java/lang/invoke/VarHandle" ∧ (parseMethodDescriptor yX7_turns.desc).map (fun d => d.parameters.length) = some 1 := by decide +kernel
noncomputable def f_X7_low (S : GS) (o : Nat) (a0 : Int32) (a1 : Int32) (a2 : Int32) : Option ((Int64) × GS) :=
  z_chk (g_is S 7 o) (z_bd (f_X7_fitAt S o a0) fun q_1 => z_mt q_1 (some ((-1000000000000 : Int64), S)) fun a_2 => z_chk (g_is S 1 a_2) (z_bd (f_X1_areTurns S a_2 a1) fun r_3 => if r_3 = 0 then some ((-1000000000000 : Int64), S) else z_bd (g_r S 7 3 o) fun f_4 => z_chk (g_is S 2 f_4) (z_bd (f_X2_takeTurns S f_4 a_2 a1) fun S_5 => z_bd (g_r S_5 7 3 o) fun f_6 => z_chk (g_is S_5 2 f_6) (z_bd (f_X2_lowAbove S_5 f_6 ) fun r_7 => z_bd (g_r S_5 7 3 o) fun f_8 => z_bd (g_r S_5 2 7 f_8) fun f_9 => z_bd (g_l S_5 4 3 f_9) fun f_10 => z_bd (f_X7_lowestTerms r_7 f_10 a2) fun r_11 => some (r_11, S_5)))))
set_option maxHeartbeats 4000000 in
set_option maxRecDepth 100000 in
theorem mt_X7_low (l : Launch) (D : va_G) (cs : Nat → ClassId) (A : Nat → Prop) (S : GS) (o : Nat) (a0 : Int32) (a1 : Int32) (a2 : Int32) {r_ : Int64} {N_ : GS} (h : f_X7_low S o a0 a1 a2 = some (r_, N_)) : Met l yX7_low (z_wd yX7_low cX7_low 5 (some .long)) (z_rmA 5 217 0 0) (va_Pc [.ref o, .int a0, .int a1, .int a2] (g_C D cs A S)) (g_Q (some (.long r_)) N_ D cs A) 0 0 A := by
  refine Met.ofW (cc := cX7_low) (maxL := 5) (ret := (some .long)) (by decide) rfl ?_
  intro p e s m args below meth c s₁ B hml hv
  obtain ⟨hav, hP0, hK, hN, hSt, hAn⟩ := hv
  have hx := B.exec
  have hb := B.bytes
  have hr := B.returns
  have hts := atoms_spec (ws := z_wd yX7_low cX7_low 5 (some .long)) B.pre
  have hown : s.vm.findClass RX7 = some m.cls := findClass_of_methodNamed B.named
  have hlocks := B.notSynchronized
  have hc : g_X p s m args c cX7_low 5 RX7 D cs A := ⟨⟨hx, hb, hml, fun w hw => hts w (List.mem_cons_of_mem _ hw), hown⟩, hK, hN, hSt, hAn⟩
  have hl := lv_entry ([.ref o, .int a0, .int a1, .int a2]) (n := 5) (Nat.le_of_ble_eq_true rfl)
  have hE : entryFrame m args 5 = F0 m 0 ((lg_sl ([.ref o, .int a0, .int a1, .int a2]) ++ List.replicate (5 - (lg_sl ([.ref o, .int a0, .int a1, .int a2])).length) Slot.unset).toArray) [] := by rw [hav]; exact lg_entry_eq m _ _
  rw [hE]
  clear hE hav
  generalize (lg_sl ([.ref o, .int a0, .int a1, .int a2]) ++ List.replicate (5 - (lg_sl ([.ref o, .int a0, .int a1, .int a2])).length) Slot.unset).toArray = ls at hl ⊢
  have hl : lv_has ls 5 [(0, .ref o), (1, .int a0), (2, .int a1), (3, .int a2)] := hl
  obtain ⟨Q, hQ⟩ : ∃ Q, Q = MQ below (g_Q (some (.long r_)) N_ D cs A) args s 0 0 A := ⟨_, rfl⟩
  rw [← hQ]
  suffices hmain : ∀ (H : Heap) (locs : List Loc), g_P D cs A S H → va_S A s.heap H locs → W p l e (z_rmA 5 217 0 0) s m args below meth c H locs 0 0 Q (F0 m 0 ls []) from hmain s.heap [] hP0 va_S.rf
  clear hP0
  intro H locs hP hS
  unfold f_X7_low at h
  refine lv_aload_n hx hb dX7_low_0 rfl (lv_at hl 0 rfl) ?_
  refine lv_iload_n hx hb dX7_low_1 rfl (lv_at hl 1 rfl) ?_
  obtain ⟨ho_2, h⟩ := z_chk_some h
  obtain ⟨vs_, ho_2⟩ := Option.isSome_iff_exists.mp ho_2
  obtain ⟨q_1, e_2, h⟩ := z_bd_some h
  refine g_callV (ci := 7) (As := [.int a0]) (rv := (some (va_rf q_1))) (n := 1) hc hP hS rfl ho_2 (mt_X7_fitAt l D cs A S o a0 e_2) wM_X7_172 wI_X7_fitAt wS_X7_fitAt wZ_X7 wC_X7_fitAt md_X7_fitAt ⟨rfl, rfl, Nat.le_of_ble_eq_true rfl, Nat.le_of_ble_eq_true rfl⟩ rfl hl.1 rfl (Nat.le_of_ble_eq_true rfl) dX7_low_2 ⟨Nat.le_of_ble_eq_true rfl, Nat.le_of_ble_eq_true rfl⟩ (fun H locs hP hS => ?_)
  show W p l e (z_rmA 5 217 0 0) s m args below meth c H locs (0) (0) Q (F0 m 5 ls [va_rf q_1])
  refine q_astore (lv' := [(4, va_rf q_1), (0, .ref o), (1, .int a0), (2, .int a1), (3, .int a2)]) hx hb dX7_low_5 hl (by decide) rfl (fun ls hl => ?_)
  refine q_aload hx hb dX7_low_7 (lv_at hl 0 rfl) ?_
  rcases q_1 with _ | a_2
  · replace h := z_mt_n h
    refine lv_ifnullN (tgt := 21) hx hb dX7_low_9 (by decide) ?_
    refine lv_ldc2 (v := -1000000000000) hx hb hc.1.2.2.2.2 (hc.1.2.2.2.1 _ wL_X7_89) dX7_low_21 ?_
    cases h
    rw [hQ]
    exact g_retl hc hr hlocks hP hS dX7_low_24
  · replace h := z_mt_s h
    refine lv_ifnull hx hb dX7_low_9 ?_
    refine lv_aload hx hb dX7_low_12 (lv_at hl 0 rfl) ?_
    refine lv_iload_n hx hb dX7_low_14 rfl (lv_at hl 3 rfl) ?_
    obtain ⟨ho_15, h⟩ := z_chk_some h
    obtain ⟨vs_, ho_15⟩ := Option.isSome_iff_exists.mp ho_15
    obtain ⟨r_3, e_15, h⟩ := z_bd_some h
    refine g_callV (ci := 1) (As := [.int a1]) (rv := (some (.int r_3))) (n := 1) hc hP hS rfl ho_15 (mt_X1_areTurns l D cs A S a_2 a1 e_15) wM_X7_239 wI_X1_areTurns wS_X1_areTurns wZ_X1 wC_X1_areTurns md_X1_areTurns ⟨rfl, rfl, Nat.le_of_ble_eq_true rfl, Nat.le_of_ble_eq_true rfl⟩ rfl hl.1 rfl (Nat.le_of_ble_eq_true rfl) dX7_low_15 ⟨Nat.le_of_ble_eq_true rfl, Nat.le_of_ble_eq_true rfl⟩ (fun H locs hP hS => ?_)
    show W p l e (z_rmA 5 217 0 0) s m args below meth c H locs (0) (0) Q (F0 m 18 ls [.int r_3])
    refine lv_if_ne (tgt := 25) hx hb dX7_low_18 (by decide) (fun c_18 => ?_) (fun c_18 => ?_)
    · replace h := z_in_ c_18 h
      refine lv_aload_n hx hb dX7_low_25 rfl (lv_at hl 1 rfl) ?_
      obtain ⟨f_4, ef_4, h⟩ := z_bd_some h
      refine g_get (ci := 7) (k := 3) (v := .ref f_4) hc hP rfl z_inX7 (by decide) wF_X7_30 (g_r_v ef_4) dX7_low_26 ?_
      refine lv_aload hx hb dX7_low_29 (lv_at hl 0 rfl) ?_
      refine lv_iload_n hx hb dX7_low_31 rfl (lv_at hl 3 rfl) ?_
      obtain ⟨ho_32, h⟩ := z_chk_some h
      obtain ⟨vs_, ho_32⟩ := Option.isSome_iff_exists.mp ho_32
      obtain ⟨S_5, e_32, h⟩ := z_bd_some h
      refine g_callV (ci := 2) (As := [.ref a_2, .int a1]) (rv := none) (n := 2) hc hP hS rfl ho_32 (mt_X2_takeTurns l D cs A S f_4 a_2 a1 e_32) wM_X7_242 wI_X2_takeTurns wS_X2_takeTurns wZ_X2 wC_X2_takeTurns md_X2_takeTurns ⟨rfl, rfl, Nat.le_of_ble_eq_true rfl, Nat.le_of_ble_eq_true rfl⟩ rfl hl.1 rfl (Nat.le_of_ble_eq_true rfl) dX7_low_32 ⟨Nat.le_of_ble_eq_true rfl, Nat.le_of_ble_eq_true rfl⟩ (fun H locs hP hS => ?_)
      show W p l e (z_rmA 5 217 0 0) s m args below meth c H locs (0) (0) Q (F0 m 35 ls [])
      refine lv_aload_n hx hb dX7_low_35 rfl (lv_at hl 1 rfl) ?_
      obtain ⟨f_6, ef_6, h⟩ := z_bd_some h
      refine g_get (ci := 7) (k := 3) (v := .ref f_6) hc hP rfl z_inX7 (by decide) wF_X7_30 (g_r_v ef_6) dX7_low_36 ?_
      obtain ⟨ho_39, h⟩ := z_chk_some h
      obtain ⟨vs_, ho_39⟩ := Option.isSome_iff_exists.mp ho_39
      obtain ⟨r_7, e_39, h⟩ := z_bd_some h
      refine g_callV (ci := 2) (As := []) (rv := (some (.long r_7))) (n := 0) hc hP hS rfl ho_39 (mt_X2_lowAbove l D cs A S_5 f_6  e_39) wM_X7_246 wI_X2_lowAbove wS_X2_lowAbove wZ_X2 wC_X2_lowAbove md_X2_lowAbove ⟨rfl, rfl, Nat.le_of_ble_eq_true rfl, Nat.le_of_ble_eq_true rfl⟩ rfl hl.1 rfl (Nat.le_of_ble_eq_true rfl) dX7_low_39 ⟨Nat.le_of_ble_eq_true rfl, Nat.le_of_ble_eq_true rfl⟩ (fun H locs hP hS => ?_)
      show W p l e (z_rmA 5 217 0 0) s m args below meth c H locs (0) (0) Q (F0 m 42 ls [.long r_7])
      refine lv_aload_n hx hb dX7_low_42 rfl (lv_at hl 1 rfl) ?_
      obtain ⟨f_8, ef_8, h⟩ := z_bd_some h
      refine g_get (ci := 7) (k := 3) (v := .ref f_8) hc hP rfl z_inX7 (by decide) wF_X7_30 (g_r_v ef_8) dX7_low_43 ?_
      obtain ⟨f_9, ef_9, h⟩ := z_bd_some h
      refine g_getN (ci := 2) (k := 7) (v := .ref f_9) hc hP rfl z_inX2 (by decide) wG_X7_250 (g_r_v ef_9) dX7_low_46 ?_
      obtain ⟨f_10, ef_10, h⟩ := z_bd_some h
      refine g_getN (ci := 4) (k := 3) (v := .long f_10) hc hP rfl z_inX4 (by decide) wG_X7_200 (g_l_v ef_10) dX7_low_49 ?_
      refine lv_iload_n hx hb dX7_low_52 rfl (lv_at hl 4 rfl) ?_
      obtain ⟨r_11, er_11, h⟩ := z_bd_some h
      refine s_calll (As := [.long r_7, .long f_10, .int a2]) (r := r_11) (n := 3) hc.1 (mt_X7_lowestTerms l r_7 f_10 a2 er_11) wM_X7_204 wT_X7_lowestTerms wZ_X7 wC_X7_lowestTerms md_X7_lowestTerms ⟨rfl, rfl, Nat.le_of_ble_eq_true rfl, Nat.le_of_ble_eq_true rfl⟩ rfl hl.1 rfl (Nat.le_of_ble_eq_true rfl) dX7_low_53 ⟨Nat.le_of_ble_eq_true rfl, Nat.le_of_ble_eq_true rfl⟩ ?_
      cases h
      rw [hQ]
      exact g_retl hc hr hlocks hP hS dX7_low_56
    · replace h := z_ip_ c_18 h
      refine lv_ldc2 (v := -1000000000000) hx hb hc.1.2.2.2.2 (hc.1.2.2.2.1 _ wL_X7_89) dX7_low_21 ?_
      cases h
      rw [hQ]
      exact g_retl hc hr hlocks hP hS dX7_low_24
theorem md_X7_low : yX7_low.cls ≠ "java/lang/invoke/MethodHandle" ∧ yX7_low.cls ≠ "java/lang/invoke/VarHandle" ∧ (parseMethodDescriptor yX7_low.desc).map (fun d => d.parameters.length) = some 3 := by decide +kernel
noncomputable def f_X7_swap (S : GS) (o : Nat) (a0 : Int32) (a1 : Int32) : Option ((Int32) × GS) :=
  z_chk (g_is S 7 o) (z_bd (f_X7_fitAt S o a0) fun q_1 => z_mt q_1 (some ((-1 : Int32), S)) fun a_2 => z_chk (g_is S 1 a_2) (z_bd (f_X1_areTurns S a_2 a1) fun r_3 => if r_3 = 0 then some ((-1 : Int32), S) else z_bd (g_r S 7 3 o) fun f_4 => z_chk (g_is S 2 f_4) (z_bd (f_X2_takeTurns S f_4 a_2 a1) fun S_5 => z_bd (g_r S_5 7 3 o) fun f_6 => z_chk (g_is S_5 2 f_6) (z_bd2 (f_X2_exchange S_5 f_6 ) fun r_8 S_7 => z_bd (g_r S_7 7 3 o) fun f_9 => z_chk (g_is S_7 2 f_9) (z_bd (f_X2_turnBits S_7 f_9 ) fun r_10 => some (r_10, S_7))))))
set_option maxHeartbeats 4000000 in
set_option maxRecDepth 100000 in
theorem mt_X7_swap (l : Launch) (D : va_G) (cs : Nat → ClassId) (A : Nat → Prop) (S : GS) (o : Nat) (a0 : Int32) (a1 : Int32) {r_ : Int32} {N_ : GS} (h : f_X7_swap S o a0 a1 = some (r_, N_)) : Met l yX7_swap (z_wd yX7_swap cX7_swap 4 (some .int)) (z_rmA 5 217 0 0) (va_Pc [.ref o, .int a0, .int a1] (g_C D cs A S)) (g_Q (some (.int r_)) N_ D cs A) 0 0 A := by
  refine Met.ofW (cc := cX7_swap) (maxL := 4) (ret := (some .int)) (by decide) rfl ?_
  intro p e s m args below meth c s₁ B hml hv
  obtain ⟨hav, hP0, hK, hN, hSt, hAn⟩ := hv
  have hx := B.exec
  have hb := B.bytes
  have hr := B.returns
  have hts := atoms_spec (ws := z_wd yX7_swap cX7_swap 4 (some .int)) B.pre
  have hown : s.vm.findClass RX7 = some m.cls := findClass_of_methodNamed B.named
  have hlocks := B.notSynchronized
  have hc : g_X p s m args c cX7_swap 4 RX7 D cs A := ⟨⟨hx, hb, hml, fun w hw => hts w (List.mem_cons_of_mem _ hw), hown⟩, hK, hN, hSt, hAn⟩
  have hl := lv_entry ([.ref o, .int a0, .int a1]) (n := 4) (Nat.le_of_ble_eq_true rfl)
  have hE : entryFrame m args 4 = F0 m 0 ((lg_sl ([.ref o, .int a0, .int a1]) ++ List.replicate (4 - (lg_sl ([.ref o, .int a0, .int a1])).length) Slot.unset).toArray) [] := by rw [hav]; exact lg_entry_eq m _ _
  rw [hE]
  clear hE hav
  generalize (lg_sl ([.ref o, .int a0, .int a1]) ++ List.replicate (4 - (lg_sl ([.ref o, .int a0, .int a1])).length) Slot.unset).toArray = ls at hl ⊢
  have hl : lv_has ls 4 [(0, .ref o), (1, .int a0), (2, .int a1)] := hl
  obtain ⟨Q, hQ⟩ : ∃ Q, Q = MQ below (g_Q (some (.int r_)) N_ D cs A) args s 0 0 A := ⟨_, rfl⟩
  rw [← hQ]
  suffices hmain : ∀ (H : Heap) (locs : List Loc), g_P D cs A S H → va_S A s.heap H locs → W p l e (z_rmA 5 217 0 0) s m args below meth c H locs 0 0 Q (F0 m 0 ls []) from hmain s.heap [] hP0 va_S.rf
  clear hP0
  intro H locs hP hS
  unfold f_X7_swap at h
  refine lv_aload_n hx hb dX7_swap_0 rfl (lv_at hl 0 rfl) ?_
  refine lv_iload_n hx hb dX7_swap_1 rfl (lv_at hl 1 rfl) ?_
  obtain ⟨ho_2, h⟩ := z_chk_some h
  obtain ⟨vs_, ho_2⟩ := Option.isSome_iff_exists.mp ho_2
  obtain ⟨q_1, e_2, h⟩ := z_bd_some h
  refine g_callV (ci := 7) (As := [.int a0]) (rv := (some (va_rf q_1))) (n := 1) hc hP hS rfl ho_2 (mt_X7_fitAt l D cs A S o a0 e_2) wM_X7_172 wI_X7_fitAt wS_X7_fitAt wZ_X7 wC_X7_fitAt md_X7_fitAt ⟨rfl, rfl, Nat.le_of_ble_eq_true rfl, Nat.le_of_ble_eq_true rfl⟩ rfl hl.1 rfl (Nat.le_of_ble_eq_true rfl) dX7_swap_2 ⟨Nat.le_of_ble_eq_true rfl, Nat.le_of_ble_eq_true rfl⟩ (fun H locs hP hS => ?_)
  show W p l e (z_rmA 5 217 0 0) s m args below meth c H locs (0) (0) Q (F0 m 5 ls [va_rf q_1])
  refine q_astore_n (lv' := [(3, va_rf q_1), (0, .ref o), (1, .int a0), (2, .int a1)]) hx hb dX7_swap_5 rfl hl (by decide) rfl (fun ls hl => ?_)
  refine q_aload_n hx hb dX7_swap_6 rfl (lv_at hl 0 rfl) ?_
  rcases q_1 with _ | a_2
  · replace h := z_mt_n h
    refine lv_ifnullN (tgt := 18) hx hb dX7_swap_7 (by decide) ?_
    refine lv_iconst (v := -1) hx hb dX7_swap_18 (by decide) ?_
    cases h
    rw [hQ]
    exact g_reti hc hr hlocks hP hS dX7_swap_19
  · replace h := z_mt_s h
    refine lv_ifnull hx hb dX7_swap_7 ?_
    refine lv_aload_n hx hb dX7_swap_10 rfl (lv_at hl 0 rfl) ?_
    refine lv_iload_n hx hb dX7_swap_11 rfl (lv_at hl 3 rfl) ?_
    obtain ⟨ho_12, h⟩ := z_chk_some h
    obtain ⟨vs_, ho_12⟩ := Option.isSome_iff_exists.mp ho_12
    obtain ⟨r_3, e_12, h⟩ := z_bd_some h
    refine g_callV (ci := 1) (As := [.int a1]) (rv := (some (.int r_3))) (n := 1) hc hP hS rfl ho_12 (mt_X1_areTurns l D cs A S a_2 a1 e_12) wM_X7_239 wI_X1_areTurns wS_X1_areTurns wZ_X1 wC_X1_areTurns md_X1_areTurns ⟨rfl, rfl, Nat.le_of_ble_eq_true rfl, Nat.le_of_ble_eq_true rfl⟩ rfl hl.1 rfl (Nat.le_of_ble_eq_true rfl) dX7_swap_12 ⟨Nat.le_of_ble_eq_true rfl, Nat.le_of_ble_eq_true rfl⟩ (fun H locs hP hS => ?_)
    show W p l e (z_rmA 5 217 0 0) s m args below meth c H locs (0) (0) Q (F0 m 15 ls [.int r_3])
    refine lv_if_ne (tgt := 20) hx hb dX7_swap_15 (by decide) (fun c_15 => ?_) (fun c_15 => ?_)
    · replace h := z_in_ c_15 h
      refine lv_aload_n hx hb dX7_swap_20 rfl (lv_at hl 1 rfl) ?_
      obtain ⟨f_4, ef_4, h⟩ := z_bd_some h
      refine g_get (ci := 7) (k := 3) (v := .ref f_4) hc hP rfl z_inX7 (by decide) wF_X7_30 (g_r_v ef_4) dX7_swap_21 ?_
      refine lv_aload_n hx hb dX7_swap_24 rfl (lv_at hl 0 rfl) ?_
      refine lv_iload_n hx hb dX7_swap_25 rfl (lv_at hl 3 rfl) ?_
      obtain ⟨ho_26, h⟩ := z_chk_some h
      obtain ⟨vs_, ho_26⟩ := Option.isSome_iff_exists.mp ho_26
      obtain ⟨S_5, e_26, h⟩ := z_bd_some h
      refine g_callV (ci := 2) (As := [.ref a_2, .int a1]) (rv := none) (n := 2) hc hP hS rfl ho_26 (mt_X2_takeTurns l D cs A S f_4 a_2 a1 e_26) wM_X7_242 wI_X2_takeTurns wS_X2_takeTurns wZ_X2 wC_X2_takeTurns md_X2_takeTurns ⟨rfl, rfl, Nat.le_of_ble_eq_true rfl, Nat.le_of_ble_eq_true rfl⟩ rfl hl.1 rfl (Nat.le_of_ble_eq_true rfl) dX7_swap_26 ⟨Nat.le_of_ble_eq_true rfl, Nat.le_of_ble_eq_true rfl⟩ (fun H locs hP hS => ?_)
      show W p l e (z_rmA 5 217 0 0) s m args below meth c H locs (0) (0) Q (F0 m 29 ls [])
      refine lv_aload_n hx hb dX7_swap_29 rfl (lv_at hl 1 rfl) ?_
      obtain ⟨f_6, ef_6, h⟩ := z_bd_some h
      refine g_get (ci := 7) (k := 3) (v := .ref f_6) hc hP rfl z_inX7 (by decide) wF_X7_30 (g_r_v ef_6) dX7_swap_30 ?_
      obtain ⟨ho_33, h⟩ := z_chk_some h
      obtain ⟨vs_, ho_33⟩ := Option.isSome_iff_exists.mp ho_33
      obtain ⟨r_8, S_7, e_33, h⟩ := z_bd2_some h
      refine g_callV (ci := 2) (As := []) (rv := (some (.int r_8))) (n := 0) hc hP hS rfl ho_33 (mt_X2_exchange l D cs A S_5 f_6  e_33) wM_X7_254 wI_X2_exchange wS_X2_exchange wZ_X2 wC_X2_exchange md_X2_exchange ⟨rfl, rfl, Nat.le_of_ble_eq_true rfl, Nat.le_of_ble_eq_true rfl⟩ rfl hl.1 rfl (Nat.le_of_ble_eq_true rfl) dX7_swap_33 ⟨Nat.le_of_ble_eq_true rfl, Nat.le_of_ble_eq_true rfl⟩ (fun H locs hP hS => ?_)
      show W p l e (z_rmA 5 217 0 0) s m args below meth c H locs (0) (0) Q (F0 m 36 ls [.int r_8])
      refine lv_pop hx hb dX7_swap_36 rfl ?_
      refine lv_aload_n hx hb dX7_swap_37 rfl (lv_at hl 1 rfl) ?_
      obtain ⟨f_9, ef_9, h⟩ := z_bd_some h
      refine g_get (ci := 7) (k := 3) (v := .ref f_9) hc hP rfl z_inX7 (by decide) wF_X7_30 (g_r_v ef_9) dX7_swap_38 ?_
      obtain ⟨ho_41, h⟩ := z_chk_some h
      obtain ⟨vs_, ho_41⟩ := Option.isSome_iff_exists.mp ho_41
      obtain ⟨r_10, e_41, h⟩ := z_bd_some h
      refine g_callV (ci := 2) (As := []) (rv := (some (.int r_10))) (n := 0) hc hP hS rfl ho_41 (mt_X2_turnBits l D cs A S_7 f_9  e_41) wM_X7_257 wI_X2_turnBits wS_X2_turnBits wZ_X2 wC_X2_turnBits md_X2_turnBits ⟨rfl, rfl, Nat.le_of_ble_eq_true rfl, Nat.le_of_ble_eq_true rfl⟩ rfl hl.1 rfl (Nat.le_of_ble_eq_true rfl) dX7_swap_41 ⟨Nat.le_of_ble_eq_true rfl, Nat.le_of_ble_eq_true rfl⟩ (fun H locs hP hS => ?_)
      show W p l e (z_rmA 5 217 0 0) s m args below meth c H locs (0) (0) Q (F0 m 44 ls [.int r_10])
      cases h
      rw [hQ]
      exact g_reti hc hr hlocks hP hS dX7_swap_44
    · replace h := z_ip_ c_15 h
      refine lv_iconst (v := -1) hx hb dX7_swap_18 (by decide) ?_
      cases h
      rw [hQ]
      exact g_reti hc hr hlocks hP hS dX7_swap_19
theorem md_X7_swap : yX7_swap.cls ≠ "java/lang/invoke/MethodHandle" ∧ yX7_swap.cls ≠ "java/lang/invoke/VarHandle" ∧ (parseMethodDescriptor yX7_swap.desc).map (fun d => d.parameters.length) = some 2 := by decide +kernel
noncomputable def f_X7_swaps (S : GS) (o : Nat) (a0 : Int32) (a1 : Int32) : Option ((Int32) × GS) :=
  z_chk (g_is S 7 o) (z_bd (f_X7_fitAt S o a0) fun q_1 => z_mt q_1 (some ((-1 : Int32), S)) fun a_2 => z_chk (g_is S 1 a_2) (z_bd (f_X1_areTurns S a_2 a1) fun r_3 => if r_3 = 0 then some ((-1 : Int32), S) else z_bd (g_r S 7 3 o) fun f_4 => z_chk (g_is S 2 f_4) (z_bd (f_X2_takeTurns S f_4 a_2 a1) fun S_5 => z_bd (g_r S_5 7 3 o) fun f_6 => z_chk (g_is S_5 2 f_6) (z_bd2 (f_X2_settle S_5 f_6 ) fun r_8 S_7 => some (r_8, S_7)))))
set_option maxHeartbeats 4000000 in
set_option maxRecDepth 100000 in
theorem mt_X7_swaps (l : Launch) (D : va_G) (cs : Nat → ClassId) (A : Nat → Prop) (S : GS) (o : Nat) (a0 : Int32) (a1 : Int32) {r_ : Int32} {N_ : GS} (h : f_X7_swaps S o a0 a1 = some (r_, N_)) : Met l yX7_swaps (z_wd yX7_swaps cX7_swaps 4 (some .int)) (z_rmA 5 217 0 0) (va_Pc [.ref o, .int a0, .int a1] (g_C D cs A S)) (g_Q (some (.int r_)) N_ D cs A) 0 0 A := by
  refine Met.ofW (cc := cX7_swaps) (maxL := 4) (ret := (some .int)) (by decide) rfl ?_
  intro p e s m args below meth c s₁ B hml hv
  obtain ⟨hav, hP0, hK, hN, hSt, hAn⟩ := hv
  have hx := B.exec
  have hb := B.bytes
  have hr := B.returns
  have hts := atoms_spec (ws := z_wd yX7_swaps cX7_swaps 4 (some .int)) B.pre
  have hown : s.vm.findClass RX7 = some m.cls := findClass_of_methodNamed B.named
  have hlocks := B.notSynchronized
  have hc : g_X p s m args c cX7_swaps 4 RX7 D cs A := ⟨⟨hx, hb, hml, fun w hw => hts w (List.mem_cons_of_mem _ hw), hown⟩, hK, hN, hSt, hAn⟩
  have hl := lv_entry ([.ref o, .int a0, .int a1]) (n := 4) (Nat.le_of_ble_eq_true rfl)
  have hE : entryFrame m args 4 = F0 m 0 ((lg_sl ([.ref o, .int a0, .int a1]) ++ List.replicate (4 - (lg_sl ([.ref o, .int a0, .int a1])).length) Slot.unset).toArray) [] := by rw [hav]; exact lg_entry_eq m _ _
  rw [hE]
  clear hE hav
  generalize (lg_sl ([.ref o, .int a0, .int a1]) ++ List.replicate (4 - (lg_sl ([.ref o, .int a0, .int a1])).length) Slot.unset).toArray = ls at hl ⊢
  have hl : lv_has ls 4 [(0, .ref o), (1, .int a0), (2, .int a1)] := hl
  obtain ⟨Q, hQ⟩ : ∃ Q, Q = MQ below (g_Q (some (.int r_)) N_ D cs A) args s 0 0 A := ⟨_, rfl⟩
  rw [← hQ]
  suffices hmain : ∀ (H : Heap) (locs : List Loc), g_P D cs A S H → va_S A s.heap H locs → W p l e (z_rmA 5 217 0 0) s m args below meth c H locs 0 0 Q (F0 m 0 ls []) from hmain s.heap [] hP0 va_S.rf
  clear hP0
  intro H locs hP hS
  unfold f_X7_swaps at h
  refine lv_aload_n hx hb dX7_swaps_0 rfl (lv_at hl 0 rfl) ?_
  refine lv_iload_n hx hb dX7_swaps_1 rfl (lv_at hl 1 rfl) ?_
  obtain ⟨ho_2, h⟩ := z_chk_some h
  obtain ⟨vs_, ho_2⟩ := Option.isSome_iff_exists.mp ho_2
  obtain ⟨q_1, e_2, h⟩ := z_bd_some h
  refine g_callV (ci := 7) (As := [.int a0]) (rv := (some (va_rf q_1))) (n := 1) hc hP hS rfl ho_2 (mt_X7_fitAt l D cs A S o a0 e_2) wM_X7_172 wI_X7_fitAt wS_X7_fitAt wZ_X7 wC_X7_fitAt md_X7_fitAt ⟨rfl, rfl, Nat.le_of_ble_eq_true rfl, Nat.le_of_ble_eq_true rfl⟩ rfl hl.1 rfl (Nat.le_of_ble_eq_true rfl) dX7_swaps_2 ⟨Nat.le_of_ble_eq_true rfl, Nat.le_of_ble_eq_true rfl⟩ (fun H locs hP hS => ?_)
  show W p l e (z_rmA 5 217 0 0) s m args below meth c H locs (0) (0) Q (F0 m 5 ls [va_rf q_1])
  refine q_astore_n (lv' := [(3, va_rf q_1), (0, .ref o), (1, .int a0), (2, .int a1)]) hx hb dX7_swaps_5 rfl hl (by decide) rfl (fun ls hl => ?_)
  refine q_aload_n hx hb dX7_swaps_6 rfl (lv_at hl 0 rfl) ?_
  rcases q_1 with _ | a_2
  · replace h := z_mt_n h
    refine lv_ifnullN (tgt := 18) hx hb dX7_swaps_7 (by decide) ?_
    refine lv_iconst (v := -1) hx hb dX7_swaps_18 (by decide) ?_
    cases h
    rw [hQ]
    exact g_reti hc hr hlocks hP hS dX7_swaps_19
  · replace h := z_mt_s h
    refine lv_ifnull hx hb dX7_swaps_7 ?_
    refine lv_aload_n hx hb dX7_swaps_10 rfl (lv_at hl 0 rfl) ?_
    refine lv_iload_n hx hb dX7_swaps_11 rfl (lv_at hl 3 rfl) ?_
    obtain ⟨ho_12, h⟩ := z_chk_some h
    obtain ⟨vs_, ho_12⟩ := Option.isSome_iff_exists.mp ho_12
    obtain ⟨r_3, e_12, h⟩ := z_bd_some h
    refine g_callV (ci := 1) (As := [.int a1]) (rv := (some (.int r_3))) (n := 1) hc hP hS rfl ho_12 (mt_X1_areTurns l D cs A S a_2 a1 e_12) wM_X7_239 wI_X1_areTurns wS_X1_areTurns wZ_X1 wC_X1_areTurns md_X1_areTurns ⟨rfl, rfl, Nat.le_of_ble_eq_true rfl, Nat.le_of_ble_eq_true rfl⟩ rfl hl.1 rfl (Nat.le_of_ble_eq_true rfl) dX7_swaps_12 ⟨Nat.le_of_ble_eq_true rfl, Nat.le_of_ble_eq_true rfl⟩ (fun H locs hP hS => ?_)
    show W p l e (z_rmA 5 217 0 0) s m args below meth c H locs (0) (0) Q (F0 m 15 ls [.int r_3])
    refine lv_if_ne (tgt := 20) hx hb dX7_swaps_15 (by decide) (fun c_15 => ?_) (fun c_15 => ?_)
    · replace h := z_in_ c_15 h
      refine lv_aload_n hx hb dX7_swaps_20 rfl (lv_at hl 1 rfl) ?_
      obtain ⟨f_4, ef_4, h⟩ := z_bd_some h
      refine g_get (ci := 7) (k := 3) (v := .ref f_4) hc hP rfl z_inX7 (by decide) wF_X7_30 (g_r_v ef_4) dX7_swaps_21 ?_
      refine lv_aload_n hx hb dX7_swaps_24 rfl (lv_at hl 0 rfl) ?_
      refine lv_iload_n hx hb dX7_swaps_25 rfl (lv_at hl 3 rfl) ?_
      obtain ⟨ho_26, h⟩ := z_chk_some h
      obtain ⟨vs_, ho_26⟩ := Option.isSome_iff_exists.mp ho_26
      obtain ⟨S_5, e_26, h⟩ := z_bd_some h
      refine g_callV (ci := 2) (As := [.ref a_2, .int a1]) (rv := none) (n := 2) hc hP hS rfl ho_26 (mt_X2_takeTurns l D cs A S f_4 a_2 a1 e_26) wM_X7_242 wI_X2_takeTurns wS_X2_takeTurns wZ_X2 wC_X2_takeTurns md_X2_takeTurns ⟨rfl, rfl, Nat.le_of_ble_eq_true rfl, Nat.le_of_ble_eq_true rfl⟩ rfl hl.1 rfl (Nat.le_of_ble_eq_true rfl) dX7_swaps_26 ⟨Nat.le_of_ble_eq_true rfl, Nat.le_of_ble_eq_true rfl⟩ (fun H locs hP hS => ?_)
      show W p l e (z_rmA 5 217 0 0) s m args below meth c H locs (0) (0) Q (F0 m 29 ls [])
      refine lv_aload_n hx hb dX7_swaps_29 rfl (lv_at hl 1 rfl) ?_
      obtain ⟨f_6, ef_6, h⟩ := z_bd_some h
      refine g_get (ci := 7) (k := 3) (v := .ref f_6) hc hP rfl z_inX7 (by decide) wF_X7_30 (g_r_v ef_6) dX7_swaps_30 ?_
      obtain ⟨ho_33, h⟩ := z_chk_some h
      obtain ⟨vs_, ho_33⟩ := Option.isSome_iff_exists.mp ho_33
      obtain ⟨r_8, S_7, e_33, h⟩ := z_bd2_some h
      refine g_callV (ci := 2) (As := []) (rv := (some (.int r_8))) (n := 0) hc hP hS rfl ho_33 (mt_X2_settle l D cs A S_5 f_6  e_33) wM_X7_260 wI_X2_settle wS_X2_settle wZ_X2 wC_X2_settle md_X2_settle ⟨rfl, rfl, Nat.le_of_ble_eq_true rfl, Nat.le_of_ble_eq_true rfl⟩ rfl hl.1 rfl (Nat.le_of_ble_eq_true rfl) dX7_swaps_33 ⟨Nat.le_of_ble_eq_true rfl, Nat.le_of_ble_eq_true rfl⟩ (fun H locs hP hS => ?_)
      show W p l e (z_rmA 5 217 0 0) s m args below meth c H locs (0) (0) Q (F0 m 36 ls [.int r_8])
      cases h
      rw [hQ]
      exact g_reti hc hr hlocks hP hS dX7_swaps_36
    · replace h := z_ip_ c_15 h
      refine lv_iconst (v := -1) hx hb dX7_swaps_18 (by decide) ?_
      cases h
      rw [hQ]
      exact g_reti hc hr hlocks hP hS dX7_swaps_19
theorem md_X7_swaps : yX7_swaps.cls ≠ "java/lang/invoke/MethodHandle" ∧ yX7_swaps.cls ≠ "java/lang/invoke/VarHandle" ∧ (parseMethodDescriptor yX7_swaps.desc).map (fun d => d.parameters.length) = some 2 := by decide +kernel
noncomputable def f_X7_against (S : GS) (o : Nat) (a0 : Int32) (a1 : Int32) : Option (Int32) :=
  z_chk (g_is S 7 o) (z_bd (f_X7_fitAt S o a0) fun q_1 => z_chk (g_is S 7 o) (z_bd (f_X7_fitAt S o a1) fun q_2 => z_mt q_1 (some (-2 : Int32)) fun a_3 => z_mt q_2 (some (-2 : Int32)) fun a_4 => z_chk (g_is S 1 a_3) (z_bd (f_X1_farthest S a_3 ) fun r_5 => z_chk (g_is S 1 a_4) (z_bd (f_X1_farthest S a_4 ) fun r_6 => z_chk (g_is S 1 a_3) (z_bd (f_X1_missSize S a_3 r_5) fun r_7 => z_chk (g_is S 1 a_4) (z_bd (f_X1_missBelow S a_4 r_6) fun r_8 => z_chk (g_is S 1 a_4) (z_bd (f_X1_missSize S a_4 r_6) fun r_9 => z_chk (g_is S 1 a_3) (z_bd (f_X1_missBelow S a_3 r_5) fun r_10 => z_bd (f_J13_compare_74951 (r_7 * r_8) (r_9 * r_10)) fun r_11 => some r_11))))))))
set_option maxHeartbeats 4000000 in
set_option maxRecDepth 100000 in
theorem mt_X7_against (l : Launch) (D : va_G) (cs : Nat → ClassId) (A : Nat → Prop) (S : GS) (o : Nat) (a0 : Int32) (a1 : Int32) {r_ : Int32} (h : f_X7_against S o a0 a1 = some r_) : Met l yX7_against (z_wd yX7_against cX7_against 7 (some .int)) (z_rmA 5 191 0 0) (va_Pc [.ref o, .int a0, .int a1] (g_C D cs A S)) (g_Q (some (.int r_)) S D cs A) 0 0 A := by
  refine Met.ofW (cc := cX7_against) (maxL := 7) (ret := (some .int)) (by decide) rfl ?_
  intro p e s m args below meth c s₁ B hml hv
  obtain ⟨hav, hP0, hK, hN, hSt, hAn⟩ := hv
  have hx := B.exec
  have hb := B.bytes
  have hr := B.returns
  have hts := atoms_spec (ws := z_wd yX7_against cX7_against 7 (some .int)) B.pre
  have hown : s.vm.findClass RX7 = some m.cls := findClass_of_methodNamed B.named
  have hlocks := B.notSynchronized
  have hc : g_X p s m args c cX7_against 7 RX7 D cs A := ⟨⟨hx, hb, hml, fun w hw => hts w (List.mem_cons_of_mem _ hw), hown⟩, hK, hN, hSt, hAn⟩
  have hl := lv_entry ([.ref o, .int a0, .int a1]) (n := 7) (Nat.le_of_ble_eq_true rfl)
  have hE : entryFrame m args 7 = F0 m 0 ((lg_sl ([.ref o, .int a0, .int a1]) ++ List.replicate (7 - (lg_sl ([.ref o, .int a0, .int a1])).length) Slot.unset).toArray) [] := by rw [hav]; exact lg_entry_eq m _ _
  rw [hE]
  clear hE hav
  generalize (lg_sl ([.ref o, .int a0, .int a1]) ++ List.replicate (7 - (lg_sl ([.ref o, .int a0, .int a1])).length) Slot.unset).toArray = ls at hl ⊢
  have hl : lv_has ls 7 [(0, .ref o), (1, .int a0), (2, .int a1)] := hl
  obtain ⟨Q, hQ⟩ : ∃ Q, Q = MQ below (g_Q (some (.int r_)) S D cs A) args s 0 0 A := ⟨_, rfl⟩
  rw [← hQ]
  suffices hmain : ∀ (H : Heap) (locs : List Loc), g_P D cs A S H → va_S A s.heap H locs → W p l e (z_rmA 5 191 0 0) s m args below meth c H locs 0 0 Q (F0 m 0 ls []) from hmain s.heap [] hP0 va_S.rf
  clear hP0
  intro H locs hP hS
  unfold f_X7_against at h
  refine lv_aload_n hx hb dX7_against_0 rfl (lv_at hl 0 rfl) ?_
  refine lv_iload_n hx hb dX7_against_1 rfl (lv_at hl 1 rfl) ?_
  obtain ⟨ho_2, h⟩ := z_chk_some h
  obtain ⟨vs_, ho_2⟩ := Option.isSome_iff_exists.mp ho_2
  obtain ⟨q_1, e_2, h⟩ := z_bd_some h
  refine g_callV (ci := 7) (As := [.int a0]) (rv := (some (va_rf q_1))) (n := 1) hc hP hS rfl ho_2 (mt_X7_fitAt l D cs A S o a0 e_2) wM_X7_172 wI_X7_fitAt wS_X7_fitAt wZ_X7 wC_X7_fitAt md_X7_fitAt ⟨rfl, rfl, Nat.le_of_ble_eq_true rfl, Nat.le_of_ble_eq_true rfl⟩ rfl hl.1 rfl (Nat.le_of_ble_eq_true rfl) dX7_against_2 ⟨Nat.le_of_ble_eq_true rfl, Nat.le_of_ble_eq_true rfl⟩ (fun H locs hP hS => ?_)
  show W p l e (z_rmA 5 191 0 0) s m args below meth c H locs (0) (0) Q (F0 m 5 ls [va_rf q_1])
  refine q_astore_n (lv' := [(3, va_rf q_1), (0, .ref o), (1, .int a0), (2, .int a1)]) hx hb dX7_against_5 rfl hl (by decide) rfl (fun ls hl => ?_)
  refine lv_aload_n hx hb dX7_against_6 rfl (lv_at hl 1 rfl) ?_
  refine lv_iload_n hx hb dX7_against_7 rfl (lv_at hl 3 rfl) ?_
  obtain ⟨ho_8, h⟩ := z_chk_some h
  obtain ⟨vs_, ho_8⟩ := Option.isSome_iff_exists.mp ho_8
  obtain ⟨q_2, e_8, h⟩ := z_bd_some h
  refine g_callV (ci := 7) (As := [.int a1]) (rv := (some (va_rf q_2))) (n := 1) hc hP hS rfl ho_8 (mt_X7_fitAt l D cs A S o a1 e_8) wM_X7_172 wI_X7_fitAt wS_X7_fitAt wZ_X7 wC_X7_fitAt md_X7_fitAt ⟨rfl, rfl, Nat.le_of_ble_eq_true rfl, Nat.le_of_ble_eq_true rfl⟩ rfl hl.1 rfl (Nat.le_of_ble_eq_true rfl) dX7_against_8 ⟨Nat.le_of_ble_eq_true rfl, Nat.le_of_ble_eq_true rfl⟩ (fun H locs hP hS => ?_)
  show W p l e (z_rmA 5 191 0 0) s m args below meth c H locs (0) (0) Q (F0 m 11 ls [va_rf q_2])
  refine q_astore (lv' := [(4, va_rf q_2), (3, va_rf q_1), (0, .ref o), (1, .int a0), (2, .int a1)]) hx hb dX7_against_11 hl (by decide) (by cases q_1 <;> rfl) (fun ls hl => ?_)
  refine q_aload_n hx hb dX7_against_13 rfl (lv_at hl 1 rfl) ?_
  rcases q_1 with _ | a_3
  · replace h := z_mt_n h
    refine lv_ifnullN (tgt := 22) hx hb dX7_against_14 (by decide) ?_
    refine lv_bipush (v := -2) hx hb dX7_against_22 (by decide) ?_
    cases h
    rw [hQ]
    exact g_reti hc hr hlocks hP hS dX7_against_24
  · replace h := z_mt_s h
    refine lv_ifnull hx hb dX7_against_14 ?_
    refine q_aload hx hb dX7_against_17 (lv_at hl 0 rfl) ?_
    rcases q_2 with _ | a_4
    · replace h := z_mt_n h
      refine lv_ifnonnullN hx hb dX7_against_19 ?_
      refine lv_bipush (v := -2) hx hb dX7_against_22 (by decide) ?_
      cases h
      rw [hQ]
      exact g_reti hc hr hlocks hP hS dX7_against_24
    · replace h := z_mt_s h
      refine lv_ifnonnull (tgt := 25) hx hb dX7_against_19 (by decide) ?_
      refine lv_aload_n hx hb dX7_against_25 rfl (lv_at hl 1 rfl) ?_
      obtain ⟨ho_26, h⟩ := z_chk_some h
      obtain ⟨vs_, ho_26⟩ := Option.isSome_iff_exists.mp ho_26
      obtain ⟨r_5, e_26, h⟩ := z_bd_some h
      refine g_callV (ci := 1) (As := []) (rv := (some (.int r_5))) (n := 0) hc hP hS rfl ho_26 (mt_X1_farthest l D cs A S a_3  e_26) wM_X7_221 wI_X1_farthest wS_X1_farthest wZ_X1 wC_X1_farthest md_X1_farthest ⟨rfl, rfl, Nat.le_of_ble_eq_true rfl, Nat.le_of_ble_eq_true rfl⟩ rfl hl.1 rfl (Nat.le_of_ble_eq_true rfl) dX7_against_26 ⟨Nat.le_of_ble_eq_true rfl, Nat.le_of_ble_eq_true rfl⟩ (fun H locs hP hS => ?_)
      show W p l e (z_rmA 5 191 0 0) s m args below meth c H locs (0) (0) Q (F0 m 29 ls [.int r_5])
      refine lv_istore (lv' := [(5, .int r_5), (4, .ref a_4), (3, .ref a_3), (0, .ref o), (1, .int a0), (2, .int a1)]) hx hb dX7_against_29 hl (by decide) rfl (fun ls hl => ?_)
      refine lv_aload hx hb dX7_against_31 (lv_at hl 1 rfl) ?_
      obtain ⟨ho_33, h⟩ := z_chk_some h
      obtain ⟨vs_, ho_33⟩ := Option.isSome_iff_exists.mp ho_33
      obtain ⟨r_6, e_33, h⟩ := z_bd_some h
      refine g_callV (ci := 1) (As := []) (rv := (some (.int r_6))) (n := 0) hc hP hS rfl ho_33 (mt_X1_farthest l D cs A S a_4  e_33) wM_X7_221 wI_X1_farthest wS_X1_farthest wZ_X1 wC_X1_farthest md_X1_farthest ⟨rfl, rfl, Nat.le_of_ble_eq_true rfl, Nat.le_of_ble_eq_true rfl⟩ rfl hl.1 rfl (Nat.le_of_ble_eq_true rfl) dX7_against_33 ⟨Nat.le_of_ble_eq_true rfl, Nat.le_of_ble_eq_true rfl⟩ (fun H locs hP hS => ?_)
      show W p l e (z_rmA 5 191 0 0) s m args below meth c H locs (0) (0) Q (F0 m 36 ls [.int r_6])
      refine lv_istore (lv' := [(6, .int r_6), (5, .int r_5), (4, .ref a_4), (3, .ref a_3), (0, .ref o), (1, .int a0), (2, .int a1)]) hx hb dX7_against_36 hl (by decide) rfl (fun ls hl => ?_)
      refine lv_aload_n hx hb dX7_against_38 rfl (lv_at hl 3 rfl) ?_
      refine lv_iload hx hb dX7_against_39 (lv_at hl 1 rfl) ?_
      obtain ⟨ho_41, h⟩ := z_chk_some h
      obtain ⟨vs_, ho_41⟩ := Option.isSome_iff_exists.mp ho_41
      obtain ⟨r_7, e_41, h⟩ := z_bd_some h
      refine g_callV (ci := 1) (As := [.int r_5]) (rv := (some (.long r_7))) (n := 1) hc hP hS rfl ho_41 (mt_X1_missSize l D cs A S a_3 r_5 e_41) wM_X7_224 wI_X1_missSize wS_X1_missSize wZ_X1 wC_X1_missSize md_X1_missSize ⟨rfl, rfl, Nat.le_of_ble_eq_true rfl, Nat.le_of_ble_eq_true rfl⟩ rfl hl.1 rfl (Nat.le_of_ble_eq_true rfl) dX7_against_41 ⟨Nat.le_of_ble_eq_true rfl, Nat.le_of_ble_eq_true rfl⟩ (fun H locs hP hS => ?_)
      show W p l e (z_rmA 5 191 0 0) s m args below meth c H locs (0) (0) Q (F0 m 44 ls [.long r_7])
      refine lv_aload hx hb dX7_against_44 (lv_at hl 2 rfl) ?_
      refine lv_iload hx hb dX7_against_46 (lv_at hl 0 rfl) ?_
      obtain ⟨ho_48, h⟩ := z_chk_some h
      obtain ⟨vs_, ho_48⟩ := Option.isSome_iff_exists.mp ho_48
      obtain ⟨r_8, e_48, h⟩ := z_bd_some h
      refine g_callV (ci := 1) (As := [.int r_6]) (rv := (some (.long r_8))) (n := 1) hc hP hS rfl ho_48 (mt_X1_missBelow l D cs A S a_4 r_6 e_48) wM_X7_218 wI_X1_missBelow wS_X1_missBelow wZ_X1 wC_X1_missBelow md_X1_missBelow ⟨rfl, rfl, Nat.le_of_ble_eq_true rfl, Nat.le_of_ble_eq_true rfl⟩ rfl hl.1 rfl (Nat.le_of_ble_eq_true rfl) dX7_against_48 ⟨Nat.le_of_ble_eq_true rfl, Nat.le_of_ble_eq_true rfl⟩ (fun H locs hP hS => ?_)
      show W p l e (z_rmA 5 191 0 0) s m args below meth c H locs (0) (0) Q (F0 m 51 ls [.long r_8, .long r_7])
      refine lv_lmul hx hb dX7_against_51 ?_
      refine lv_aload hx hb dX7_against_52 (lv_at hl 2 rfl) ?_
      refine lv_iload hx hb dX7_against_54 (lv_at hl 0 rfl) ?_
      obtain ⟨ho_56, h⟩ := z_chk_some h
      obtain ⟨vs_, ho_56⟩ := Option.isSome_iff_exists.mp ho_56
      obtain ⟨r_9, e_56, h⟩ := z_bd_some h
      refine g_callV (ci := 1) (As := [.int r_6]) (rv := (some (.long r_9))) (n := 1) hc hP hS rfl ho_56 (mt_X1_missSize l D cs A S a_4 r_6 e_56) wM_X7_224 wI_X1_missSize wS_X1_missSize wZ_X1 wC_X1_missSize md_X1_missSize ⟨rfl, rfl, Nat.le_of_ble_eq_true rfl, Nat.le_of_ble_eq_true rfl⟩ rfl hl.1 rfl (Nat.le_of_ble_eq_true rfl) dX7_against_56 ⟨Nat.le_of_ble_eq_true rfl, Nat.le_of_ble_eq_true rfl⟩ (fun H locs hP hS => ?_)
      show W p l e (z_rmA 5 191 0 0) s m args below meth c H locs (0) (0) Q (F0 m 59 ls [.long r_9, .long (r_7 * r_8)])
      refine lv_aload_n hx hb dX7_against_59 rfl (lv_at hl 3 rfl) ?_
      refine lv_iload hx hb dX7_against_60 (lv_at hl 1 rfl) ?_
      obtain ⟨ho_62, h⟩ := z_chk_some h
      obtain ⟨vs_, ho_62⟩ := Option.isSome_iff_exists.mp ho_62
      obtain ⟨r_10, e_62, h⟩ := z_bd_some h
      refine g_callV (ci := 1) (As := [.int r_5]) (rv := (some (.long r_10))) (n := 1) hc hP hS rfl ho_62 (mt_X1_missBelow l D cs A S a_3 r_5 e_62) wM_X7_218 wI_X1_missBelow wS_X1_missBelow wZ_X1 wC_X1_missBelow md_X1_missBelow ⟨rfl, rfl, Nat.le_of_ble_eq_true rfl, Nat.le_of_ble_eq_true rfl⟩ rfl hl.1 rfl (Nat.le_of_ble_eq_true rfl) dX7_against_62 ⟨Nat.le_of_ble_eq_true rfl, Nat.le_of_ble_eq_true rfl⟩ (fun H locs hP hS => ?_)
      show W p l e (z_rmA 5 191 0 0) s m args below meth c H locs (0) (0) Q (F0 m 65 ls [.long r_10, .long r_9, .long (r_7 * r_8)])
      refine lv_lmul hx hb dX7_against_65 ?_
      obtain ⟨r_11, er_11, h⟩ := z_bd_some h
      refine s_calli (As := [.long (r_7 * r_8), .long (r_9 * r_10)]) (r := r_11) (n := 2) hc.1 (mt_J13_compare_74951 l (r_7 * r_8) (r_9 * r_10) er_11) wM_X7_263 wT_J13_compare_74951 wZ_J13 wC_J13_compare_74951 md_J13_compare_74951 ⟨rfl, rfl, Nat.le_of_ble_eq_true rfl, Nat.le_of_ble_eq_true rfl⟩ rfl hl.1 rfl (Nat.le_of_ble_eq_true rfl) dX7_against_66 ⟨Nat.le_of_ble_eq_true rfl, Nat.le_of_ble_eq_true rfl⟩ ?_
      cases h
      rw [hQ]
      exact g_reti hc hr hlocks hP hS dX7_against_69
theorem md_X7_against : yX7_against.cls ≠ "java/lang/invoke/MethodHandle" ∧ yX7_against.cls ≠ "java/lang/invoke/VarHandle" ∧ (parseMethodDescriptor yX7_against.desc).map (fun d => d.parameters.length) = some 2 := by decide +kernel
