noncomputable def f_X4_aboveAt (S : GS) (o : Nat) (a0 : Int64) : Option (Int64) :=
  z_bd (g_l S 4 0 o) fun f_1 => z_bd (g_l S 4 1 o) fun f_2 => z_bd (g_l S 4 2 o) fun f_3 => some (f_1 + ((f_2 + (f_3 * a0)) * a0))
set_option maxHeartbeats 4000000 in
set_option maxRecDepth 100000 in
theorem mt_X4_aboveAt (l : Launch) (D : va_G) (cs : Nat → ClassId) (A : Nat → Prop) (S : GS) (o : Nat) (a0 : Int64) {r_ : Int64} (h : f_X4_aboveAt S o a0 = some r_) : Met l yX4_aboveAt (z_wd yX4_aboveAt cX4_aboveAt 3 (some .long)) (z_rmA 0 0 0 0) (va_Pc [.ref o, .long a0] (g_C D cs A S)) (g_Q (some (.long r_)) S D cs A) 0 0 A := by
  refine Met.ofW (cc := cX4_aboveAt) (maxL := 3) (ret := (some .long)) (by decide) rfl ?_
  intro p e s m args below meth c s₁ B hml hv
  obtain ⟨hav, hP0, hK, hN, hSt, hAn⟩ := hv
  have hx := B.exec
  have hb := B.bytes
  have hr := B.returns
  have hts := atoms_spec (ws := z_wd yX4_aboveAt cX4_aboveAt 3 (some .long)) B.pre
  have hown : s.vm.findClass RX4 = some m.cls := findClass_of_methodNamed B.named
  have hlocks := B.notSynchronized
  have hc : g_X p s m args c cX4_aboveAt 3 RX4 D cs A := ⟨⟨hx, hb, hml, fun w hw => hts w (List.mem_cons_of_mem _ hw), hown⟩, hK, hN, hSt, hAn⟩
  have hl := lv_entry ([.ref o, .long a0]) (n := 3) (Nat.le_of_ble_eq_true rfl)
  have hE : entryFrame m args 3 = F0 m 0 ((lg_sl ([.ref o, .long a0]) ++ List.replicate (3 - (lg_sl ([.ref o, .long a0])).length) Slot.unset).toArray) [] := by rw [hav]; exact lg_entry_eq m _ _
  rw [hE]
  clear hE hav
  generalize (lg_sl ([.ref o, .long a0]) ++ List.replicate (3 - (lg_sl ([.ref o, .long a0])).length) Slot.unset).toArray = ls at hl ⊢
  have hl : lv_has ls 3 [(0, .ref o), (1, .long a0)] := hl
  obtain ⟨Q, hQ⟩ : ∃ Q, Q = MQ below (g_Q (some (.long r_)) S D cs A) args s 0 0 A := ⟨_, rfl⟩
  rw [← hQ]
  suffices hmain : ∀ (H : Heap) (locs : List Loc), g_P D cs A S H → va_S A s.heap H locs → W p l e (z_rmA 0 0 0 0) s m args below meth c H locs 0 0 Q (F0 m 0 ls []) from hmain s.heap [] hP0 va_S.rf
  clear hP0
  intro H locs hP hS
  unfold f_X4_aboveAt at h
  refine lv_aload_n hx hb dX4_aboveAt_0 rfl (lv_at hl 0 rfl) ?_
  obtain ⟨f_1, ef_1, h⟩ := z_bd_some h
  refine g_get (ci := 4) (k := 0) (v := .long f_1) hc hP rfl z_inX4 (by decide) wF_X4_7 (g_l_v ef_1) dX4_aboveAt_1 ?_
  refine lv_aload_n hx hb dX4_aboveAt_4 rfl (lv_at hl 0 rfl) ?_
  obtain ⟨f_2, ef_2, h⟩ := z_bd_some h
  refine g_get (ci := 4) (k := 1) (v := .long f_2) hc hP rfl z_inX4 (by decide) wF_X4_13 (g_l_v ef_2) dX4_aboveAt_5 ?_
  refine lv_aload_n hx hb dX4_aboveAt_8 rfl (lv_at hl 0 rfl) ?_
  obtain ⟨f_3, ef_3, h⟩ := z_bd_some h
  refine g_get (ci := 4) (k := 2) (v := .long f_3) hc hP rfl z_inX4 (by decide) wF_X4_16 (g_l_v ef_3) dX4_aboveAt_9 ?_
  refine lv_lload_n hx hb dX4_aboveAt_12 rfl (lv_at hl 1 rfl) ?_
  refine lv_lmul hx hb dX4_aboveAt_13 ?_
  refine lv_ladd hx hb dX4_aboveAt_14 ?_
  refine lv_lload_n hx hb dX4_aboveAt_15 rfl (lv_at hl 1 rfl) ?_
  refine lv_lmul hx hb dX4_aboveAt_16 ?_
  refine lv_ladd hx hb dX4_aboveAt_17 ?_
  cases h
  rw [hQ]
  exact g_retl hc hr hlocks hP hS dX4_aboveAt_18
theorem md_X4_aboveAt : yX4_aboveAt.cls ≠ "java/lang/invoke/MethodHandle" ∧ yX4_aboveAt.cls ≠ "java/lang/invoke/VarHandle" ∧ (parseMethodDescriptor yX4_aboveAt.desc).map (fun d => d.parameters.length) = some 1 := by decide +kernel
noncomputable def f_X1_missAbove (S : GS) (o : Nat) (a0 : Int32) : Option (Int64) :=
  z_bd (g_r S 1 3 o) fun f_1 => z_chk (g_is S 3 f_1) (z_bd (f_X3_has S f_1 a0) fun r_2 => if r_2 = 0 then some (0 : Int64) else z_bd (g_r S 1 3 o) fun f_3 => z_bd (g_r S 3 0 f_3) fun f_4 => z_bd (g_rI S f_4 a0) fun v_5 => z_chk (g_is S 1 o) (z_bd (f_X1_partFor S o v_5) fun q_6 => z_bd (g_r S 1 3 o) fun f_7 => z_bd (g_r S 3 2 f_7) fun f_8 => z_bd (g_rI S f_8 a0) fun v_9 => z_bd (g_r S 1 3 o) fun f_10 => z_bd (g_r S 3 1 f_10) fun f_11 => z_bd (g_rI S f_11 a0) fun v_12 => z_bd q_6 fun a_13 => z_bd (g_l S 4 3 a_13) fun f_14 => z_chk (g_is S 4 a_13) (z_bd (f_X4_aboveAt S a_13 v_5.toInt64) fun r_15 => some (v_9.toInt64 * ((v_12.toInt64 * f_14) - r_15)))))
set_option maxHeartbeats 4000000 in
set_option maxRecDepth 100000 in
theorem mt_X1_missAbove (l : Launch) (D : va_G) (cs : Nat → ClassId) (A : Nat → Prop) (S : GS) (o : Nat) (a0 : Int32) {r_ : Int64} (h : f_X1_missAbove S o a0 = some r_) : Met l yX1_missAbove (z_wd yX1_missAbove cX1_missAbove 4 (some .long)) (z_rmA 1 39 0 0) (va_Pc [.ref o, .int a0] (g_C D cs A S)) (g_Q (some (.long r_)) S D cs A) 0 0 A := by
  refine Met.ofW (cc := cX1_missAbove) (maxL := 4) (ret := (some .long)) (by decide) rfl ?_
  intro p e s m args below meth c s₁ B hml hv
  obtain ⟨hav, hP0, hK, hN, hSt, hAn⟩ := hv
  have hx := B.exec
  have hb := B.bytes
  have hr := B.returns
  have hts := atoms_spec (ws := z_wd yX1_missAbove cX1_missAbove 4 (some .long)) B.pre
  have hown : s.vm.findClass RX1 = some m.cls := findClass_of_methodNamed B.named
  have hlocks := B.notSynchronized
  have hc : g_X p s m args c cX1_missAbove 4 RX1 D cs A := ⟨⟨hx, hb, hml, fun w hw => hts w (List.mem_cons_of_mem _ hw), hown⟩, hK, hN, hSt, hAn⟩
  have hl := lv_entry ([.ref o, .int a0]) (n := 4) (Nat.le_of_ble_eq_true rfl)
  have hE : entryFrame m args 4 = F0 m 0 ((lg_sl ([.ref o, .int a0]) ++ List.replicate (4 - (lg_sl ([.ref o, .int a0])).length) Slot.unset).toArray) [] := by rw [hav]; exact lg_entry_eq m _ _
  rw [hE]
  clear hE hav
  generalize (lg_sl ([.ref o, .int a0]) ++ List.replicate (4 - (lg_sl ([.ref o, .int a0])).length) Slot.unset).toArray = ls at hl ⊢
  have hl : lv_has ls 4 [(0, .ref o), (1, .int a0)] := hl
  obtain ⟨Q, hQ⟩ : ∃ Q, Q = MQ below (g_Q (some (.long r_)) S D cs A) args s 0 0 A := ⟨_, rfl⟩
  rw [← hQ]
  suffices hmain : ∀ (H : Heap) (locs : List Loc), g_P D cs A S H → va_S A s.heap H locs → W p l e (z_rmA 1 39 0 0) s m args below meth c H locs 0 0 Q (F0 m 0 ls []) from hmain s.heap [] hP0 va_S.rf
  clear hP0
  intro H locs hP hS
  unfold f_X1_missAbove at h
  refine lv_aload_n hx hb dX1_missAbove_0 rfl (lv_at hl 0 rfl) ?_
  obtain ⟨f_1, ef_1, h⟩ := z_bd_some h
  refine g_get (ci := 1) (k := 3) (v := .ref f_1) hc hP rfl z_inX1 (by decide) wF_X1_21 (g_r_v ef_1) dX1_missAbove_1 ?_
  refine lv_iload_n hx hb dX1_missAbove_4 rfl (lv_at hl 1 rfl) ?_
  obtain ⟨ho_5, h⟩ := z_chk_some h
  obtain ⟨vs_, ho_5⟩ := Option.isSome_iff_exists.mp ho_5
  obtain ⟨r_2, e_5, h⟩ := z_bd_some h
  refine g_callV (ci := 3) (As := [.int a0]) (rv := (some (.int r_2))) (n := 1) hc hP hS rfl ho_5 (mt_X3_has l D cs A S f_1 a0 e_5) wM_X1_53 wI_X3_has wS_X3_has wZ_X3 wC_X3_has md_X3_has ⟨rfl, rfl, Nat.le_of_ble_eq_true rfl, Nat.le_of_ble_eq_true rfl⟩ rfl hl.1 rfl (Nat.le_of_ble_eq_true rfl) dX1_missAbove_5 ⟨Nat.le_of_ble_eq_true rfl, Nat.le_of_ble_eq_true rfl⟩ (fun H locs hP hS => ?_)
  show W p l e (z_rmA 1 39 0 0) s m args below meth c H locs (0) (0) Q (F0 m 8 ls [.int r_2])
  refine lv_if_ne (tgt := 13) hx hb dX1_missAbove_8 (by decide) (fun c_8 => ?_) (fun c_8 => ?_)
  · replace h := z_in_ c_8 h
    refine lv_aload_n hx hb dX1_missAbove_13 rfl (lv_at hl 0 rfl) ?_
    obtain ⟨f_3, ef_3, h⟩ := z_bd_some h
    refine g_get (ci := 1) (k := 3) (v := .ref f_3) hc hP rfl z_inX1 (by decide) wF_X1_21 (g_r_v ef_3) dX1_missAbove_14 ?_
    obtain ⟨f_4, ef_4, h⟩ := z_bd_some h
    refine g_getN (ci := 3) (k := 0) (v := .ref f_4) hc hP rfl z_inX3 (by decide) wG_X1_50 (g_r_v ef_4) dX1_missAbove_17 ?_
    refine lv_iload_n hx hb dX1_missAbove_20 rfl (lv_at hl 1 rfl) ?_
    obtain ⟨v_5, ev_5, h⟩ := z_bd_some h
    refine g_iald hc hP ev_5 dX1_missAbove_21 ?_
    refine lv_istore_n (lv' := [(2, .int v_5), (0, .ref o), (1, .int a0)]) hx hb dX1_missAbove_22 rfl hl (by decide) rfl (fun ls hl => ?_)
    refine lv_aload_n hx hb dX1_missAbove_23 rfl (lv_at hl 1 rfl) ?_
    refine lv_iload_n hx hb dX1_missAbove_24 rfl (lv_at hl 0 rfl) ?_
    obtain ⟨ho_25, h⟩ := z_chk_some h
    obtain ⟨vs_, ho_25⟩ := Option.isSome_iff_exists.mp ho_25
    obtain ⟨q_6, e_25, h⟩ := z_bd_some h
    refine g_callV (ci := 1) (As := [.int v_5]) (rv := (some (va_rf q_6))) (n := 1) hc hP hS rfl ho_25 (mt_X1_partFor l D cs A S o v_5 e_25) wM_X1_57 wI_X1_partFor wS_X1_partFor wZ_X1 wC_X1_partFor md_X1_partFor ⟨rfl, rfl, Nat.le_of_ble_eq_true rfl, Nat.le_of_ble_eq_true rfl⟩ rfl hl.1 rfl (Nat.le_of_ble_eq_true rfl) dX1_missAbove_25 ⟨Nat.le_of_ble_eq_true rfl, Nat.le_of_ble_eq_true rfl⟩ (fun H locs hP hS => ?_)
    show W p l e (z_rmA 1 39 0 0) s m args below meth c H locs (0) (0) Q (F0 m 28 ls [va_rf q_6])
    refine q_astore_n (lv' := [(3, va_rf q_6), (2, .int v_5), (0, .ref o), (1, .int a0)]) hx hb dX1_missAbove_28 rfl hl (by decide) rfl (fun ls hl => ?_)
    refine lv_aload_n hx hb dX1_missAbove_29 rfl (lv_at hl 2 rfl) ?_
    obtain ⟨f_7, ef_7, h⟩ := z_bd_some h
    refine g_get (ci := 1) (k := 3) (v := .ref f_7) hc hP rfl z_inX1 (by decide) wF_X1_21 (g_r_v ef_7) dX1_missAbove_30 ?_
    obtain ⟨f_8, ef_8, h⟩ := z_bd_some h
    refine g_getN (ci := 3) (k := 2) (v := .ref f_8) hc hP rfl z_inX3 (by decide) wG_X1_61 (g_r_v ef_8) dX1_missAbove_33 ?_
    refine lv_iload_n hx hb dX1_missAbove_36 rfl (lv_at hl 3 rfl) ?_
    obtain ⟨v_9, ev_9, h⟩ := z_bd_some h
    refine g_iald hc hP ev_9 dX1_missAbove_37 ?_
    refine lv_i2l (v := v_9.toInt64) hx hb dX1_missAbove_38 rfl ?_
    refine lv_aload_n hx hb dX1_missAbove_39 rfl (lv_at hl 2 rfl) ?_
    obtain ⟨f_10, ef_10, h⟩ := z_bd_some h
    refine g_get (ci := 1) (k := 3) (v := .ref f_10) hc hP rfl z_inX1 (by decide) wF_X1_21 (g_r_v ef_10) dX1_missAbove_40 ?_
    obtain ⟨f_11, ef_11, h⟩ := z_bd_some h
    refine g_getN (ci := 3) (k := 1) (v := .ref f_11) hc hP rfl z_inX3 (by decide) wG_X1_64 (g_r_v ef_11) dX1_missAbove_43 ?_
    refine lv_iload_n hx hb dX1_missAbove_46 rfl (lv_at hl 3 rfl) ?_
    obtain ⟨v_12, ev_12, h⟩ := z_bd_some h
    refine g_iald hc hP ev_12 dX1_missAbove_47 ?_
    refine lv_i2l (v := v_12.toInt64) hx hb dX1_missAbove_48 rfl ?_
    refine q_aload_n hx hb dX1_missAbove_49 rfl (lv_at hl 0 rfl) ?_
    obtain ⟨a_13, ea_13, hu⟩ := z_bd_some h
    clear h
    subst ea_13
    have h := hu
    clear hu
    obtain ⟨f_14, ef_14, h⟩ := z_bd_some h
    refine g_getN (ci := 4) (k := 3) (v := .long f_14) hc hP rfl z_inX4 (by decide) wG_X1_67 (g_l_v ef_14) dX1_missAbove_50 ?_
    refine lv_lmul hx hb dX1_missAbove_53 ?_
    refine lv_aload_n hx hb dX1_missAbove_54 rfl (lv_at hl 0 rfl) ?_
    refine lv_iload_n hx hb dX1_missAbove_55 rfl (lv_at hl 1 rfl) ?_
    refine lv_i2l (v := v_5.toInt64) hx hb dX1_missAbove_56 rfl ?_
    obtain ⟨ho_57, h⟩ := z_chk_some h
    obtain ⟨vs_, ho_57⟩ := Option.isSome_iff_exists.mp ho_57
    obtain ⟨r_15, e_57, h⟩ := z_bd_some h
    refine g_callV (ci := 4) (As := [.long v_5.toInt64]) (rv := (some (.long r_15))) (n := 1) hc hP hS rfl ho_57 (mt_X4_aboveAt l D cs A S a_13 v_5.toInt64 e_57) wM_X1_71 wI_X4_aboveAt wS_X4_aboveAt wZ_X4 wC_X4_aboveAt md_X4_aboveAt ⟨rfl, rfl, Nat.le_of_ble_eq_true rfl, Nat.le_of_ble_eq_true rfl⟩ rfl hl.1 rfl (Nat.le_of_ble_eq_true rfl) dX1_missAbove_57 ⟨Nat.le_of_ble_eq_true rfl, Nat.le_of_ble_eq_true rfl⟩ (fun H locs hP hS => ?_)
    show W p l e (z_rmA 1 39 0 0) s m args below meth c H locs (0) (0) Q (F0 m 60 ls [.long r_15, .long (v_12.toInt64 * f_14), .long v_9.toInt64])
    refine lv_lsub hx hb dX1_missAbove_60 ?_
    refine lv_lmul hx hb dX1_missAbove_61 ?_
    cases h
    rw [hQ]
    exact g_retl hc hr hlocks hP hS dX1_missAbove_62
  · replace h := z_ip_ c_8 h
    refine lv_lconst (v := 0) hx hb dX1_missAbove_11 (by decide) ?_
    cases h
    rw [hQ]
    exact g_retl hc hr hlocks hP hS dX1_missAbove_12
theorem md_X1_missAbove : yX1_missAbove.cls ≠ "java/lang/invoke/MethodHandle" ∧ yX1_missAbove.cls ≠ "java/lang/invoke/VarHandle" ∧ (parseMethodDescriptor yX1_missAbove.desc).map (fun d => d.parameters.length) = some 1 := by decide +kernel
noncomputable def f_X1_missBelow (S : GS) (o : Nat) (a0 : Int32) : Option (Int64) :=
  z_bd (g_r S 1 3 o) fun f_1 => z_chk (g_is S 3 f_1) (z_bd (f_X3_has S f_1 a0) fun r_2 => if r_2 = 0 then some (1 : Int64) else z_bd (g_r S 1 3 o) fun f_3 => z_bd (g_r S 3 0 f_3) fun f_4 => z_bd (g_rI S f_4 a0) fun v_5 => z_chk (g_is S 1 o) (z_bd (f_X1_partFor S o v_5) fun q_6 => z_bd q_6 fun a_7 => z_bd (g_l S 4 3 a_7) fun f_8 => some f_8))
set_option maxHeartbeats 4000000 in
set_option maxRecDepth 100000 in
theorem mt_X1_missBelow (l : Launch) (D : va_G) (cs : Nat → ClassId) (A : Nat → Prop) (S : GS) (o : Nat) (a0 : Int32) {r_ : Int64} (h : f_X1_missBelow S o a0 = some r_) : Met l yX1_missBelow (z_wd yX1_missBelow cX1_missBelow 2 (some .long)) (z_rmA 1 39 0 0) (va_Pc [.ref o, .int a0] (g_C D cs A S)) (g_Q (some (.long r_)) S D cs A) 0 0 A := by
  refine Met.ofW (cc := cX1_missBelow) (maxL := 2) (ret := (some .long)) (by decide) rfl ?_
  intro p e s m args below meth c s₁ B hml hv
  obtain ⟨hav, hP0, hK, hN, hSt, hAn⟩ := hv
  have hx := B.exec
  have hb := B.bytes
  have hr := B.returns
  have hts := atoms_spec (ws := z_wd yX1_missBelow cX1_missBelow 2 (some .long)) B.pre
  have hown : s.vm.findClass RX1 = some m.cls := findClass_of_methodNamed B.named
  have hlocks := B.notSynchronized
  have hc : g_X p s m args c cX1_missBelow 2 RX1 D cs A := ⟨⟨hx, hb, hml, fun w hw => hts w (List.mem_cons_of_mem _ hw), hown⟩, hK, hN, hSt, hAn⟩
  have hl := lv_entry ([.ref o, .int a0]) (n := 2) (Nat.le_of_ble_eq_true rfl)
  have hE : entryFrame m args 2 = F0 m 0 ((lg_sl ([.ref o, .int a0]) ++ List.replicate (2 - (lg_sl ([.ref o, .int a0])).length) Slot.unset).toArray) [] := by rw [hav]; exact lg_entry_eq m _ _
  rw [hE]
  clear hE hav
  generalize (lg_sl ([.ref o, .int a0]) ++ List.replicate (2 - (lg_sl ([.ref o, .int a0])).length) Slot.unset).toArray = ls at hl ⊢
  have hl : lv_has ls 2 [(0, .ref o), (1, .int a0)] := hl
  obtain ⟨Q, hQ⟩ : ∃ Q, Q = MQ below (g_Q (some (.long r_)) S D cs A) args s 0 0 A := ⟨_, rfl⟩
  rw [← hQ]
  suffices hmain : ∀ (H : Heap) (locs : List Loc), g_P D cs A S H → va_S A s.heap H locs → W p l e (z_rmA 1 39 0 0) s m args below meth c H locs 0 0 Q (F0 m 0 ls []) from hmain s.heap [] hP0 va_S.rf
  clear hP0
  intro H locs hP hS
  unfold f_X1_missBelow at h
  refine lv_aload_n hx hb dX1_missBelow_0 rfl (lv_at hl 0 rfl) ?_
  obtain ⟨f_1, ef_1, h⟩ := z_bd_some h
  refine g_get (ci := 1) (k := 3) (v := .ref f_1) hc hP rfl z_inX1 (by decide) wF_X1_21 (g_r_v ef_1) dX1_missBelow_1 ?_
  refine lv_iload_n hx hb dX1_missBelow_4 rfl (lv_at hl 1 rfl) ?_
  obtain ⟨ho_5, h⟩ := z_chk_some h
  obtain ⟨vs_, ho_5⟩ := Option.isSome_iff_exists.mp ho_5
  obtain ⟨r_2, e_5, h⟩ := z_bd_some h
  refine g_callV (ci := 3) (As := [.int a0]) (rv := (some (.int r_2))) (n := 1) hc hP hS rfl ho_5 (mt_X3_has l D cs A S f_1 a0 e_5) wM_X1_53 wI_X3_has wS_X3_has wZ_X3 wC_X3_has md_X3_has ⟨rfl, rfl, Nat.le_of_ble_eq_true rfl, Nat.le_of_ble_eq_true rfl⟩ rfl hl.1 rfl (Nat.le_of_ble_eq_true rfl) dX1_missBelow_5 ⟨Nat.le_of_ble_eq_true rfl, Nat.le_of_ble_eq_true rfl⟩ (fun H locs hP hS => ?_)
  show W p l e (z_rmA 1 39 0 0) s m args below meth c H locs (0) (0) Q (F0 m 8 ls [.int r_2])
  refine lv_if_eq (tgt := 30) hx hb dX1_missBelow_8 (by decide) (fun c_8 => ?_) (fun c_8 => ?_)
  · replace h := z_ip_ c_8 h
    refine lv_lconst (v := 1) hx hb dX1_missBelow_30 (by decide) ?_
    cases h
    rw [hQ]
    exact g_retl hc hr hlocks hP hS dX1_missBelow_31
  · replace h := z_in_ c_8 h
    refine lv_aload_n hx hb dX1_missBelow_11 rfl (lv_at hl 0 rfl) ?_
    refine lv_aload_n hx hb dX1_missBelow_12 rfl (lv_at hl 0 rfl) ?_
    obtain ⟨f_3, ef_3, h⟩ := z_bd_some h
    refine g_get (ci := 1) (k := 3) (v := .ref f_3) hc hP rfl z_inX1 (by decide) wF_X1_21 (g_r_v ef_3) dX1_missBelow_13 ?_
    obtain ⟨f_4, ef_4, h⟩ := z_bd_some h
    refine g_getN (ci := 3) (k := 0) (v := .ref f_4) hc hP rfl z_inX3 (by decide) wG_X1_50 (g_r_v ef_4) dX1_missBelow_16 ?_
    refine lv_iload_n hx hb dX1_missBelow_19 rfl (lv_at hl 1 rfl) ?_
    obtain ⟨v_5, ev_5, h⟩ := z_bd_some h
    refine g_iald hc hP ev_5 dX1_missBelow_20 ?_
    obtain ⟨ho_21, h⟩ := z_chk_some h
    obtain ⟨vs_, ho_21⟩ := Option.isSome_iff_exists.mp ho_21
    obtain ⟨q_6, e_21, h⟩ := z_bd_some h
    refine g_callV (ci := 1) (As := [.int v_5]) (rv := (some (va_rf q_6))) (n := 1) hc hP hS rfl ho_21 (mt_X1_partFor l D cs A S o v_5 e_21) wM_X1_57 wI_X1_partFor wS_X1_partFor wZ_X1 wC_X1_partFor md_X1_partFor ⟨rfl, rfl, Nat.le_of_ble_eq_true rfl, Nat.le_of_ble_eq_true rfl⟩ rfl hl.1 rfl (Nat.le_of_ble_eq_true rfl) dX1_missBelow_21 ⟨Nat.le_of_ble_eq_true rfl, Nat.le_of_ble_eq_true rfl⟩ (fun H locs hP hS => ?_)
    show W p l e (z_rmA 1 39 0 0) s m args below meth c H locs (0) (0) Q (F0 m 24 ls [va_rf q_6])
    obtain ⟨a_7, ea_7, hu⟩ := z_bd_some h
    clear h
    subst ea_7
    have h := hu
    clear hu
    obtain ⟨f_8, ef_8, h⟩ := z_bd_some h
    refine g_getN (ci := 4) (k := 3) (v := .long f_8) hc hP rfl z_inX4 (by decide) wG_X1_67 (g_l_v ef_8) dX1_missBelow_24 ?_
    refine lv_goto (tgt := 31) hx hb dX1_missBelow_27 (by decide) ?_
    cases h
    rw [hQ]
    exact g_retl hc hr hlocks hP hS dX1_missBelow_31
theorem md_X1_missBelow : yX1_missBelow.cls ≠ "java/lang/invoke/MethodHandle" ∧ yX1_missBelow.cls ≠ "java/lang/invoke/VarHandle" ∧ (parseMethodDescriptor yX1_missBelow.desc).map (fun d => d.parameters.length) = some 1 := by decide +kernel
noncomputable def f_J9_abs_067f4 (a0 : Int64) : Option (Int64) :=
  if 0 ≤ (lg_cmp a0 (0 : Int64)) then some a0 else some (-a0)
set_option maxHeartbeats 4000000 in
set_option maxRecDepth 100000 in
theorem mt_J9_abs_067f4 (l : Launch) (a0 : Int64) {r_ : Int64} (h : f_J9_abs_067f4 a0 = some r_) : Met l yJ9_abs_067f4 (z_wd yJ9_abs_067f4 cJ9_abs_067f4 2 (some .long)) (z_rm 0 0) (va_Pc [.long a0] (fun _ => True)) (vp_Sl (fun r1 : Int64 => r1 = r_)) 0 0 (fun _ => False) := by
  refine z_ofWF (cc := cJ9_abs_067f4) (maxL := 2) (ret := (some .long)) (by decide +kernel) rfl ?_
  intro p e s m args below meth c s₁ B hml hv
  obtain ⟨hav, -⟩ := hv
  have hx := B.exec
  have hb := B.bytes
  have hr := B.returns
  have hts := atoms_spec (ws := z_wd yJ9_abs_067f4 cJ9_abs_067f4 2 (some .long)) B.pre
  have hown : s.vm.findClass RJ9 = some m.cls := findClass_of_methodNamed B.named
  have hlocks := B.notSynchronized
  have hc : s_X p s m args c cJ9_abs_067f4 2 RJ9 := ⟨hx, hb, hml, fun w hw => hts w (List.mem_cons_of_mem _ hw), hown⟩
  have hl := lv_entry ([.long a0]) (n := 2) (Nat.le_of_ble_eq_true rfl)
  have hE : entryFrame m args 2 = F0 m 0 ((lg_sl ([.long a0]) ++ List.replicate (2 - (lg_sl ([.long a0])).length) Slot.unset).toArray) [] := by rw [hav]; exact lg_entry_eq m _ _
  rw [hE]
  clear hE hav
  generalize (lg_sl ([.long a0]) ++ List.replicate (2 - (lg_sl ([.long a0])).length) Slot.unset).toArray = ls at hl ⊢
  have hl : lv_has ls 2 [(0, .long a0)] := hl
  obtain ⟨Q, hQ⟩ : ∃ Q, Q = MQ below (vp_Sl (fun r1 : Int64 => r1 = r_)) args s 0 0 (fun _ => False) := ⟨_, rfl⟩
  rw [← hQ]
  show W p l e (z_rm 0 0) s m args below meth c s.heap [] 0 0 Q (F0 m 0 ls [])
  unfold f_J9_abs_067f4 at h
  refine lv_lload_n hx hb dJ9_abs_067f4_0 rfl (lv_at hl 0 rfl) ?_
  refine lv_lconst (v := 0) hx hb dJ9_abs_067f4_1 (by decide) ?_
  refine W.lcmp hx hb dJ9_abs_067f4_2 ?_
  refine lv_if_ge (tgt := 11) hx hb dJ9_abs_067f4_3 (by decide) (fun c_3 => ?_) (fun c_3 => ?_)
  · replace h := z_ip_ c_3 h
    refine lv_lload_n hx hb dJ9_abs_067f4_11 rfl (lv_at hl 0 rfl) ?_
    cases h
    rw [hQ]
    exact s_retl hc hr hlocks dJ9_abs_067f4_12
  · replace h := z_in_ c_3 h
    refine lv_lload_n hx hb dJ9_abs_067f4_6 rfl (lv_at hl 0 rfl) ?_
    refine lv_lneg hx hb dJ9_abs_067f4_7 ?_
    refine lv_goto (tgt := 12) hx hb dJ9_abs_067f4_8 (by decide) ?_
    cases h
    rw [hQ]
    exact s_retl hc hr hlocks dJ9_abs_067f4_12
theorem md_J9_abs_067f4 : yJ9_abs_067f4.cls ≠ "java/lang/invoke/MethodHandle" ∧ yJ9_abs_067f4.cls ≠ "java/lang/invoke/VarHandle" ∧ (parseMethodDescriptor yJ9_abs_067f4.desc).map (fun d => d.parameters.length) = some 1 := by decide +kernel
noncomputable def f_X1_missSize (S : GS) (o : Nat) (a0 : Int32) : Option (Int64) :=
  z_chk (g_is S 1 o) (z_bd (f_X1_missAbove S o a0) fun r_1 => z_bd (f_J9_abs_067f4 r_1) fun r_2 => some r_2)
set_option maxHeartbeats 4000000 in
set_option maxRecDepth 100000 in
theorem mt_X1_missSize (l : Launch) (D : va_G) (cs : Nat → ClassId) (A : Nat → Prop) (S : GS) (o : Nat) (a0 : Int32) {r_ : Int64} (h : f_X1_missSize S o a0 = some r_) : Met l yX1_missSize (z_wd yX1_missSize cX1_missSize 2 (some .long)) (z_rmA 2 78 0 0) (va_Pc [.ref o, .int a0] (g_C D cs A S)) (g_Q (some (.long r_)) S D cs A) 0 0 A := by
  refine Met.ofW (cc := cX1_missSize) (maxL := 2) (ret := (some .long)) (by decide) rfl ?_
  intro p e s m args below meth c s₁ B hml hv
  obtain ⟨hav, hP0, hK, hN, hSt, hAn⟩ := hv
  have hx := B.exec
  have hb := B.bytes
  have hr := B.returns
  have hts := atoms_spec (ws := z_wd yX1_missSize cX1_missSize 2 (some .long)) B.pre
  have hown : s.vm.findClass RX1 = some m.cls := findClass_of_methodNamed B.named
  have hlocks := B.notSynchronized
  have hc : g_X p s m args c cX1_missSize 2 RX1 D cs A := ⟨⟨hx, hb, hml, fun w hw => hts w (List.mem_cons_of_mem _ hw), hown⟩, hK, hN, hSt, hAn⟩
  have hl := lv_entry ([.ref o, .int a0]) (n := 2) (Nat.le_of_ble_eq_true rfl)
  have hE : entryFrame m args 2 = F0 m 0 ((lg_sl ([.ref o, .int a0]) ++ List.replicate (2 - (lg_sl ([.ref o, .int a0])).length) Slot.unset).toArray) [] := by rw [hav]; exact lg_entry_eq m _ _
  rw [hE]
  clear hE hav
  generalize (lg_sl ([.ref o, .int a0]) ++ List.replicate (2 - (lg_sl ([.ref o, .int a0])).length) Slot.unset).toArray = ls at hl ⊢
  have hl : lv_has ls 2 [(0, .ref o), (1, .int a0)] := hl
  obtain ⟨Q, hQ⟩ : ∃ Q, Q = MQ below (g_Q (some (.long r_)) S D cs A) args s 0 0 A := ⟨_, rfl⟩
  rw [← hQ]
  suffices hmain : ∀ (H : Heap) (locs : List Loc), g_P D cs A S H → va_S A s.heap H locs → W p l e (z_rmA 2 78 0 0) s m args below meth c H locs 0 0 Q (F0 m 0 ls []) from hmain s.heap [] hP0 va_S.rf
  clear hP0
  intro H locs hP hS
  unfold f_X1_missSize at h
  refine lv_aload_n hx hb dX1_missSize_0 rfl (lv_at hl 0 rfl) ?_
  refine lv_iload_n hx hb dX1_missSize_1 rfl (lv_at hl 1 rfl) ?_
  obtain ⟨ho_2, h⟩ := z_chk_some h
  obtain ⟨vs_, ho_2⟩ := Option.isSome_iff_exists.mp ho_2
  obtain ⟨r_1, e_2, h⟩ := z_bd_some h
  refine g_callV (ci := 1) (As := [.int a0]) (rv := (some (.long r_1))) (n := 1) hc hP hS rfl ho_2 (mt_X1_missAbove l D cs A S o a0 e_2) wM_X1_75 wI_X1_missAbove wS_X1_missAbove wZ_X1 wC_X1_missAbove md_X1_missAbove ⟨rfl, rfl, Nat.le_of_ble_eq_true rfl, Nat.le_of_ble_eq_true rfl⟩ rfl hl.1 rfl (Nat.le_of_ble_eq_true rfl) dX1_missSize_2 ⟨Nat.le_of_ble_eq_true rfl, Nat.le_of_ble_eq_true rfl⟩ (fun H locs hP hS => ?_)
  show W p l e (z_rmA 2 78 0 0) s m args below meth c H locs (0) (0) Q (F0 m 5 ls [.long r_1])
  obtain ⟨r_2, er_2, h⟩ := z_bd_some h
  refine s_calll (As := [.long r_1]) (r := r_2) (n := 1) hc.1 (mt_J9_abs_067f4 l r_1 er_2) wM_X1_79 wT_J9_abs_067f4 wZ_J9 wC_J9_abs_067f4 md_J9_abs_067f4 ⟨rfl, rfl, Nat.le_of_ble_eq_true rfl, Nat.le_of_ble_eq_true rfl⟩ rfl hl.1 rfl (Nat.le_of_ble_eq_true rfl) dX1_missSize_5 ⟨Nat.le_of_ble_eq_true rfl, Nat.le_of_ble_eq_true rfl⟩ ?_
  cases h
  rw [hQ]
  exact g_retl hc hr hlocks hP hS dX1_missSize_8
theorem md_X1_missSize : yX1_missSize.cls ≠ "java/lang/invoke/MethodHandle" ∧ yX1_missSize.cls ≠ "java/lang/invoke/VarHandle" ∧ (parseMethodDescriptor yX1_missSize.desc).map (fun d => d.parameters.length) = some 1 := by decide +kernel
noncomputable def f_J13_compare_74951 (a0 : Int64) (a1 : Int64) : Option (Int32) :=
  if 0 ≤ (lg_cmp a0 a1) then if (lg_cmp a0 a1) = 0 then some (0 : Int32) else some (1 : Int32) else some (-1 : Int32)
set_option maxHeartbeats 4000000 in
set_option maxRecDepth 100000 in
theorem mt_J13_compare_74951 (l : Launch) (a0 : Int64) (a1 : Int64) {r_ : Int32} (h : f_J13_compare_74951 a0 a1 = some r_) : Met l yJ13_compare_74951 (z_wd yJ13_compare_74951 cJ13_compare_74951 4 (some .int)) (z_rm 0 0) (va_Pc [.long a0, .long a1] (fun _ => True)) (vp_Si (fun r1 : Int32 => r1 = r_)) 0 0 (fun _ => False) := by
  refine z_ofWF (cc := cJ13_compare_74951) (maxL := 4) (ret := (some .int)) (by decide +kernel) rfl ?_
  intro p e s m args below meth c s₁ B hml hv
  obtain ⟨hav, -⟩ := hv
  have hx := B.exec
  have hb := B.bytes
  have hr := B.returns
  have hts := atoms_spec (ws := z_wd yJ13_compare_74951 cJ13_compare_74951 4 (some .int)) B.pre
  have hown : s.vm.findClass RJ13 = some m.cls := findClass_of_methodNamed B.named
  have hlocks := B.notSynchronized
  have hc : s_X p s m args c cJ13_compare_74951 4 RJ13 := ⟨hx, hb, hml, fun w hw => hts w (List.mem_cons_of_mem _ hw), hown⟩
  have hl := lv_entry ([.long a0, .long a1]) (n := 4) (Nat.le_of_ble_eq_true rfl)
  have hE : entryFrame m args 4 = F0 m 0 ((lg_sl ([.long a0, .long a1]) ++ List.replicate (4 - (lg_sl ([.long a0, .long a1])).length) Slot.unset).toArray) [] := by rw [hav]; exact lg_entry_eq m _ _
  rw [hE]
  clear hE hav
  generalize (lg_sl ([.long a0, .long a1]) ++ List.replicate (4 - (lg_sl ([.long a0, .long a1])).length) Slot.unset).toArray = ls at hl ⊢
  have hl : lv_has ls 4 [(0, .long a0), (2, .long a1)] := hl
  obtain ⟨Q, hQ⟩ : ∃ Q, Q = MQ below (vp_Si (fun r1 : Int32 => r1 = r_)) args s 0 0 (fun _ => False) := ⟨_, rfl⟩
  rw [← hQ]
  show W p l e (z_rm 0 0) s m args below meth c s.heap [] 0 0 Q (F0 m 0 ls [])
  unfold f_J13_compare_74951 at h
  refine lv_lload_n hx hb dJ13_compare_74951_0 rfl (lv_at hl 0 rfl) ?_
  refine lv_lload_n hx hb dJ13_compare_74951_1 rfl (lv_at hl 1 rfl) ?_
  refine W.lcmp hx hb dJ13_compare_74951_2 ?_
  refine lv_if_ge (tgt := 10) hx hb dJ13_compare_74951_3 (by decide) (fun c_3 => ?_) (fun c_3 => ?_)
  · replace h := z_ip_ c_3 h
    refine lv_lload_n hx hb dJ13_compare_74951_10 rfl (lv_at hl 0 rfl) ?_
    refine lv_lload_n hx hb dJ13_compare_74951_11 rfl (lv_at hl 1 rfl) ?_
    refine W.lcmp hx hb dJ13_compare_74951_12 ?_
    refine lv_if_ne (tgt := 20) hx hb dJ13_compare_74951_13 (by decide) (fun c_13 => ?_) (fun c_13 => ?_)
    · replace h := z_in_ c_13 h
      refine lv_iconst (v := 1) hx hb dJ13_compare_74951_20 (by decide) ?_
      cases h
      rw [hQ]
      exact s_reti hc hr hlocks dJ13_compare_74951_21
    · replace h := z_ip_ c_13 h
      refine lv_iconst (v := 0) hx hb dJ13_compare_74951_16 (by decide) ?_
      refine lv_goto (tgt := 21) hx hb dJ13_compare_74951_17 (by decide) ?_
      cases h
      rw [hQ]
      exact s_reti hc hr hlocks dJ13_compare_74951_21
  · replace h := z_in_ c_3 h
    refine lv_iconst (v := -1) hx hb dJ13_compare_74951_6 (by decide) ?_
    refine lv_goto (tgt := 21) hx hb dJ13_compare_74951_7 (by decide) ?_
    cases h
    rw [hQ]
    exact s_reti hc hr hlocks dJ13_compare_74951_21
theorem md_J13_compare_74951 : yJ13_compare_74951.cls ≠ "java/lang/invoke/MethodHandle" ∧ yJ13_compare_74951.cls ≠ "java/lang/invoke/VarHandle" ∧ (parseMethodDescriptor yJ13_compare_74951.desc).map (fun d => d.parameters.length) = some 2 := by decide +kernel
