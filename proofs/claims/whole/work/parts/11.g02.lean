noncomputable def f_X1_missBelow (S : GS) (o : Nat) (a0 : Int32) : Option (Int64) :=
  z_bd (g_r S 1 3 o) fun f_1 => z_chk (g_is S 3 f_1) (z_bd (f_X3_has S f_1 a0) fun r_2 => if r_2 = 0 then some (1 : Int64) else z_bd (g_r S 1 3 o) fun f_3 => z_bd (g_r S 3 0 f_3) fun f_4 => z_bd (g_rI S f_4 a0) fun v_5 => z_chk (g_is S 1 o) (z_bd (f_X1_partFor S o v_5) fun q_6 => z_bd q_6 fun a_7 => z_bd (g_l S 4 3 a_7) fun f_8 => some f_8))
set_option maxHeartbeats 4000000 in
set_option maxRecDepth 100000 in
theorem mt_X1_missBelow (l : Launch) (D : va_G) (cs : Nat → ClassId) (A : Nat → Prop) (S : GS) (o : Nat) (a0 : Int32) {r_ : Int64} (h : f_X1_missBelow S o a0 = some r_) : Met l yX1_missBelow (z_wd yX1_missBelow cX1_missBelow 2 (some .long)) (z_rmA 1 39 0 0) (va_Pc [.ref o, .int a0] (g_C D cs A S)) (g_Q (some (.long r_)) S D cs A) 0 0 A := by
  refine Met.ofW (cc := cX1_missBelow) (maxL := 2) (ret := (some .long)) (by decide) rfl ?_
  intro p e s m args below meth c s₁ B hml hv
  obtain ⟨hav, hP0, hK, hN, hSt, hAn⟩ := hv
  have hx := B.exec
  have hb := B.bytes
  have hr := B.returns
  have hts := atoms_spec (ws := z_wd yX1_missBelow cX1_missBelow 2 (some .long)) B.pre
  have hown : s.vm.findClass RX1 = some m.cls := findClass_of_methodNamed B.named
  have hlocks := B.notSynchronized
  have hc : g_X p s m args c cX1_missBelow 2 RX1 D cs A := ⟨⟨hx, hb, hml, fun w hw => hts w (List.mem_cons_of_mem _ hw), hown⟩, hK, hN, hSt, hAn⟩
  have hl := lv_entry ([.ref o, .int a0]) (n := 2) (Nat.le_of_ble_eq_true rfl)
  have hE : entryFrame m args 2 = F0 m 0 ((lg_sl ([.ref o, .int a0]) ++ List.replicate (2 - (lg_sl ([.ref o, .int a0])).length) Slot.unset).toArray) [] := by rw [hav]; exact lg_entry_eq m _ _
  rw [hE]
  clear hE hav
  generalize (lg_sl ([.ref o, .int a0]) ++ List.replicate (2 - (lg_sl ([.ref o, .int a0])).length) Slot.unset).toArray = ls at hl ⊢
  have hl : lv_has ls 2 [(0, .ref o), (1, .int a0)] := hl
  obtain ⟨Q, hQ⟩ : ∃ Q, Q = MQ below (g_Q (some (.long r_)) S D cs A) args s 0 0 A := ⟨_, rfl⟩
  rw [← hQ]
  suffices hmain : ∀ (H : Heap) (locs : List Loc), g_P D cs A S H → va_S A s.heap H locs → W p l e (z_rmA 1 39 0 0) s m args below meth c H locs 0 0 Q (F0 m 0 ls []) from hmain s.heap [] hP0 va_S.rf
  clear hP0
  intro H locs hP hS
  unfold f_X1_missBelow at h
  refine lv_aload_n hx hb dX1_missBelow_0 rfl (lv_at hl 0 rfl) ?_
  obtain ⟨f_1, ef_1, h⟩ := z_bd_some h
  refine g_get (ci := 1) (k := 3) (v := .ref f_1) hc hP rfl z_inX1 (by decide) wF_X1_21 (g_r_v ef_1) dX1_missBelow_1 ?_
  refine lv_iload_n hx hb dX1_missBelow_4 rfl (lv_at hl 1 rfl) ?_
  obtain ⟨ho_5, h⟩ := z_chk_some h
  obtain ⟨vs_, ho_5⟩ := Option.isSome_iff_exists.mp ho_5
  obtain ⟨r_2, e_5, h⟩ := z_bd_some h
  refine g_callV (ci := 3) (As := [.int a0]) (rv := (some (.int r_2))) (n := 1) hc hP hS rfl ho_5 (mt_X3_has l D cs A S f_1 a0 e_5) wM_X1_53 wI_X3_has wS_X3_has wZ_X3 wC_X3_has md_X3_has ⟨rfl, rfl, Nat.le_of_ble_eq_true rfl, Nat.le_of_ble_eq_true rfl⟩ rfl hl.1 rfl (Nat.le_of_ble_eq_true rfl) dX1_missBelow_5 ⟨Nat.le_of_ble_eq_true rfl, Nat.le_of_ble_eq_true rfl⟩ (fun H locs hP hS => ?_)
  show W p l e (z_rmA 1 39 0 0) s m args below meth c H locs (0) (0) Q (F0 m 8 ls [.int r_2])
  refine lv_if_eq (tgt := 30) hx hb dX1_missBelow_8 (by decide) (fun c_8 => ?_) (fun c_8 => ?_)
  · replace h := z_ip_ c_8 h
    refine lv_lconst (v := 1) hx hb dX1_missBelow_30 (by decide) ?_
    cases h
    rw [hQ]
    exact g_retl hc hr hlocks hP hS dX1_missBelow_31
  · replace h := z_in_ c_8 h
    refine lv_aload_n hx hb dX1_missBelow_11 rfl (lv_at hl 0 rfl) ?_
    refine lv_aload_n hx hb dX1_missBelow_12 rfl (lv_at hl 0 rfl) ?_
    obtain ⟨f_3, ef_3, h⟩ := z_bd_some h
    refine g_get (ci := 1) (k := 3) (v := .ref f_3) hc hP rfl z_inX1 (by decide) wF_X1_21 (g_r_v ef_3) dX1_missBelow_13 ?_
    obtain ⟨f_4, ef_4, h⟩ := z_bd_some h
    refine g_getN (ci := 3) (k := 0) (v := .ref f_4) hc hP rfl z_inX3 (by decide) wG_X1_50 (g_r_v ef_4) dX1_missBelow_16 ?_
    refine lv_iload_n hx hb dX1_missBelow_19 rfl (lv_at hl 1 rfl) ?_
    obtain ⟨v_5, ev_5, h⟩ := z_bd_some h
    refine g_iald hc hP ev_5 dX1_missBelow_20 ?_
    obtain ⟨ho_21, h⟩ := z_chk_some h
    obtain ⟨vs_, ho_21⟩ := Option.isSome_iff_exists.mp ho_21
    obtain ⟨q_6, e_21, h⟩ := z_bd_some h
    refine g_callV (ci := 1) (As := [.int v_5]) (rv := (some (va_rf q_6))) (n := 1) hc hP hS rfl ho_21 (mt_X1_partFor l D cs A S o v_5 e_21) wM_X1_57 wI_X1_partFor wS_X1_partFor wZ_X1 wC_X1_partFor md_X1_partFor ⟨rfl, rfl, Nat.le_of_ble_eq_true rfl, Nat.le_of_ble_eq_true rfl⟩ rfl hl.1 rfl (Nat.le_of_ble_eq_true rfl) dX1_missBelow_21 ⟨Nat.le_of_ble_eq_true rfl, Nat.le_of_ble_eq_true rfl⟩ (fun H locs hP hS => ?_)
    show W p l e (z_rmA 1 39 0 0) s m args below meth c H locs (0) (0) Q (F0 m 24 ls [va_rf q_6])
    obtain ⟨a_7, ea_7, hu⟩ := z_bd_some h
    clear h
    subst ea_7
    have h := hu
    clear hu
    obtain ⟨f_8, ef_8, h⟩ := z_bd_some h
    refine g_getN (ci := 4) (k := 3) (v := .long f_8) hc hP rfl z_inX4 (by decide) wG_X1_67 (g_l_v ef_8) dX1_missBelow_24 ?_
    refine lv_goto (tgt := 31) hx hb dX1_missBelow_27 (by decide) ?_
    cases h
    rw [hQ]
    exact g_retl hc hr hlocks hP hS dX1_missBelow_31
theorem md_X1_missBelow : yX1_missBelow.cls ≠ "java/lang/invoke/MethodHandle" ∧ yX1_missBelow.cls ≠ "java/lang/invoke/VarHandle" ∧ (parseMethodDescriptor yX1_missBelow.desc).map (fun d => d.parameters.length) = some 1 := by decide +kernel
noncomputable def f_J9_abs_067f4 (a0 : Int64) : Option (Int64) :=
  if 0 ≤ (lg_cmp a0 (0 : Int64)) then some a0 else some (-a0)
set_option maxHeartbeats 4000000 in
set_option maxRecDepth 100000 in
theorem mt_J9_abs_067f4 (l : Launch) (a0 : Int64) {r_ : Int64} (h : f_J9_abs_067f4 a0 = some r_) : Met l yJ9_abs_067f4 (z_wd yJ9_abs_067f4 cJ9_abs_067f4 2 (some .long)) (z_rm 0 0) (va_Pc [.long a0] (fun _ => True)) (vp_Sl (fun r1 : Int64 => r1 = r_)) 0 0 (fun _ => False) := by
  refine z_ofWF (cc := cJ9_abs_067f4) (maxL := 2) (ret := (some .long)) (by decide +kernel) rfl ?_
  intro p e s m args below meth c s₁ B hml hv
  obtain ⟨hav, -⟩ := hv
  have hx := B.exec
  have hb := B.bytes
  have hr := B.returns
  have hts := atoms_spec (ws := z_wd yJ9_abs_067f4 cJ9_abs_067f4 2 (some .long)) B.pre
  have hown : s.vm.findClass RJ9 = some m.cls := findClass_of_methodNamed B.named
  have hlocks := B.notSynchronized
  have hc : s_X p s m args c cJ9_abs_067f4 2 RJ9 := ⟨hx, hb, hml, fun w hw => hts w (List.mem_cons_of_mem _ hw), hown⟩
  have hl := lv_entry ([.long a0]) (n := 2) (Nat.le_of_ble_eq_true rfl)
  have hE : entryFrame m args 2 = F0 m 0 ((lg_sl ([.long a0]) ++ List.replicate (2 - (lg_sl ([.long a0])).length) Slot.unset).toArray) [] := by rw [hav]; exact lg_entry_eq m _ _
  rw [hE]
  clear hE hav
  generalize (lg_sl ([.long a0]) ++ List.replicate (2 - (lg_sl ([.long a0])).length) Slot.unset).toArray = ls at hl ⊢
  have hl : lv_has ls 2 [(0, .long a0)] := hl
  obtain ⟨Q, hQ⟩ : ∃ Q, Q = MQ below (vp_Sl (fun r1 : Int64 => r1 = r_)) args s 0 0 (fun _ => False) := ⟨_, rfl⟩
  rw [← hQ]
  show W p l e (z_rm 0 0) s m args below meth c s.heap [] 0 0 Q (F0 m 0 ls [])
  unfold f_J9_abs_067f4 at h
  refine lv_lload_n hx hb dJ9_abs_067f4_0 rfl (lv_at hl 0 rfl) ?_
  refine lv_lconst (v := 0) hx hb dJ9_abs_067f4_1 (by decide) ?_
  refine W.lcmp hx hb dJ9_abs_067f4_2 ?_
  refine lv_if_ge (tgt := 11) hx hb dJ9_abs_067f4_3 (by decide) (fun c_3 => ?_) (fun c_3 => ?_)
  · replace h := z_ip_ c_3 h
    refine lv_lload_n hx hb dJ9_abs_067f4_11 rfl (lv_at hl 0 rfl) ?_
    cases h
    rw [hQ]
    exact s_retl hc hr hlocks dJ9_abs_067f4_12
  · replace h := z_in_ c_3 h
    refine lv_lload_n hx hb dJ9_abs_067f4_6 rfl (lv_at hl 0 rfl) ?_
    refine lv_lneg hx hb dJ9_abs_067f4_7 ?_
    refine lv_goto (tgt := 12) hx hb dJ9_abs_067f4_8 (by decide) ?_
    cases h
    rw [hQ]
    exact s_retl hc hr hlocks dJ9_abs_067f4_12
theorem md_J9_abs_067f4 : yJ9_abs_067f4.cls ≠ "java/lang/invoke/MethodHandle" ∧ yJ9_abs_067f4.cls ≠ "java/lang/invoke/VarHandle" ∧ (parseMethodDescriptor yJ9_abs_067f4.desc).map (fun d => d.parameters.length) = some 1 := by decide +kernel
noncomputable def f_X1_missSize (S : GS) (o : Nat) (a0 : Int32) : Option (Int64) :=
  z_chk (g_is S 1 o) (z_bd (f_X1_missAbove S o a0) fun r_1 => z_bd (f_J9_abs_067f4 r_1) fun r_2 => some r_2)
set_option maxHeartbeats 4000000 in
set_option maxRecDepth 100000 in
theorem mt_X1_missSize (l : Launch) (D : va_G) (cs : Nat → ClassId) (A : Nat → Prop) (S : GS) (o : Nat) (a0 : Int32) {r_ : Int64} (h : f_X1_missSize S o a0 = some r_) : Met l yX1_missSize (z_wd yX1_missSize cX1_missSize 2 (some .long)) (z_rmA 2 78 0 0) (va_Pc [.ref o, .int a0] (g_C D cs A S)) (g_Q (some (.long r_)) S D cs A) 0 0 A := by
  refine Met.ofW (cc := cX1_missSize) (maxL := 2) (ret := (some .long)) (by decide) rfl ?_
  intro p e s m args below meth c s₁ B hml hv
  obtain ⟨hav, hP0, hK, hN, hSt, hAn⟩ := hv
  have hx := B.exec
  have hb := B.bytes
  have hr := B.returns
  have hts := atoms_spec (ws := z_wd yX1_missSize cX1_missSize 2 (some .long)) B.pre
  have hown : s.vm.findClass RX1 = some m.cls := findClass_of_methodNamed B.named
  have hlocks := B.notSynchronized
  have hc : g_X p s m args c cX1_missSize 2 RX1 D cs A := ⟨⟨hx, hb, hml, fun w hw => hts w (List.mem_cons_of_mem _ hw), hown⟩, hK, hN, hSt, hAn⟩
  have hl := lv_entry ([.ref o, .int a0]) (n := 2) (Nat.le_of_ble_eq_true rfl)
  have hE : entryFrame m args 2 = F0 m 0 ((lg_sl ([.ref o, .int a0]) ++ List.replicate (2 - (lg_sl ([.ref o, .int a0])).length) Slot.unset).toArray) [] := by rw [hav]; exact lg_entry_eq m _ _
  rw [hE]
  clear hE hav
  generalize (lg_sl ([.ref o, .int a0]) ++ List.replicate (2 - (lg_sl ([.ref o, .int a0])).length) Slot.unset).toArray = ls at hl ⊢
  have hl : lv_has ls 2 [(0, .ref o), (1, .int a0)] := hl
  obtain ⟨Q, hQ⟩ : ∃ Q, Q = MQ below (g_Q (some (.long r_)) S D cs A) args s 0 0 A := ⟨_, rfl⟩
  rw [← hQ]
  suffices hmain : ∀ (H : Heap) (locs : List Loc), g_P D cs A S H → va_S A s.heap H locs → W p l e (z_rmA 2 78 0 0) s m args below meth c H locs 0 0 Q (F0 m 0 ls []) from hmain s.heap [] hP0 va_S.rf
  clear hP0
  intro H locs hP hS
  unfold f_X1_missSize at h
  refine lv_aload_n hx hb dX1_missSize_0 rfl (lv_at hl 0 rfl) ?_
  refine lv_iload_n hx hb dX1_missSize_1 rfl (lv_at hl 1 rfl) ?_
  obtain ⟨ho_2, h⟩ := z_chk_some h
  obtain ⟨vs_, ho_2⟩ := Option.isSome_iff_exists.mp ho_2
  obtain ⟨r_1, e_2, h⟩ := z_bd_some h
  refine g_callV (ci := 1) (As := [.int a0]) (rv := (some (.long r_1))) (n := 1) hc hP hS rfl ho_2 (mt_X1_missAbove l D cs A S o a0 e_2) wM_X1_75 wI_X1_missAbove wS_X1_missAbove wZ_X1 wC_X1_missAbove md_X1_missAbove ⟨rfl, rfl, Nat.le_of_ble_eq_true rfl, Nat.le_of_ble_eq_true rfl⟩ rfl hl.1 rfl (Nat.le_of_ble_eq_true rfl) dX1_missSize_2 ⟨Nat.le_of_ble_eq_true rfl, Nat.le_of_ble_eq_true rfl⟩ (fun H locs hP hS => ?_)
  show W p l e (z_rmA 2 78 0 0) s m args below meth c H locs (0) (0) Q (F0 m 5 ls [.long r_1])
  obtain ⟨r_2, er_2, h⟩ := z_bd_some h
  refine s_calll (As := [.long r_1]) (r := r_2) (n := 1) hc.1 (mt_J9_abs_067f4 l r_1 er_2) wM_X1_79 wT_J9_abs_067f4 wZ_J9 wC_J9_abs_067f4 md_J9_abs_067f4 ⟨rfl, rfl, Nat.le_of_ble_eq_true rfl, Nat.le_of_ble_eq_true rfl⟩ rfl hl.1 rfl (Nat.le_of_ble_eq_true rfl) dX1_missSize_5 ⟨Nat.le_of_ble_eq_true rfl, Nat.le_of_ble_eq_true rfl⟩ ?_
  cases h
  rw [hQ]
  exact g_retl hc hr hlocks hP hS dX1_missSize_8
theorem md_X1_missSize : yX1_missSize.cls ≠ "java/lang/invoke/MethodHandle" ∧ yX1_missSize.cls ≠ "java/lang/invoke/VarHandle" ∧ (parseMethodDescriptor yX1_missSize.desc).map (fun d => d.parameters.length) = some 1 := by decide +kernel
noncomputable def f_J13_compare_74951 (a0 : Int64) (a1 : Int64) : Option (Int32) :=
  if 0 ≤ (lg_cmp a0 a1) then if (lg_cmp a0 a1) = 0 then some (0 : Int32) else some (1 : Int32) else some (-1 : Int32)
set_option maxHeartbeats 4000000 in
set_option maxRecDepth 100000 in
theorem mt_J13_compare_74951 (l : Launch) (a0 : Int64) (a1 : Int64) {r_ : Int32} (h : f_J13_compare_74951 a0 a1 = some r_) : Met l yJ13_compare_74951 (z_wd yJ13_compare_74951 cJ13_compare_74951 4 (some .int)) (z_rm 0 0) (va_Pc [.long a0, .long a1] (fun _ => True)) (vp_Si (fun r1 : Int32 => r1 = r_)) 0 0 (fun _ => False) := by
  refine z_ofWF (cc := cJ13_compare_74951) (maxL := 4) (ret := (some .int)) (by decide +kernel) rfl ?_
  intro p e s m args below meth c s₁ B hml hv
  obtain ⟨hav, -⟩ := hv
  have hx := B.exec
  have hb := B.bytes
  have hr := B.returns
  have hts := atoms_spec (ws := z_wd yJ13_compare_74951 cJ13_compare_74951 4 (some .int)) B.pre
  have hown : s.vm.findClass RJ13 = some m.cls := findClass_of_methodNamed B.named
  have hlocks := B.notSynchronized
  have hc : s_X p s m args c cJ13_compare_74951 4 RJ13 := ⟨hx, hb, hml, fun w hw => hts w (List.mem_cons_of_mem _ hw), hown⟩
  have hl := lv_entry ([.long a0, .long a1]) (n := 4) (Nat.le_of_ble_eq_true rfl)
  have hE : entryFrame m args 4 = F0 m 0 ((lg_sl ([.long a0, .long a1]) ++ List.replicate (4 - (lg_sl ([.long a0, .long a1])).length) Slot.unset).toArray) [] := by rw [hav]; exact lg_entry_eq m _ _
  rw [hE]
  clear hE hav
  generalize (lg_sl ([.long a0, .long a1]) ++ List.replicate (4 - (lg_sl ([.long a0, .long a1])).length) Slot.unset).toArray = ls at hl ⊢
  have hl : lv_has ls 4 [(0, .long a0), (2, .long a1)] := hl
  obtain ⟨Q, hQ⟩ : ∃ Q, Q = MQ below (vp_Si (fun r1 : Int32 => r1 = r_)) args s 0 0 (fun _ => False) := ⟨_, rfl⟩
  rw [← hQ]
  show W p l e (z_rm 0 0) s m args below meth c s.heap [] 0 0 Q (F0 m 0 ls [])
  unfold f_J13_compare_74951 at h
  refine lv_lload_n hx hb dJ13_compare_74951_0 rfl (lv_at hl 0 rfl) ?_
  refine lv_lload_n hx hb dJ13_compare_74951_1 rfl (lv_at hl 1 rfl) ?_
  refine W.lcmp hx hb dJ13_compare_74951_2 ?_
  refine lv_if_ge (tgt := 10) hx hb dJ13_compare_74951_3 (by decide) (fun c_3 => ?_) (fun c_3 => ?_)
  · replace h := z_ip_ c_3 h
    refine lv_lload_n hx hb dJ13_compare_74951_10 rfl (lv_at hl 0 rfl) ?_
    refine lv_lload_n hx hb dJ13_compare_74951_11 rfl (lv_at hl 1 rfl) ?_
    refine W.lcmp hx hb dJ13_compare_74951_12 ?_
    refine lv_if_ne (tgt := 20) hx hb dJ13_compare_74951_13 (by decide) (fun c_13 => ?_) (fun c_13 => ?_)
    · replace h := z_in_ c_13 h
      refine lv_iconst (v := 1) hx hb dJ13_compare_74951_20 (by decide) ?_
      cases h
      rw [hQ]
      exact s_reti hc hr hlocks dJ13_compare_74951_21
    · replace h := z_ip_ c_13 h
      refine lv_iconst (v := 0) hx hb dJ13_compare_74951_16 (by decide) ?_
      refine lv_goto (tgt := 21) hx hb dJ13_compare_74951_17 (by decide) ?_
      cases h
      rw [hQ]
      exact s_reti hc hr hlocks dJ13_compare_74951_21
  · replace h := z_in_ c_3 h
    refine lv_iconst (v := -1) hx hb dJ13_compare_74951_6 (by decide) ?_
    refine lv_goto (tgt := 21) hx hb dJ13_compare_74951_7 (by decide) ?_
    cases h
    rw [hQ]
    exact s_reti hc hr hlocks dJ13_compare_74951_21
theorem md_J13_compare_74951 : yJ13_compare_74951.cls ≠ "java/lang/invoke/MethodHandle" ∧ yJ13_compare_74951.cls ≠ "java/lang/invoke/VarHandle" ∧ (parseMethodDescriptor yJ13_compare_74951.desc).map (fun d => d.parameters.length) = some 2 := by decide +kernel
noncomputable def f_X1_compareMisses (S : GS) (o : Nat) (a0 : Int32) (a1 : Int32) : Option (Int32) :=
  z_chk (g_is S 1 o) (z_bd (f_X1_missSize S o a0) fun r_1 => z_chk (g_is S 1 o) (z_bd (f_X1_missBelow S o a1) fun r_2 => z_chk (g_is S 1 o) (z_bd (f_X1_missSize S o a1) fun r_3 => z_chk (g_is S 1 o) (z_bd (f_X1_missBelow S o a0) fun r_4 => z_bd (f_J13_compare_74951 (r_1 * r_2) (r_3 * r_4)) fun r_5 => some r_5))))
set_option maxHeartbeats 4000000 in
set_option maxRecDepth 100000 in
theorem mt_X1_compareMisses (l : Launch) (D : va_G) (cs : Nat → ClassId) (A : Nat → Prop) (S : GS) (o : Nat) (a0 : Int32) (a1 : Int32) {r_ : Int32} (h : f_X1_compareMisses S o a0 a1 = some r_) : Met l yX1_compareMisses (z_wd yX1_compareMisses cX1_compareMisses 3 (some .int)) (z_rmA 3 115 0 0) (va_Pc [.ref o, .int a0, .int a1] (g_C D cs A S)) (g_Q (some (.int r_)) S D cs A) 0 0 A := by
  refine Met.ofW (cc := cX1_compareMisses) (maxL := 3) (ret := (some .int)) (by decide) rfl ?_
  intro p e s m args below meth c s₁ B hml hv
  obtain ⟨hav, hP0, hK, hN, hSt, hAn⟩ := hv
  have hx := B.exec
  have hb := B.bytes
  have hr := B.returns
  have hts := atoms_spec (ws := z_wd yX1_compareMisses cX1_compareMisses 3 (some .int)) B.pre
  have hown : s.vm.findClass RX1 = some m.cls := findClass_of_methodNamed B.named
  have hlocks := B.notSynchronized
  have hc : g_X p s m args c cX1_compareMisses 3 RX1 D cs A := ⟨⟨hx, hb, hml, fun w hw => hts w (List.mem_cons_of_mem _ hw), hown⟩, hK, hN, hSt, hAn⟩
  have hl := lv_entry ([.ref o, .int a0, .int a1]) (n := 3) (Nat.le_of_ble_eq_true rfl)
  have hE : entryFrame m args 3 = F0 m 0 ((lg_sl ([.ref o, .int a0, .int a1]) ++ List.replicate (3 - (lg_sl ([.ref o, .int a0, .int a1])).length) Slot.unset).toArray) [] := by rw [hav]; exact lg_entry_eq m _ _
  rw [hE]
  clear hE hav
  generalize (lg_sl ([.ref o, .int a0, .int a1]) ++ List.replicate (3 - (lg_sl ([.ref o, .int a0, .int a1])).length) Slot.unset).toArray = ls at hl ⊢
  have hl : lv_has ls 3 [(0, .ref o), (1, .int a0), (2, .int a1)] := hl
  obtain ⟨Q, hQ⟩ : ∃ Q, Q = MQ below (g_Q (some (.int r_)) S D cs A) args s 0 0 A := ⟨_, rfl⟩
  rw [← hQ]
  suffices hmain : ∀ (H : Heap) (locs : List Loc), g_P D cs A S H → va_S A s.heap H locs → W p l e (z_rmA 3 115 0 0) s m args below meth c H locs 0 0 Q (F0 m 0 ls []) from hmain s.heap [] hP0 va_S.rf
  clear hP0
  intro H locs hP hS
  unfold f_X1_compareMisses at h
  refine lv_aload_n hx hb dX1_compareMisses_0 rfl (lv_at hl 0 rfl) ?_
  refine lv_iload_n hx hb dX1_compareMisses_1 rfl (lv_at hl 1 rfl) ?_
  obtain ⟨ho_2, h⟩ := z_chk_some h
  obtain ⟨vs_, ho_2⟩ := Option.isSome_iff_exists.mp ho_2
  obtain ⟨r_1, e_2, h⟩ := z_bd_some h
  refine g_callV (ci := 1) (As := [.int a0]) (rv := (some (.long r_1))) (n := 1) hc hP hS rfl ho_2 (mt_X1_missSize l D cs A S o a0 e_2) wM_X1_82 wI_X1_missSize wS_X1_missSize wZ_X1 wC_X1_missSize md_X1_missSize ⟨rfl, rfl, Nat.le_of_ble_eq_true rfl, Nat.le_of_ble_eq_true rfl⟩ rfl hl.1 rfl (Nat.le_of_ble_eq_true rfl) dX1_compareMisses_2 ⟨Nat.le_of_ble_eq_true rfl, Nat.le_of_ble_eq_true rfl⟩ (fun H locs hP hS => ?_)
  show W p l e (z_rmA 3 115 0 0) s m args below meth c H locs (0) (0) Q (F0 m 5 ls [.long r_1])
  refine lv_aload_n hx hb dX1_compareMisses_5 rfl (lv_at hl 0 rfl) ?_
  refine lv_iload_n hx hb dX1_compareMisses_6 rfl (lv_at hl 2 rfl) ?_
  obtain ⟨ho_7, h⟩ := z_chk_some h
  obtain ⟨vs_, ho_7⟩ := Option.isSome_iff_exists.mp ho_7
  obtain ⟨r_2, e_7, h⟩ := z_bd_some h
  refine g_callV (ci := 1) (As := [.int a1]) (rv := (some (.long r_2))) (n := 1) hc hP hS rfl ho_7 (mt_X1_missBelow l D cs A S o a1 e_7) wM_X1_85 wI_X1_missBelow wS_X1_missBelow wZ_X1 wC_X1_missBelow md_X1_missBelow ⟨rfl, rfl, Nat.le_of_ble_eq_true rfl, Nat.le_of_ble_eq_true rfl⟩ rfl hl.1 rfl (Nat.le_of_ble_eq_true rfl) dX1_compareMisses_7 ⟨Nat.le_of_ble_eq_true rfl, Nat.le_of_ble_eq_true rfl⟩ (fun H locs hP hS => ?_)
  show W p l e (z_rmA 3 115 0 0) s m args below meth c H locs (0) (0) Q (F0 m 10 ls [.long r_2, .long r_1])
  refine lv_lmul hx hb dX1_compareMisses_10 ?_
  refine lv_aload_n hx hb dX1_compareMisses_11 rfl (lv_at hl 0 rfl) ?_
  refine lv_iload_n hx hb dX1_compareMisses_12 rfl (lv_at hl 2 rfl) ?_
  obtain ⟨ho_13, h⟩ := z_chk_some h
  obtain ⟨vs_, ho_13⟩ := Option.isSome_iff_exists.mp ho_13
  obtain ⟨r_3, e_13, h⟩ := z_bd_some h
  refine g_callV (ci := 1) (As := [.int a1]) (rv := (some (.long r_3))) (n := 1) hc hP hS rfl ho_13 (mt_X1_missSize l D cs A S o a1 e_13) wM_X1_82 wI_X1_missSize wS_X1_missSize wZ_X1 wC_X1_missSize md_X1_missSize ⟨rfl, rfl, Nat.le_of_ble_eq_true rfl, Nat.le_of_ble_eq_true rfl⟩ rfl hl.1 rfl (Nat.le_of_ble_eq_true rfl) dX1_compareMisses_13 ⟨Nat.le_of_ble_eq_true rfl, Nat.le_of_ble_eq_true rfl⟩ (fun H locs hP hS => ?_)
  show W p l e (z_rmA 3 115 0 0) s m args below meth c H locs (0) (0) Q (F0 m 16 ls [.long r_3, .long (r_1 * r_2)])
  refine lv_aload_n hx hb dX1_compareMisses_16 rfl (lv_at hl 0 rfl) ?_
  refine lv_iload_n hx hb dX1_compareMisses_17 rfl (lv_at hl 1 rfl) ?_
  obtain ⟨ho_18, h⟩ := z_chk_some h
  obtain ⟨vs_, ho_18⟩ := Option.isSome_iff_exists.mp ho_18
  obtain ⟨r_4, e_18, h⟩ := z_bd_some h
  refine g_callV (ci := 1) (As := [.int a0]) (rv := (some (.long r_4))) (n := 1) hc hP hS rfl ho_18 (mt_X1_missBelow l D cs A S o a0 e_18) wM_X1_85 wI_X1_missBelow wS_X1_missBelow wZ_X1 wC_X1_missBelow md_X1_missBelow ⟨rfl, rfl, Nat.le_of_ble_eq_true rfl, Nat.le_of_ble_eq_true rfl⟩ rfl hl.1 rfl (Nat.le_of_ble_eq_true rfl) dX1_compareMisses_18 ⟨Nat.le_of_ble_eq_true rfl, Nat.le_of_ble_eq_true rfl⟩ (fun H locs hP hS => ?_)
  show W p l e (z_rmA 3 115 0 0) s m args below meth c H locs (0) (0) Q (F0 m 21 ls [.long r_4, .long r_3, .long (r_1 * r_2)])
  refine lv_lmul hx hb dX1_compareMisses_21 ?_
  obtain ⟨r_5, er_5, h⟩ := z_bd_some h
  refine s_calli (As := [.long (r_1 * r_2), .long (r_3 * r_4)]) (r := r_5) (n := 2) hc.1 (mt_J13_compare_74951 l (r_1 * r_2) (r_3 * r_4) er_5) wM_X1_88 wT_J13_compare_74951 wZ_J13 wC_J13_compare_74951 md_J13_compare_74951 ⟨rfl, rfl, Nat.le_of_ble_eq_true rfl, Nat.le_of_ble_eq_true rfl⟩ rfl hl.1 rfl (Nat.le_of_ble_eq_true rfl) dX1_compareMisses_22 ⟨Nat.le_of_ble_eq_true rfl, Nat.le_of_ble_eq_true rfl⟩ ?_
  cases h
  rw [hQ]
  exact g_reti hc hr hlocks hP hS dX1_compareMisses_25
theorem md_X1_compareMisses : yX1_compareMisses.cls ≠ "java/lang/invoke/MethodHandle" ∧ yX1_compareMisses.cls ≠ "java/lang/invoke/VarHandle" ∧ (parseMethodDescriptor yX1_compareMisses.desc).map (fun d => d.parameters.length) = some 2 := by decide +kernel
noncomputable def f_X1_farthest_L18 (S : GS) (o : Nat) (x1_4 : Int32) (x2_5 : Int32) : Option ((Int32) ⊕ (Int32 × Int32)) :=
  z_bd (g_r S 1 3 o) fun f_7 => z_bd (g_i S 3 3 f_7) fun f_8 => if f_8 ≤ x2_5 then some (.inl (x1_4)) else z_chk (g_is S 1 o) (z_bd (f_X1_compareMisses S o x2_5 x1_4) fun r_9 => if r_9 ≤ 0 then some (.inr (x1_4, (x2_5 + 1))) else some (.inr (x2_5, (x2_5 + 1))))
noncomputable def f_X1_farthest (S : GS) (o : Nat) : Option (Int32) :=
  z_bd (g_r S 1 3 o) fun f_1 => z_bd (g_i S 3 3 f_1) fun f_2 => z_bd (if f_2 ≤ 0 then some ((-1 : Int32)) else some ((0 : Int32))) fun v_3 => z_bd (z_lp (fun x => f_X1_farthest_L18 S o x.1 x.2) (v_3, (1 : Int32))) fun y1_6 => some y1_6
set_option maxHeartbeats 4000000 in
set_option maxRecDepth 100000 in
theorem mt_X1_farthest (l : Launch) (D : va_G) (cs : Nat → ClassId) (A : Nat → Prop) (S : GS) (o : Nat) {r_ : Int32} (h : f_X1_farthest S o = some r_) : Met l yX1_farthest (z_wd yX1_farthest cX1_farthest 3 (some .int)) (z_rmA 4 153 0 0) (va_Pc [.ref o] (g_C D cs A S)) (g_Q (some (.int r_)) S D cs A) 0 0 A := by
  refine Met.ofW (cc := cX1_farthest) (maxL := 3) (ret := (some .int)) (by decide) rfl ?_
  intro p e s m args below meth c s₁ B hml hv
  obtain ⟨hav, hP0, hK, hN, hSt, hAn⟩ := hv
  have hx := B.exec
  have hb := B.bytes
  have hr := B.returns
  have hts := atoms_spec (ws := z_wd yX1_farthest cX1_farthest 3 (some .int)) B.pre
  have hown : s.vm.findClass RX1 = some m.cls := findClass_of_methodNamed B.named
  have hlocks := B.notSynchronized
  have hc : g_X p s m args c cX1_farthest 3 RX1 D cs A := ⟨⟨hx, hb, hml, fun w hw => hts w (List.mem_cons_of_mem _ hw), hown⟩, hK, hN, hSt, hAn⟩
  have hl := lv_entry ([.ref o]) (n := 3) (Nat.le_of_ble_eq_true rfl)
  have hE : entryFrame m args 3 = F0 m 0 ((lg_sl ([.ref o]) ++ List.replicate (3 - (lg_sl ([.ref o])).length) Slot.unset).toArray) [] := by rw [hav]; exact lg_entry_eq m _ _
  rw [hE]
  clear hE hav
  generalize (lg_sl ([.ref o]) ++ List.replicate (3 - (lg_sl ([.ref o])).length) Slot.unset).toArray = ls at hl ⊢
  have hl : lv_has ls 3 [(0, .ref o)] := hl
  obtain ⟨Q, hQ⟩ : ∃ Q, Q = MQ below (g_Q (some (.int r_)) S D cs A) args s 0 0 A := ⟨_, rfl⟩
  rw [← hQ]
  suffices hmain : ∀ (H : Heap) (locs : List Loc), g_P D cs A S H → va_S A s.heap H locs → W p l e (z_rmA 4 153 0 0) s m args below meth c H locs 0 0 Q (F0 m 0 ls []) from hmain s.heap [] hP0 va_S.rf
  clear hP0
  intro H locs hP hS
  unfold f_X1_farthest at h
  refine lv_aload_n hx hb dX1_farthest_0 rfl (lv_at hl 0 rfl) ?_
  obtain ⟨f_1, ef_1, h⟩ := z_bd_some h
  refine g_get (ci := 1) (k := 3) (v := .ref f_1) hc hP rfl z_inX1 (by decide) wF_X1_21 (g_r_v ef_1) dX1_farthest_1 ?_
  obtain ⟨f_2, ef_2, h⟩ := z_bd_some h
  refine g_getN (ci := 3) (k := 3) (v := .int f_2) hc hP rfl z_inX3 (by decide) wG_X1_25 (g_i_v ef_2) dX1_farthest_4 ?_
  obtain ⟨v_3, hJ, h⟩ := z_bd_some h
  have J_15 : ∀ (H : Heap) (locs : List Loc) (ls : Array Slot), g_P D cs A S H → va_S A s.heap H locs → lv_has ls 3 [(0, .ref o)] → W p l e (z_rmA 4 153 0 0) s m args below meth c H locs (0) (0) Q (F0 m 15 ls [.int v_3]) := by
    intro H locs ls hP hS hl
    refine lv_istore_n (lv' := [(1, .int v_3), (0, .ref o)]) hx hb dX1_farthest_15 rfl hl (by decide) rfl (fun ls hl => ?_)
    refine lv_iconst (v := 1) hx hb dX1_farthest_16 (by decide) ?_
    refine lv_istore_n (lv' := [(2, .int (1 : Int32)), (1, .int v_3), (0, .ref o)]) hx hb dX1_farthest_17 rfl hl (by decide) rfl (fun ls hl => ?_)
    obtain ⟨y1_6, hlp, h⟩ := z_bd_some h
    refine z_lp_ind (P := fun x => ∀ (H : Heap) (locs : List Loc) (ls : Array Slot), g_P D cs A S H → va_S A s.heap H locs → lv_has ls 3 [(0, .ref o), (1, .int x.1), (2, .int x.2)] → W p l e (z_rmA 4 153 0 0) s m args below meth c H locs (0) (0) Q (F0 m 18 ls [])) (Qe := fun y => ∀ (H : Heap) (locs : List Loc) (ls : Array Slot), g_P D cs A S H → va_S A s.heap H locs → lv_has ls 3 [(1, .int y)] → W p l e (z_rmA 4 153 0 0) s m args below meth c H locs (0) (0) Q (F0 m 46 ls [])) ?_ hlp ?_ H locs ls hP hS (lv_sub hl [2, 1, 0] rfl)
    · clear h hlp hP hS hl
      rintro ⟨x1_4, x2_5⟩ oo h K_18 H locs ls hP hS hl
      have hP : g_P D cs A S H := hP
      have hl : lv_has ls 3 [(0, .ref o), (1, .int x1_4), (2, .int x2_5)] := hl
      have h : f_X1_farthest_L18 S o x1_4 x2_5 = some oo := h
      unfold f_X1_farthest_L18 at h
      refine lv_iload_n hx hb dX1_farthest_18 rfl (lv_at hl 2 rfl) ?_
      refine lv_aload_n hx hb dX1_farthest_19 rfl (lv_at hl 0 rfl) ?_
      obtain ⟨f_7, ef_7, h⟩ := z_bd_some h
      refine g_get (ci := 1) (k := 3) (v := .ref f_7) hc hP rfl z_inX1 (by decide) wF_X1_21 (g_r_v ef_7) dX1_farthest_20 ?_
      obtain ⟨f_8, ef_8, h⟩ := z_bd_some h
      refine g_getN (ci := 3) (k := 3) (v := .int f_8) hc hP rfl z_inX3 (by decide) wG_X1_25 (g_i_v ef_8) dX1_farthest_23 ?_
      refine lv_icmp_ge (tgt := 46) hx hb dX1_farthest_26 (by decide) (fun c_26 => ?_) (fun c_26 => ?_)
      · replace h := z_ip_ c_26 h
        cases h
        exact K_18 H locs ls hP hS (lv_sub hl [1] rfl)
      · replace h := z_in_ c_26 h
        refine lv_aload_n hx hb dX1_farthest_29 rfl (lv_at hl 0 rfl) ?_
        refine lv_iload_n hx hb dX1_farthest_30 rfl (lv_at hl 2 rfl) ?_
        refine lv_iload_n hx hb dX1_farthest_31 rfl (lv_at hl 1 rfl) ?_
        obtain ⟨ho_32, h⟩ := z_chk_some h
        obtain ⟨vs_, ho_32⟩ := Option.isSome_iff_exists.mp ho_32
        obtain ⟨r_9, e_32, h⟩ := z_bd_some h
        refine g_callV (ci := 1) (As := [.int x2_5, .int x1_4]) (rv := (some (.int r_9))) (n := 2) hc hP hS rfl ho_32 (mt_X1_compareMisses l D cs A S o x2_5 x1_4 e_32) wM_X1_94 wI_X1_compareMisses wS_X1_compareMisses wZ_X1 wC_X1_compareMisses md_X1_compareMisses ⟨rfl, rfl, Nat.le_of_ble_eq_true rfl, Nat.le_of_ble_eq_true rfl⟩ rfl hl.1 rfl (Nat.le_of_ble_eq_true rfl) dX1_farthest_32 ⟨Nat.le_of_ble_eq_true rfl, Nat.le_of_ble_eq_true rfl⟩ (fun H locs hP hS => ?_)
        show W p l e (z_rmA 4 153 0 0) s m args below meth c H locs (0) (0) Q (F0 m 35 ls [.int r_9])
        refine lv_if_le (tgt := 40) hx hb dX1_farthest_35 (by decide) (fun c_35 => ?_) (fun c_35 => ?_)
        · replace h := z_ip_ c_35 h
          refine lv_iinc (v := (x2_5 + 1)) (lv' := [(2, .int (x2_5 + 1)), (0, .ref o), (1, .int x1_4)]) hx hb dX1_farthest_40 hl (k := 2) rfl rfl (by decide) rfl (fun ls hl => ?_)
          refine lv_goto (tgt := 18) hx hb dX1_farthest_43 (by decide) ?_
          cases h
          exact K_18 H locs ls hP hS (lv_sub hl [1, 2, 0] rfl)
        · replace h := z_in_ c_35 h
          refine lv_iload_n hx hb dX1_farthest_38 rfl (lv_at hl 2 rfl) ?_
          refine lv_istore_n (lv' := [(1, .int x2_5), (0, .ref o), (2, .int x2_5)]) hx hb dX1_farthest_39 rfl hl (by decide) rfl (fun ls hl => ?_)
          refine lv_iinc (v := (x2_5 + 1)) (lv' := [(2, .int (x2_5 + 1)), (1, .int x2_5), (0, .ref o)]) hx hb dX1_farthest_40 hl (k := 2) rfl rfl (by decide) rfl (fun ls hl => ?_)
          refine lv_goto (tgt := 18) hx hb dX1_farthest_43 (by decide) ?_
          cases h
          exact K_18 H locs ls hP hS (lv_sub hl [2, 1, 0] rfl)
    · clear hlp hP hS hl
      intro H locs ls hP hS hl
      have hP : g_P D cs A S H := hP
      have hl : lv_has ls 3 [(1, .int y1_6)] := hl
      refine lv_iload_n hx hb dX1_farthest_46 rfl (lv_at hl 0 rfl) ?_
      cases h
      rw [hQ]
      exact g_reti hc hr hlocks hP hS dX1_farthest_47
  clear h
  have h := hJ
  clear hJ
  refine lv_if_le (tgt := 14) hx hb dX1_farthest_7 (by decide) (fun c_7 => ?_) (fun c_7 => ?_)
  · replace h := z_ip_ c_7 h
    refine lv_iconst (v := -1) hx hb dX1_farthest_14 (by decide) ?_
    cases h
    exact J_15 H locs ls hP hS (lv_sub hl [0] rfl)
  · replace h := z_in_ c_7 h
    refine lv_iconst (v := 0) hx hb dX1_farthest_10 (by decide) ?_
    refine lv_goto (tgt := 15) hx hb dX1_farthest_11 (by decide) ?_
    cases h
    exact J_15 H locs ls hP hS (lv_sub hl [0] rfl)
theorem md_X1_farthest : yX1_farthest.cls ≠ "java/lang/invoke/MethodHandle" ∧ yX1_farthest.cls ≠ "java/lang/invoke/VarHandle" ∧ (parseMethodDescriptor yX1_farthest.desc).map (fun d => d.parameters.length) = some 0 := by decide +kernel
