noncomputable def f_X2_turnBits_L4 (S : GS) (o : Nat) (x1_1 : Int32) (x2_2 : Int32) : Option ((Int32) ⊕ (Int32 × Int32)) :=
  z_bd (g_i S 2 9 o) fun f_4 => if f_4 < x2_2 then some (.inl (x1_1)) else if (4 : Int32) ≤ x2_2 then some (.inl (x1_1)) else z_bd (g_r S 2 3 o) fun f_5 => z_bd (g_rI S f_5 x2_2) fun v_6 => some (.inr ((x1_1 ||| ((1 : Int32) <<< (v_6 &&& 31))), (x2_2 + 1)))
noncomputable def f_X2_turnBits (S : GS) (o : Nat) : Option (Int32) :=
  z_bd (z_lp (fun x => f_X2_turnBits_L4 S o x.1 x.2) ((0 : Int32), (0 : Int32))) fun y1_3 => some y1_3
set_option maxHeartbeats 4000000 in
set_option maxRecDepth 100000 in
theorem mt_X2_turnBits (l : Launch) (D : va_G) (cs : Nat → ClassId) (A : Nat → Prop) (S : GS) (o : Nat) {r_ : Int32} (h : f_X2_turnBits S o = some r_) : Met l yX2_turnBits (z_wd yX2_turnBits cX2_turnBits 3 (some .int)) (z_rmA 0 0 0 0) (va_Pc [.ref o] (g_C D cs A S)) (g_Q (some (.int r_)) S D cs A) 0 0 A := by
  refine Met.ofW (cc := cX2_turnBits) (maxL := 3) (ret := (some .int)) (by decide) rfl ?_
  intro p e s m args below meth c s₁ B hml hv
  obtain ⟨hav, hP0, hK, hN, hSt, hAn⟩ := hv
  have hx := B.exec
  have hb := B.bytes
  have hr := B.returns
  have hts := atoms_spec (ws := z_wd yX2_turnBits cX2_turnBits 3 (some .int)) B.pre
  have hown : s.vm.findClass RX2 = some m.cls := findClass_of_methodNamed B.named
  have hlocks := B.notSynchronized
  have hc : g_X p s m args c cX2_turnBits 3 RX2 D cs A := ⟨⟨hx, hb, hml, fun w hw => hts w (List.mem_cons_of_mem _ hw), hown⟩, hK, hN, hSt, hAn⟩
  have hl := lv_entry ([.ref o]) (n := 3) (Nat.le_of_ble_eq_true rfl)
  have hE : entryFrame m args 3 = F0 m 0 ((lg_sl ([.ref o]) ++ List.replicate (3 - (lg_sl ([.ref o])).length) Slot.unset).toArray) [] := by rw [hav]; exact lg_entry_eq m _ _
  rw [hE]
  clear hE hav
  generalize (lg_sl ([.ref o]) ++ List.replicate (3 - (lg_sl ([.ref o])).length) Slot.unset).toArray = ls at hl ⊢
  have hl : lv_has ls 3 [(0, .ref o)] := hl
  obtain ⟨Q, hQ⟩ : ∃ Q, Q = MQ below (g_Q (some (.int r_)) S D cs A) args s 0 0 A := ⟨_, rfl⟩
  rw [← hQ]
  suffices hmain : ∀ (H : Heap) (locs : List Loc), g_P D cs A S H → va_S A s.heap H locs → W p l e (z_rmA 0 0 0 0) s m args below meth c H locs 0 0 Q (F0 m 0 ls []) from hmain s.heap [] hP0 va_S.rf
  clear hP0
  intro H locs hP hS
  unfold f_X2_turnBits at h
  refine lv_iconst (v := 0) hx hb dX2_turnBits_0 (by decide) ?_
  refine lv_istore_n (lv' := [(1, .int (0 : Int32)), (0, .ref o)]) hx hb dX2_turnBits_1 rfl hl (by decide) rfl (fun ls hl => ?_)
  refine lv_iconst (v := 0) hx hb dX2_turnBits_2 (by decide) ?_
  refine lv_istore_n (lv' := [(2, .int (0 : Int32)), (1, .int (0 : Int32)), (0, .ref o)]) hx hb dX2_turnBits_3 rfl hl (by decide) rfl (fun ls hl => ?_)
  obtain ⟨y1_3, hlp, h⟩ := z_bd_some h
  refine z_lp_ind (P := fun x => ∀ (H : Heap) (locs : List Loc) (ls : Array Slot), g_P D cs A S H → va_S A s.heap H locs → lv_has ls 3 [(0, .ref o), (1, .int x.1), (2, .int x.2)] → W p l e (z_rmA 0 0 0 0) s m args below meth c H locs (0) (0) Q (F0 m 4 ls [])) (Qe := fun y => ∀ (H : Heap) (locs : List Loc) (ls : Array Slot), g_P D cs A S H → va_S A s.heap H locs → lv_has ls 3 [(1, .int y)] → W p l e (z_rmA 0 0 0 0) s m args below meth c H locs (0) (0) Q (F0 m 34 ls [])) ?_ hlp ?_ H locs ls hP hS (lv_sub hl [2, 1, 0] rfl)
  · clear h hlp hP hS hl
    rintro ⟨x1_1, x2_2⟩ oo h K_4 H locs ls hP hS hl
    have hP : g_P D cs A S H := hP
    have hl : lv_has ls 3 [(0, .ref o), (1, .int x1_1), (2, .int x2_2)] := hl
    have h : f_X2_turnBits_L4 S o x1_1 x2_2 = some oo := h
    unfold f_X2_turnBits_L4 at h
    refine lv_iload_n hx hb dX2_turnBits_4 rfl (lv_at hl 2 rfl) ?_
    refine lv_aload_n hx hb dX2_turnBits_5 rfl (lv_at hl 0 rfl) ?_
    obtain ⟨f_4, ef_4, h⟩ := z_bd_some h
    refine g_get (ci := 2) (k := 9) (v := .int f_4) hc hP rfl z_inX2 (by decide) wF_X2_45 (g_i_v ef_4) dX2_turnBits_6 ?_
    refine lv_icmp_gt (tgt := 34) hx hb dX2_turnBits_9 (by decide) (fun c_9 => ?_) (fun c_9 => ?_)
    · replace h := z_ip_ c_9 h
      cases h
      exact K_4 H locs ls hP hS (lv_sub hl [1] rfl)
    · replace h := z_in_ c_9 h
      refine lv_iload_n hx hb dX2_turnBits_12 rfl (lv_at hl 2 rfl) ?_
      refine lv_iconst (v := 4) hx hb dX2_turnBits_13 (by decide) ?_
      refine lv_icmp_ge (tgt := 34) hx hb dX2_turnBits_14 (by decide) (fun c_14 => ?_) (fun c_14 => ?_)
      · replace h := z_ip_ c_14 h
        cases h
        exact K_4 H locs ls hP hS (lv_sub hl [1] rfl)
      · replace h := z_in_ c_14 h
        refine lv_iload_n hx hb dX2_turnBits_17 rfl (lv_at hl 1 rfl) ?_
        refine lv_iconst (v := 1) hx hb dX2_turnBits_18 (by decide) ?_
        refine lv_aload_n hx hb dX2_turnBits_19 rfl (lv_at hl 0 rfl) ?_
        obtain ⟨f_5, ef_5, h⟩ := z_bd_some h
        refine g_get (ci := 2) (k := 3) (v := .ref f_5) hc hP rfl z_inX2 (by decide) wF_X2_21 (g_r_v ef_5) dX2_turnBits_20 ?_
        refine lv_iload_n hx hb dX2_turnBits_23 rfl (lv_at hl 2 rfl) ?_
        obtain ⟨v_6, ev_6, h⟩ := z_bd_some h
        refine g_iald hc hP ev_6 dX2_turnBits_24 ?_
        refine lv_ishl hx hb dX2_turnBits_25 ?_
        refine lv_ior hx hb dX2_turnBits_26 ?_
        refine lv_istore_n (lv' := [(1, .int (x1_1 ||| ((1 : Int32) <<< (v_6 &&& 31)))), (0, .ref o), (2, .int x2_2)]) hx hb dX2_turnBits_27 rfl hl (by decide) rfl (fun ls hl => ?_)
        refine lv_iinc (v := (x2_2 + 1)) (lv' := [(2, .int (x2_2 + 1)), (1, .int (x1_1 ||| ((1 : Int32) <<< (v_6 &&& 31)))), (0, .ref o)]) hx hb dX2_turnBits_28 hl (k := 2) rfl rfl (by decide) rfl (fun ls hl => ?_)
        refine lv_goto (tgt := 4) hx hb dX2_turnBits_31 (by decide) ?_
        cases h
        exact K_4 H locs ls hP hS (lv_sub hl [2, 1, 0] rfl)
  · clear hlp hP hS hl
    intro H locs ls hP hS hl
    have hP : g_P D cs A S H := hP
    have hl : lv_has ls 3 [(1, .int y1_3)] := hl
    refine lv_iload_n hx hb dX2_turnBits_34 rfl (lv_at hl 0 rfl) ?_
    cases h
    rw [hQ]
    exact g_reti hc hr hlocks hP hS dX2_turnBits_35
theorem md_X2_turnBits : yX2_turnBits.cls ≠ "java/lang/invoke/MethodHandle" ∧ yX2_turnBits.cls ≠ "java/lang/invoke/VarHandle" ∧ (parseMethodDescriptor yX2_turnBits.desc).map (fun d => d.parameters.length) = some 0 := by decide +kernel
noncomputable def f_X2_levelIsAtMost (S : GS) (o : Nat) (a0 : Int32) (a1 : Int32) : Option (Int32) :=
  z_bd (g_i S 2 8 o) fun f_1 => z_bd (g_i S 2 9 o) fun f_2 => if f_1 ≤ f_2 then some (1 : Int32) else z_chk (g_is S 2 o) (z_bd (f_X2_lowAbove S o ) fun r_3 => z_bd (g_r S 2 7 o) fun f_4 => z_bd (g_l S 4 3 f_4) fun f_5 => if 0 < (lg_cmp (r_3 * a1.toInt64) (a0.toInt64 * f_5)) then some (0 : Int32) else some (1 : Int32))
set_option maxHeartbeats 4000000 in
set_option maxRecDepth 100000 in
theorem mt_X2_levelIsAtMost (l : Launch) (D : va_G) (cs : Nat → ClassId) (A : Nat → Prop) (S : GS) (o : Nat) (a0 : Int32) (a1 : Int32) {r_ : Int32} (h : f_X2_levelIsAtMost S o a0 a1 = some r_) : Met l yX2_levelIsAtMost (z_wd yX2_levelIsAtMost cX2_levelIsAtMost 3 (some .boolean)) (z_rmA 3 111 0 0) (va_Pc [.ref o, .int a0, .int a1] (g_C D cs A S)) (g_Q (some (.int r_)) S D cs A) 0 0 A := by
  refine Met.ofW (cc := cX2_levelIsAtMost) (maxL := 3) (ret := (some .boolean)) (by decide) rfl ?_
  intro p e s m args below meth c s₁ B hml hv
  obtain ⟨hav, hP0, hK, hN, hSt, hAn⟩ := hv
  have hx := B.exec
  have hb := B.bytes
  have hr := B.returns
  have hts := atoms_spec (ws := z_wd yX2_levelIsAtMost cX2_levelIsAtMost 3 (some .boolean)) B.pre
  have hown : s.vm.findClass RX2 = some m.cls := findClass_of_methodNamed B.named
  have hlocks := B.notSynchronized
  have hc : g_X p s m args c cX2_levelIsAtMost 3 RX2 D cs A := ⟨⟨hx, hb, hml, fun w hw => hts w (List.mem_cons_of_mem _ hw), hown⟩, hK, hN, hSt, hAn⟩
  have hl := lv_entry ([.ref o, .int a0, .int a1]) (n := 3) (Nat.le_of_ble_eq_true rfl)
  have hE : entryFrame m args 3 = F0 m 0 ((lg_sl ([.ref o, .int a0, .int a1]) ++ List.replicate (3 - (lg_sl ([.ref o, .int a0, .int a1])).length) Slot.unset).toArray) [] := by rw [hav]; exact lg_entry_eq m _ _
  rw [hE]
  clear hE hav
  generalize (lg_sl ([.ref o, .int a0, .int a1]) ++ List.replicate (3 - (lg_sl ([.ref o, .int a0, .int a1])).length) Slot.unset).toArray = ls at hl ⊢
  have hl : lv_has ls 3 [(0, .ref o), (1, .int a0), (2, .int a1)] := hl
  obtain ⟨Q, hQ⟩ : ∃ Q, Q = MQ below (g_Q (some (.int r_)) S D cs A) args s 0 0 A := ⟨_, rfl⟩
  rw [← hQ]
  suffices hmain : ∀ (H : Heap) (locs : List Loc), g_P D cs A S H → va_S A s.heap H locs → W p l e (z_rmA 3 111 0 0) s m args below meth c H locs 0 0 Q (F0 m 0 ls []) from hmain s.heap [] hP0 va_S.rf
  clear hP0
  intro H locs hP hS
  unfold f_X2_levelIsAtMost at h
  refine lv_aload_n hx hb dX2_levelIsAtMost_0 rfl (lv_at hl 0 rfl) ?_
  obtain ⟨f_1, ef_1, h⟩ := z_bd_some h
  refine g_get (ci := 2) (k := 8) (v := .int f_1) hc hP rfl z_inX2 (by decide) wF_X2_41 (g_i_v ef_1) dX2_levelIsAtMost_1 ?_
  refine lv_aload_n hx hb dX2_levelIsAtMost_4 rfl (lv_at hl 0 rfl) ?_
  obtain ⟨f_2, ef_2, h⟩ := z_bd_some h
  refine g_get (ci := 2) (k := 9) (v := .int f_2) hc hP rfl z_inX2 (by decide) wF_X2_45 (g_i_v ef_2) dX2_levelIsAtMost_5 ?_
  refine lv_icmp_le (tgt := 32) hx hb dX2_levelIsAtMost_8 (by decide) (fun c_8 => ?_) (fun c_8 => ?_)
  · replace h := z_ip_ c_8 h
    refine lv_iconst (v := 1) hx hb dX2_levelIsAtMost_32 (by decide) ?_
    refine lv_goto (tgt := 37) hx hb dX2_levelIsAtMost_33 (by decide) ?_
    cases h
    rw [hQ]
    exact g_retz hc hr hlocks (by decide) hP hS dX2_levelIsAtMost_37
  · replace h := z_in_ c_8 h
    refine lv_aload_n hx hb dX2_levelIsAtMost_11 rfl (lv_at hl 0 rfl) ?_
    obtain ⟨ho_12, h⟩ := z_chk_some h
    obtain ⟨vs_, ho_12⟩ := Option.isSome_iff_exists.mp ho_12
    obtain ⟨r_3, e_12, h⟩ := z_bd_some h
    refine g_callV (ci := 2) (As := []) (rv := (some (.long r_3))) (n := 0) hc hP hS rfl ho_12 (mt_X2_lowAbove l D cs A S o  e_12) wM_X2_89 wI_X2_lowAbove wS_X2_lowAbove wZ_X2 wC_X2_lowAbove md_X2_lowAbove ⟨rfl, rfl, Nat.le_of_ble_eq_true rfl, Nat.le_of_ble_eq_true rfl⟩ rfl hl.1 rfl (Nat.le_of_ble_eq_true rfl) dX2_levelIsAtMost_12 ⟨Nat.le_of_ble_eq_true rfl, Nat.le_of_ble_eq_true rfl⟩ (fun H locs hP hS => ?_)
    show W p l e (z_rmA 3 111 0 0) s m args below meth c H locs (0) (0) Q (F0 m 15 ls [.long r_3])
    refine lv_iload_n hx hb dX2_levelIsAtMost_15 rfl (lv_at hl 2 rfl) ?_
    refine lv_i2l (v := a1.toInt64) hx hb dX2_levelIsAtMost_16 rfl ?_
    refine lv_lmul hx hb dX2_levelIsAtMost_17 ?_
    refine lv_iload_n hx hb dX2_levelIsAtMost_18 rfl (lv_at hl 1 rfl) ?_
    refine lv_i2l (v := a0.toInt64) hx hb dX2_levelIsAtMost_19 rfl ?_
    refine lv_aload_n hx hb dX2_levelIsAtMost_20 rfl (lv_at hl 0 rfl) ?_
    obtain ⟨f_4, ef_4, h⟩ := z_bd_some h
    refine g_get (ci := 2) (k := 7) (v := .ref f_4) hc hP rfl z_inX2 (by decide) wF_X2_37 (g_r_v ef_4) dX2_levelIsAtMost_21 ?_
    obtain ⟨f_5, ef_5, h⟩ := z_bd_some h
    refine g_getN (ci := 4) (k := 3) (v := .long f_5) hc hP rfl z_inX4 (by decide) wG_X2_93 (g_l_v ef_5) dX2_levelIsAtMost_24 ?_
    refine lv_lmul hx hb dX2_levelIsAtMost_27 ?_
    refine W.lcmp hx hb dX2_levelIsAtMost_28 ?_
    refine lv_if_gt (tgt := 36) hx hb dX2_levelIsAtMost_29 (by decide) (fun c_29 => ?_) (fun c_29 => ?_)
    · replace h := z_ip_ c_29 h
      refine lv_iconst (v := 0) hx hb dX2_levelIsAtMost_36 (by decide) ?_
      cases h
      rw [hQ]
      exact g_retz hc hr hlocks (by decide) hP hS dX2_levelIsAtMost_37
    · replace h := z_in_ c_29 h
      refine lv_iconst (v := 1) hx hb dX2_levelIsAtMost_32 (by decide) ?_
      refine lv_goto (tgt := 37) hx hb dX2_levelIsAtMost_33 (by decide) ?_
      cases h
      rw [hQ]
      exact g_retz hc hr hlocks (by decide) hP hS dX2_levelIsAtMost_37
theorem md_X2_levelIsAtMost : yX2_levelIsAtMost.cls ≠ "java/lang/invoke/MethodHandle" ∧ yX2_levelIsAtMost.cls ≠ "java/lang/invoke/VarHandle" ∧ (parseMethodDescriptor yX2_levelIsAtMost.desc).map (fun d => d.parameters.length) = some 2 := by decide +kernel
noncomputable def f_X2_hand (S : GS) (o : Nat) (a0 : Nat) : Option (GS) :=
  z_bd (g_i S 2 10 o) fun f_1 => if f_1 = 0 then z_bd (g_r S 2 7 o) fun f_2 => z_bd (g_l S 4 0 f_2) fun f_3 => z_bd (g_r S 2 7 o) fun f_4 => z_bd (g_l S 4 1 f_4) fun f_5 => z_bd (g_r S 2 7 o) fun f_6 => z_bd (g_l S 4 2 f_6) fun f_7 => z_bd (g_r S 2 7 o) fun f_8 => z_bd (g_l S 4 3 f_8) fun f_9 => z_chk (g_is S 4 a0) (z_bd (f_X4_become S a0 f_3 f_5 f_7 f_9) fun S_10 => some S_10) else z_bd (g_r S 2 7 o) fun f_11 => z_bd (g_l S 4 0 f_11) fun f_12 => z_bd (g_r S 2 7 o) fun f_13 => z_bd (g_l S 4 1 f_13) fun f_14 => z_bd (g_r S 2 7 o) fun f_15 => z_bd (g_l S 4 3 f_15) fun f_16 => z_chk (g_is S 4 a0) (z_bd (f_X4_become S a0 f_12 (0 : Int64) f_14 f_16) fun S_17 => some S_17)
set_option maxHeartbeats 4000000 in
set_option maxRecDepth 100000 in
theorem mt_X2_hand (l : Launch) (D : va_G) (cs : Nat → ClassId) (A : Nat → Prop) (S : GS) (o : Nat) (a0 : Nat) {N_ : GS} (h : f_X2_hand S o a0 = some N_) : Met l yX2_hand (z_wd yX2_hand cX2_hand 2 none) (z_rmA 2 92 0 0) (va_Pc [.ref o, .ref a0] (g_C D cs A S)) (g_Q none N_ D cs A) 0 0 A := by
  refine Met.ofW (cc := cX2_hand) (maxL := 2) (ret := none) (by decide) rfl ?_
  intro p e s m args below meth c s₁ B hml hv
  obtain ⟨hav, hP0, hK, hN, hSt, hAn⟩ := hv
  have hx := B.exec
  have hb := B.bytes
  have hr := B.returns
  have hts := atoms_spec (ws := z_wd yX2_hand cX2_hand 2 none) B.pre
  have hown : s.vm.findClass RX2 = some m.cls := findClass_of_methodNamed B.named
  have hlocks := B.notSynchronized
  have hc : g_X p s m args c cX2_hand 2 RX2 D cs A := ⟨⟨hx, hb, hml, fun w hw => hts w (List.mem_cons_of_mem _ hw), hown⟩, hK, hN, hSt, hAn⟩
  have hl := lv_entry ([.ref o, .ref a0]) (n := 2) (Nat.le_of_ble_eq_true rfl)
  have hE : entryFrame m args 2 = F0 m 0 ((lg_sl ([.ref o, .ref a0]) ++ List.replicate (2 - (lg_sl ([.ref o, .ref a0])).length) Slot.unset).toArray) [] := by rw [hav]; exact lg_entry_eq m _ _
  rw [hE]
  clear hE hav
  generalize (lg_sl ([.ref o, .ref a0]) ++ List.replicate (2 - (lg_sl ([.ref o, .ref a0])).length) Slot.unset).toArray = ls at hl ⊢
  have hl : lv_has ls 2 [(0, .ref o), (1, .ref a0)] := hl
  obtain ⟨Q, hQ⟩ : ∃ Q, Q = MQ below (g_Q none N_ D cs A) args s 0 0 A := ⟨_, rfl⟩
  rw [← hQ]
  suffices hmain : ∀ (H : Heap) (locs : List Loc), g_P D cs A S H → va_S A s.heap H locs → W p l e (z_rmA 2 92 0 0) s m args below meth c H locs 0 0 Q (F0 m 0 ls []) from hmain s.heap [] hP0 va_S.rf
  clear hP0
  intro H locs hP hS
  unfold f_X2_hand at h
  refine lv_aload_n hx hb dX2_hand_0 rfl (lv_at hl 0 rfl) ?_
  obtain ⟨f_1, ef_1, h⟩ := z_bd_some h
  refine g_get (ci := 2) (k := 10) (v := .int f_1) hc hP rfl z_inX2 (by decide) wF_X2_48 (g_i_v ef_1) dX2_hand_1 ?_
  refine lv_if_eq (tgt := 36) hx hb dX2_hand_4 (by decide) (fun c_4 => ?_) (fun c_4 => ?_)
  · replace h := z_ip_ c_4 h
    refine lv_aload_n hx hb dX2_hand_36 rfl (lv_at hl 1 rfl) ?_
    refine lv_aload_n hx hb dX2_hand_37 rfl (lv_at hl 0 rfl) ?_
    obtain ⟨f_2, ef_2, h⟩ := z_bd_some h
    refine g_get (ci := 2) (k := 7) (v := .ref f_2) hc hP rfl z_inX2 (by decide) wF_X2_37 (g_r_v ef_2) dX2_hand_38 ?_
    obtain ⟨f_3, ef_3, h⟩ := z_bd_some h
    refine g_getN (ci := 4) (k := 0) (v := .long f_3) hc hP rfl z_inX4 (by decide) wG_X2_97 (g_l_v ef_3) dX2_hand_41 ?_
    refine lv_aload_n hx hb dX2_hand_44 rfl (lv_at hl 0 rfl) ?_
    obtain ⟨f_4, ef_4, h⟩ := z_bd_some h
    refine g_get (ci := 2) (k := 7) (v := .ref f_4) hc hP rfl z_inX2 (by decide) wF_X2_37 (g_r_v ef_4) dX2_hand_45 ?_
    obtain ⟨f_5, ef_5, h⟩ := z_bd_some h
    refine g_getN (ci := 4) (k := 1) (v := .long f_5) hc hP rfl z_inX4 (by decide) wG_X2_100 (g_l_v ef_5) dX2_hand_48 ?_
    refine lv_aload_n hx hb dX2_hand_51 rfl (lv_at hl 0 rfl) ?_
    obtain ⟨f_6, ef_6, h⟩ := z_bd_some h
    refine g_get (ci := 2) (k := 7) (v := .ref f_6) hc hP rfl z_inX2 (by decide) wF_X2_37 (g_r_v ef_6) dX2_hand_52 ?_
    obtain ⟨f_7, ef_7, h⟩ := z_bd_some h
    refine g_getN (ci := 4) (k := 2) (v := .long f_7) hc hP rfl z_inX4 (by decide) wG_X2_107 (g_l_v ef_7) dX2_hand_55 ?_
    refine lv_aload_n hx hb dX2_hand_58 rfl (lv_at hl 0 rfl) ?_
    obtain ⟨f_8, ef_8, h⟩ := z_bd_some h
    refine g_get (ci := 2) (k := 7) (v := .ref f_8) hc hP rfl z_inX2 (by decide) wF_X2_37 (g_r_v ef_8) dX2_hand_59 ?_
    obtain ⟨f_9, ef_9, h⟩ := z_bd_some h
    refine g_getN (ci := 4) (k := 3) (v := .long f_9) hc hP rfl z_inX4 (by decide) wG_X2_93 (g_l_v ef_9) dX2_hand_62 ?_
    obtain ⟨ho_65, h⟩ := z_chk_some h
    obtain ⟨vs_, ho_65⟩ := Option.isSome_iff_exists.mp ho_65
    obtain ⟨S_10, e_65, h⟩ := z_bd_some h
    refine g_callV (ci := 4) (As := [.long f_3, .long f_5, .long f_7, .long f_9]) (rv := none) (n := 4) hc hP hS rfl ho_65 (mt_X4_become l D cs A S a0 f_3 f_5 f_7 f_9 e_65) wM_X2_103 wI_X4_become wS_X4_become wZ_X4 wC_X4_become md_X4_become ⟨rfl, rfl, Nat.le_of_ble_eq_true rfl, Nat.le_of_ble_eq_true rfl⟩ rfl hl.1 rfl (Nat.le_of_ble_eq_true rfl) dX2_hand_65 ⟨Nat.le_of_ble_eq_true rfl, Nat.le_of_ble_eq_true rfl⟩ (fun H locs hP hS => ?_)
    show W p l e (z_rmA 2 92 0 0) s m args below meth c H locs (0) (0) Q (F0 m 68 ls [])
    cases h
    rw [hQ]
    exact g_retv hc hr hlocks hP hS dX2_hand_68
  · replace h := z_in_ c_4 h
    refine lv_aload_n hx hb dX2_hand_7 rfl (lv_at hl 1 rfl) ?_
    refine lv_aload_n hx hb dX2_hand_8 rfl (lv_at hl 0 rfl) ?_
    obtain ⟨f_11, ef_11, h⟩ := z_bd_some h
    refine g_get (ci := 2) (k := 7) (v := .ref f_11) hc hP rfl z_inX2 (by decide) wF_X2_37 (g_r_v ef_11) dX2_hand_9 ?_
    obtain ⟨f_12, ef_12, h⟩ := z_bd_some h
    refine g_getN (ci := 4) (k := 0) (v := .long f_12) hc hP rfl z_inX4 (by decide) wG_X2_97 (g_l_v ef_12) dX2_hand_12 ?_
    refine lv_lconst (v := 0) hx hb dX2_hand_15 (by decide) ?_
    refine lv_aload_n hx hb dX2_hand_16 rfl (lv_at hl 0 rfl) ?_
    obtain ⟨f_13, ef_13, h⟩ := z_bd_some h
    refine g_get (ci := 2) (k := 7) (v := .ref f_13) hc hP rfl z_inX2 (by decide) wF_X2_37 (g_r_v ef_13) dX2_hand_17 ?_
    obtain ⟨f_14, ef_14, h⟩ := z_bd_some h
    refine g_getN (ci := 4) (k := 1) (v := .long f_14) hc hP rfl z_inX4 (by decide) wG_X2_100 (g_l_v ef_14) dX2_hand_20 ?_
    refine lv_aload_n hx hb dX2_hand_23 rfl (lv_at hl 0 rfl) ?_
    obtain ⟨f_15, ef_15, h⟩ := z_bd_some h
    refine g_get (ci := 2) (k := 7) (v := .ref f_15) hc hP rfl z_inX2 (by decide) wF_X2_37 (g_r_v ef_15) dX2_hand_24 ?_
    obtain ⟨f_16, ef_16, h⟩ := z_bd_some h
    refine g_getN (ci := 4) (k := 3) (v := .long f_16) hc hP rfl z_inX4 (by decide) wG_X2_93 (g_l_v ef_16) dX2_hand_27 ?_
    obtain ⟨ho_30, h⟩ := z_chk_some h
    obtain ⟨vs_, ho_30⟩ := Option.isSome_iff_exists.mp ho_30
    obtain ⟨S_17, e_30, h⟩ := z_bd_some h
    refine g_callV (ci := 4) (As := [.long f_12, .long (0 : Int64), .long f_14, .long f_16]) (rv := none) (n := 4) hc hP hS rfl ho_30 (mt_X4_become l D cs A S a0 f_12 (0 : Int64) f_14 f_16 e_30) wM_X2_103 wI_X4_become wS_X4_become wZ_X4 wC_X4_become md_X4_become ⟨rfl, rfl, Nat.le_of_ble_eq_true rfl, Nat.le_of_ble_eq_true rfl⟩ rfl hl.1 rfl (Nat.le_of_ble_eq_true rfl) dX2_hand_30 ⟨Nat.le_of_ble_eq_true rfl, Nat.le_of_ble_eq_true rfl⟩ (fun H locs hP hS => ?_)
    show W p l e (z_rmA 2 92 0 0) s m args below meth c H locs (0) (0) Q (F0 m 33 ls [])
    refine lv_goto (tgt := 68) hx hb dX2_hand_33 (by decide) ?_
    cases h
    rw [hQ]
    exact g_retv hc hr hlocks hP hS dX2_hand_68
theorem md_X2_hand : yX2_hand.cls ≠ "java/lang/invoke/MethodHandle" ∧ yX2_hand.cls ≠ "java/lang/invoke/VarHandle" ∧ (parseMethodDescriptor yX2_hand.desc).map (fun d => d.parameters.length) = some 1 := by decide +kernel
noncomputable def f_X3_init (S : GS) (o : Nat) : Option (GS) :=
  z_lt (g_nw S (.inl (12, fun _ => 0))) fun S_1 => z_bd (g_put S_1 3 0 o (.ref S.2)) fun S_2 => z_lt (g_nw S_2 (.inl (12, fun _ => 0))) fun S_3 => z_bd (g_put S_3 3 1 o (.ref S_2.2)) fun S_4 => z_lt (g_nw S_4 (.inl (12, fun _ => 0))) fun S_5 => z_bd (g_put S_5 3 2 o (.ref S_4.2)) fun S_6 => z_bd (g_put S_6 3 3 o (.int (0 : Int32))) fun S_7 => some S_7
set_option maxHeartbeats 4000000 in
set_option maxRecDepth 100000 in
theorem mt_X3_init (l : Launch) (D : va_G) (cs : Nat → ClassId) (A : Nat → Prop) (S : GS) (o : Nat) {N_ : GS} (h : f_X3_init S o = some N_) : Met l yX3_init (z_wd yX3_init cX3_init 1 none) (z_rmA 1 40 3 36) (va_Pc [.ref o] (g_C D cs A S)) (g_Q none N_ D cs A) 3 36 A := by
  refine Met.ofW (cc := cX3_init) (maxL := 1) (ret := none) (by decide) rfl ?_
  intro p e s m args below meth c s₁ B hml hv
  obtain ⟨hav, hP0, hK, hN, hSt, hAn⟩ := hv
  have hx := B.exec
  have hb := B.bytes
  have hr := B.returns
  have hts := atoms_spec (ws := z_wd yX3_init cX3_init 1 none) B.pre
  have hown : s.vm.findClass RX3 = some m.cls := findClass_of_methodNamed B.named
  have hlocks := B.notSynchronized
  have hin : meth.name = "<init>" := (name_of_methodNamed B.named B.method).1
  have hc : g_X p s m args c cX3_init 1 RX3 D cs A := ⟨⟨hx, hb, hml, fun w hw => hts w (List.mem_cons_of_mem _ hw), hown⟩, hK, hN, hSt, hAn⟩
  have hl := lv_entry ([.ref o]) (n := 1) (Nat.le_of_ble_eq_true rfl)
  have hE : entryFrame m args 1 = F0 m 0 ((lg_sl ([.ref o]) ++ List.replicate (1 - (lg_sl ([.ref o])).length) Slot.unset).toArray) [] := by rw [hav]; exact lg_entry_eq m _ _
  rw [hE]
  clear hE hav
  generalize (lg_sl ([.ref o]) ++ List.replicate (1 - (lg_sl ([.ref o])).length) Slot.unset).toArray = ls at hl ⊢
  have hl : lv_has ls 1 [(0, .ref o)] := hl
  obtain ⟨Q, hQ⟩ : ∃ Q, Q = MQ below (g_Q none N_ D cs A) args s 3 36 A := ⟨_, rfl⟩
  rw [← hQ]
  suffices hmain : ∀ (H : Heap) (locs : List Loc), g_P D cs A S H → va_S A s.heap H locs → W p l e (z_rmA 1 40 3 36) s m args below meth c H locs 0 0 Q (F0 m 0 ls []) from hmain s.heap [] hP0 va_S.rf
  clear hP0
  intro H locs hP hS
  unfold f_X3_init at h
  refine lv_aload_n hx hb dX3_init_0 rfl (lv_at hl 0 rfl) ?_
  refine g_obj hc wM_X3_3 hl.1 (Nat.le_of_ble_eq_true rfl) (Nat.le_of_ble_eq_true rfl) dX3_init_1 ?_
  show W p l e (z_rmA 1 40 3 36) s m args below meth c H locs (0) (0) Q (F0 m 4 ls [])
  refine lv_aload_n hx hb dX3_init_4 rfl (lv_at hl 0 rfl) ?_
  refine lv_bipush (v := 12) hx hb dX3_init_5 (by decide) ?_
  obtain ⟨S_1, eS_1, h⟩ := z_lt_some h
  refine g_newI (N' := 12) hc hP hS wY_int (by decide) (by decide) (by decide) (Nat.le_of_ble_eq_true rfl) (Nat.le_of_ble_eq_true rfl) eS_1 dX3_init_7 (fun H hP hS => ?_)
  show W p l e (z_rmA 1 40 3 36) s m args below meth c H locs (1) (12) Q (F0 m 9 ls [.ref S.2, .ref o])
  obtain ⟨S_2, eS_2, h⟩ := z_bd_some h
  refine g_putF (ci := 3) (k := 0) (ty := (.array .int)) tyX3 hc hP hS rfl z_inX3 tyX3_ok nmX3 (by decide) wF_X3_9 rfl hin rfl (by decide +kernel) rfl rfl eS_2 dX3_init_9 (fun H locs hP hS => ?_)
  refine lv_aload_n hx hb dX3_init_12 rfl (lv_at hl 0 rfl) ?_
  refine lv_bipush (v := 12) hx hb dX3_init_13 (by decide) ?_
  obtain ⟨S_3, eS_3, h⟩ := z_lt_some h
  refine g_newI (N' := 12) hc hP hS wY_int (by decide) (by decide) (by decide) (Nat.le_of_ble_eq_true rfl) (Nat.le_of_ble_eq_true rfl) eS_3 dX3_init_15 (fun H hP hS => ?_)
  show W p l e (z_rmA 1 40 3 36) s m args below meth c H locs (2) (24) Q (F0 m 17 ls [.ref S_2.2, .ref o])
  obtain ⟨S_4, eS_4, h⟩ := z_bd_some h
  refine g_putF (ci := 3) (k := 1) (ty := (.array .int)) tyX3 hc hP hS rfl z_inX3 tyX3_ok nmX3 (by decide) wF_X3_15 rfl hin rfl (by decide +kernel) rfl rfl eS_4 dX3_init_17 (fun H locs hP hS => ?_)
  refine lv_aload_n hx hb dX3_init_20 rfl (lv_at hl 0 rfl) ?_
  refine lv_bipush (v := 12) hx hb dX3_init_21 (by decide) ?_
  obtain ⟨S_5, eS_5, h⟩ := z_lt_some h
  refine g_newI (N' := 12) hc hP hS wY_int (by decide) (by decide) (by decide) (Nat.le_of_ble_eq_true rfl) (Nat.le_of_ble_eq_true rfl) eS_5 dX3_init_23 (fun H hP hS => ?_)
  show W p l e (z_rmA 1 40 3 36) s m args below meth c H locs (3) (36) Q (F0 m 25 ls [.ref S_4.2, .ref o])
  obtain ⟨S_6, eS_6, h⟩ := z_bd_some h
  refine g_putF (ci := 3) (k := 2) (ty := (.array .int)) tyX3 hc hP hS rfl z_inX3 tyX3_ok nmX3 (by decide) wF_X3_18 rfl hin rfl (by decide +kernel) rfl rfl eS_6 dX3_init_25 (fun H locs hP hS => ?_)
  refine lv_aload_n hx hb dX3_init_28 rfl (lv_at hl 0 rfl) ?_
  refine lv_iconst (v := 0) hx hb dX3_init_29 (by decide) ?_
  obtain ⟨S_7, eS_7, h⟩ := z_bd_some h
  refine g_putf (ci := 3) (k := 3) (ty := .int) tyX3 hc hP hS rfl z_inX3 tyX3_ok nmX3 (by decide) wF_X3_21 rfl (by decide +kernel) rfl rfl eS_7 dX3_init_30 (fun H locs hP hS => ?_)
  cases h
  rw [hQ]
  exact g_retv hc hr hlocks hP hS dX3_init_33
theorem md_X3_init : yX3_init.cls ≠ "java/lang/invoke/MethodHandle" ∧ yX3_init.cls ≠ "java/lang/invoke/VarHandle" ∧ (parseMethodDescriptor yX3_init.desc).map (fun d => d.parameters.length) = some 0 := by decide +kernel
noncomputable def f_X3_init_ (S : GS) (o : Nat) (a0 : Nat) : Option (GS) :=
  z_bd (g_r S 3 0 a0) fun f_1 => z_bd (g_cl S f_1 12) fun S_2 => z_chk (g_isI S_2 S.2) (z_bd (g_put S_2 3 0 o (.ref S.2)) fun S_3 => z_bd (g_r S_3 3 1 a0) fun f_4 => z_bd (g_cl S_3 f_4 12) fun S_5 => z_chk (g_isI S_5 S_3.2) (z_bd (g_put S_5 3 1 o (.ref S_3.2)) fun S_6 => z_bd (g_r S_6 3 2 a0) fun f_7 => z_bd (g_cl S_6 f_7 12) fun S_8 => z_chk (g_isI S_8 S_6.2) (z_bd (g_put S_8 3 2 o (.ref S_6.2)) fun S_9 => z_bd (g_i S_9 3 3 a0) fun f_10 => z_bd (g_put S_9 3 3 o (.int f_10)) fun S_11 => some S_11)))
set_option maxHeartbeats 4000000 in
set_option maxRecDepth 100000 in
theorem mt_X3_init_ (l : Launch) (D : va_G) (cs : Nat → ClassId) (A : Nat → Prop) (S : GS) (o : Nat) (a0 : Nat) {N_ : GS} (h : f_X3_init_ S o a0 = some N_) : Met l yX3_init_ (z_wd yX3_init_ cX3_init_ 2 none) (z_rmA 1 40 3 36) (va_Pc [.ref o, .ref a0] (g_C D cs A S)) (g_Q none N_ D cs A) 3 36 A := by
  refine Met.ofW (cc := cX3_init_) (maxL := 2) (ret := none) (by decide) rfl ?_
  intro p e s m args below meth c s₁ B hml hv
  obtain ⟨hav, hP0, hK, hN, hSt, hAn⟩ := hv
  have hx := B.exec
  have hb := B.bytes
  have hr := B.returns
  have hts := atoms_spec (ws := z_wd yX3_init_ cX3_init_ 2 none) B.pre
  have hown : s.vm.findClass RX3 = some m.cls := findClass_of_methodNamed B.named
  have hlocks := B.notSynchronized
  have hin : meth.name = "<init>" := (name_of_methodNamed B.named B.method).1
  have hc : g_X p s m args c cX3_init_ 2 RX3 D cs A := ⟨⟨hx, hb, hml, fun w hw => hts w (List.mem_cons_of_mem _ hw), hown⟩, hK, hN, hSt, hAn⟩
  have hl := lv_entry ([.ref o, .ref a0]) (n := 2) (Nat.le_of_ble_eq_true rfl)
  have hE : entryFrame m args 2 = F0 m 0 ((lg_sl ([.ref o, .ref a0]) ++ List.replicate (2 - (lg_sl ([.ref o, .ref a0])).length) Slot.unset).toArray) [] := by rw [hav]; exact lg_entry_eq m _ _
  rw [hE]
  clear hE hav
  generalize (lg_sl ([.ref o, .ref a0]) ++ List.replicate (2 - (lg_sl ([.ref o, .ref a0])).length) Slot.unset).toArray = ls at hl ⊢
  have hl : lv_has ls 2 [(0, .ref o), (1, .ref a0)] := hl
  obtain ⟨Q, hQ⟩ : ∃ Q, Q = MQ below (g_Q none N_ D cs A) args s 3 36 A := ⟨_, rfl⟩
  rw [← hQ]
  suffices hmain : ∀ (H : Heap) (locs : List Loc), g_P D cs A S H → va_S A s.heap H locs → W p l e (z_rmA 1 40 3 36) s m args below meth c H locs 0 0 Q (F0 m 0 ls []) from hmain s.heap [] hP0 va_S.rf
  clear hP0
  intro H locs hP hS
  unfold f_X3_init_ at h
  refine lv_aload_n hx hb dX3_init__0 rfl (lv_at hl 0 rfl) ?_
  refine g_obj hc wM_X3_3 hl.1 (Nat.le_of_ble_eq_true rfl) (Nat.le_of_ble_eq_true rfl) dX3_init__1 ?_
  show W p l e (z_rmA 1 40 3 36) s m args below meth c H locs (0) (0) Q (F0 m 4 ls [])
  refine lv_aload_n hx hb dX3_init__4 rfl (lv_at hl 0 rfl) ?_
  refine lv_aload_n hx hb dX3_init__5 rfl (lv_at hl 1 rfl) ?_
  obtain ⟨f_1, ef_1, h⟩ := z_bd_some h
  refine g_get (ci := 3) (k := 0) (v := .ref f_1) hc hP rfl z_inX3 (by decide) wF_X3_9 (g_r_v ef_1) dX3_init__6 ?_
  obtain ⟨S_2, eS_2, h⟩ := z_bd_some h
  refine g_clone (B := 12) hc hP hS wV_methodLink eS_2 hl.1 (Nat.le_of_ble_eq_true rfl) (Nat.le_of_ble_eq_true rfl) (Nat.le_of_ble_eq_true rfl) (Nat.le_of_ble_eq_true rfl) dX3_init__9 (fun H hP hS => ?_)
  show W p l e (z_rmA 1 40 3 36) s m args below meth c H locs (1) (12) Q (F0 m 12 ls [.ref S.2, .ref o])
  obtain ⟨ck_12, h⟩ := z_chk_some h
  refine g_castI hc hP wV_classLink ck_12 dX3_init__12 ?_
  obtain ⟨S_3, eS_3, h⟩ := z_bd_some h
  refine g_putF (ci := 3) (k := 0) (ty := (.array .int)) tyX3 hc hP hS rfl z_inX3 tyX3_ok nmX3 (by decide) wF_X3_9 rfl hin rfl (by decide +kernel) rfl rfl eS_3 dX3_init__15 (fun H locs hP hS => ?_)
  refine lv_aload_n hx hb dX3_init__18 rfl (lv_at hl 0 rfl) ?_
  refine lv_aload_n hx hb dX3_init__19 rfl (lv_at hl 1 rfl) ?_
  obtain ⟨f_4, ef_4, h⟩ := z_bd_some h
  refine g_get (ci := 3) (k := 1) (v := .ref f_4) hc hP rfl z_inX3 (by decide) wF_X3_15 (g_r_v ef_4) dX3_init__20 ?_
  obtain ⟨S_5, eS_5, h⟩ := z_bd_some h
  refine g_clone (B := 12) hc hP hS wV_methodLink eS_5 hl.1 (Nat.le_of_ble_eq_true rfl) (Nat.le_of_ble_eq_true rfl) (Nat.le_of_ble_eq_true rfl) (Nat.le_of_ble_eq_true rfl) dX3_init__23 (fun H hP hS => ?_)
  show W p l e (z_rmA 1 40 3 36) s m args below meth c H locs (2) (24) Q (F0 m 26 ls [.ref S_3.2, .ref o])
  obtain ⟨ck_26, h⟩ := z_chk_some h
  refine g_castI hc hP wV_classLink ck_26 dX3_init__26 ?_
  obtain ⟨S_6, eS_6, h⟩ := z_bd_some h
  refine g_putF (ci := 3) (k := 1) (ty := (.array .int)) tyX3 hc hP hS rfl z_inX3 tyX3_ok nmX3 (by decide) wF_X3_15 rfl hin rfl (by decide +kernel) rfl rfl eS_6 dX3_init__29 (fun H locs hP hS => ?_)
  refine lv_aload_n hx hb dX3_init__32 rfl (lv_at hl 0 rfl) ?_
  refine lv_aload_n hx hb dX3_init__33 rfl (lv_at hl 1 rfl) ?_
  obtain ⟨f_7, ef_7, h⟩ := z_bd_some h
  refine g_get (ci := 3) (k := 2) (v := .ref f_7) hc hP rfl z_inX3 (by decide) wF_X3_18 (g_r_v ef_7) dX3_init__34 ?_
  obtain ⟨S_8, eS_8, h⟩ := z_bd_some h
  refine g_clone (B := 12) hc hP hS wV_methodLink eS_8 hl.1 (Nat.le_of_ble_eq_true rfl) (Nat.le_of_ble_eq_true rfl) (Nat.le_of_ble_eq_true rfl) (Nat.le_of_ble_eq_true rfl) dX3_init__37 (fun H hP hS => ?_)
  show W p l e (z_rmA 1 40 3 36) s m args below meth c H locs (3) (36) Q (F0 m 40 ls [.ref S_6.2, .ref o])
  obtain ⟨ck_40, h⟩ := z_chk_some h
  refine g_castI hc hP wV_classLink ck_40 dX3_init__40 ?_
  obtain ⟨S_9, eS_9, h⟩ := z_bd_some h
  refine g_putF (ci := 3) (k := 2) (ty := (.array .int)) tyX3 hc hP hS rfl z_inX3 tyX3_ok nmX3 (by decide) wF_X3_18 rfl hin rfl (by decide +kernel) rfl rfl eS_9 dX3_init__43 (fun H locs hP hS => ?_)
  refine lv_aload_n hx hb dX3_init__46 rfl (lv_at hl 0 rfl) ?_
  refine lv_aload_n hx hb dX3_init__47 rfl (lv_at hl 1 rfl) ?_
  obtain ⟨f_10, ef_10, h⟩ := z_bd_some h
  refine g_get (ci := 3) (k := 3) (v := .int f_10) hc hP rfl z_inX3 (by decide) wF_X3_21 (g_i_v ef_10) dX3_init__48 ?_
  obtain ⟨S_11, eS_11, h⟩ := z_bd_some h
  refine g_putf (ci := 3) (k := 3) (ty := .int) tyX3 hc hP hS rfl z_inX3 tyX3_ok nmX3 (by decide) wF_X3_21 rfl (by decide +kernel) rfl rfl eS_11 dX3_init__51 (fun H locs hP hS => ?_)
  cases h
  rw [hQ]
  exact g_retv hc hr hlocks hP hS dX3_init__54
theorem md_X3_init_ : yX3_init_.cls ≠ "java/lang/invoke/MethodHandle" ∧ yX3_init_.cls ≠ "java/lang/invoke/VarHandle" ∧ (parseMethodDescriptor yX3_init_.desc).map (fun d => d.parameters.length) = some 1 := by decide +kernel
noncomputable def f_X7_isWithin (a0 : Int32) (a1 : Int32) (a2 : Int32) : Option (Int32) :=
  if a0 < a1 then some (0 : Int32) else if a2 < a0 then some (0 : Int32) else some (1 : Int32)
set_option maxHeartbeats 4000000 in
set_option maxRecDepth 100000 in
theorem mt_X7_isWithin (l : Launch) (a0 : Int32) (a1 : Int32) (a2 : Int32) {r_ : Int32} (h : f_X7_isWithin a0 a1 a2 = some r_) : Met l yX7_isWithin (z_wd yX7_isWithin cX7_isWithin 3 (some .boolean)) (z_rm 0 0) (va_Pc [.int a0, .int a1, .int a2] (fun _ => True)) (vp_Si (fun r1 : Int32 => r1 = r_)) 0 0 (fun _ => False) := by
  refine Met.ofW (cc := cX7_isWithin) (maxL := 3) (ret := (some .boolean)) (by decide) rfl ?_
  intro p e s m args below meth c s₁ B hml hv
  obtain ⟨hav, -⟩ := hv
  have hx := B.exec
  have hb := B.bytes
  have hr := B.returns
  have hts := atoms_spec (ws := z_wd yX7_isWithin cX7_isWithin 3 (some .boolean)) B.pre
  have hown : s.vm.findClass RX7 = some m.cls := findClass_of_methodNamed B.named
  have hlocks := B.notSynchronized
  have hc : s_X p s m args c cX7_isWithin 3 RX7 := ⟨hx, hb, hml, fun w hw => hts w (List.mem_cons_of_mem _ hw), hown⟩
  have hl := lv_entry ([.int a0, .int a1, .int a2]) (n := 3) (Nat.le_of_ble_eq_true rfl)
  have hE : entryFrame m args 3 = F0 m 0 ((lg_sl ([.int a0, .int a1, .int a2]) ++ List.replicate (3 - (lg_sl ([.int a0, .int a1, .int a2])).length) Slot.unset).toArray) [] := by rw [hav]; exact lg_entry_eq m _ _
  rw [hE]
  clear hE hav
  generalize (lg_sl ([.int a0, .int a1, .int a2]) ++ List.replicate (3 - (lg_sl ([.int a0, .int a1, .int a2])).length) Slot.unset).toArray = ls at hl ⊢
  have hl : lv_has ls 3 [(0, .int a0), (1, .int a1), (2, .int a2)] := hl
  obtain ⟨Q, hQ⟩ : ∃ Q, Q = MQ below (vp_Si (fun r1 : Int32 => r1 = r_)) args s 0 0 (fun _ => False) := ⟨_, rfl⟩
  rw [← hQ]
  show W p l e (z_rm 0 0) s m args below meth c s.heap [] 0 0 Q (F0 m 0 ls [])
  unfold f_X7_isWithin at h
  refine lv_iload_n hx hb dX7_isWithin_0 rfl (lv_at hl 0 rfl) ?_
  refine lv_iload_n hx hb dX7_isWithin_1 rfl (lv_at hl 1 rfl) ?_
  refine lv_icmp_lt (tgt := 14) hx hb dX7_isWithin_2 (by decide) (fun c_2 => ?_) (fun c_2 => ?_)
  · replace h := z_ip_ c_2 h
    refine lv_iconst (v := 0) hx hb dX7_isWithin_14 (by decide) ?_
    cases h
    rw [hQ]
    exact s_retz hc hr hlocks (by decide) dX7_isWithin_15
  · replace h := z_in_ c_2 h
    refine lv_iload_n hx hb dX7_isWithin_5 rfl (lv_at hl 0 rfl) ?_
    refine lv_iload_n hx hb dX7_isWithin_6 rfl (lv_at hl 2 rfl) ?_
    refine lv_icmp_gt (tgt := 14) hx hb dX7_isWithin_7 (by decide) (fun c_7 => ?_) (fun c_7 => ?_)
    · replace h := z_ip_ c_7 h
      refine lv_iconst (v := 0) hx hb dX7_isWithin_14 (by decide) ?_
      cases h
      rw [hQ]
      exact s_retz hc hr hlocks (by decide) dX7_isWithin_15
    · replace h := z_in_ c_7 h
      refine lv_iconst (v := 1) hx hb dX7_isWithin_10 (by decide) ?_
      refine lv_goto (tgt := 15) hx hb dX7_isWithin_11 (by decide) ?_
      cases h
      rw [hQ]
      exact s_retz hc hr hlocks (by decide) dX7_isWithin_15
theorem md_X7_isWithin : yX7_isWithin.cls ≠ "java/lang/invoke/MethodHandle" ∧ yX7_isWithin.cls ≠ "java/lang/invoke/VarHandle" ∧ (parseMethodDescriptor yX7_isWithin.desc).map (fun d => d.parameters.length) = some 3 := by decide +kernel
