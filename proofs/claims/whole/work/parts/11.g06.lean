noncomputable def f_X2_missAbove (S : GS) (o : Nat) (a0 : Int32) : Option (Int64) :=
  z_bd (g_r S 2 2 o) fun f_1 => z_bd (g_rJ S f_1 a0) fun v_2 => z_bd (g_r S 2 1 o) fun f_3 => z_bd (g_rJ S f_3 a0) fun v_4 => z_bd (g_r S 2 7 o) fun f_5 => z_bd (g_l S 4 3 f_5) fun f_6 => z_bd (g_r S 2 7 o) fun f_7 => z_bd (g_r S 2 0 o) fun f_8 => z_bd (g_rJ S f_8 a0) fun v_9 => z_chk (g_is S 4 f_7) (z_bd (f_X4_aboveAt S f_7 v_9) fun r_10 => some (v_2 * ((v_4 * f_6) - r_10)))
set_option maxHeartbeats 4000000 in
set_option maxRecDepth 100000 in
theorem mt_X2_missAbove (l : Launch) (D : va_G) (cs : Nat → ClassId) (A : Nat → Prop) (S : GS) (o : Nat) (a0 : Int32) {r_ : Int64} (h : f_X2_missAbove S o a0 = some r_) : Met l yX2_missAbove (z_wd yX2_missAbove cX2_missAbove 2 (some .long)) (z_rmA 1 38 0 0) (va_Pc [.ref o, .int a0] (g_C D cs A S)) (g_Q (some (.long r_)) S D cs A) 0 0 A := by
  refine Met.ofW (cc := cX2_missAbove) (maxL := 2) (ret := (some .long)) (by decide) rfl ?_
  intro p e s m args below meth c s₁ B hml hv
  obtain ⟨hav, hP0, hK, hN, hSt, hAn⟩ := hv
  have hx := B.exec
  have hb := B.bytes
  have hr := B.returns
  have hts := atoms_spec (ws := z_wd yX2_missAbove cX2_missAbove 2 (some .long)) B.pre
  have hown : s.vm.findClass RX2 = some m.cls := findClass_of_methodNamed B.named
  have hlocks := B.notSynchronized
  have hc : g_X p s m args c cX2_missAbove 2 RX2 D cs A := ⟨⟨hx, hb, hml, fun w hw => hts w (List.mem_cons_of_mem _ hw), hown⟩, hK, hN, hSt, hAn⟩
  have hl := lv_entry ([.ref o, .int a0]) (n := 2) (Nat.le_of_ble_eq_true rfl)
  have hE : entryFrame m args 2 = F0 m 0 ((lg_sl ([.ref o, .int a0]) ++ List.replicate (2 - (lg_sl ([.ref o, .int a0])).length) Slot.unset).toArray) [] := by rw [hav]; exact lg_entry_eq m _ _
  rw [hE]
  clear hE hav
  generalize (lg_sl ([.ref o, .int a0]) ++ List.replicate (2 - (lg_sl ([.ref o, .int a0])).length) Slot.unset).toArray = ls at hl ⊢
  have hl : lv_has ls 2 [(0, .ref o), (1, .int a0)] := hl
  obtain ⟨Q, hQ⟩ : ∃ Q, Q = MQ below (g_Q (some (.long r_)) S D cs A) args s 0 0 A := ⟨_, rfl⟩
  rw [← hQ]
  suffices hmain : ∀ (H : Heap) (locs : List Loc), g_P D cs A S H → va_S A s.heap H locs → W p l e (z_rmA 1 38 0 0) s m args below meth c H locs 0 0 Q (F0 m 0 ls []) from hmain s.heap [] hP0 va_S.rf
  clear hP0
  intro H locs hP hS
  unfold f_X2_missAbove at h
  refine lv_aload_n hx hb dX2_missAbove_0 rfl (lv_at hl 0 rfl) ?_
  obtain ⟨f_1, ef_1, h⟩ := z_bd_some h
  refine g_get (ci := 2) (k := 2) (v := .ref f_1) hc hP rfl z_inX2 (by decide) wF_X2_18 (g_r_v ef_1) dX2_missAbove_1 ?_
  refine lv_iload_n hx hb dX2_missAbove_4 rfl (lv_at hl 1 rfl) ?_
  obtain ⟨v_2, ev_2, h⟩ := z_bd_some h
  refine g_lald hc hP ev_2 dX2_missAbove_5 ?_
  refine lv_aload_n hx hb dX2_missAbove_6 rfl (lv_at hl 0 rfl) ?_
  obtain ⟨f_3, ef_3, h⟩ := z_bd_some h
  refine g_get (ci := 2) (k := 1) (v := .ref f_3) hc hP rfl z_inX2 (by decide) wF_X2_15 (g_r_v ef_3) dX2_missAbove_7 ?_
  refine lv_iload_n hx hb dX2_missAbove_10 rfl (lv_at hl 1 rfl) ?_
  obtain ⟨v_4, ev_4, h⟩ := z_bd_some h
  refine g_lald hc hP ev_4 dX2_missAbove_11 ?_
  refine lv_aload_n hx hb dX2_missAbove_12 rfl (lv_at hl 0 rfl) ?_
  obtain ⟨f_5, ef_5, h⟩ := z_bd_some h
  refine g_get (ci := 2) (k := 7) (v := .ref f_5) hc hP rfl z_inX2 (by decide) wF_X2_37 (g_r_v ef_5) dX2_missAbove_13 ?_
  obtain ⟨f_6, ef_6, h⟩ := z_bd_some h
  refine g_getN (ci := 4) (k := 3) (v := .long f_6) hc hP rfl z_inX4 (by decide) wG_X2_93 (g_l_v ef_6) dX2_missAbove_16 ?_
  refine lv_lmul hx hb dX2_missAbove_19 ?_
  refine lv_aload_n hx hb dX2_missAbove_20 rfl (lv_at hl 0 rfl) ?_
  obtain ⟨f_7, ef_7, h⟩ := z_bd_some h
  refine g_get (ci := 2) (k := 7) (v := .ref f_7) hc hP rfl z_inX2 (by decide) wF_X2_37 (g_r_v ef_7) dX2_missAbove_21 ?_
  refine lv_aload_n hx hb dX2_missAbove_24 rfl (lv_at hl 0 rfl) ?_
  obtain ⟨f_8, ef_8, h⟩ := z_bd_some h
  refine g_get (ci := 2) (k := 0) (v := .ref f_8) hc hP rfl z_inX2 (by decide) wF_X2_9 (g_r_v ef_8) dX2_missAbove_25 ?_
  refine lv_iload_n hx hb dX2_missAbove_28 rfl (lv_at hl 1 rfl) ?_
  obtain ⟨v_9, ev_9, h⟩ := z_bd_some h
  refine g_lald hc hP ev_9 dX2_missAbove_29 ?_
  obtain ⟨ho_30, h⟩ := z_chk_some h
  obtain ⟨vs_, ho_30⟩ := Option.isSome_iff_exists.mp ho_30
  obtain ⟨r_10, e_30, h⟩ := z_bd_some h
  refine g_callV (ci := 4) (As := [.long v_9]) (rv := (some (.long r_10))) (n := 1) hc hP hS rfl ho_30 (mt_X4_aboveAt l D cs A S f_7 v_9 e_30) wM_X2_141 wI_X4_aboveAt wS_X4_aboveAt wZ_X4 wC_X4_aboveAt md_X4_aboveAt ⟨rfl, rfl, Nat.le_of_ble_eq_true rfl, Nat.le_of_ble_eq_true rfl⟩ rfl hl.1 rfl (Nat.le_of_ble_eq_true rfl) dX2_missAbove_30 ⟨Nat.le_of_ble_eq_true rfl, Nat.le_of_ble_eq_true rfl⟩ (fun H locs hP hS => ?_)
  show W p l e (z_rmA 1 38 0 0) s m args below meth c H locs (0) (0) Q (F0 m 33 ls [.long r_10, .long (v_4 * f_6), .long v_2])
  refine lv_lsub hx hb dX2_missAbove_33 ?_
  refine lv_lmul hx hb dX2_missAbove_34 ?_
  cases h
  rw [hQ]
  exact g_retl hc hr hlocks hP hS dX2_missAbove_35
theorem md_X2_missAbove : yX2_missAbove.cls ≠ "java/lang/invoke/MethodHandle" ∧ yX2_missAbove.cls ≠ "java/lang/invoke/VarHandle" ∧ (parseMethodDescriptor yX2_missAbove.desc).map (fun d => d.parameters.length) = some 1 := by decide +kernel
noncomputable def f_X2_farthest_L4 (S : GS) (o : Nat) (x1_1 : Int32) (x2_2 : Int32) : Option ((Int32) ⊕ (Int32 × Int32)) :=
  z_bd (g_i S 2 8 o) fun f_4 => if f_4 ≤ x2_2 then some (.inl (x1_1)) else z_chk (g_is S 2 o) (z_bd (f_X2_missAbove S o x2_2) fun r_5 => z_bd (f_J9_abs_067f4 r_5) fun r_6 => z_chk (g_is S 2 o) (z_bd (f_X2_missAbove S o x1_1) fun r_7 => z_bd (f_J9_abs_067f4 r_7) fun r_8 => if (lg_cmp r_6 r_8) ≤ 0 then some (.inr (x1_1, (x2_2 + 1))) else some (.inr (x2_2, (x2_2 + 1)))))
noncomputable def f_X2_farthest (S : GS) (o : Nat) : Option (Int32) :=
  z_bd (z_lp (fun x => f_X2_farthest_L4 S o x.1 x.2) ((0 : Int32), (1 : Int32))) fun y1_3 => some y1_3
set_option maxHeartbeats 4000000 in
set_option maxRecDepth 100000 in
theorem mt_X2_farthest (l : Launch) (D : va_G) (cs : Nat → ClassId) (A : Nat → Prop) (S : GS) (o : Nat) {r_ : Int32} (h : f_X2_farthest S o = some r_) : Met l yX2_farthest (z_wd yX2_farthest cX2_farthest 3 (some .int)) (z_rmA 2 75 0 0) (va_Pc [.ref o] (g_C D cs A S)) (g_Q (some (.int r_)) S D cs A) 0 0 A := by
  refine Met.ofW (cc := cX2_farthest) (maxL := 3) (ret := (some .int)) (by decide) rfl ?_
  intro p e s m args below meth c s₁ B hml hv
  obtain ⟨hav, hP0, hK, hN, hSt, hAn⟩ := hv
  have hx := B.exec
  have hb := B.bytes
  have hr := B.returns
  have hts := atoms_spec (ws := z_wd yX2_farthest cX2_farthest 3 (some .int)) B.pre
  have hown : s.vm.findClass RX2 = some m.cls := findClass_of_methodNamed B.named
  have hlocks := B.notSynchronized
  have hc : g_X p s m args c cX2_farthest 3 RX2 D cs A := ⟨⟨hx, hb, hml, fun w hw => hts w (List.mem_cons_of_mem _ hw), hown⟩, hK, hN, hSt, hAn⟩
  have hl := lv_entry ([.ref o]) (n := 3) (Nat.le_of_ble_eq_true rfl)
  have hE : entryFrame m args 3 = F0 m 0 ((lg_sl ([.ref o]) ++ List.replicate (3 - (lg_sl ([.ref o])).length) Slot.unset).toArray) [] := by rw [hav]; exact lg_entry_eq m _ _
  rw [hE]
  clear hE hav
  generalize (lg_sl ([.ref o]) ++ List.replicate (3 - (lg_sl ([.ref o])).length) Slot.unset).toArray = ls at hl ⊢
  have hl : lv_has ls 3 [(0, .ref o)] := hl
  obtain ⟨Q, hQ⟩ : ∃ Q, Q = MQ below (g_Q (some (.int r_)) S D cs A) args s 0 0 A := ⟨_, rfl⟩
  rw [← hQ]
  suffices hmain : ∀ (H : Heap) (locs : List Loc), g_P D cs A S H → va_S A s.heap H locs → W p l e (z_rmA 2 75 0 0) s m args below meth c H locs 0 0 Q (F0 m 0 ls []) from hmain s.heap [] hP0 va_S.rf
  clear hP0
  intro H locs hP hS
  unfold f_X2_farthest at h
  refine lv_iconst (v := 0) hx hb dX2_farthest_0 (by decide) ?_
  refine lv_istore_n (lv' := [(1, .int (0 : Int32)), (0, .ref o)]) hx hb dX2_farthest_1 rfl hl (by decide) rfl (fun ls hl => ?_)
  refine lv_iconst (v := 1) hx hb dX2_farthest_2 (by decide) ?_
  refine lv_istore_n (lv' := [(2, .int (1 : Int32)), (1, .int (0 : Int32)), (0, .ref o)]) hx hb dX2_farthest_3 rfl hl (by decide) rfl (fun ls hl => ?_)
  obtain ⟨y1_3, hlp, h⟩ := z_bd_some h
  refine z_lp_ind (P := fun x => ∀ (H : Heap) (locs : List Loc) (ls : Array Slot), g_P D cs A S H → va_S A s.heap H locs → lv_has ls 3 [(0, .ref o), (1, .int x.1), (2, .int x.2)] → W p l e (z_rmA 2 75 0 0) s m args below meth c H locs (0) (0) Q (F0 m 4 ls [])) (Qe := fun y => ∀ (H : Heap) (locs : List Loc) (ls : Array Slot), g_P D cs A S H → va_S A s.heap H locs → lv_has ls 3 [(1, .int y)] → W p l e (z_rmA 2 75 0 0) s m args below meth c H locs (0) (0) Q (F0 m 40 ls [])) ?_ hlp ?_ H locs ls hP hS (lv_sub hl [2, 1, 0] rfl)
  · clear h hlp hP hS hl
    rintro ⟨x1_1, x2_2⟩ oo h K_4 H locs ls hP hS hl
    have hP : g_P D cs A S H := hP
    have hl : lv_has ls 3 [(0, .ref o), (1, .int x1_1), (2, .int x2_2)] := hl
    have h : f_X2_farthest_L4 S o x1_1 x2_2 = some oo := h
    unfold f_X2_farthest_L4 at h
    refine lv_iload_n hx hb dX2_farthest_4 rfl (lv_at hl 2 rfl) ?_
    refine lv_aload_n hx hb dX2_farthest_5 rfl (lv_at hl 0 rfl) ?_
    obtain ⟨f_4, ef_4, h⟩ := z_bd_some h
    refine g_get (ci := 2) (k := 8) (v := .int f_4) hc hP rfl z_inX2 (by decide) wF_X2_41 (g_i_v ef_4) dX2_farthest_6 ?_
    refine lv_icmp_ge (tgt := 40) hx hb dX2_farthest_9 (by decide) (fun c_9 => ?_) (fun c_9 => ?_)
    · replace h := z_ip_ c_9 h
      cases h
      exact K_4 H locs ls hP hS (lv_sub hl [1] rfl)
    · replace h := z_in_ c_9 h
      refine lv_aload_n hx hb dX2_farthest_12 rfl (lv_at hl 0 rfl) ?_
      refine lv_iload_n hx hb dX2_farthest_13 rfl (lv_at hl 2 rfl) ?_
      obtain ⟨ho_14, h⟩ := z_chk_some h
      obtain ⟨vs_, ho_14⟩ := Option.isSome_iff_exists.mp ho_14
      obtain ⟨r_5, e_14, h⟩ := z_bd_some h
      refine g_callV (ci := 2) (As := [.int x2_2]) (rv := (some (.long r_5))) (n := 1) hc hP hS rfl ho_14 (mt_X2_missAbove l D cs A S o x2_2 e_14) wM_X2_81 wI_X2_missAbove wS_X2_missAbove wZ_X2 wC_X2_missAbove md_X2_missAbove ⟨rfl, rfl, Nat.le_of_ble_eq_true rfl, Nat.le_of_ble_eq_true rfl⟩ rfl hl.1 rfl (Nat.le_of_ble_eq_true rfl) dX2_farthest_14 ⟨Nat.le_of_ble_eq_true rfl, Nat.le_of_ble_eq_true rfl⟩ (fun H locs hP hS => ?_)
      show W p l e (z_rmA 2 75 0 0) s m args below meth c H locs (0) (0) Q (F0 m 17 ls [.long r_5])
      obtain ⟨r_6, er_6, h⟩ := z_bd_some h
      refine s_calll (As := [.long r_5]) (r := r_6) (n := 1) hc.1 (mt_J9_abs_067f4 l r_5 er_6) wM_X2_85 wT_J9_abs_067f4 wZ_J9 wC_J9_abs_067f4 md_J9_abs_067f4 ⟨rfl, rfl, Nat.le_of_ble_eq_true rfl, Nat.le_of_ble_eq_true rfl⟩ rfl hl.1 rfl (Nat.le_of_ble_eq_true rfl) dX2_farthest_17 ⟨Nat.le_of_ble_eq_true rfl, Nat.le_of_ble_eq_true rfl⟩ ?_
      refine lv_aload_n hx hb dX2_farthest_20 rfl (lv_at hl 0 rfl) ?_
      refine lv_iload_n hx hb dX2_farthest_21 rfl (lv_at hl 1 rfl) ?_
      obtain ⟨ho_22, h⟩ := z_chk_some h
      obtain ⟨vs_, ho_22⟩ := Option.isSome_iff_exists.mp ho_22
      obtain ⟨r_7, e_22, h⟩ := z_bd_some h
      refine g_callV (ci := 2) (As := [.int x1_1]) (rv := (some (.long r_7))) (n := 1) hc hP hS rfl ho_22 (mt_X2_missAbove l D cs A S o x1_1 e_22) wM_X2_81 wI_X2_missAbove wS_X2_missAbove wZ_X2 wC_X2_missAbove md_X2_missAbove ⟨rfl, rfl, Nat.le_of_ble_eq_true rfl, Nat.le_of_ble_eq_true rfl⟩ rfl hl.1 rfl (Nat.le_of_ble_eq_true rfl) dX2_farthest_22 ⟨Nat.le_of_ble_eq_true rfl, Nat.le_of_ble_eq_true rfl⟩ (fun H locs hP hS => ?_)
      show W p l e (z_rmA 2 75 0 0) s m args below meth c H locs (0) (0) Q (F0 m 25 ls [.long r_7, .long r_6])
      obtain ⟨r_8, er_8, h⟩ := z_bd_some h
      refine s_calll (As := [.long r_7]) (r := r_8) (n := 1) hc.1 (mt_J9_abs_067f4 l r_7 er_8) wM_X2_85 wT_J9_abs_067f4 wZ_J9 wC_J9_abs_067f4 md_J9_abs_067f4 ⟨rfl, rfl, Nat.le_of_ble_eq_true rfl, Nat.le_of_ble_eq_true rfl⟩ rfl hl.1 rfl (Nat.le_of_ble_eq_true rfl) dX2_farthest_25 ⟨Nat.le_of_ble_eq_true rfl, Nat.le_of_ble_eq_true rfl⟩ ?_
      refine W.lcmp hx hb dX2_farthest_28 ?_
      refine lv_if_le (tgt := 34) hx hb dX2_farthest_29 (by decide) (fun c_29 => ?_) (fun c_29 => ?_)
      · replace h := z_ip_ c_29 h
        refine lv_iinc (v := (x2_2 + 1)) (lv' := [(2, .int (x2_2 + 1)), (0, .ref o), (1, .int x1_1)]) hx hb dX2_farthest_34 hl (k := 2) rfl rfl (by decide) rfl (fun ls hl => ?_)
        refine lv_goto (tgt := 4) hx hb dX2_farthest_37 (by decide) ?_
        cases h
        exact K_4 H locs ls hP hS (lv_sub hl [1, 2, 0] rfl)
      · replace h := z_in_ c_29 h
        refine lv_iload_n hx hb dX2_farthest_32 rfl (lv_at hl 2 rfl) ?_
        refine lv_istore_n (lv' := [(1, .int x2_2), (0, .ref o), (2, .int x2_2)]) hx hb dX2_farthest_33 rfl hl (by decide) rfl (fun ls hl => ?_)
        refine lv_iinc (v := (x2_2 + 1)) (lv' := [(2, .int (x2_2 + 1)), (1, .int x2_2), (0, .ref o)]) hx hb dX2_farthest_34 hl (k := 2) rfl rfl (by decide) rfl (fun ls hl => ?_)
        refine lv_goto (tgt := 4) hx hb dX2_farthest_37 (by decide) ?_
        cases h
        exact K_4 H locs ls hP hS (lv_sub hl [2, 1, 0] rfl)
  · clear hlp hP hS hl
    intro H locs ls hP hS hl
    have hP : g_P D cs A S H := hP
    have hl : lv_has ls 3 [(1, .int y1_3)] := hl
    refine lv_iload_n hx hb dX2_farthest_40 rfl (lv_at hl 0 rfl) ?_
    cases h
    rw [hQ]
    exact g_reti hc hr hlocks hP hS dX2_farthest_41
theorem md_X2_farthest : yX2_farthest.cls ≠ "java/lang/invoke/MethodHandle" ∧ yX2_farthest.cls ≠ "java/lang/invoke/VarHandle" ∧ (parseMethodDescriptor yX2_farthest.desc).map (fun d => d.parameters.length) = some 0 := by decide +kernel
noncomputable def f_X2_lowAbove (S : GS) (o : Nat) : Option (Int64) :=
  z_bd (g_r S 2 3 o) fun f_1 => z_bd (g_rI S f_1 (0 : Int32)) fun v_2 => z_chk (g_is S 2 o) (z_bd (f_X2_missAbove S o v_2) fun r_3 => z_bd (f_J9_abs_067f4 r_3) fun r_4 => some r_4)
set_option maxHeartbeats 4000000 in
set_option maxRecDepth 100000 in
theorem mt_X2_lowAbove (l : Launch) (D : va_G) (cs : Nat → ClassId) (A : Nat → Prop) (S : GS) (o : Nat) {r_ : Int64} (h : f_X2_lowAbove S o = some r_) : Met l yX2_lowAbove (z_wd yX2_lowAbove cX2_lowAbove 1 (some .long)) (z_rmA 2 75 0 0) (va_Pc [.ref o] (g_C D cs A S)) (g_Q (some (.long r_)) S D cs A) 0 0 A := by
  refine Met.ofW (cc := cX2_lowAbove) (maxL := 1) (ret := (some .long)) (by decide) rfl ?_
  intro p e s m args below meth c s₁ B hml hv
  obtain ⟨hav, hP0, hK, hN, hSt, hAn⟩ := hv
  have hx := B.exec
  have hb := B.bytes
  have hr := B.returns
  have hts := atoms_spec (ws := z_wd yX2_lowAbove cX2_lowAbove 1 (some .long)) B.pre
  have hown : s.vm.findClass RX2 = some m.cls := findClass_of_methodNamed B.named
  have hlocks := B.notSynchronized
  have hc : g_X p s m args c cX2_lowAbove 1 RX2 D cs A := ⟨⟨hx, hb, hml, fun w hw => hts w (List.mem_cons_of_mem _ hw), hown⟩, hK, hN, hSt, hAn⟩
  have hl := lv_entry ([.ref o]) (n := 1) (Nat.le_of_ble_eq_true rfl)
  have hE : entryFrame m args 1 = F0 m 0 ((lg_sl ([.ref o]) ++ List.replicate (1 - (lg_sl ([.ref o])).length) Slot.unset).toArray) [] := by rw [hav]; exact lg_entry_eq m _ _
  rw [hE]
  clear hE hav
  generalize (lg_sl ([.ref o]) ++ List.replicate (1 - (lg_sl ([.ref o])).length) Slot.unset).toArray = ls at hl ⊢
  have hl : lv_has ls 1 [(0, .ref o)] := hl
  obtain ⟨Q, hQ⟩ : ∃ Q, Q = MQ below (g_Q (some (.long r_)) S D cs A) args s 0 0 A := ⟨_, rfl⟩
  rw [← hQ]
  suffices hmain : ∀ (H : Heap) (locs : List Loc), g_P D cs A S H → va_S A s.heap H locs → W p l e (z_rmA 2 75 0 0) s m args below meth c H locs 0 0 Q (F0 m 0 ls []) from hmain s.heap [] hP0 va_S.rf
  clear hP0
  intro H locs hP hS
  unfold f_X2_lowAbove at h
  refine lv_aload_n hx hb dX2_lowAbove_0 rfl (lv_at hl 0 rfl) ?_
  refine lv_aload_n hx hb dX2_lowAbove_1 rfl (lv_at hl 0 rfl) ?_
  obtain ⟨f_1, ef_1, h⟩ := z_bd_some h
  refine g_get (ci := 2) (k := 3) (v := .ref f_1) hc hP rfl z_inX2 (by decide) wF_X2_21 (g_r_v ef_1) dX2_lowAbove_2 ?_
  refine lv_iconst (v := 0) hx hb dX2_lowAbove_5 (by decide) ?_
  obtain ⟨v_2, ev_2, h⟩ := z_bd_some h
  refine g_iald hc hP ev_2 dX2_lowAbove_6 ?_
  obtain ⟨ho_7, h⟩ := z_chk_some h
  obtain ⟨vs_, ho_7⟩ := Option.isSome_iff_exists.mp ho_7
  obtain ⟨r_3, e_7, h⟩ := z_bd_some h
  refine g_callV (ci := 2) (As := [.int v_2]) (rv := (some (.long r_3))) (n := 1) hc hP hS rfl ho_7 (mt_X2_missAbove l D cs A S o v_2 e_7) wM_X2_81 wI_X2_missAbove wS_X2_missAbove wZ_X2 wC_X2_missAbove md_X2_missAbove ⟨rfl, rfl, Nat.le_of_ble_eq_true rfl, Nat.le_of_ble_eq_true rfl⟩ rfl hl.1 rfl (Nat.le_of_ble_eq_true rfl) dX2_lowAbove_7 ⟨Nat.le_of_ble_eq_true rfl, Nat.le_of_ble_eq_true rfl⟩ (fun H locs hP hS => ?_)
  show W p l e (z_rmA 2 75 0 0) s m args below meth c H locs (0) (0) Q (F0 m 10 ls [.long r_3])
  obtain ⟨r_4, er_4, h⟩ := z_bd_some h
  refine s_calll (As := [.long r_3]) (r := r_4) (n := 1) hc.1 (mt_J9_abs_067f4 l r_3 er_4) wM_X2_85 wT_J9_abs_067f4 wZ_J9 wC_J9_abs_067f4 md_J9_abs_067f4 ⟨rfl, rfl, Nat.le_of_ble_eq_true rfl, Nat.le_of_ble_eq_true rfl⟩ rfl hl.1 rfl (Nat.le_of_ble_eq_true rfl) dX2_lowAbove_10 ⟨Nat.le_of_ble_eq_true rfl, Nat.le_of_ble_eq_true rfl⟩ ?_
  cases h
  rw [hQ]
  exact g_retl hc hr hlocks hP hS dX2_lowAbove_13
theorem md_X2_lowAbove : yX2_lowAbove.cls ≠ "java/lang/invoke/MethodHandle" ∧ yX2_lowAbove.cls ≠ "java/lang/invoke/VarHandle" ∧ (parseMethodDescriptor yX2_lowAbove.desc).map (fun d => d.parameters.length) = some 0 := by decide +kernel
noncomputable def f_X2_comeFirst_L9 (o : Nat) (x2_3 : Int32) (S_4 : GS) : Option ((GS) ⊕ (Int32 × GS)) :=
  if x2_3 ≤ 0 then some (.inl (S_4)) else z_bd (g_r S_4 2 3 o) fun f_6 => z_bd (g_r S_4 2 3 o) fun f_7 => z_bd (g_rI S_4 f_7 (x2_3 - (1 : Int32))) fun v_8 => z_bd (g_wI S_4 f_6 x2_3 v_8) fun S_9 => some (.inr ((x2_3 + (-1)), S_9))
noncomputable def f_X2_comeFirst (S : GS) (o : Nat) (a0 : Int32) : Option (GS) :=
  z_bd (g_i S 2 9 o) fun f_1 => z_bd (f_J9_min_7cf53 f_1 (3 : Int32)) fun r_2 => z_bd (z_lp (fun x => f_X2_comeFirst_L9 o x.1 x.2) (r_2, S)) fun S_5 => z_bd (g_r S_5 2 3 o) fun f_10 => z_bd (g_wI S_5 f_10 (0 : Int32) a0) fun S_11 => some S_11
set_option maxHeartbeats 4000000 in
set_option maxRecDepth 100000 in
theorem mt_X2_comeFirst (l : Launch) (D : va_G) (cs : Nat → ClassId) (A : Nat → Prop) (S : GS) (o : Nat) (a0 : Int32) {N_ : GS} (h : f_X2_comeFirst S o a0 = some N_) : Met l yX2_comeFirst (z_wd yX2_comeFirst cX2_comeFirst 3 none) (z_rmA 1 37 0 0) (va_Pc [.ref o, .int a0] (g_C D cs A S)) (g_Q none N_ D cs A) 0 0 A := by
  refine Met.ofW (cc := cX2_comeFirst) (maxL := 3) (ret := none) (by decide) rfl ?_
  intro p e s m args below meth c s₁ B hml hv
  obtain ⟨hav, hP0, hK, hN, hSt, hAn⟩ := hv
  have hx := B.exec
  have hb := B.bytes
  have hr := B.returns
  have hts := atoms_spec (ws := z_wd yX2_comeFirst cX2_comeFirst 3 none) B.pre
  have hown : s.vm.findClass RX2 = some m.cls := findClass_of_methodNamed B.named
  have hlocks := B.notSynchronized
  have hc : g_X p s m args c cX2_comeFirst 3 RX2 D cs A := ⟨⟨hx, hb, hml, fun w hw => hts w (List.mem_cons_of_mem _ hw), hown⟩, hK, hN, hSt, hAn⟩
  have hl := lv_entry ([.ref o, .int a0]) (n := 3) (Nat.le_of_ble_eq_true rfl)
  have hE : entryFrame m args 3 = F0 m 0 ((lg_sl ([.ref o, .int a0]) ++ List.replicate (3 - (lg_sl ([.ref o, .int a0])).length) Slot.unset).toArray) [] := by rw [hav]; exact lg_entry_eq m _ _
  rw [hE]
  clear hE hav
  generalize (lg_sl ([.ref o, .int a0]) ++ List.replicate (3 - (lg_sl ([.ref o, .int a0])).length) Slot.unset).toArray = ls at hl ⊢
  have hl : lv_has ls 3 [(0, .ref o), (1, .int a0)] := hl
  obtain ⟨Q, hQ⟩ : ∃ Q, Q = MQ below (g_Q none N_ D cs A) args s 0 0 A := ⟨_, rfl⟩
  rw [← hQ]
  suffices hmain : ∀ (H : Heap) (locs : List Loc), g_P D cs A S H → va_S A s.heap H locs → W p l e (z_rmA 1 37 0 0) s m args below meth c H locs 0 0 Q (F0 m 0 ls []) from hmain s.heap [] hP0 va_S.rf
  clear hP0
  intro H locs hP hS
  unfold f_X2_comeFirst at h
  refine lv_aload_n hx hb dX2_comeFirst_0 rfl (lv_at hl 0 rfl) ?_
  obtain ⟨f_1, ef_1, h⟩ := z_bd_some h
  refine g_get (ci := 2) (k := 9) (v := .int f_1) hc hP rfl z_inX2 (by decide) wF_X2_45 (g_i_v ef_1) dX2_comeFirst_1 ?_
  refine lv_iconst (v := 3) hx hb dX2_comeFirst_4 (by decide) ?_
  obtain ⟨r_2, er_2, h⟩ := z_bd_some h
  refine s_calli (As := [.int f_1, .int (3 : Int32)]) (r := r_2) (n := 2) hc.1 (mt_J9_min_7cf53 l f_1 (3 : Int32) er_2) wM_X2_56 wT_J9_min_7cf53 wZ_J9 wC_J9_min_7cf53 md_J9_min_7cf53 ⟨rfl, rfl, Nat.le_of_ble_eq_true rfl, Nat.le_of_ble_eq_true rfl⟩ rfl hl.1 rfl (Nat.le_of_ble_eq_true rfl) dX2_comeFirst_5 ⟨Nat.le_of_ble_eq_true rfl, Nat.le_of_ble_eq_true rfl⟩ ?_
  refine lv_istore_n (lv' := [(2, .int r_2), (0, .ref o), (1, .int a0)]) hx hb dX2_comeFirst_8 rfl hl (by decide) rfl (fun ls hl => ?_)
  obtain ⟨S_5, hlp, h⟩ := z_bd_some h
  refine z_lp_ind (P := fun x => ∀ (H : Heap) (locs : List Loc) (ls : Array Slot), g_P D cs A x.2 H → va_S A s.heap H locs → lv_has ls 3 [(0, .ref o), (1, .int a0), (2, .int x.1)] → W p l e (z_rmA 1 37 0 0) s m args below meth c H locs (0) (0) Q (F0 m 9 ls [])) (Qe := fun y => ∀ (H : Heap) (locs : List Loc) (ls : Array Slot), g_P D cs A y H → va_S A s.heap H locs → lv_has ls 3 [(0, .ref o), (1, .int a0)] → W p l e (z_rmA 1 37 0 0) s m args below meth c H locs (0) (0) Q (F0 m 33 ls [])) ?_ hlp ?_ H locs ls hP hS (lv_sub hl [1, 2, 0] rfl)
  · clear h hlp hP hS hl
    rintro ⟨x2_3, S_4⟩ oo h K_9 H locs ls hP hS hl
    have hP : g_P D cs A S_4 H := hP
    have hl : lv_has ls 3 [(0, .ref o), (1, .int a0), (2, .int x2_3)] := hl
    have h : f_X2_comeFirst_L9 o x2_3 S_4 = some oo := h
    unfold f_X2_comeFirst_L9 at h
    refine lv_iload_n hx hb dX2_comeFirst_9 rfl (lv_at hl 2 rfl) ?_
    refine lv_if_le (tgt := 33) hx hb dX2_comeFirst_10 (by decide) (fun c_10 => ?_) (fun c_10 => ?_)
    · replace h := z_ip_ c_10 h
      cases h
      exact K_9 H locs ls hP hS (lv_sub hl [0, 1] rfl)
    · replace h := z_in_ c_10 h
      refine lv_aload_n hx hb dX2_comeFirst_13 rfl (lv_at hl 0 rfl) ?_
      obtain ⟨f_6, ef_6, h⟩ := z_bd_some h
      refine g_get (ci := 2) (k := 3) (v := .ref f_6) hc hP rfl z_inX2 (by decide) wF_X2_21 (g_r_v ef_6) dX2_comeFirst_14 ?_
      refine lv_iload_n hx hb dX2_comeFirst_17 rfl (lv_at hl 2 rfl) ?_
      refine lv_aload_n hx hb dX2_comeFirst_18 rfl (lv_at hl 0 rfl) ?_
      obtain ⟨f_7, ef_7, h⟩ := z_bd_some h
      refine g_get (ci := 2) (k := 3) (v := .ref f_7) hc hP rfl z_inX2 (by decide) wF_X2_21 (g_r_v ef_7) dX2_comeFirst_19 ?_
      refine lv_iload_n hx hb dX2_comeFirst_22 rfl (lv_at hl 2 rfl) ?_
      refine lv_iconst (v := 1) hx hb dX2_comeFirst_23 (by decide) ?_
      refine lv_isub hx hb dX2_comeFirst_24 ?_
      obtain ⟨v_8, ev_8, h⟩ := z_bd_some h
      refine g_iald hc hP ev_8 dX2_comeFirst_25 ?_
      obtain ⟨S_9, eS_9, h⟩ := z_bd_some h
      refine g_iast hc hP hS eS_9 dX2_comeFirst_26 (fun H locs hP hS => ?_)
      refine lv_iinc (v := (x2_3 + (-1))) (lv' := [(2, .int (x2_3 + (-1))), (0, .ref o), (1, .int a0)]) hx hb dX2_comeFirst_27 hl (k := 2) rfl rfl (by decide) rfl (fun ls hl => ?_)
      refine lv_goto (tgt := 9) hx hb dX2_comeFirst_30 (by decide) ?_
      cases h
      exact K_9 H locs ls hP hS (lv_sub hl [1, 2, 0] rfl)
  · clear hlp hP hS hl
    intro H locs ls hP hS hl
    have hP : g_P D cs A S_5 H := hP
    have hl : lv_has ls 3 [(0, .ref o), (1, .int a0)] := hl
    refine lv_aload_n hx hb dX2_comeFirst_33 rfl (lv_at hl 0 rfl) ?_
    obtain ⟨f_10, ef_10, h⟩ := z_bd_some h
    refine g_get (ci := 2) (k := 3) (v := .ref f_10) hc hP rfl z_inX2 (by decide) wF_X2_21 (g_r_v ef_10) dX2_comeFirst_34 ?_
    refine lv_iconst (v := 0) hx hb dX2_comeFirst_37 (by decide) ?_
    refine lv_iload_n hx hb dX2_comeFirst_38 rfl (lv_at hl 1 rfl) ?_
    obtain ⟨S_11, eS_11, h⟩ := z_bd_some h
    refine g_iast hc hP hS eS_11 dX2_comeFirst_39 (fun H locs hP hS => ?_)
    cases h
    rw [hQ]
    exact g_retv hc hr hlocks hP hS dX2_comeFirst_40
theorem md_X2_comeFirst : yX2_comeFirst.cls ≠ "java/lang/invoke/MethodHandle" ∧ yX2_comeFirst.cls ≠ "java/lang/invoke/VarHandle" ∧ (parseMethodDescriptor yX2_comeFirst.desc).map (fun d => d.parameters.length) = some 1 := by decide +kernel
noncomputable def f_X2_comeLast_L11 (o : Nat) (r_2 : Int32) (x3_3 : Int32) (S_4 : GS) : Option ((GS) ⊕ (Int32 × GS)) :=
  if r_2 ≤ x3_3 then some (.inl (S_4)) else z_bd (g_r S_4 2 3 o) fun f_6 => z_bd (g_r S_4 2 3 o) fun f_7 => z_bd (g_rI S_4 f_7 (x3_3 + (1 : Int32))) fun v_8 => z_bd (g_wI S_4 f_6 x3_3 v_8) fun S_9 => some (.inr ((x3_3 + 1), S_9))
noncomputable def f_X2_comeLast (S : GS) (o : Nat) (a0 : Int32) : Option (GS) :=
  z_bd (g_i S 2 9 o) fun f_1 => z_bd (f_J9_min_7cf53 f_1 (3 : Int32)) fun r_2 => z_bd (z_lp (fun x => f_X2_comeLast_L11 o r_2 x.1 x.2) ((0 : Int32), S)) fun S_5 => z_bd (g_r S_5 2 3 o) fun f_10 => z_bd (g_wI S_5 f_10 r_2 a0) fun S_11 => some S_11
set_option maxHeartbeats 4000000 in
set_option maxRecDepth 100000 in
theorem mt_X2_comeLast (l : Launch) (D : va_G) (cs : Nat → ClassId) (A : Nat → Prop) (S : GS) (o : Nat) (a0 : Int32) {N_ : GS} (h : f_X2_comeLast S o a0 = some N_) : Met l yX2_comeLast (z_wd yX2_comeLast cX2_comeLast 4 none) (z_rmA 1 37 0 0) (va_Pc [.ref o, .int a0] (g_C D cs A S)) (g_Q none N_ D cs A) 0 0 A := by
  refine Met.ofW (cc := cX2_comeLast) (maxL := 4) (ret := none) (by decide) rfl ?_
  intro p e s m args below meth c s₁ B hml hv
  obtain ⟨hav, hP0, hK, hN, hSt, hAn⟩ := hv
  have hx := B.exec
  have hb := B.bytes
  have hr := B.returns
  have hts := atoms_spec (ws := z_wd yX2_comeLast cX2_comeLast 4 none) B.pre
  have hown : s.vm.findClass RX2 = some m.cls := findClass_of_methodNamed B.named
  have hlocks := B.notSynchronized
  have hc : g_X p s m args c cX2_comeLast 4 RX2 D cs A := ⟨⟨hx, hb, hml, fun w hw => hts w (List.mem_cons_of_mem _ hw), hown⟩, hK, hN, hSt, hAn⟩
  have hl := lv_entry ([.ref o, .int a0]) (n := 4) (Nat.le_of_ble_eq_true rfl)
  have hE : entryFrame m args 4 = F0 m 0 ((lg_sl ([.ref o, .int a0]) ++ List.replicate (4 - (lg_sl ([.ref o, .int a0])).length) Slot.unset).toArray) [] := by rw [hav]; exact lg_entry_eq m _ _
  rw [hE]
  clear hE hav
  generalize (lg_sl ([.ref o, .int a0]) ++ List.replicate (4 - (lg_sl ([.ref o, .int a0])).length) Slot.unset).toArray = ls at hl ⊢
  have hl : lv_has ls 4 [(0, .ref o), (1, .int a0)] := hl
  obtain ⟨Q, hQ⟩ : ∃ Q, Q = MQ below (g_Q none N_ D cs A) args s 0 0 A := ⟨_, rfl⟩
  rw [← hQ]
  suffices hmain : ∀ (H : Heap) (locs : List Loc), g_P D cs A S H → va_S A s.heap H locs → W p l e (z_rmA 1 37 0 0) s m args below meth c H locs 0 0 Q (F0 m 0 ls []) from hmain s.heap [] hP0 va_S.rf
  clear hP0
  intro H locs hP hS
  unfold f_X2_comeLast at h
  refine lv_aload_n hx hb dX2_comeLast_0 rfl (lv_at hl 0 rfl) ?_
  obtain ⟨f_1, ef_1, h⟩ := z_bd_some h
  refine g_get (ci := 2) (k := 9) (v := .int f_1) hc hP rfl z_inX2 (by decide) wF_X2_45 (g_i_v ef_1) dX2_comeLast_1 ?_
  refine lv_iconst (v := 3) hx hb dX2_comeLast_4 (by decide) ?_
  obtain ⟨r_2, er_2, h⟩ := z_bd_some h
  refine s_calli (As := [.int f_1, .int (3 : Int32)]) (r := r_2) (n := 2) hc.1 (mt_J9_min_7cf53 l f_1 (3 : Int32) er_2) wM_X2_56 wT_J9_min_7cf53 wZ_J9 wC_J9_min_7cf53 md_J9_min_7cf53 ⟨rfl, rfl, Nat.le_of_ble_eq_true rfl, Nat.le_of_ble_eq_true rfl⟩ rfl hl.1 rfl (Nat.le_of_ble_eq_true rfl) dX2_comeLast_5 ⟨Nat.le_of_ble_eq_true rfl, Nat.le_of_ble_eq_true rfl⟩ ?_
  refine lv_istore_n (lv' := [(2, .int r_2), (0, .ref o), (1, .int a0)]) hx hb dX2_comeLast_8 rfl hl (by decide) rfl (fun ls hl => ?_)
  refine lv_iconst (v := 0) hx hb dX2_comeLast_9 (by decide) ?_
  refine lv_istore_n (lv' := [(3, .int (0 : Int32)), (2, .int r_2), (0, .ref o), (1, .int a0)]) hx hb dX2_comeLast_10 rfl hl (by decide) rfl (fun ls hl => ?_)
  obtain ⟨S_5, hlp, h⟩ := z_bd_some h
  refine z_lp_ind (P := fun x => ∀ (H : Heap) (locs : List Loc) (ls : Array Slot), g_P D cs A x.2 H → va_S A s.heap H locs → lv_has ls 4 [(0, .ref o), (1, .int a0), (2, .int r_2), (3, .int x.1)] → W p l e (z_rmA 1 37 0 0) s m args below meth c H locs (0) (0) Q (F0 m 11 ls [])) (Qe := fun y => ∀ (H : Heap) (locs : List Loc) (ls : Array Slot), g_P D cs A y H → va_S A s.heap H locs → lv_has ls 4 [(0, .ref o), (1, .int a0), (2, .int r_2)] → W p l e (z_rmA 1 37 0 0) s m args below meth c H locs (0) (0) Q (F0 m 36 ls [])) ?_ hlp ?_ H locs ls hP hS (lv_sub hl [2, 3, 1, 0] rfl)
  · clear h hlp hP hS hl
    rintro ⟨x3_3, S_4⟩ oo h K_11 H locs ls hP hS hl
    have hP : g_P D cs A S_4 H := hP
    have hl : lv_has ls 4 [(0, .ref o), (1, .int a0), (2, .int r_2), (3, .int x3_3)] := hl
    have h : f_X2_comeLast_L11 o r_2 x3_3 S_4 = some oo := h
    unfold f_X2_comeLast_L11 at h
    refine lv_iload_n hx hb dX2_comeLast_11 rfl (lv_at hl 3 rfl) ?_
    refine lv_iload_n hx hb dX2_comeLast_12 rfl (lv_at hl 2 rfl) ?_
    refine lv_icmp_ge (tgt := 36) hx hb dX2_comeLast_13 (by decide) (fun c_13 => ?_) (fun c_13 => ?_)
    · replace h := z_ip_ c_13 h
      cases h
      exact K_11 H locs ls hP hS (lv_sub hl [0, 1, 2] rfl)
    · replace h := z_in_ c_13 h
      refine lv_aload_n hx hb dX2_comeLast_16 rfl (lv_at hl 0 rfl) ?_
      obtain ⟨f_6, ef_6, h⟩ := z_bd_some h
      refine g_get (ci := 2) (k := 3) (v := .ref f_6) hc hP rfl z_inX2 (by decide) wF_X2_21 (g_r_v ef_6) dX2_comeLast_17 ?_
      refine lv_iload_n hx hb dX2_comeLast_20 rfl (lv_at hl 3 rfl) ?_
      refine lv_aload_n hx hb dX2_comeLast_21 rfl (lv_at hl 0 rfl) ?_
      obtain ⟨f_7, ef_7, h⟩ := z_bd_some h
      refine g_get (ci := 2) (k := 3) (v := .ref f_7) hc hP rfl z_inX2 (by decide) wF_X2_21 (g_r_v ef_7) dX2_comeLast_22 ?_
      refine lv_iload_n hx hb dX2_comeLast_25 rfl (lv_at hl 3 rfl) ?_
      refine lv_iconst (v := 1) hx hb dX2_comeLast_26 (by decide) ?_
      refine lv_iadd hx hb dX2_comeLast_27 ?_
      obtain ⟨v_8, ev_8, h⟩ := z_bd_some h
      refine g_iald hc hP ev_8 dX2_comeLast_28 ?_
      obtain ⟨S_9, eS_9, h⟩ := z_bd_some h
      refine g_iast hc hP hS eS_9 dX2_comeLast_29 (fun H locs hP hS => ?_)
      refine lv_iinc (v := (x3_3 + 1)) (lv' := [(3, .int (x3_3 + 1)), (0, .ref o), (1, .int a0), (2, .int r_2)]) hx hb dX2_comeLast_30 hl (k := 3) rfl rfl (by decide) rfl (fun ls hl => ?_)
      refine lv_goto (tgt := 11) hx hb dX2_comeLast_33 (by decide) ?_
      cases h
      exact K_11 H locs ls hP hS (lv_sub hl [1, 2, 3, 0] rfl)
  · clear hlp hP hS hl
    intro H locs ls hP hS hl
    have hP : g_P D cs A S_5 H := hP
    have hl : lv_has ls 4 [(0, .ref o), (1, .int a0), (2, .int r_2)] := hl
    refine lv_aload_n hx hb dX2_comeLast_36 rfl (lv_at hl 0 rfl) ?_
    obtain ⟨f_10, ef_10, h⟩ := z_bd_some h
    refine g_get (ci := 2) (k := 3) (v := .ref f_10) hc hP rfl z_inX2 (by decide) wF_X2_21 (g_r_v ef_10) dX2_comeLast_37 ?_
    refine lv_iload_n hx hb dX2_comeLast_40 rfl (lv_at hl 2 rfl) ?_
    refine lv_iload_n hx hb dX2_comeLast_41 rfl (lv_at hl 1 rfl) ?_
    obtain ⟨S_11, eS_11, h⟩ := z_bd_some h
    refine g_iast hc hP hS eS_11 dX2_comeLast_42 (fun H locs hP hS => ?_)
    cases h
    rw [hQ]
    exact g_retv hc hr hlocks hP hS dX2_comeLast_43
theorem md_X2_comeLast : yX2_comeLast.cls ≠ "java/lang/invoke/MethodHandle" ∧ yX2_comeLast.cls ≠ "java/lang/invoke/VarHandle" ∧ (parseMethodDescriptor yX2_comeLast.desc).map (fun d => d.parameters.length) = some 1 := by decide +kernel
noncomputable def f_X2_exchange_L73 (S : GS) (o : Nat) (r_1 : Int32) (x6_11 : Int32) : Option ((Int32) ⊕ (Int32)) :=
  z_bd (g_i S 2 9 o) fun f_13 => if f_13 < x6_11 then some (.inl (x6_11)) else if (4 : Int32) ≤ x6_11 then some (.inl (x6_11)) else z_bd (g_r S 2 3 o) fun f_14 => z_bd (g_rI S f_14 x6_11) fun v_15 => if r_1 ≤ v_15 then some (.inl (x6_11)) else some (.inr ((x6_11 + 1)))
noncomputable def f_X2_exchange (S : GS) (o : Nat) : Option ((Int32) × GS) :=
  z_chk (g_is S 2 o) (z_bd (f_X2_farthest S o ) fun r_1 => z_chk (g_is S 2 o) (z_bd (f_X2_missAbove S o r_1) fun r_2 => z_bd (f_J9_abs_067f4 r_2) fun r_3 => z_chk (g_is S 2 o) (z_bd (f_X2_lowAbove S o ) fun r_4 => if 0 < (lg_cmp r_3 r_4) then z_bd (g_r S 2 3 o) fun f_5 => z_bd (g_rI S f_5 (0 : Int32)) fun v_6 => z_chk (g_is S 2 o) (z_bd (f_X2_missAbove S o v_6) fun r_7 => z_bd (if (lg_cmp r_7 (0 : Int64)) < 0 then some ((0 : Int32)) else some ((1 : Int32))) fun v_8 => z_bd (if (lg_cmp r_2 (0 : Int64)) ≤ 0 then some ((0 : Int32)) else some ((1 : Int32))) fun v_9 => z_bd (if v_8 = v_9 then some ((0 : Int32)) else some ((1 : Int32))) fun v_10 => z_bd (z_lp (fun x => f_X2_exchange_L73 S o r_1 x) ((0 : Int32))) fun y6_12 => z_bd (g_i S 2 9 o) fun f_16 => if f_16 < y6_12 then if y6_12 ≤ 0 then if y6_12 = 0 then z_chk (g_is S 2 o) (z_bd (f_X2_comeFirst S o r_1) fun S_18 => some ((1 : Int32), S_18)) else z_chk (g_is S 2 o) (z_bd (f_X2_comeLast S o r_1) fun S_17 => some ((1 : Int32), S_17)) else if ((y6_12 - (1 : Int32)) - (y6_12 - (1 : Int32)) / (2 : Int32) * (2 : Int32)) = v_10 then z_bd (g_r S 2 3 o) fun f_21 => z_bd (g_wI S f_21 (y6_12 - (1 : Int32)) r_1) fun S_22 => some ((1 : Int32), S_22) else if y6_12 = 0 then z_chk (g_is S 2 o) (z_bd (f_X2_comeFirst S o r_1) fun S_20 => some ((1 : Int32), S_20)) else z_chk (g_is S 2 o) (z_bd (f_X2_comeLast S o r_1) fun S_19 => some ((1 : Int32), S_19)) else if (y6_12 - y6_12 / (2 : Int32) * (2 : Int32)) = v_10 then z_bd (g_r S 2 3 o) fun f_29 => z_bd (g_wI S f_29 y6_12 r_1) fun S_30 => some ((1 : Int32), S_30) else if y6_12 ≤ 0 then if y6_12 = 0 then z_chk (g_is S 2 o) (z_bd (f_X2_comeFirst S o r_1) fun S_24 => some ((1 : Int32), S_24)) else z_chk (g_is S 2 o) (z_bd (f_X2_comeLast S o r_1) fun S_23 => some ((1 : Int32), S_23)) else if ((y6_12 - (1 : Int32)) - (y6_12 - (1 : Int32)) / (2 : Int32) * (2 : Int32)) = v_10 then z_bd (g_r S 2 3 o) fun f_27 => z_bd (g_wI S f_27 (y6_12 - (1 : Int32)) r_1) fun S_28 => some ((1 : Int32), S_28) else if y6_12 = 0 then z_chk (g_is S 2 o) (z_bd (f_X2_comeFirst S o r_1) fun S_26 => some ((1 : Int32), S_26)) else z_chk (g_is S 2 o) (z_bd (f_X2_comeLast S o r_1) fun S_25 => some ((1 : Int32), S_25))) else some ((0 : Int32), S))))
set_option maxHeartbeats 4000000 in
set_option maxRecDepth 100000 in
theorem mt_X2_exchange (l : Launch) (D : va_G) (cs : Nat → ClassId) (A : Nat → Prop) (S : GS) (o : Nat) {r_ : Int32} {N_ : GS} (h : f_X2_exchange S o = some (r_, N_)) : Met l yX2_exchange (z_wd yX2_exchange cX2_exchange 7 (some .boolean)) (z_rmA 3 113 0 0) (va_Pc [.ref o] (g_C D cs A S)) (g_Q (some (.int r_)) N_ D cs A) 0 0 A := by
  refine Met.ofW (cc := cX2_exchange) (maxL := 7) (ret := (some .boolean)) (by decide) rfl ?_
  intro p e s m args below meth c s₁ B hml hv
  obtain ⟨hav, hP0, hK, hN, hSt, hAn⟩ := hv
  have hx := B.exec
  have hb := B.bytes
  have hr := B.returns
  have hts := atoms_spec (ws := z_wd yX2_exchange cX2_exchange 7 (some .boolean)) B.pre
  have hown : s.vm.findClass RX2 = some m.cls := findClass_of_methodNamed B.named
  have hlocks := B.notSynchronized
  have hc : g_X p s m args c cX2_exchange 7 RX2 D cs A := ⟨⟨hx, hb, hml, fun w hw => hts w (List.mem_cons_of_mem _ hw), hown⟩, hK, hN, hSt, hAn⟩
  have hl := lv_entry ([.ref o]) (n := 7) (Nat.le_of_ble_eq_true rfl)
  have hE : entryFrame m args 7 = F0 m 0 ((lg_sl ([.ref o]) ++ List.replicate (7 - (lg_sl ([.ref o])).length) Slot.unset).toArray) [] := by rw [hav]; exact lg_entry_eq m _ _
  rw [hE]
  clear hE hav
  generalize (lg_sl ([.ref o]) ++ List.replicate (7 - (lg_sl ([.ref o])).length) Slot.unset).toArray = ls at hl ⊢
  have hl : lv_has ls 7 [(0, .ref o)] := hl
  obtain ⟨Q, hQ⟩ : ∃ Q, Q = MQ below (g_Q (some (.int r_)) N_ D cs A) args s 0 0 A := ⟨_, rfl⟩
  rw [← hQ]
  suffices hmain : ∀ (H : Heap) (locs : List Loc), g_P D cs A S H → va_S A s.heap H locs → W p l e (z_rmA 3 113 0 0) s m args below meth c H locs 0 0 Q (F0 m 0 ls []) from hmain s.heap [] hP0 va_S.rf
  clear hP0
  intro H locs hP hS
  unfold f_X2_exchange at h
  refine lv_aload_n hx hb dX2_exchange_0 rfl (lv_at hl 0 rfl) ?_
  obtain ⟨ho_1, h⟩ := z_chk_some h
  obtain ⟨vs_, ho_1⟩ := Option.isSome_iff_exists.mp ho_1
  obtain ⟨r_1, e_1, h⟩ := z_bd_some h
  refine g_callV (ci := 2) (As := []) (rv := (some (.int r_1))) (n := 0) hc hP hS rfl ho_1 (mt_X2_farthest l D cs A S o  e_1) wM_X2_114 wI_X2_farthest wS_X2_farthest wZ_X2 wC_X2_farthest md_X2_farthest ⟨rfl, rfl, Nat.le_of_ble_eq_true rfl, Nat.le_of_ble_eq_true rfl⟩ rfl hl.1 rfl (Nat.le_of_ble_eq_true rfl) dX2_exchange_1 ⟨Nat.le_of_ble_eq_true rfl, Nat.le_of_ble_eq_true rfl⟩ (fun H locs hP hS => ?_)
  show W p l e (z_rmA 3 113 0 0) s m args below meth c H locs (0) (0) Q (F0 m 4 ls [.int r_1])
  refine lv_istore_n (lv' := [(1, .int r_1), (0, .ref o)]) hx hb dX2_exchange_4 rfl hl (by decide) rfl (fun ls hl => ?_)
  refine lv_aload_n hx hb dX2_exchange_5 rfl (lv_at hl 1 rfl) ?_
  refine lv_iload_n hx hb dX2_exchange_6 rfl (lv_at hl 0 rfl) ?_
  obtain ⟨ho_7, h⟩ := z_chk_some h
  obtain ⟨vs_, ho_7⟩ := Option.isSome_iff_exists.mp ho_7
  obtain ⟨r_2, e_7, h⟩ := z_bd_some h
  refine g_callV (ci := 2) (As := [.int r_1]) (rv := (some (.long r_2))) (n := 1) hc hP hS rfl ho_7 (mt_X2_missAbove l D cs A S o r_1 e_7) wM_X2_81 wI_X2_missAbove wS_X2_missAbove wZ_X2 wC_X2_missAbove md_X2_missAbove ⟨rfl, rfl, Nat.le_of_ble_eq_true rfl, Nat.le_of_ble_eq_true rfl⟩ rfl hl.1 rfl (Nat.le_of_ble_eq_true rfl) dX2_exchange_7 ⟨Nat.le_of_ble_eq_true rfl, Nat.le_of_ble_eq_true rfl⟩ (fun H locs hP hS => ?_)
  show W p l e (z_rmA 3 113 0 0) s m args below meth c H locs (0) (0) Q (F0 m 10 ls [.long r_2])
  refine lv_lstore_n (lv' := [(2, .long r_2), (1, .int r_1), (0, .ref o)]) hx hb dX2_exchange_10 rfl hl (by decide) rfl (fun ls hl => ?_)
  refine lv_lload_n hx hb dX2_exchange_11 rfl (lv_at hl 0 rfl) ?_
  obtain ⟨r_3, er_3, h⟩ := z_bd_some h
  refine s_calll (As := [.long r_2]) (r := r_3) (n := 1) hc.1 (mt_J9_abs_067f4 l r_2 er_3) wM_X2_85 wT_J9_abs_067f4 wZ_J9 wC_J9_abs_067f4 md_J9_abs_067f4 ⟨rfl, rfl, Nat.le_of_ble_eq_true rfl, Nat.le_of_ble_eq_true rfl⟩ rfl hl.1 rfl (Nat.le_of_ble_eq_true rfl) dX2_exchange_12 ⟨Nat.le_of_ble_eq_true rfl, Nat.le_of_ble_eq_true rfl⟩ ?_
  refine lv_aload_n hx hb dX2_exchange_15 rfl (lv_at hl 2 rfl) ?_
  obtain ⟨ho_16, h⟩ := z_chk_some h
  obtain ⟨vs_, ho_16⟩ := Option.isSome_iff_exists.mp ho_16
  obtain ⟨r_4, e_16, h⟩ := z_bd_some h
  refine g_callV (ci := 2) (As := []) (rv := (some (.long r_4))) (n := 0) hc hP hS rfl ho_16 (mt_X2_lowAbove l D cs A S o  e_16) wM_X2_89 wI_X2_lowAbove wS_X2_lowAbove wZ_X2 wC_X2_lowAbove md_X2_lowAbove ⟨rfl, rfl, Nat.le_of_ble_eq_true rfl, Nat.le_of_ble_eq_true rfl⟩ rfl hl.1 rfl (Nat.le_of_ble_eq_true rfl) dX2_exchange_16 ⟨Nat.le_of_ble_eq_true rfl, Nat.le_of_ble_eq_true rfl⟩ (fun H locs hP hS => ?_)
  show W p l e (z_rmA 3 113 0 0) s m args below meth c H locs (0) (0) Q (F0 m 19 ls [.long r_4, .long r_3])
  refine W.lcmp hx hb dX2_exchange_19 ?_
  refine lv_if_gt (tgt := 25) hx hb dX2_exchange_20 (by decide) (fun c_20 => ?_) (fun c_20 => ?_)
  · replace h := z_ip_ c_20 h
    refine lv_aload_n hx hb dX2_exchange_25 rfl (lv_at hl 2 rfl) ?_
    refine lv_aload_n hx hb dX2_exchange_26 rfl (lv_at hl 2 rfl) ?_
    obtain ⟨f_5, ef_5, h⟩ := z_bd_some h
    refine g_get (ci := 2) (k := 3) (v := .ref f_5) hc hP rfl z_inX2 (by decide) wF_X2_21 (g_r_v ef_5) dX2_exchange_27 ?_
    refine lv_iconst (v := 0) hx hb dX2_exchange_30 (by decide) ?_
    obtain ⟨v_6, ev_6, h⟩ := z_bd_some h
    refine g_iald hc hP ev_6 dX2_exchange_31 ?_
    obtain ⟨ho_32, h⟩ := z_chk_some h
    obtain ⟨vs_, ho_32⟩ := Option.isSome_iff_exists.mp ho_32
    obtain ⟨r_7, e_32, h⟩ := z_bd_some h
    refine g_callV (ci := 2) (As := [.int v_6]) (rv := (some (.long r_7))) (n := 1) hc hP hS rfl ho_32 (mt_X2_missAbove l D cs A S o v_6 e_32) wM_X2_81 wI_X2_missAbove wS_X2_missAbove wZ_X2 wC_X2_missAbove md_X2_missAbove ⟨rfl, rfl, Nat.le_of_ble_eq_true rfl, Nat.le_of_ble_eq_true rfl⟩ rfl hl.1 rfl (Nat.le_of_ble_eq_true rfl) dX2_exchange_32 ⟨Nat.le_of_ble_eq_true rfl, Nat.le_of_ble_eq_true rfl⟩ (fun H locs hP hS => ?_)
    show W p l e (z_rmA 3 113 0 0) s m args below meth c H locs (0) (0) Q (F0 m 35 ls [.long r_7])
    refine lv_lconst (v := 0) hx hb dX2_exchange_35 (by decide) ?_
    refine W.lcmp hx hb dX2_exchange_36 ?_
    obtain ⟨v_8, hJ, h⟩ := z_bd_some h
    have J_45 : ∀ (H : Heap) (locs : List Loc) (ls : Array Slot), g_P D cs A S H → va_S A s.heap H locs → lv_has ls 7 [(0, .ref o), (1, .int r_1), (2, .long r_2)] → W p l e (z_rmA 3 113 0 0) s m args below meth c H locs (0) (0) Q (F0 m 45 ls [.int v_8]) := by
      intro H locs ls hP hS hl
      refine lv_istore (lv' := [(4, .int v_8), (0, .ref o), (1, .int r_1), (2, .long r_2)]) hx hb dX2_exchange_45 hl (by decide) rfl (fun ls hl => ?_)
      refine lv_iload hx hb dX2_exchange_47 (lv_at hl 0 rfl) ?_
      refine lv_lload_n hx hb dX2_exchange_49 rfl (lv_at hl 3 rfl) ?_
      refine lv_lconst (v := 0) hx hb dX2_exchange_50 (by decide) ?_
      refine W.lcmp hx hb dX2_exchange_51 ?_
      obtain ⟨v_9, hJ, h⟩ := z_bd_some h
      have J_60 : ∀ (H : Heap) (locs : List Loc) (ls : Array Slot), g_P D cs A S H → va_S A s.heap H locs → lv_has ls 7 [(0, .ref o), (1, .int r_1)] → W p l e (z_rmA 3 113 0 0) s m args below meth c H locs (0) (0) Q (F0 m 60 ls [.int v_9, .int v_8]) := by
        intro H locs ls hP hS hl
        obtain ⟨v_10, hJ, h⟩ := z_bd_some h
        have J_68 : ∀ (H : Heap) (locs : List Loc) (ls : Array Slot), g_P D cs A S H → va_S A s.heap H locs → lv_has ls 7 [(0, .ref o), (1, .int r_1)] → W p l e (z_rmA 3 113 0 0) s m args below meth c H locs (0) (0) Q (F0 m 68 ls [.int v_10]) := by
          intro H locs ls hP hS hl
          refine lv_istore (lv' := [(5, .int v_10), (0, .ref o), (1, .int r_1)]) hx hb dX2_exchange_68 hl (by decide) rfl (fun ls hl => ?_)
          refine lv_iconst (v := 0) hx hb dX2_exchange_70 (by decide) ?_
          refine lv_istore (lv' := [(6, .int (0 : Int32)), (5, .int v_10), (0, .ref o), (1, .int r_1)]) hx hb dX2_exchange_71 hl (by decide) rfl (fun ls hl => ?_)
          obtain ⟨y6_12, hlp, h⟩ := z_bd_some h
          refine z_lp_ind (P := fun x => ∀ (H : Heap) (locs : List Loc) (ls : Array Slot), g_P D cs A S H → va_S A s.heap H locs → lv_has ls 7 [(0, .ref o), (1, .int r_1), (5, .int v_10), (6, .int x)] → W p l e (z_rmA 3 113 0 0) s m args below meth c H locs (0) (0) Q (F0 m 73 ls [])) (Qe := fun y => ∀ (H : Heap) (locs : List Loc) (ls : Array Slot), g_P D cs A S H → va_S A s.heap H locs → lv_has ls 7 [(0, .ref o), (1, .int r_1), (5, .int v_10), (6, .int y)] → W p l e (z_rmA 3 113 0 0) s m args below meth c H locs (0) (0) Q (F0 m 105 ls [])) ?_ hlp ?_ H locs ls hP hS (lv_sub hl [2, 3, 1, 0] rfl)
          · clear h hlp hP hS hl
            rintro x6_11 oo h K_73 H locs ls hP hS hl
            have hP : g_P D cs A S H := hP
            have hl : lv_has ls 7 [(0, .ref o), (1, .int r_1), (5, .int v_10), (6, .int x6_11)] := hl
            have h : f_X2_exchange_L73 S o r_1 x6_11 = some oo := h
            unfold f_X2_exchange_L73 at h
            refine lv_iload hx hb dX2_exchange_73 (lv_at hl 3 rfl) ?_
            refine lv_aload_n hx hb dX2_exchange_75 rfl (lv_at hl 0 rfl) ?_
            obtain ⟨f_13, ef_13, h⟩ := z_bd_some h
            refine g_get (ci := 2) (k := 9) (v := .int f_13) hc hP rfl z_inX2 (by decide) wF_X2_45 (g_i_v ef_13) dX2_exchange_76 ?_
            refine lv_icmp_gt (tgt := 105) hx hb dX2_exchange_79 (by decide) (fun c_79 => ?_) (fun c_79 => ?_)
            · replace h := z_ip_ c_79 h
              cases h
              exact K_73 H locs ls hP hS (lv_sub hl [0, 1, 2, 3] rfl)
            · replace h := z_in_ c_79 h
              refine lv_iload hx hb dX2_exchange_82 (lv_at hl 3 rfl) ?_
              refine lv_iconst (v := 4) hx hb dX2_exchange_84 (by decide) ?_
              refine lv_icmp_ge (tgt := 105) hx hb dX2_exchange_85 (by decide) (fun c_85 => ?_) (fun c_85 => ?_)
              · replace h := z_ip_ c_85 h
                cases h
                exact K_73 H locs ls hP hS (lv_sub hl [0, 1, 2, 3] rfl)
              · replace h := z_in_ c_85 h
                refine lv_aload_n hx hb dX2_exchange_88 rfl (lv_at hl 0 rfl) ?_
                obtain ⟨f_14, ef_14, h⟩ := z_bd_some h
                refine g_get (ci := 2) (k := 3) (v := .ref f_14) hc hP rfl z_inX2 (by decide) wF_X2_21 (g_r_v ef_14) dX2_exchange_89 ?_
                refine lv_iload hx hb dX2_exchange_92 (lv_at hl 3 rfl) ?_
                obtain ⟨v_15, ev_15, h⟩ := z_bd_some h
                refine g_iald hc hP ev_15 dX2_exchange_94 ?_
                refine lv_iload_n hx hb dX2_exchange_95 rfl (lv_at hl 1 rfl) ?_
                refine lv_icmp_ge (tgt := 105) hx hb dX2_exchange_96 (by decide) (fun c_96 => ?_) (fun c_96 => ?_)
                · replace h := z_ip_ c_96 h
                  cases h
                  exact K_73 H locs ls hP hS (lv_sub hl [0, 1, 2, 3] rfl)
                · replace h := z_in_ c_96 h
                  refine lv_iinc (v := (x6_11 + 1)) (lv' := [(6, .int (x6_11 + 1)), (0, .ref o), (1, .int r_1), (5, .int v_10)]) hx hb dX2_exchange_99 hl (k := 3) rfl rfl (by decide) rfl (fun ls hl => ?_)
                  refine lv_goto (tgt := 73) hx hb dX2_exchange_102 (by decide) ?_
                  cases h
                  exact K_73 H locs ls hP hS (lv_sub hl [1, 2, 3, 0] rfl)
          · clear hlp hP hS hl
            intro H locs ls hP hS hl
            have hP : g_P D cs A S H := hP
            have hl : lv_has ls 7 [(0, .ref o), (1, .int r_1), (5, .int v_10), (6, .int y6_12)] := hl
            refine lv_iload hx hb dX2_exchange_105 (lv_at hl 3 rfl) ?_
            refine lv_aload_n hx hb dX2_exchange_107 rfl (lv_at hl 0 rfl) ?_
            obtain ⟨f_16, ef_16, h⟩ := z_bd_some h
            refine g_get (ci := 2) (k := 9) (v := .int f_16) hc hP rfl z_inX2 (by decide) wF_X2_45 (g_i_v ef_16) dX2_exchange_108 ?_
            refine lv_icmp_gt (tgt := 134) hx hb dX2_exchange_111 (by decide) (fun c_111 => ?_) (fun c_111 => ?_)
            · replace h := z_ip_ c_111 h
              refine lv_iload hx hb dX2_exchange_134 (lv_at hl 3 rfl) ?_
              refine lv_if_le (tgt := 163) hx hb dX2_exchange_136 (by decide) (fun c_136 => ?_) (fun c_136 => ?_)
              · replace h := z_ip_ c_136 h
                refine lv_iload hx hb dX2_exchange_163 (lv_at hl 3 rfl) ?_
                refine lv_if_ne (tgt := 176) hx hb dX2_exchange_165 (by decide) (fun c_165 => ?_) (fun c_165 => ?_)
                · replace h := z_in_ c_165 h
                  refine lv_aload_n hx hb dX2_exchange_176 rfl (lv_at hl 0 rfl) ?_
                  refine lv_iload_n hx hb dX2_exchange_177 rfl (lv_at hl 1 rfl) ?_
                  obtain ⟨ho_178, h⟩ := z_chk_some h
                  obtain ⟨vs_, ho_178⟩ := Option.isSome_iff_exists.mp ho_178
                  obtain ⟨S_17, e_178, h⟩ := z_bd_some h
                  refine g_callV (ci := 2) (As := [.int r_1]) (rv := none) (n := 1) hc hP hS rfl ho_178 (mt_X2_comeLast l D cs A S o r_1 e_178) wM_X2_121 wI_X2_comeLast wS_X2_comeLast wZ_X2 wC_X2_comeLast md_X2_comeLast ⟨rfl, rfl, Nat.le_of_ble_eq_true rfl, Nat.le_of_ble_eq_true rfl⟩ rfl hl.1 rfl (Nat.le_of_ble_eq_true rfl) dX2_exchange_178 ⟨Nat.le_of_ble_eq_true rfl, Nat.le_of_ble_eq_true rfl⟩ (fun H locs hP hS => ?_)
                  show W p l e (z_rmA 3 113 0 0) s m args below meth c H locs (0) (0) Q (F0 m 181 ls [])
                  refine lv_iconst (v := 1) hx hb dX2_exchange_181 (by decide) ?_
                  cases h
                  rw [hQ]
                  exact g_retz hc hr hlocks (by decide) hP hS dX2_exchange_182
                · replace h := z_ip_ c_165 h
                  refine lv_aload_n hx hb dX2_exchange_168 rfl (lv_at hl 0 rfl) ?_
                  refine lv_iload_n hx hb dX2_exchange_169 rfl (lv_at hl 1 rfl) ?_
                  obtain ⟨ho_170, h⟩ := z_chk_some h
                  obtain ⟨vs_, ho_170⟩ := Option.isSome_iff_exists.mp ho_170
                  obtain ⟨S_18, e_170, h⟩ := z_bd_some h
                  refine g_callV (ci := 2) (As := [.int r_1]) (rv := none) (n := 1) hc hP hS rfl ho_170 (mt_X2_comeFirst l D cs A S o r_1 e_170) wM_X2_117 wI_X2_comeFirst wS_X2_comeFirst wZ_X2 wC_X2_comeFirst md_X2_comeFirst ⟨rfl, rfl, Nat.le_of_ble_eq_true rfl, Nat.le_of_ble_eq_true rfl⟩ rfl hl.1 rfl (Nat.le_of_ble_eq_true rfl) dX2_exchange_170 ⟨Nat.le_of_ble_eq_true rfl, Nat.le_of_ble_eq_true rfl⟩ (fun H locs hP hS => ?_)
                  show W p l e (z_rmA 3 113 0 0) s m args below meth c H locs (0) (0) Q (F0 m 173 ls [])
                  refine lv_goto (tgt := 181) hx hb dX2_exchange_173 (by decide) ?_
                  refine lv_iconst (v := 1) hx hb dX2_exchange_181 (by decide) ?_
                  cases h
                  rw [hQ]
                  exact g_retz hc hr hlocks (by decide) hP hS dX2_exchange_182
              · replace h := z_in_ c_136 h
                refine lv_iload hx hb dX2_exchange_139 (lv_at hl 3 rfl) ?_
                refine lv_iconst (v := 1) hx hb dX2_exchange_141 (by decide) ?_
                refine lv_isub hx hb dX2_exchange_142 ?_
                refine lv_iconst (v := 2) hx hb dX2_exchange_143 (by decide) ?_
                refine lv_irem hx hb dX2_exchange_144 (by decide) ?_
                refine lv_iload hx hb dX2_exchange_145 (lv_at hl 2 rfl) ?_
                refine lv_icmp_ne (tgt := 163) hx hb dX2_exchange_147 (by decide) (fun c_147 => ?_) (fun c_147 => ?_)
                · replace h := z_in_ c_147 h
                  refine lv_iload hx hb dX2_exchange_163 (lv_at hl 3 rfl) ?_
                  refine lv_if_ne (tgt := 176) hx hb dX2_exchange_165 (by decide) (fun c_165 => ?_) (fun c_165 => ?_)
                  · replace h := z_in_ c_165 h
                    refine lv_aload_n hx hb dX2_exchange_176 rfl (lv_at hl 0 rfl) ?_
                    refine lv_iload_n hx hb dX2_exchange_177 rfl (lv_at hl 1 rfl) ?_
                    obtain ⟨ho_178, h⟩ := z_chk_some h
                    obtain ⟨vs_, ho_178⟩ := Option.isSome_iff_exists.mp ho_178
                    obtain ⟨S_19, e_178, h⟩ := z_bd_some h
                    refine g_callV (ci := 2) (As := [.int r_1]) (rv := none) (n := 1) hc hP hS rfl ho_178 (mt_X2_comeLast l D cs A S o r_1 e_178) wM_X2_121 wI_X2_comeLast wS_X2_comeLast wZ_X2 wC_X2_comeLast md_X2_comeLast ⟨rfl, rfl, Nat.le_of_ble_eq_true rfl, Nat.le_of_ble_eq_true rfl⟩ rfl hl.1 rfl (Nat.le_of_ble_eq_true rfl) dX2_exchange_178 ⟨Nat.le_of_ble_eq_true rfl, Nat.le_of_ble_eq_true rfl⟩ (fun H locs hP hS => ?_)
                    show W p l e (z_rmA 3 113 0 0) s m args below meth c H locs (0) (0) Q (F0 m 181 ls [])
                    refine lv_iconst (v := 1) hx hb dX2_exchange_181 (by decide) ?_
                    cases h
                    rw [hQ]
                    exact g_retz hc hr hlocks (by decide) hP hS dX2_exchange_182
                  · replace h := z_ip_ c_165 h
                    refine lv_aload_n hx hb dX2_exchange_168 rfl (lv_at hl 0 rfl) ?_
                    refine lv_iload_n hx hb dX2_exchange_169 rfl (lv_at hl 1 rfl) ?_
                    obtain ⟨ho_170, h⟩ := z_chk_some h
                    obtain ⟨vs_, ho_170⟩ := Option.isSome_iff_exists.mp ho_170
                    obtain ⟨S_20, e_170, h⟩ := z_bd_some h
                    refine g_callV (ci := 2) (As := [.int r_1]) (rv := none) (n := 1) hc hP hS rfl ho_170 (mt_X2_comeFirst l D cs A S o r_1 e_170) wM_X2_117 wI_X2_comeFirst wS_X2_comeFirst wZ_X2 wC_X2_comeFirst md_X2_comeFirst ⟨rfl, rfl, Nat.le_of_ble_eq_true rfl, Nat.le_of_ble_eq_true rfl⟩ rfl hl.1 rfl (Nat.le_of_ble_eq_true rfl) dX2_exchange_170 ⟨Nat.le_of_ble_eq_true rfl, Nat.le_of_ble_eq_true rfl⟩ (fun H locs hP hS => ?_)
                    show W p l e (z_rmA 3 113 0 0) s m args below meth c H locs (0) (0) Q (F0 m 173 ls [])
                    refine lv_goto (tgt := 181) hx hb dX2_exchange_173 (by decide) ?_
                    refine lv_iconst (v := 1) hx hb dX2_exchange_181 (by decide) ?_
                    cases h
                    rw [hQ]
                    exact g_retz hc hr hlocks (by decide) hP hS dX2_exchange_182
                · replace h := z_ip_ c_147 h
                  refine lv_aload_n hx hb dX2_exchange_150 rfl (lv_at hl 0 rfl) ?_
                  obtain ⟨f_21, ef_21, h⟩ := z_bd_some h
                  refine g_get (ci := 2) (k := 3) (v := .ref f_21) hc hP rfl z_inX2 (by decide) wF_X2_21 (g_r_v ef_21) dX2_exchange_151 ?_
                  refine lv_iload hx hb dX2_exchange_154 (lv_at hl 3 rfl) ?_
                  refine lv_iconst (v := 1) hx hb dX2_exchange_156 (by decide) ?_
                  refine lv_isub hx hb dX2_exchange_157 ?_
                  refine lv_iload_n hx hb dX2_exchange_158 rfl (lv_at hl 1 rfl) ?_
                  obtain ⟨S_22, eS_22, h⟩ := z_bd_some h
                  refine g_iast hc hP hS eS_22 dX2_exchange_159 (fun H locs hP hS => ?_)
                  refine lv_goto (tgt := 181) hx hb dX2_exchange_160 (by decide) ?_
                  refine lv_iconst (v := 1) hx hb dX2_exchange_181 (by decide) ?_
                  cases h
                  rw [hQ]
                  exact g_retz hc hr hlocks (by decide) hP hS dX2_exchange_182
            · replace h := z_in_ c_111 h
              refine lv_iload hx hb dX2_exchange_114 (lv_at hl 3 rfl) ?_
              refine lv_iconst (v := 2) hx hb dX2_exchange_116 (by decide) ?_
              refine lv_irem hx hb dX2_exchange_117 (by decide) ?_
              refine lv_iload hx hb dX2_exchange_118 (lv_at hl 2 rfl) ?_
              refine lv_icmp_ne (tgt := 134) hx hb dX2_exchange_120 (by decide) (fun c_120 => ?_) (fun c_120 => ?_)
              · replace h := z_in_ c_120 h
                refine lv_iload hx hb dX2_exchange_134 (lv_at hl 3 rfl) ?_
                refine lv_if_le (tgt := 163) hx hb dX2_exchange_136 (by decide) (fun c_136 => ?_) (fun c_136 => ?_)
                · replace h := z_ip_ c_136 h
                  refine lv_iload hx hb dX2_exchange_163 (lv_at hl 3 rfl) ?_
                  refine lv_if_ne (tgt := 176) hx hb dX2_exchange_165 (by decide) (fun c_165 => ?_) (fun c_165 => ?_)
                  · replace h := z_in_ c_165 h
                    refine lv_aload_n hx hb dX2_exchange_176 rfl (lv_at hl 0 rfl) ?_
                    refine lv_iload_n hx hb dX2_exchange_177 rfl (lv_at hl 1 rfl) ?_
                    obtain ⟨ho_178, h⟩ := z_chk_some h
                    obtain ⟨vs_, ho_178⟩ := Option.isSome_iff_exists.mp ho_178
                    obtain ⟨S_23, e_178, h⟩ := z_bd_some h
                    refine g_callV (ci := 2) (As := [.int r_1]) (rv := none) (n := 1) hc hP hS rfl ho_178 (mt_X2_comeLast l D cs A S o r_1 e_178) wM_X2_121 wI_X2_comeLast wS_X2_comeLast wZ_X2 wC_X2_comeLast md_X2_comeLast ⟨rfl, rfl, Nat.le_of_ble_eq_true rfl, Nat.le_of_ble_eq_true rfl⟩ rfl hl.1 rfl (Nat.le_of_ble_eq_true rfl) dX2_exchange_178 ⟨Nat.le_of_ble_eq_true rfl, Nat.le_of_ble_eq_true rfl⟩ (fun H locs hP hS => ?_)
                    show W p l e (z_rmA 3 113 0 0) s m args below meth c H locs (0) (0) Q (F0 m 181 ls [])
                    refine lv_iconst (v := 1) hx hb dX2_exchange_181 (by decide) ?_
                    cases h
                    rw [hQ]
                    exact g_retz hc hr hlocks (by decide) hP hS dX2_exchange_182
                  · replace h := z_ip_ c_165 h
                    refine lv_aload_n hx hb dX2_exchange_168 rfl (lv_at hl 0 rfl) ?_
                    refine lv_iload_n hx hb dX2_exchange_169 rfl (lv_at hl 1 rfl) ?_
                    obtain ⟨ho_170, h⟩ := z_chk_some h
                    obtain ⟨vs_, ho_170⟩ := Option.isSome_iff_exists.mp ho_170
                    obtain ⟨S_24, e_170, h⟩ := z_bd_some h
                    refine g_callV (ci := 2) (As := [.int r_1]) (rv := none) (n := 1) hc hP hS rfl ho_170 (mt_X2_comeFirst l D cs A S o r_1 e_170) wM_X2_117 wI_X2_comeFirst wS_X2_comeFirst wZ_X2 wC_X2_comeFirst md_X2_comeFirst ⟨rfl, rfl, Nat.le_of_ble_eq_true rfl, Nat.le_of_ble_eq_true rfl⟩ rfl hl.1 rfl (Nat.le_of_ble_eq_true rfl) dX2_exchange_170 ⟨Nat.le_of_ble_eq_true rfl, Nat.le_of_ble_eq_true rfl⟩ (fun H locs hP hS => ?_)
                    show W p l e (z_rmA 3 113 0 0) s m args below meth c H locs (0) (0) Q (F0 m 173 ls [])
                    refine lv_goto (tgt := 181) hx hb dX2_exchange_173 (by decide) ?_
                    refine lv_iconst (v := 1) hx hb dX2_exchange_181 (by decide) ?_
                    cases h
                    rw [hQ]
                    exact g_retz hc hr hlocks (by decide) hP hS dX2_exchange_182
                · replace h := z_in_ c_136 h
                  refine lv_iload hx hb dX2_exchange_139 (lv_at hl 3 rfl) ?_
                  refine lv_iconst (v := 1) hx hb dX2_exchange_141 (by decide) ?_
                  refine lv_isub hx hb dX2_exchange_142 ?_
                  refine lv_iconst (v := 2) hx hb dX2_exchange_143 (by decide) ?_
                  refine lv_irem hx hb dX2_exchange_144 (by decide) ?_
                  refine lv_iload hx hb dX2_exchange_145 (lv_at hl 2 rfl) ?_
                  refine lv_icmp_ne (tgt := 163) hx hb dX2_exchange_147 (by decide) (fun c_147 => ?_) (fun c_147 => ?_)
                  · replace h := z_in_ c_147 h
                    refine lv_iload hx hb dX2_exchange_163 (lv_at hl 3 rfl) ?_
                    refine lv_if_ne (tgt := 176) hx hb dX2_exchange_165 (by decide) (fun c_165 => ?_) (fun c_165 => ?_)
                    · replace h := z_in_ c_165 h
                      refine lv_aload_n hx hb dX2_exchange_176 rfl (lv_at hl 0 rfl) ?_
                      refine lv_iload_n hx hb dX2_exchange_177 rfl (lv_at hl 1 rfl) ?_
                      obtain ⟨ho_178, h⟩ := z_chk_some h
                      obtain ⟨vs_, ho_178⟩ := Option.isSome_iff_exists.mp ho_178
                      obtain ⟨S_25, e_178, h⟩ := z_bd_some h
                      refine g_callV (ci := 2) (As := [.int r_1]) (rv := none) (n := 1) hc hP hS rfl ho_178 (mt_X2_comeLast l D cs A S o r_1 e_178) wM_X2_121 wI_X2_comeLast wS_X2_comeLast wZ_X2 wC_X2_comeLast md_X2_comeLast ⟨rfl, rfl, Nat.le_of_ble_eq_true rfl, Nat.le_of_ble_eq_true rfl⟩ rfl hl.1 rfl (Nat.le_of_ble_eq_true rfl) dX2_exchange_178 ⟨Nat.le_of_ble_eq_true rfl, Nat.le_of_ble_eq_true rfl⟩ (fun H locs hP hS => ?_)
                      show W p l e (z_rmA 3 113 0 0) s m args below meth c H locs (0) (0) Q (F0 m 181 ls [])
                      refine lv_iconst (v := 1) hx hb dX2_exchange_181 (by decide) ?_
                      cases h
                      rw [hQ]
                      exact g_retz hc hr hlocks (by decide) hP hS dX2_exchange_182
                    · replace h := z_ip_ c_165 h
                      refine lv_aload_n hx hb dX2_exchange_168 rfl (lv_at hl 0 rfl) ?_
                      refine lv_iload_n hx hb dX2_exchange_169 rfl (lv_at hl 1 rfl) ?_
                      obtain ⟨ho_170, h⟩ := z_chk_some h
                      obtain ⟨vs_, ho_170⟩ := Option.isSome_iff_exists.mp ho_170
                      obtain ⟨S_26, e_170, h⟩ := z_bd_some h
                      refine g_callV (ci := 2) (As := [.int r_1]) (rv := none) (n := 1) hc hP hS rfl ho_170 (mt_X2_comeFirst l D cs A S o r_1 e_170) wM_X2_117 wI_X2_comeFirst wS_X2_comeFirst wZ_X2 wC_X2_comeFirst md_X2_comeFirst ⟨rfl, rfl, Nat.le_of_ble_eq_true rfl, Nat.le_of_ble_eq_true rfl⟩ rfl hl.1 rfl (Nat.le_of_ble_eq_true rfl) dX2_exchange_170 ⟨Nat.le_of_ble_eq_true rfl, Nat.le_of_ble_eq_true rfl⟩ (fun H locs hP hS => ?_)
                      show W p l e (z_rmA 3 113 0 0) s m args below meth c H locs (0) (0) Q (F0 m 173 ls [])
                      refine lv_goto (tgt := 181) hx hb dX2_exchange_173 (by decide) ?_
                      refine lv_iconst (v := 1) hx hb dX2_exchange_181 (by decide) ?_
                      cases h
                      rw [hQ]
                      exact g_retz hc hr hlocks (by decide) hP hS dX2_exchange_182
                  · replace h := z_ip_ c_147 h
                    refine lv_aload_n hx hb dX2_exchange_150 rfl (lv_at hl 0 rfl) ?_
                    obtain ⟨f_27, ef_27, h⟩ := z_bd_some h
                    refine g_get (ci := 2) (k := 3) (v := .ref f_27) hc hP rfl z_inX2 (by decide) wF_X2_21 (g_r_v ef_27) dX2_exchange_151 ?_
                    refine lv_iload hx hb dX2_exchange_154 (lv_at hl 3 rfl) ?_
                    refine lv_iconst (v := 1) hx hb dX2_exchange_156 (by decide) ?_
                    refine lv_isub hx hb dX2_exchange_157 ?_
                    refine lv_iload_n hx hb dX2_exchange_158 rfl (lv_at hl 1 rfl) ?_
                    obtain ⟨S_28, eS_28, h⟩ := z_bd_some h
                    refine g_iast hc hP hS eS_28 dX2_exchange_159 (fun H locs hP hS => ?_)
                    refine lv_goto (tgt := 181) hx hb dX2_exchange_160 (by decide) ?_
                    refine lv_iconst (v := 1) hx hb dX2_exchange_181 (by decide) ?_
                    cases h
                    rw [hQ]
                    exact g_retz hc hr hlocks (by decide) hP hS dX2_exchange_182
              · replace h := z_ip_ c_120 h
                refine lv_aload_n hx hb dX2_exchange_123 rfl (lv_at hl 0 rfl) ?_
                obtain ⟨f_29, ef_29, h⟩ := z_bd_some h
                refine g_get (ci := 2) (k := 3) (v := .ref f_29) hc hP rfl z_inX2 (by decide) wF_X2_21 (g_r_v ef_29) dX2_exchange_124 ?_
                refine lv_iload hx hb dX2_exchange_127 (lv_at hl 3 rfl) ?_
                refine lv_iload_n hx hb dX2_exchange_129 rfl (lv_at hl 1 rfl) ?_
                obtain ⟨S_30, eS_30, h⟩ := z_bd_some h
                refine g_iast hc hP hS eS_30 dX2_exchange_130 (fun H locs hP hS => ?_)
                refine lv_goto (tgt := 181) hx hb dX2_exchange_131 (by decide) ?_
                refine lv_iconst (v := 1) hx hb dX2_exchange_181 (by decide) ?_
                cases h
                rw [hQ]
                exact g_retz hc hr hlocks (by decide) hP hS dX2_exchange_182
        clear h
        have h := hJ
        clear hJ
        refine lv_icmp_ne (tgt := 67) hx hb dX2_exchange_60 (by decide) (fun c_60 => ?_) (fun c_60 => ?_)
        · replace h := z_in_ c_60 h
          refine lv_iconst (v := 1) hx hb dX2_exchange_67 (by decide) ?_
          cases h
          exact J_68 H locs ls hP hS (lv_sub hl [0, 1] rfl)
        · replace h := z_ip_ c_60 h
          refine lv_iconst (v := 0) hx hb dX2_exchange_63 (by decide) ?_
          refine lv_goto (tgt := 68) hx hb dX2_exchange_64 (by decide) ?_
          cases h
          exact J_68 H locs ls hP hS (lv_sub hl [0, 1] rfl)
      clear h
      have h := hJ
      clear hJ
      refine lv_if_le (tgt := 59) hx hb dX2_exchange_52 (by decide) (fun c_52 => ?_) (fun c_52 => ?_)
      · replace h := z_ip_ c_52 h
        refine lv_iconst (v := 0) hx hb dX2_exchange_59 (by decide) ?_
        cases h
        exact J_60 H locs ls hP hS (lv_sub hl [1, 2] rfl)
      · replace h := z_in_ c_52 h
        refine lv_iconst (v := 1) hx hb dX2_exchange_55 (by decide) ?_
        refine lv_goto (tgt := 60) hx hb dX2_exchange_56 (by decide) ?_
        cases h
        exact J_60 H locs ls hP hS (lv_sub hl [1, 2] rfl)
    clear h
    have h := hJ
    clear hJ
    refine lv_if_lt (tgt := 44) hx hb dX2_exchange_37 (by decide) (fun c_37 => ?_) (fun c_37 => ?_)
    · replace h := z_ip_ c_37 h
      refine lv_iconst (v := 0) hx hb dX2_exchange_44 (by decide) ?_
      cases h
      exact J_45 H locs ls hP hS (lv_sub hl [2, 1, 0] rfl)
    · replace h := z_in_ c_37 h
      refine lv_iconst (v := 1) hx hb dX2_exchange_40 (by decide) ?_
      refine lv_goto (tgt := 45) hx hb dX2_exchange_41 (by decide) ?_
      cases h
      exact J_45 H locs ls hP hS (lv_sub hl [2, 1, 0] rfl)
  · replace h := z_in_ c_20 h
    refine lv_iconst (v := 0) hx hb dX2_exchange_23 (by decide) ?_
    cases h
    rw [hQ]
    exact g_retz hc hr hlocks (by decide) hP hS dX2_exchange_24
theorem md_X2_exchange : yX2_exchange.cls ≠ "java/lang/invoke/MethodHandle" ∧ yX2_exchange.cls ≠ "java/lang/invoke/VarHandle" ∧ (parseMethodDescriptor yX2_exchange.desc).map (fun d => d.parameters.length) = some 0 := by decide +kernel
