noncomputable def f_X2_comeLast_L11 (o : Nat) (r_2 : Int32) (x3_3 : Int32) (S_4 : GS) : Option ((GS) ⊕ (Int32 × GS)) :=
  if r_2 ≤ x3_3 then some (.inl (S_4)) else z_bd (g_r S_4 2 3 o) fun f_6 => z_bd (g_r S_4 2 3 o) fun f_7 => z_bd (g_rI S_4 f_7 (x3_3 + (1 : Int32))) fun v_8 => z_bd (g_wI S_4 f_6 x3_3 v_8) fun S_9 => some (.inr ((x3_3 + 1), S_9))
noncomputable def f_X2_comeLast (S : GS) (o : Nat) (a0 : Int32) : Option (GS) :=
  z_bd (g_i S 2 9 o) fun f_1 => z_bd (f_J9_min_7cf53 f_1 (3 : Int32)) fun r_2 => z_bd (z_lp (fun x => f_X2_comeLast_L11 o r_2 x.1 x.2) ((0 : Int32), S)) fun S_5 => z_bd (g_r S_5 2 3 o) fun f_10 => z_bd (g_wI S_5 f_10 r_2 a0) fun S_11 => some S_11
set_option maxHeartbeats 4000000 in
set_option maxRecDepth 100000 in
theorem mt_X2_comeLast (l : Launch) (D : va_G) (cs : Nat → ClassId) (A : Nat → Prop) (S : GS) (o : Nat) (a0 : Int32) {N_ : GS} (h : f_X2_comeLast S o a0 = some N_) : Met l yX2_comeLast (z_wd yX2_comeLast cX2_comeLast 4 none) (z_rmA 1 37 0 0) (va_Pc [.ref o, .int a0] (g_C D cs A S)) (g_Q none N_ D cs A) 0 0 A := by
  refine Met.ofW (cc := cX2_comeLast) (maxL := 4) (ret := none) (by decide) rfl ?_
  intro p e s m args below meth c s₁ B hml hv
  obtain ⟨hav, hP0, hK, hN, hSt, hAn⟩ := hv
  have hx := B.exec
  have hb := B.bytes
  have hr := B.returns
  have hts := atoms_spec (ws := z_wd yX2_comeLast cX2_comeLast 4 none) B.pre
  have hown : s.vm.findClass RX2 = some m.cls := findClass_of_methodNamed B.named
  have hlocks := B.notSynchronized
  have hc : g_X p s m args c cX2_comeLast 4 RX2 D cs A := ⟨⟨hx, hb, hml, fun w hw => hts w (List.mem_cons_of_mem _ hw), hown⟩, hK, hN, hSt, hAn⟩
  have hl := lv_entry ([.ref o, .int a0]) (n := 4) (Nat.le_of_ble_eq_true rfl)
  have hE : entryFrame m args 4 = F0 m 0 ((lg_sl ([.ref o, .int a0]) ++ List.replicate (4 - (lg_sl ([.ref o, .int a0])).length) Slot.unset).toArray) [] := by rw [hav]; exact lg_entry_eq m _ _
  rw [hE]
  clear hE hav
  generalize (lg_sl ([.ref o, .int a0]) ++ List.replicate (4 - (lg_sl ([.ref o, .int a0])).length) Slot.unset).toArray = ls at hl ⊢
  have hl : lv_has ls 4 [(0, .ref o), (1, .int a0)] := hl
  obtain ⟨Q, hQ⟩ : ∃ Q, Q = MQ below (g_Q none N_ D cs A) args s 0 0 A := ⟨_, rfl⟩
  rw [← hQ]
  suffices hmain : ∀ (H : Heap) (locs : List Loc), g_P D cs A S H → va_S A s.heap H locs → W p l e (z_rmA 1 37 0 0) s m args below meth c H locs 0 0 Q (F0 m 0 ls []) from hmain s.heap [] hP0 va_S.rf
  clear hP0
  intro H locs hP hS
  unfold f_X2_comeLast at h
  refine lv_aload_n hx hb dX2_comeLast_0 rfl (lv_at hl 0 rfl) ?_
  obtain ⟨f_1, ef_1, h⟩ := z_bd_some h
  refine g_get (ci := 2) (k := 9) (v := .int f_1) hc hP rfl z_inX2 (by decide) wF_X2_45 (g_i_v ef_1) dX2_comeLast_1 ?_
  refine lv_iconst (v := 3) hx hb dX2_comeLast_4 (by decide) ?_
  obtain ⟨r_2, er_2, h⟩ := z_bd_some h
  refine s_calli (As := [.int f_1, .int (3 : Int32)]) (r := r_2) (n := 2) hc.1 (mt_J9_min_7cf53 l f_1 (3 : Int32) er_2) wM_X2_56 wT_J9_min_7cf53 wZ_J9 wC_J9_min_7cf53 md_J9_min_7cf53 ⟨rfl, rfl, Nat.le_of_ble_eq_true rfl, Nat.le_of_ble_eq_true rfl⟩ rfl hl.1 rfl (Nat.le_of_ble_eq_true rfl) dX2_comeLast_5 ⟨Nat.le_of_ble_eq_true rfl, Nat.le_of_ble_eq_true rfl⟩ ?_
  refine lv_istore_n (lv' := [(2, .int r_2), (0, .ref o), (1, .int a0)]) hx hb dX2_comeLast_8 rfl hl (by decide) rfl (fun ls hl => ?_)
  refine lv_iconst (v := 0) hx hb dX2_comeLast_9 (by decide) ?_
  refine lv_istore_n (lv' := [(3, .int (0 : Int32)), (2, .int r_2), (0, .ref o), (1, .int a0)]) hx hb dX2_comeLast_10 rfl hl (by decide) rfl (fun ls hl => ?_)
  obtain ⟨S_5, hlp, h⟩ := z_bd_some h
  refine z_lp_ind (P := fun x => ∀ (H : Heap) (locs : List Loc) (ls : Array Slot), g_P D cs A x.2 H → va_S A s.heap H locs → lv_has ls 4 [(0, .ref o), (1, .int a0), (2, .int r_2), (3, .int x.1)] → W p l e (z_rmA 1 37 0 0) s m args below meth c H locs (0) (0) Q (F0 m 11 ls [])) (Qe := fun y => ∀ (H : Heap) (locs : List Loc) (ls : Array Slot), g_P D cs A y H → va_S A s.heap H locs → lv_has ls 4 [(0, .ref o), (1, .int a0), (2, .int r_2)] → W p l e (z_rmA 1 37 0 0) s m args below meth c H locs (0) (0) Q (F0 m 36 ls [])) ?_ hlp ?_ H locs ls hP hS (lv_sub hl [2, 3, 1, 0] rfl)
  · clear h hlp hP hS hl
    rintro ⟨x3_3, S_4⟩ oo h K_11 H locs ls hP hS hl
    have hP : g_P D cs A S_4 H := hP
    have hl : lv_has ls 4 [(0, .ref o), (1, .int a0), (2, .int r_2), (3, .int x3_3)] := hl
    have h : f_X2_comeLast_L11 o r_2 x3_3 S_4 = some oo := h
    unfold f_X2_comeLast_L11 at h
    refine lv_iload_n hx hb dX2_comeLast_11 rfl (lv_at hl 3 rfl) ?_
    refine lv_iload_n hx hb dX2_comeLast_12 rfl (lv_at hl 2 rfl) ?_
    refine lv_icmp_ge (tgt := 36) hx hb dX2_comeLast_13 (by decide) (fun c_13 => ?_) (fun c_13 => ?_)
    · replace h := z_ip_ c_13 h
      cases h
      exact K_11 H locs ls hP hS (lv_sub hl [0, 1, 2] rfl)
    · replace h := z_in_ c_13 h
      refine lv_aload_n hx hb dX2_comeLast_16 rfl (lv_at hl 0 rfl) ?_
      obtain ⟨f_6, ef_6, h⟩ := z_bd_some h
      refine g_get (ci := 2) (k := 3) (v := .ref f_6) hc hP rfl z_inX2 (by decide) wF_X2_21 (g_r_v ef_6) dX2_comeLast_17 ?_
      refine lv_iload_n hx hb dX2_comeLast_20 rfl (lv_at hl 3 rfl) ?_
      refine lv_aload_n hx hb dX2_comeLast_21 rfl (lv_at hl 0 rfl) ?_
      obtain ⟨f_7, ef_7, h⟩ := z_bd_some h
      refine g_get (ci := 2) (k := 3) (v := .ref f_7) hc hP rfl z_inX2 (by decide) wF_X2_21 (g_r_v ef_7) dX2_comeLast_22 ?_
      refine lv_iload_n hx hb dX2_comeLast_25 rfl (lv_at hl 3 rfl) ?_
      refine lv_iconst (v := 1) hx hb dX2_comeLast_26 (by decide) ?_
      refine lv_iadd hx hb dX2_comeLast_27 ?_
      obtain ⟨v_8, ev_8, h⟩ := z_bd_some h
      refine g_iald hc hP ev_8 dX2_comeLast_28 ?_
      obtain ⟨S_9, eS_9, h⟩ := z_bd_some h
      refine g_iast hc hP hS eS_9 dX2_comeLast_29 (fun H locs hP hS => ?_)
      refine lv_iinc (v := (x3_3 + 1)) (lv' := [(3, .int (x3_3 + 1)), (0, .ref o), (1, .int a0), (2, .int r_2)]) hx hb dX2_comeLast_30 hl (k := 3) rfl rfl (by decide) rfl (fun ls hl => ?_)
      refine lv_goto (tgt := 11) hx hb dX2_comeLast_33 (by decide) ?_
      cases h
      exact K_11 H locs ls hP hS (lv_sub hl [1, 2, 3, 0] rfl)
  · clear hlp hP hS hl
    intro H locs ls hP hS hl
    have hP : g_P D cs A S_5 H := hP
    have hl : lv_has ls 4 [(0, .ref o), (1, .int a0), (2, .int r_2)] := hl
    refine lv_aload_n hx hb dX2_comeLast_36 rfl (lv_at hl 0 rfl) ?_
    obtain ⟨f_10, ef_10, h⟩ := z_bd_some h
    refine g_get (ci := 2) (k := 3) (v := .ref f_10) hc hP rfl z_inX2 (by decide) wF_X2_21 (g_r_v ef_10) dX2_comeLast_37 ?_
    refine lv_iload_n hx hb dX2_comeLast_40 rfl (lv_at hl 2 rfl) ?_
    refine lv_iload_n hx hb dX2_comeLast_41 rfl (lv_at hl 1 rfl) ?_
    obtain ⟨S_11, eS_11, h⟩ := z_bd_some h
    refine g_iast hc hP hS eS_11 dX2_comeLast_42 (fun H locs hP hS => ?_)
    cases h
    rw [hQ]
    exact g_retv hc hr hlocks hP hS dX2_comeLast_43
theorem md_X2_comeLast : yX2_comeLast.cls ≠ "java/lang/invoke/MethodHandle" ∧ yX2_comeLast.cls ≠ "java/lang/invoke/VarHandle" ∧ (parseMethodDescriptor yX2_comeLast.desc).map (fun d => d.parameters.length) = some 1 := by decide +kernel
noncomputable def f_X2_exchange_L73 (S : GS) (o : Nat) (r_1 : Int32) (x6_11 : Int32) : Option ((Int32) ⊕ (Int32)) :=
  z_bd (g_i S 2 9 o) fun f_13 => if f_13 < x6_11 then some (.inl (x6_11)) else if (4 : Int32) ≤ x6_11 then some (.inl (x6_11)) else z_bd (g_r S 2 3 o) fun f_14 => z_bd (g_rI S f_14 x6_11) fun v_15 => if r_1 ≤ v_15 then some (.inl (x6_11)) else some (.inr ((x6_11 + 1)))
noncomputable def f_X2_exchange (S : GS) (o : Nat) : Option ((Int32) × GS) :=
  z_chk (g_is S 2 o) (z_bd (f_X2_farthest S o ) fun r_1 => z_chk (g_is S 2 o) (z_bd (f_X2_missAbove S o r_1) fun r_2 => z_bd (f_J9_abs_067f4 r_2) fun r_3 => z_chk (g_is S 2 o) (z_bd (f_X2_lowAbove S o ) fun r_4 => if 0 < (lg_cmp r_3 r_4) then z_bd (g_r S 2 3 o) fun f_5 => z_bd (g_rI S f_5 (0 : Int32)) fun v_6 => z_chk (g_is S 2 o) (z_bd (f_X2_missAbove S o v_6) fun r_7 => z_bd (if (lg_cmp r_7 (0 : Int64)) < 0 then some ((0 : Int32)) else some ((1 : Int32))) fun v_8 => z_bd (if (lg_cmp r_2 (0 : Int64)) ≤ 0 then some ((0 : Int32)) else some ((1 : Int32))) fun v_9 => z_bd (if v_8 = v_9 then some ((0 : Int32)) else some ((1 : Int32))) fun v_10 => z_bd (z_lp (fun x => f_X2_exchange_L73 S o r_1 x) ((0 : Int32))) fun y6_12 => z_bd (g_i S 2 9 o) fun f_16 => if f_16 < y6_12 then if y6_12 ≤ 0 then if y6_12 = 0 then z_chk (g_is S 2 o) (z_bd (f_X2_comeFirst S o r_1) fun S_18 => some ((1 : Int32), S_18)) else z_chk (g_is S 2 o) (z_bd (f_X2_comeLast S o r_1) fun S_17 => some ((1 : Int32), S_17)) else if ((y6_12 - (1 : Int32)) - (y6_12 - (1 : Int32)) / (2 : Int32) * (2 : Int32)) = v_10 then z_bd (g_r S 2 3 o) fun f_21 => z_bd (g_wI S f_21 (y6_12 - (1 : Int32)) r_1) fun S_22 => some ((1 : Int32), S_22) else if y6_12 = 0 then z_chk (g_is S 2 o) (z_bd (f_X2_comeFirst S o r_1) fun S_20 => some ((1 : Int32), S_20)) else z_chk (g_is S 2 o) (z_bd (f_X2_comeLast S o r_1) fun S_19 => some ((1 : Int32), S_19)) else if (y6_12 - y6_12 / (2 : Int32) * (2 : Int32)) = v_10 then z_bd (g_r S 2 3 o) fun f_29 => z_bd (g_wI S f_29 y6_12 r_1) fun S_30 => some ((1 : Int32), S_30) else if y6_12 ≤ 0 then if y6_12 = 0 then z_chk (g_is S 2 o) (z_bd (f_X2_comeFirst S o r_1) fun S_24 => some ((1 : Int32), S_24)) else z_chk (g_is S 2 o) (z_bd (f_X2_comeLast S o r_1) fun S_23 => some ((1 : Int32), S_23)) else if ((y6_12 - (1 : Int32)) - (y6_12 - (1 : Int32)) / (2 : Int32) * (2 : Int32)) = v_10 then z_bd (g_r S 2 3 o) fun f_27 => z_bd (g_wI S f_27 (y6_12 - (1 : Int32)) r_1) fun S_28 => some ((1 : Int32), S_28) else if y6_12 = 0 then z_chk (g_is S 2 o) (z_bd (f_X2_comeFirst S o r_1) fun S_26 => some ((1 : Int32), S_26)) else z_chk (g_is S 2 o) (z_bd (f_X2_comeLast S o r_1) fun S_25 => some ((1 : Int32), S_25))) else some ((0 : Int32), S))))
set_option maxHeartbeats 4000000 in
set_option maxRecDepth 100000 in
theorem mt_X2_exchange (l : Launch) (D : va_G) (cs : Nat → ClassId) (A : Nat → Prop) (S : GS) (o : Nat) {r_ : Int32} {N_ : GS} (h : f_X2_exchange S o = some (r_, N_)) : Met l yX2_exchange (z_wd yX2_exchange cX2_exchange 7 (some .boolean)) (z_rmA 3 113 0 0) (va_Pc [.ref o] (g_C D cs A S)) (g_Q (some (.int r_)) N_ D cs A) 0 0 A := by
  refine Met.ofW (cc := cX2_exchange) (maxL := 7) (ret := (some .boolean)) (by decide) rfl ?_
  intro p e s m args below meth c s₁ B hml hv
  obtain ⟨hav, hP0, hK, hN, hSt, hAn⟩ := hv
  have hx := B.exec
  have hb := B.bytes
  have hr := B.returns
  have hts := atoms_spec (ws := z_wd yX2_exchange cX2_exchange 7 (some .boolean)) B.pre
  have hown : s.vm.findClass RX2 = some m.cls := findClass_of_methodNamed B.named
  have hlocks := B.notSynchronized
  have hc : g_X p s m args c cX2_exchange 7 RX2 D cs A := ⟨⟨hx, hb, hml, fun w hw => hts w (List.mem_cons_of_mem _ hw), hown⟩, hK, hN, hSt, hAn⟩
  have hl := lv_entry ([.ref o]) (n := 7) (Nat.le_of_ble_eq_true rfl)
  have hE : entryFrame m args 7 = F0 m 0 ((lg_sl ([.ref o]) ++ List.replicate (7 - (lg_sl ([.ref o])).length) Slot.unset).toArray) [] := by rw [hav]; exact lg_entry_eq m _ _
  rw [hE]
  clear hE hav
  generalize (lg_sl ([.ref o]) ++ List.replicate (7 - (lg_sl ([.ref o])).length) Slot.unset).toArray = ls at hl ⊢
  have hl : lv_has ls 7 [(0, .ref o)] := hl
  obtain ⟨Q, hQ⟩ : ∃ Q, Q = MQ below (g_Q (some (.int r_)) N_ D cs A) args s 0 0 A := ⟨_, rfl⟩
  rw [← hQ]
  suffices hmain : ∀ (H : Heap) (locs : List Loc), g_P D cs A S H → va_S A s.heap H locs → W p l e (z_rmA 3 113 0 0) s m args below meth c H locs 0 0 Q (F0 m 0 ls []) from hmain s.heap [] hP0 va_S.rf
  clear hP0
  intro H locs hP hS
  unfold f_X2_exchange at h
  refine lv_aload_n hx hb dX2_exchange_0 rfl (lv_at hl 0 rfl) ?_
  obtain ⟨ho_1, h⟩ := z_chk_some h
  obtain ⟨vs_, ho_1⟩ := Option.isSome_iff_exists.mp ho_1
  obtain ⟨r_1, e_1, h⟩ := z_bd_some h
  refine g_callV (ci := 2) (As := []) (rv := (some (.int r_1))) (n := 0) hc hP hS rfl ho_1 (mt_X2_farthest l D cs A S o  e_1) wM_X2_114 wI_X2_farthest wS_X2_farthest wZ_X2 wC_X2_farthest md_X2_farthest ⟨rfl, rfl, Nat.le_of_ble_eq_true rfl, Nat.le_of_ble_eq_true rfl⟩ rfl hl.1 rfl (Nat.le_of_ble_eq_true rfl) dX2_exchange_1 ⟨Nat.le_of_ble_eq_true rfl, Nat.le_of_ble_eq_true rfl⟩ (fun H locs hP hS => ?_)
  show W p l e (z_rmA 3 113 0 0) s m args below meth c H locs (0) (0) Q (F0 m 4 ls [.int r_1])
  refine lv_istore_n (lv' := [(1, .int r_1), (0, .ref o)]) hx hb dX2_exchange_4 rfl hl (by decide) rfl (fun ls hl => ?_)
  refine lv_aload_n hx hb dX2_exchange_5 rfl (lv_at hl 1 rfl) ?_
  refine lv_iload_n hx hb dX2_exchange_6 rfl (lv_at hl 0 rfl) ?_
  obtain ⟨ho_7, h⟩ := z_chk_some h
  obtain ⟨vs_, ho_7⟩ := Option.isSome_iff_exists.mp ho_7
  obtain ⟨r_2, e_7, h⟩ := z_bd_some h
  refine g_callV (ci := 2) (As := [.int r_1]) (rv := (some (.long r_2))) (n := 1) hc hP hS rfl ho_7 (mt_X2_missAbove l D cs A S o r_1 e_7) wM_X2_81 wI_X2_missAbove wS_X2_missAbove wZ_X2 wC_X2_missAbove md_X2_missAbove ⟨rfl, rfl, Nat.le_of_ble_eq_true rfl, Nat.le_of_ble_eq_true rfl⟩ rfl hl.1 rfl (Nat.le_of_ble_eq_true rfl) dX2_exchange_7 ⟨Nat.le_of_ble_eq_true rfl, Nat.le_of_ble_eq_true rfl⟩ (fun H locs hP hS => ?_)
  show W p l e (z_rmA 3 113 0 0) s m args below meth c H locs (0) (0) Q (F0 m 10 ls [.long r_2])
  refine lv_lstore_n (lv' := [(2, .long r_2), (1, .int r_1), (0, .ref o)]) hx hb dX2_exchange_10 rfl hl (by decide) rfl (fun ls hl => ?_)
  refine lv_lload_n hx hb dX2_exchange_11 rfl (lv_at hl 0 rfl) ?_
  obtain ⟨r_3, er_3, h⟩ := z_bd_some h
  refine s_calll (As := [.long r_2]) (r := r_3) (n := 1) hc.1 (mt_J9_abs_067f4 l r_2 er_3) wM_X2_85 wT_J9_abs_067f4 wZ_J9 wC_J9_abs_067f4 md_J9_abs_067f4 ⟨rfl, rfl, Nat.le_of_ble_eq_true rfl, Nat.le_of_ble_eq_true rfl⟩ rfl hl.1 rfl (Nat.le_of_ble_eq_true rfl) dX2_exchange_12 ⟨Nat.le_of_ble_eq_true rfl, Nat.le_of_ble_eq_true rfl⟩ ?_
  refine lv_aload_n hx hb dX2_exchange_15 rfl (lv_at hl 2 rfl) ?_
  obtain ⟨ho_16, h⟩ := z_chk_some h
  obtain ⟨vs_, ho_16⟩ := Option.isSome_iff_exists.mp ho_16
  obtain ⟨r_4, e_16, h⟩ := z_bd_some h
  refine g_callV (ci := 2) (As := []) (rv := (some (.long r_4))) (n := 0) hc hP hS rfl ho_16 (mt_X2_lowAbove l D cs A S o  e_16) wM_X2_89 wI_X2_lowAbove wS_X2_lowAbove wZ_X2 wC_X2_lowAbove md_X2_lowAbove ⟨rfl, rfl, Nat.le_of_ble_eq_true rfl, Nat.le_of_ble_eq_true rfl⟩ rfl hl.1 rfl (Nat.le_of_ble_eq_true rfl) dX2_exchange_16 ⟨Nat.le_of_ble_eq_true rfl, Nat.le_of_ble_eq_true rfl⟩ (fun H locs hP hS => ?_)
  show W p l e (z_rmA 3 113 0 0) s m args below meth c H locs (0) (0) Q (F0 m 19 ls [.long r_4, .long r_3])
  refine W.lcmp hx hb dX2_exchange_19 ?_
  refine lv_if_gt (tgt := 25) hx hb dX2_exchange_20 (by decide) (fun c_20 => ?_) (fun c_20 => ?_)
  · replace h := z_ip_ c_20 h
    refine lv_aload_n hx hb dX2_exchange_25 rfl (lv_at hl 2 rfl) ?_
    refine lv_aload_n hx hb dX2_exchange_26 rfl (lv_at hl 2 rfl) ?_
    obtain ⟨f_5, ef_5, h⟩ := z_bd_some h
    refine g_get (ci := 2) (k := 3) (v := .ref f_5) hc hP rfl z_inX2 (by decide) wF_X2_21 (g_r_v ef_5) dX2_exchange_27 ?_
    refine lv_iconst (v := 0) hx hb dX2_exchange_30 (by decide) ?_
    obtain ⟨v_6, ev_6, h⟩ := z_bd_some h
    refine g_iald hc hP ev_6 dX2_exchange_31 ?_
    obtain ⟨ho_32, h⟩ := z_chk_some h
    obtain ⟨vs_, ho_32⟩ := Option.isSome_iff_exists.mp ho_32
    obtain ⟨r_7, e_32, h⟩ := z_bd_some h
    refine g_callV (ci := 2) (As := [.int v_6]) (rv := (some (.long r_7))) (n := 1) hc hP hS rfl ho_32 (mt_X2_missAbove l D cs A S o v_6 e_32) wM_X2_81 wI_X2_missAbove wS_X2_missAbove wZ_X2 wC_X2_missAbove md_X2_missAbove ⟨rfl, rfl, Nat.le_of_ble_eq_true rfl, Nat.le_of_ble_eq_true rfl⟩ rfl hl.1 rfl (Nat.le_of_ble_eq_true rfl) dX2_exchange_32 ⟨Nat.le_of_ble_eq_true rfl, Nat.le_of_ble_eq_true rfl⟩ (fun H locs hP hS => ?_)
    show W p l e (z_rmA 3 113 0 0) s m args below meth c H locs (0) (0) Q (F0 m 35 ls [.long r_7])
    refine lv_lconst (v := 0) hx hb dX2_exchange_35 (by decide) ?_
    refine W.lcmp hx hb dX2_exchange_36 ?_
    obtain ⟨v_8, hJ, h⟩ := z_bd_some h
    have J_45 : ∀ (H : Heap) (locs : List Loc) (ls : Array Slot), g_P D cs A S H → va_S A s.heap H locs → lv_has ls 7 [(0, .ref o), (1, .int r_1), (2, .long r_2)] → W p l e (z_rmA 3 113 0 0) s m args below meth c H locs (0) (0) Q (F0 m 45 ls [.int v_8]) := by
      intro H locs ls hP hS hl
      refine lv_istore (lv' := [(4, .int v_8), (0, .ref o), (1, .int r_1), (2, .long r_2)]) hx hb dX2_exchange_45 hl (by decide) rfl (fun ls hl => ?_)
      refine lv_iload hx hb dX2_exchange_47 (lv_at hl 0 rfl) ?_
      refine lv_lload_n hx hb dX2_exchange_49 rfl (lv_at hl 3 rfl) ?_
      refine lv_lconst (v := 0) hx hb dX2_exchange_50 (by decide) ?_
      refine W.lcmp hx hb dX2_exchange_51 ?_
      obtain ⟨v_9, hJ, h⟩ := z_bd_some h
      have J_60 : ∀ (H : Heap) (locs : List Loc) (ls : Array Slot), g_P D cs A S H → va_S A s.heap H locs → lv_has ls 7 [(0, .ref o), (1, .int r_1)] → W p l e (z_rmA 3 113 0 0) s m args below meth c H locs (0) (0) Q (F0 m 60 ls [.int v_9, .int v_8]) := by
        intro H locs ls hP hS hl
        obtain ⟨v_10, hJ, h⟩ := z_bd_some h
        have J_68 : ∀ (H : Heap) (locs : List Loc) (ls : Array Slot), g_P D cs A S H → va_S A s.heap H locs → lv_has ls 7 [(0, .ref o), (1, .int r_1)] → W p l e (z_rmA 3 113 0 0) s m args below meth c H locs (0) (0) Q (F0 m 68 ls [.int v_10]) := by
          intro H locs ls hP hS hl
          refine lv_istore (lv' := [(5, .int v_10), (0, .ref o), (1, .int r_1)]) hx hb dX2_exchange_68 hl (by decide) rfl (fun ls hl => ?_)
          refine lv_iconst (v := 0) hx hb dX2_exchange_70 (by decide) ?_
          refine lv_istore (lv' := [(6, .int (0 : Int32)), (5, .int v_10), (0, .ref o), (1, .int r_1)]) hx hb dX2_exchange_71 hl (by decide) rfl (fun ls hl => ?_)
          obtain ⟨y6_12, hlp, h⟩ := z_bd_some h
          refine z_lp_ind (P := fun x => ∀ (H : Heap) (locs : List Loc) (ls : Array Slot), g_P D cs A S H → va_S A s.heap H locs → lv_has ls 7 [(0, .ref o), (1, .int r_1), (5, .int v_10), (6, .int x)] → W p l e (z_rmA 3 113 0 0) s m args below meth c H locs (0) (0) Q (F0 m 73 ls [])) (Qe := fun y => ∀ (H : Heap) (locs : List Loc) (ls : Array Slot), g_P D cs A S H → va_S A s.heap H locs → lv_has ls 7 [(0, .ref o), (1, .int r_1), (5, .int v_10), (6, .int y)] → W p l e (z_rmA 3 113 0 0) s m args below meth c H locs (0) (0) Q (F0 m 105 ls [])) ?_ hlp ?_ H locs ls hP hS (lv_sub hl [2, 3, 1, 0] rfl)
          · clear h hlp hP hS hl
            rintro x6_11 oo h K_73 H locs ls hP hS hl
            have hP : g_P D cs A S H := hP
            have hl : lv_has ls 7 [(0, .ref o), (1, .int r_1), (5, .int v_10), (6, .int x6_11)] := hl
            have h : f_X2_exchange_L73 S o r_1 x6_11 = some oo := h
            unfold f_X2_exchange_L73 at h
            refine lv_iload hx hb dX2_exchange_73 (lv_at hl 3 rfl) ?_
            refine lv_aload_n hx hb dX2_exchange_75 rfl (lv_at hl 0 rfl) ?_
            obtain ⟨f_13, ef_13, h⟩ := z_bd_some h
            refine g_get (ci := 2) (k := 9) (v := .int f_13) hc hP rfl z_inX2 (by decide) wF_X2_45 (g_i_v ef_13) dX2_exchange_76 ?_
            refine lv_icmp_gt (tgt := 105) hx hb dX2_exchange_79 (by decide) (fun c_79 => ?_) (fun c_79 => ?_)
            · replace h := z_ip_ c_79 h
              cases h
              exact K_73 H locs ls hP hS (lv_sub hl [0, 1, 2, 3] rfl)
            · replace h := z_in_ c_79 h
              refine lv_iload hx hb dX2_exchange_82 (lv_at hl 3 rfl) ?_
              refine lv_iconst (v := 4) hx hb dX2_exchange_84 (by decide) ?_
              refine lv_icmp_ge (tgt := 105) hx hb dX2_exchange_85 (by decide) (fun c_85 => ?_) (fun c_85 => ?_)
              · replace h := z_ip_ c_85 h
                cases h
                exact K_73 H locs ls hP hS (lv_sub hl [0, 1, 2, 3] rfl)
              · replace h := z_in_ c_85 h
                refine lv_aload_n hx hb dX2_exchange_88 rfl (lv_at hl 0 rfl) ?_
                obtain ⟨f_14, ef_14, h⟩ := z_bd_some h
                refine g_get (ci := 2) (k := 3) (v := .ref f_14) hc hP rfl z_inX2 (by decide) wF_X2_21 (g_r_v ef_14) dX2_exchange_89 ?_
                refine lv_iload hx hb dX2_exchange_92 (lv_at hl 3 rfl) ?_
                obtain ⟨v_15, ev_15, h⟩ := z_bd_some h
                refine g_iald hc hP ev_15 dX2_exchange_94 ?_
                refine lv_iload_n hx hb dX2_exchange_95 rfl (lv_at hl 1 rfl) ?_
                refine lv_icmp_ge (tgt := 105) hx hb dX2_exchange_96 (by decide) (fun c_96 => ?_) (fun c_96 => ?_)
                · replace h := z_ip_ c_96 h
                  cases h
                  exact K_73 H locs ls hP hS (lv_sub hl [0, 1, 2, 3] rfl)
                · replace h := z_in_ c_96 h
                  refine lv_iinc (v := (x6_11 + 1)) (lv' := [(6, .int (x6_11 + 1)), (0, .ref o), (1, .int r_1), (5, .int v_10)]) hx hb dX2_exchange_99 hl (k := 3) rfl rfl (by decide) rfl (fun ls hl => ?_)
                  refine lv_goto (tgt := 73) hx hb dX2_exchange_102 (by decide) ?_
                  cases h
                  exact K_73 H locs ls hP hS (lv_sub hl [1, 2, 3, 0] rfl)
          · clear hlp hP hS hl
            intro H locs ls hP hS hl
            have hP : g_P D cs A S H := hP
            have hl : lv_has ls 7 [(0, .ref o), (1, .int r_1), (5, .int v_10), (6, .int y6_12)] := hl
            refine lv_iload hx hb dX2_exchange_105 (lv_at hl 3 rfl) ?_
            refine lv_aload_n hx hb dX2_exchange_107 rfl (lv_at hl 0 rfl) ?_
            obtain ⟨f_16, ef_16, h⟩ := z_bd_some h
            refine g_get (ci := 2) (k := 9) (v := .int f_16) hc hP rfl z_inX2 (by decide) wF_X2_45 (g_i_v ef_16) dX2_exchange_108 ?_
            refine lv_icmp_gt (tgt := 134) hx hb dX2_exchange_111 (by decide) (fun c_111 => ?_) (fun c_111 => ?_)
            · replace h := z_ip_ c_111 h
              refine lv_iload hx hb dX2_exchange_134 (lv_at hl 3 rfl) ?_
              refine lv_if_le (tgt := 163) hx hb dX2_exchange_136 (by decide) (fun c_136 => ?_) (fun c_136 => ?_)
              · replace h := z_ip_ c_136 h
                refine lv_iload hx hb dX2_exchange_163 (lv_at hl 3 rfl) ?_
                refine lv_if_ne (tgt := 176) hx hb dX2_exchange_165 (by decide) (fun c_165 => ?_) (fun c_165 => ?_)
                · replace h := z_in_ c_165 h
                  refine lv_aload_n hx hb dX2_exchange_176 rfl (lv_at hl 0 rfl) ?_
                  refine lv_iload_n hx hb dX2_exchange_177 rfl (lv_at hl 1 rfl) ?_
                  obtain ⟨ho_178, h⟩ := z_chk_some h
                  obtain ⟨vs_, ho_178⟩ := Option.isSome_iff_exists.mp ho_178
                  obtain ⟨S_17, e_178, h⟩ := z_bd_some h
                  refine g_callV (ci := 2) (As := [.int r_1]) (rv := none) (n := 1) hc hP hS rfl ho_178 (mt_X2_comeLast l D cs A S o r_1 e_178) wM_X2_121 wI_X2_comeLast wS_X2_comeLast wZ_X2 wC_X2_comeLast md_X2_comeLast ⟨rfl, rfl, Nat.le_of_ble_eq_true rfl, Nat.le_of_ble_eq_true rfl⟩ rfl hl.1 rfl (Nat.le_of_ble_eq_true rfl) dX2_exchange_178 ⟨Nat.le_of_ble_eq_true rfl, Nat.le_of_ble_eq_true rfl⟩ (fun H locs hP hS => ?_)
                  show W p l e (z_rmA 3 113 0 0) s m args below meth c H locs (0) (0) Q (F0 m 181 ls [])
                  refine lv_iconst (v := 1) hx hb dX2_exchange_181 (by decide) ?_
                  cases h
                  rw [hQ]
                  exact g_retz hc hr hlocks (by decide) hP hS dX2_exchange_182
                · replace h := z_ip_ c_165 h
                  refine lv_aload_n hx hb dX2_exchange_168 rfl (lv_at hl 0 rfl) ?_
                  refine lv_iload_n hx hb dX2_exchange_169 rfl (lv_at hl 1 rfl) ?_
                  obtain ⟨ho_170, h⟩ := z_chk_some h
                  obtain ⟨vs_, ho_170⟩ := Option.isSome_iff_exists.mp ho_170
                  obtain ⟨S_18, e_170, h⟩ := z_bd_some h
                  refine g_callV (ci := 2) (As := [.int r_1]) (rv := none) (n := 1) hc hP hS rfl ho_170 (mt_X2_comeFirst l D cs A S o r_1 e_170) wM_X2_117 wI_X2_comeFirst wS_X2_comeFirst wZ_X2 wC_X2_comeFirst md_X2_comeFirst ⟨rfl, rfl, Nat.le_of_ble_eq_true rfl, Nat.le_of_ble_eq_true rfl⟩ rfl hl.1 rfl (Nat.le_of_ble_eq_true rfl) dX2_exchange_170 ⟨Nat.le_of_ble_eq_true rfl, Nat.le_of_ble_eq_true rfl⟩ (fun H locs hP hS => ?_)
                  show W p l e (z_rmA 3 113 0 0) s m args below meth c H locs (0) (0) Q (F0 m 173 ls [])
                  refine lv_goto (tgt := 181) hx hb dX2_exchange_173 (by decide) ?_
                  refine lv_iconst (v := 1) hx hb dX2_exchange_181 (by decide) ?_
                  cases h
                  rw [hQ]
                  exact g_retz hc hr hlocks (by decide) hP hS dX2_exchange_182
              · replace h := z_in_ c_136 h
                refine lv_iload hx hb dX2_exchange_139 (lv_at hl 3 rfl) ?_
                refine lv_iconst (v := 1) hx hb dX2_exchange_141 (by decide) ?_
                refine lv_isub hx hb dX2_exchange_142 ?_
                refine lv_iconst (v := 2) hx hb dX2_exchange_143 (by decide) ?_
                refine lv_irem hx hb dX2_exchange_144 (by decide) ?_
                refine lv_iload hx hb dX2_exchange_145 (lv_at hl 2 rfl) ?_
                refine lv_icmp_ne (tgt := 163) hx hb dX2_exchange_147 (by decide) (fun c_147 => ?_) (fun c_147 => ?_)
                · replace h := z_in_ c_147 h
                  refine lv_iload hx hb dX2_exchange_163 (lv_at hl 3 rfl) ?_
                  refine lv_if_ne (tgt := 176) hx hb dX2_exchange_165 (by decide) (fun c_165 => ?_) (fun c_165 => ?_)
                  · replace h := z_in_ c_165 h
                    refine lv_aload_n hx hb dX2_exchange_176 rfl (lv_at hl 0 rfl) ?_
                    refine lv_iload_n hx hb dX2_exchange_177 rfl (lv_at hl 1 rfl) ?_
                    obtain ⟨ho_178, h⟩ := z_chk_some h
                    obtain ⟨vs_, ho_178⟩ := Option.isSome_iff_exists.mp ho_178
                    obtain ⟨S_19, e_178, h⟩ := z_bd_some h
                    refine g_callV (ci := 2) (As := [.int r_1]) (rv := none) (n := 1) hc hP hS rfl ho_178 (mt_X2_comeLast l D cs A S o r_1 e_178) wM_X2_121 wI_X2_comeLast wS_X2_comeLast wZ_X2 wC_X2_comeLast md_X2_comeLast ⟨rfl, rfl, Nat.le_of_ble_eq_true rfl, Nat.le_of_ble_eq_true rfl⟩ rfl hl.1 rfl (Nat.le_of_ble_eq_true rfl) dX2_exchange_178 ⟨Nat.le_of_ble_eq_true rfl, Nat.le_of_ble_eq_true rfl⟩ (fun H locs hP hS => ?_)
                    show W p l e (z_rmA 3 113 0 0) s m args below meth c H locs (0) (0) Q (F0 m 181 ls [])
                    refine lv_iconst (v := 1) hx hb dX2_exchange_181 (by decide) ?_
                    cases h
                    rw [hQ]
                    exact g_retz hc hr hlocks (by decide) hP hS dX2_exchange_182
                  · replace h := z_ip_ c_165 h
                    refine lv_aload_n hx hb dX2_exchange_168 rfl (lv_at hl 0 rfl) ?_
                    refine lv_iload_n hx hb dX2_exchange_169 rfl (lv_at hl 1 rfl) ?_
                    obtain ⟨ho_170, h⟩ := z_chk_some h
                    obtain ⟨vs_, ho_170⟩ := Option.isSome_iff_exists.mp ho_170
                    obtain ⟨S_20, e_170, h⟩ := z_bd_some h
                    refine g_callV (ci := 2) (As := [.int r_1]) (rv := none) (n := 1) hc hP hS rfl ho_170 (mt_X2_comeFirst l D cs A S o r_1 e_170) wM_X2_117 wI_X2_comeFirst wS_X2_comeFirst wZ_X2 wC_X2_comeFirst md_X2_comeFirst ⟨rfl, rfl, Nat.le_of_ble_eq_true rfl, Nat.le_of_ble_eq_true rfl⟩ rfl hl.1 rfl (Nat.le_of_ble_eq_true rfl) dX2_exchange_170 ⟨Nat.le_of_ble_eq_true rfl, Nat.le_of_ble_eq_true rfl⟩ (fun H locs hP hS => ?_)
                    show W p l e (z_rmA 3 113 0 0) s m args below meth c H locs (0) (0) Q (F0 m 173 ls [])
                    refine lv_goto (tgt := 181) hx hb dX2_exchange_173 (by decide) ?_
                    refine lv_iconst (v := 1) hx hb dX2_exchange_181 (by decide) ?_
                    cases h
                    rw [hQ]
                    exact g_retz hc hr hlocks (by decide) hP hS dX2_exchange_182
                · replace h := z_ip_ c_147 h
                  refine lv_aload_n hx hb dX2_exchange_150 rfl (lv_at hl 0 rfl) ?_
                  obtain ⟨f_21, ef_21, h⟩ := z_bd_some h
                  refine g_get (ci := 2) (k := 3) (v := .ref f_21) hc hP rfl z_inX2 (by decide) wF_X2_21 (g_r_v ef_21) dX2_exchange_151 ?_
                  refine lv_iload hx hb dX2_exchange_154 (lv_at hl 3 rfl) ?_
                  refine lv_iconst (v := 1) hx hb dX2_exchange_156 (by decide) ?_
                  refine lv_isub hx hb dX2_exchange_157 ?_
                  refine lv_iload_n hx hb dX2_exchange_158 rfl (lv_at hl 1 rfl) ?_
                  obtain ⟨S_22, eS_22, h⟩ := z_bd_some h
                  refine g_iast hc hP hS eS_22 dX2_exchange_159 (fun H locs hP hS => ?_)
                  refine lv_goto (tgt := 181) hx hb dX2_exchange_160 (by decide) ?_
                  refine lv_iconst (v := 1) hx hb dX2_exchange_181 (by decide) ?_
                  cases h
                  rw [hQ]
                  exact g_retz hc hr hlocks (by decide) hP hS dX2_exchange_182
            · replace h := z_in_ c_111 h
              refine lv_iload hx hb dX2_exchange_114 (lv_at hl 3 rfl) ?_
              refine lv_iconst (v := 2) hx hb dX2_exchange_116 (by decide) ?_
              refine lv_irem hx hb dX2_exchange_117 (by decide) ?_
              refine lv_iload hx hb dX2_exchange_118 (lv_at hl 2 rfl) ?_
              refine lv_icmp_ne (tgt := 134) hx hb dX2_exchange_120 (by decide) (fun c_120 => ?_) (fun c_120 => ?_)
              · replace h := z_in_ c_120 h
                refine lv_iload hx hb dX2_exchange_134 (lv_at hl 3 rfl) ?_
                refine lv_if_le (tgt := 163) hx hb dX2_exchange_136 (by decide) (fun c_136 => ?_) (fun c_136 => ?_)
                · replace h := z_ip_ c_136 h
                  refine lv_iload hx hb dX2_exchange_163 (lv_at hl 3 rfl) ?_
                  refine lv_if_ne (tgt := 176) hx hb dX2_exchange_165 (by decide) (fun c_165 => ?_) (fun c_165 => ?_)
                  · replace h := z_in_ c_165 h
                    refine lv_aload_n hx hb dX2_exchange_176 rfl (lv_at hl 0 rfl) ?_
                    refine lv_iload_n hx hb dX2_exchange_177 rfl (lv_at hl 1 rfl) ?_
                    obtain ⟨ho_178, h⟩ := z_chk_some h
                    obtain ⟨vs_, ho_178⟩ := Option.isSome_iff_exists.mp ho_178
                    obtain ⟨S_23, e_178, h⟩ := z_bd_some h
                    refine g_callV (ci := 2) (As := [.int r_1]) (rv := none) (n := 1) hc hP hS rfl ho_178 (mt_X2_comeLast l D cs A S o r_1 e_178) wM_X2_121 wI_X2_comeLast wS_X2_comeLast wZ_X2 wC_X2_comeLast md_X2_comeLast ⟨rfl, rfl, Nat.le_of_ble_eq_true rfl, Nat.le_of_ble_eq_true rfl⟩ rfl hl.1 rfl (Nat.le_of_ble_eq_true rfl) dX2_exchange_178 ⟨Nat.le_of_ble_eq_true rfl, Nat.le_of_ble_eq_true rfl⟩ (fun H locs hP hS => ?_)
                    show W p l e (z_rmA 3 113 0 0) s m args below meth c H locs (0) (0) Q (F0 m 181 ls [])
                    refine lv_iconst (v := 1) hx hb dX2_exchange_181 (by decide) ?_
                    cases h
                    rw [hQ]
                    exact g_retz hc hr hlocks (by decide) hP hS dX2_exchange_182
                  · replace h := z_ip_ c_165 h
                    refine lv_aload_n hx hb dX2_exchange_168 rfl (lv_at hl 0 rfl) ?_
                    refine lv_iload_n hx hb dX2_exchange_169 rfl (lv_at hl 1 rfl) ?_
                    obtain ⟨ho_170, h⟩ := z_chk_some h
                    obtain ⟨vs_, ho_170⟩ := Option.isSome_iff_exists.mp ho_170
                    obtain ⟨S_24, e_170, h⟩ := z_bd_some h
                    refine g_callV (ci := 2) (As := [.int r_1]) (rv := none) (n := 1) hc hP hS rfl ho_170 (mt_X2_comeFirst l D cs A S o r_1 e_170) wM_X2_117 wI_X2_comeFirst wS_X2_comeFirst wZ_X2 wC_X2_comeFirst md_X2_comeFirst ⟨rfl, rfl, Nat.le_of_ble_eq_true rfl, Nat.le_of_ble_eq_true rfl⟩ rfl hl.1 rfl (Nat.le_of_ble_eq_true rfl) dX2_exchange_170 ⟨Nat.le_of_ble_eq_true rfl, Nat.le_of_ble_eq_true rfl⟩ (fun H locs hP hS => ?_)
                    show W p l e (z_rmA 3 113 0 0) s m args below meth c H locs (0) (0) Q (F0 m 173 ls [])
                    refine lv_goto (tgt := 181) hx hb dX2_exchange_173 (by decide) ?_
                    refine lv_iconst (v := 1) hx hb dX2_exchange_181 (by decide) ?_
                    cases h
                    rw [hQ]
                    exact g_retz hc hr hlocks (by decide) hP hS dX2_exchange_182
                · replace h := z_in_ c_136 h
                  refine lv_iload hx hb dX2_exchange_139 (lv_at hl 3 rfl) ?_
                  refine lv_iconst (v := 1) hx hb dX2_exchange_141 (by decide) ?_
                  refine lv_isub hx hb dX2_exchange_142 ?_
                  refine lv_iconst (v := 2) hx hb dX2_exchange_143 (by decide) ?_
                  refine lv_irem hx hb dX2_exchange_144 (by decide) ?_
                  refine lv_iload hx hb dX2_exchange_145 (lv_at hl 2 rfl) ?_
                  refine lv_icmp_ne (tgt := 163) hx hb dX2_exchange_147 (by decide) (fun c_147 => ?_) (fun c_147 => ?_)
                  · replace h := z_in_ c_147 h
                    refine lv_iload hx hb dX2_exchange_163 (lv_at hl 3 rfl) ?_
                    refine lv_if_ne (tgt := 176) hx hb dX2_exchange_165 (by decide) (fun c_165 => ?_) (fun c_165 => ?_)
                    · replace h := z_in_ c_165 h
                      refine lv_aload_n hx hb dX2_exchange_176 rfl (lv_at hl 0 rfl) ?_
                      refine lv_iload_n hx hb dX2_exchange_177 rfl (lv_at hl 1 rfl) ?_
                      obtain ⟨ho_178, h⟩ := z_chk_some h
                      obtain ⟨vs_, ho_178⟩ := Option.isSome_iff_exists.mp ho_178
                      obtain ⟨S_25, e_178, h⟩ := z_bd_some h
                      refine g_callV (ci := 2) (As := [.int r_1]) (rv := none) (n := 1) hc hP hS rfl ho_178 (mt_X2_comeLast l D cs A S o r_1 e_178) wM_X2_121 wI_X2_comeLast wS_X2_comeLast wZ_X2 wC_X2_comeLast md_X2_comeLast ⟨rfl, rfl, Nat.le_of_ble_eq_true rfl, Nat.le_of_ble_eq_true rfl⟩ rfl hl.1 rfl (Nat.le_of_ble_eq_true rfl) dX2_exchange_178 ⟨Nat.le_of_ble_eq_true rfl, Nat.le_of_ble_eq_true rfl⟩ (fun H locs hP hS => ?_)
                      show W p l e (z_rmA 3 113 0 0) s m args below meth c H locs (0) (0) Q (F0 m 181 ls [])
                      refine lv_iconst (v := 1) hx hb dX2_exchange_181 (by decide) ?_
                      cases h
                      rw [hQ]
                      exact g_retz hc hr hlocks (by decide) hP hS dX2_exchange_182
                    · replace h := z_ip_ c_165 h
                      refine lv_aload_n hx hb dX2_exchange_168 rfl (lv_at hl 0 rfl) ?_
                      refine lv_iload_n hx hb dX2_exchange_169 rfl (lv_at hl 1 rfl) ?_
                      obtain ⟨ho_170, h⟩ := z_chk_some h
                      obtain ⟨vs_, ho_170⟩ := Option.isSome_iff_exists.mp ho_170
                      obtain ⟨S_26, e_170, h⟩ := z_bd_some h
                      refine g_callV (ci := 2) (As := [.int r_1]) (rv := none) (n := 1) hc hP hS rfl ho_170 (mt_X2_comeFirst l D cs A S o r_1 e_170) wM_X2_117 wI_X2_comeFirst wS_X2_comeFirst wZ_X2 wC_X2_comeFirst md_X2_comeFirst ⟨rfl, rfl, Nat.le_of_ble_eq_true rfl, Nat.le_of_ble_eq_true rfl⟩ rfl hl.1 rfl (Nat.le_of_ble_eq_true rfl) dX2_exchange_170 ⟨Nat.le_of_ble_eq_true rfl, Nat.le_of_ble_eq_true rfl⟩ (fun H locs hP hS => ?_)
                      show W p l e (z_rmA 3 113 0 0) s m args below meth c H locs (0) (0) Q (F0 m 173 ls [])
                      refine lv_goto (tgt := 181) hx hb dX2_exchange_173 (by decide) ?_
                      refine lv_iconst (v := 1) hx hb dX2_exchange_181 (by decide) ?_
                      cases h
                      rw [hQ]
                      exact g_retz hc hr hlocks (by decide) hP hS dX2_exchange_182
                  · replace h := z_ip_ c_147 h
                    refine lv_aload_n hx hb dX2_exchange_150 rfl (lv_at hl 0 rfl) ?_
                    obtain ⟨f_27, ef_27, h⟩ := z_bd_some h
                    refine g_get (ci := 2) (k := 3) (v := .ref f_27) hc hP rfl z_inX2 (by decide) wF_X2_21 (g_r_v ef_27) dX2_exchange_151 ?_
                    refine lv_iload hx hb dX2_exchange_154 (lv_at hl 3 rfl) ?_
                    refine lv_iconst (v := 1) hx hb dX2_exchange_156 (by decide) ?_
                    refine lv_isub hx hb dX2_exchange_157 ?_
                    refine lv_iload_n hx hb dX2_exchange_158 rfl (lv_at hl 1 rfl) ?_
                    obtain ⟨S_28, eS_28, h⟩ := z_bd_some h
                    refine g_iast hc hP hS eS_28 dX2_exchange_159 (fun H locs hP hS => ?_)
                    refine lv_goto (tgt := 181) hx hb dX2_exchange_160 (by decide) ?_
                    refine lv_iconst (v := 1) hx hb dX2_exchange_181 (by decide) ?_
                    cases h
                    rw [hQ]
                    exact g_retz hc hr hlocks (by decide) hP hS dX2_exchange_182
              · replace h := z_ip_ c_120 h
                refine lv_aload_n hx hb dX2_exchange_123 rfl (lv_at hl 0 rfl) ?_
                obtain ⟨f_29, ef_29, h⟩ := z_bd_some h
                refine g_get (ci := 2) (k := 3) (v := .ref f_29) hc hP rfl z_inX2 (by decide) wF_X2_21 (g_r_v ef_29) dX2_exchange_124 ?_
                refine lv_iload hx hb dX2_exchange_127 (lv_at hl 3 rfl) ?_
                refine lv_iload_n hx hb dX2_exchange_129 rfl (lv_at hl 1 rfl) ?_
                obtain ⟨S_30, eS_30, h⟩ := z_bd_some h
                refine g_iast hc hP hS eS_30 dX2_exchange_130 (fun H locs hP hS => ?_)
                refine lv_goto (tgt := 181) hx hb dX2_exchange_131 (by decide) ?_
                refine lv_iconst (v := 1) hx hb dX2_exchange_181 (by decide) ?_
                cases h
                rw [hQ]
                exact g_retz hc hr hlocks (by decide) hP hS dX2_exchange_182
        clear h
        have h := hJ
        clear hJ
        refine lv_icmp_ne (tgt := 67) hx hb dX2_exchange_60 (by decide) (fun c_60 => ?_) (fun c_60 => ?_)
        · replace h := z_in_ c_60 h
          refine lv_iconst (v := 1) hx hb dX2_exchange_67 (by decide) ?_
          cases h
          exact J_68 H locs ls hP hS (lv_sub hl [0, 1] rfl)
        · replace h := z_ip_ c_60 h
          refine lv_iconst (v := 0) hx hb dX2_exchange_63 (by decide) ?_
          refine lv_goto (tgt := 68) hx hb dX2_exchange_64 (by decide) ?_
          cases h
          exact J_68 H locs ls hP hS (lv_sub hl [0, 1] rfl)
      clear h
      have h := hJ
      clear hJ
      refine lv_if_le (tgt := 59) hx hb dX2_exchange_52 (by decide) (fun c_52 => ?_) (fun c_52 => ?_)
      · replace h := z_ip_ c_52 h
        refine lv_iconst (v := 0) hx hb dX2_exchange_59 (by decide) ?_
        cases h
        exact J_60 H locs ls hP hS (lv_sub hl [1, 2] rfl)
      · replace h := z_in_ c_52 h
        refine lv_iconst (v := 1) hx hb dX2_exchange_55 (by decide) ?_
        refine lv_goto (tgt := 60) hx hb dX2_exchange_56 (by decide) ?_
        cases h
        exact J_60 H locs ls hP hS (lv_sub hl [1, 2] rfl)
    clear h
    have h := hJ
    clear hJ
    refine lv_if_lt (tgt := 44) hx hb dX2_exchange_37 (by decide) (fun c_37 => ?_) (fun c_37 => ?_)
    · replace h := z_ip_ c_37 h
      refine lv_iconst (v := 0) hx hb dX2_exchange_44 (by decide) ?_
      cases h
      exact J_45 H locs ls hP hS (lv_sub hl [2, 1, 0] rfl)
    · replace h := z_in_ c_37 h
      refine lv_iconst (v := 1) hx hb dX2_exchange_40 (by decide) ?_
      refine lv_goto (tgt := 45) hx hb dX2_exchange_41 (by decide) ?_
      cases h
      exact J_45 H locs ls hP hS (lv_sub hl [2, 1, 0] rfl)
  · replace h := z_in_ c_20 h
    refine lv_iconst (v := 0) hx hb dX2_exchange_23 (by decide) ?_
    cases h
    rw [hQ]
    exact g_retz hc hr hlocks (by decide) hP hS dX2_exchange_24
theorem md_X2_exchange : yX2_exchange.cls ≠ "java/lang/invoke/MethodHandle" ∧ yX2_exchange.cls ≠ "java/lang/invoke/VarHandle" ∧ (parseMethodDescriptor yX2_exchange.desc).map (fun d => d.parameters.length) = some 0 := by decide +kernel
noncomputable def f_X2_settle_L2 (o : Nat) (x1_1 : Int32) (S_2 : GS) : Option ((((Int32) × GS) ⊕ (GS)) ⊕ (Int32 × GS)) :=
  if (1000 : Int32) ≤ x1_1 then some (.inl (.inr (S_2))) else z_chk (g_is S_2 2 o) (z_bd2 (f_X2_exchange S_2 o ) fun r_5 S_4 => if r_5 = 0 then some (.inl (.inl (x1_1, S_4))) else z_chk (g_is S_4 2 o) (z_bd (f_X2_solve S_4 o ) fun S_6 => some (.inr ((x1_1 + 1), S_6))))
noncomputable def f_X2_settle (S : GS) (o : Nat) : Option ((Int32) × GS) :=
  z_bs (z_lp (fun x => f_X2_settle_L2 o x.1 x.2) ((0 : Int32), S)) fun y => some ((1000 : Int32), y)
set_option maxHeartbeats 4000000 in
set_option maxRecDepth 100000 in
theorem mt_X2_settle (l : Launch) (D : va_G) (cs : Nat → ClassId) (A : Nat → Prop) (S : GS) (o : Nat) {r_ : Int32} {N_ : GS} (h : f_X2_settle S o = some (r_, N_)) : Met l yX2_settle (z_wd yX2_settle cX2_settle 2 (some .int)) (z_rmA 4 177 0 0) (va_Pc [.ref o] (g_C D cs A S)) (g_Q (some (.int r_)) N_ D cs A) 0 0 A := by
  refine Met.ofW (cc := cX2_settle) (maxL := 2) (ret := (some .int)) (by decide) rfl ?_
  intro p e s m args below meth c s₁ B hml hv
  obtain ⟨hav, hP0, hK, hN, hSt, hAn⟩ := hv
  have hx := B.exec
  have hb := B.bytes
  have hr := B.returns
  have hts := atoms_spec (ws := z_wd yX2_settle cX2_settle 2 (some .int)) B.pre
  have hown : s.vm.findClass RX2 = some m.cls := findClass_of_methodNamed B.named
  have hlocks := B.notSynchronized
  have hc : g_X p s m args c cX2_settle 2 RX2 D cs A := ⟨⟨hx, hb, hml, fun w hw => hts w (List.mem_cons_of_mem _ hw), hown⟩, hK, hN, hSt, hAn⟩
  have hl := lv_entry ([.ref o]) (n := 2) (Nat.le_of_ble_eq_true rfl)
  have hE : entryFrame m args 2 = F0 m 0 ((lg_sl ([.ref o]) ++ List.replicate (2 - (lg_sl ([.ref o])).length) Slot.unset).toArray) [] := by rw [hav]; exact lg_entry_eq m _ _
  rw [hE]
  clear hE hav
  generalize (lg_sl ([.ref o]) ++ List.replicate (2 - (lg_sl ([.ref o])).length) Slot.unset).toArray = ls at hl ⊢
  have hl : lv_has ls 2 [(0, .ref o)] := hl
  obtain ⟨Q, hQ⟩ : ∃ Q, Q = MQ below (g_Q (some (.int r_)) N_ D cs A) args s 0 0 A := ⟨_, rfl⟩
  rw [← hQ]
  suffices hmain : ∀ (H : Heap) (locs : List Loc), g_P D cs A S H → va_S A s.heap H locs → W p l e (z_rmA 4 177 0 0) s m args below meth c H locs 0 0 Q (F0 m 0 ls []) from hmain s.heap [] hP0 va_S.rf
  clear hP0
  intro H locs hP hS
  unfold f_X2_settle at h
  refine lv_iconst (v := 0) hx hb dX2_settle_0 (by decide) ?_
  refine lv_istore_n (lv' := [(1, .int (0 : Int32)), (0, .ref o)]) hx hb dX2_settle_1 rfl hl (by decide) rfl (fun ls hl => ?_)
  have LP_2 : ∀ ee, z_lp (fun x => f_X2_settle_L2 o x.1 x.2) ((0 : Int32), S) = some ee → ((fun z => match z with
      | .inl rr => rr = (r_, N_)
      | .inr y => ∀ (H : Heap) (locs : List Loc) (ls : Array Slot), g_P D cs A y H → va_S A s.heap H locs → lv_has ls 2 [] → W p l e (z_rmA 4 177 0 0) s m args below meth c H locs (0) (0) Q (F0 m 28 ls []) : ((Int32) × GS) ⊕ (GS) → Prop) ee) → W p l e (z_rmA 4 177 0 0) s m args below meth c H locs (0) (0) Q (F0 m 2 ls []) := by
    intro ee hlp hq
    refine z_lp_ind (P := fun x => ∀ (H : Heap) (locs : List Loc) (ls : Array Slot), g_P D cs A x.2 H → va_S A s.heap H locs → lv_has ls 2 [(0, .ref o), (1, .int x.1)] → W p l e (z_rmA 4 177 0 0) s m args below meth c H locs (0) (0) Q (F0 m 2 ls [])) (Qe := fun z => match z with
      | .inl rr => rr = (r_, N_)
      | .inr y => ∀ (H : Heap) (locs : List Loc) (ls : Array Slot), g_P D cs A y H → va_S A s.heap H locs → lv_has ls 2 [] → W p l e (z_rmA 4 177 0 0) s m args below meth c H locs (0) (0) Q (F0 m 28 ls [])) ?_ hlp hq H locs ls hP hS (lv_sub hl [1, 0] rfl)
    clear h hlp hq hP hS hl
    rintro ⟨x1_1, S_2⟩ oo h K_2 H locs ls hP hS hl
    have hP : g_P D cs A S_2 H := hP
    have hl : lv_has ls 2 [(0, .ref o), (1, .int x1_1)] := hl
    have h : f_X2_settle_L2 o x1_1 S_2 = some oo := h
    unfold f_X2_settle_L2 at h
    refine lv_iload_n hx hb dX2_settle_2 rfl (lv_at hl 1 rfl) ?_
    refine lv_sipush (v := 1000) hx hb dX2_settle_3 (by decide) ?_
    refine lv_icmp_ge (tgt := 28) hx hb dX2_settle_6 (by decide) (fun c_6 => ?_) (fun c_6 => ?_)
    · replace h := z_ip_ c_6 h
      cases h
      exact K_2 H locs ls hP hS (lv_sub hl [] rfl)
    · replace h := z_in_ c_6 h
      refine lv_aload_n hx hb dX2_settle_9 rfl (lv_at hl 0 rfl) ?_
      obtain ⟨ho_10, h⟩ := z_chk_some h
      obtain ⟨vs_, ho_10⟩ := Option.isSome_iff_exists.mp ho_10
      obtain ⟨r_5, S_4, e_10, h⟩ := z_bd2_some h
      refine g_callV (ci := 2) (As := []) (rv := (some (.int r_5))) (n := 0) hc hP hS rfl ho_10 (mt_X2_exchange l D cs A S_2 o  e_10) wM_X2_110 wI_X2_exchange wS_X2_exchange wZ_X2 wC_X2_exchange md_X2_exchange ⟨rfl, rfl, Nat.le_of_ble_eq_true rfl, Nat.le_of_ble_eq_true rfl⟩ rfl hl.1 rfl (Nat.le_of_ble_eq_true rfl) dX2_settle_10 ⟨Nat.le_of_ble_eq_true rfl, Nat.le_of_ble_eq_true rfl⟩ (fun H locs hP hS => ?_)
      show W p l e (z_rmA 4 177 0 0) s m args below meth c H locs (0) (0) Q (F0 m 13 ls [.int r_5])
      refine lv_if_ne (tgt := 18) hx hb dX2_settle_13 (by decide) (fun c_13 => ?_) (fun c_13 => ?_)
      · replace h := z_in_ c_13 h
        refine lv_aload_n hx hb dX2_settle_18 rfl (lv_at hl 0 rfl) ?_
        obtain ⟨ho_19, h⟩ := z_chk_some h
        obtain ⟨vs_, ho_19⟩ := Option.isSome_iff_exists.mp ho_19
        obtain ⟨S_6, e_19, h⟩ := z_bd_some h
        refine g_callV (ci := 2) (As := []) (rv := none) (n := 0) hc hP hS rfl ho_19 (mt_X2_solve l D cs A S_4 o  e_19) wM_X2_62 wI_X2_solve wS_X2_solve wZ_X2 wC_X2_solve md_X2_solve ⟨rfl, rfl, Nat.le_of_ble_eq_true rfl, Nat.le_of_ble_eq_true rfl⟩ rfl hl.1 rfl (Nat.le_of_ble_eq_true rfl) dX2_settle_19 ⟨Nat.le_of_ble_eq_true rfl, Nat.le_of_ble_eq_true rfl⟩ (fun H locs hP hS => ?_)
        show W p l e (z_rmA 4 177 0 0) s m args below meth c H locs (0) (0) Q (F0 m 22 ls [])
        refine lv_iinc (v := (x1_1 + 1)) (lv' := [(1, .int (x1_1 + 1)), (0, .ref o)]) hx hb dX2_settle_22 hl (k := 1) rfl rfl (by decide) rfl (fun ls hl => ?_)
        refine lv_goto (tgt := 2) hx hb dX2_settle_25 (by decide) ?_
        cases h
        exact K_2 H locs ls hP hS (lv_sub hl [1, 0] rfl)
      · replace h := z_ip_ c_13 h
        refine lv_iload_n hx hb dX2_settle_16 rfl (lv_at hl 1 rfl) ?_
        cases h
        have K_2 : (x1_1, S_4) = (r_, N_) := K_2
        cases K_2
        rw [hQ]
        exact g_reti hc hr hlocks hP hS dX2_settle_17
  rcases z_bs_some h with hlp | ⟨y, hlp, h⟩
  · exact LP_2 _ hlp rfl
  · refine LP_2 _ hlp ?_
    obtain ⟨S_3, rfl⟩ : ∃ z, z = y := ⟨_, rfl⟩
    clear hlp LP_2 hP hS hl
    show ∀ (H : Heap) (locs : List Loc) (ls : Array Slot), g_P D cs A S_3 H → va_S A s.heap H locs → lv_has ls 2 [] → W p l e (z_rmA 4 177 0 0) s m args below meth c H locs (0) (0) Q (F0 m 28 ls [])
    intro H locs ls hP hS hl
    have hP : g_P D cs A S_3 H := hP
    have hl : lv_has ls 2 [] := hl
    refine lv_sipush (v := 1000) hx hb dX2_settle_28 (by decide) ?_
    cases h
    rw [hQ]
    exact g_reti hc hr hlocks hP hS dX2_settle_31
theorem md_X2_settle : yX2_settle.cls ≠ "java/lang/invoke/MethodHandle" ∧ yX2_settle.cls ≠ "java/lang/invoke/VarHandle" ∧ (parseMethodDescriptor yX2_settle.desc).map (fun d => d.parameters.length) = some 0 := by decide +kernel
noncomputable def f_X2_passThroughAll_L2 (o : Nat) (x1_1 : Int32) (S_2 : GS) : Option ((GS) ⊕ (Int32 × GS)) :=
  z_bd (g_i S_2 2 8 o) fun f_4 => if f_4 ≤ x1_1 then some (.inl (S_2)) else if (4 : Int32) ≤ x1_1 then some (.inl (S_2)) else z_bd (g_r S_2 2 4 o) fun f_5 => z_bd (g_r S_2 2 1 o) fun f_6 => z_bd (g_rJ S_2 f_6 x1_1) fun v_7 => z_bd (g_wJ S_2 f_5 x1_1 v_7) fun S_8 => some (.inr ((x1_1 + 1), S_8))
noncomputable def f_X2_passThroughAll (S : GS) (o : Nat) : Option (GS) :=
  z_bd (z_lp (fun x => f_X2_passThroughAll_L2 o x.1 x.2) ((0 : Int32), S)) fun S_3 => z_bd (g_i S_3 2 8 o) fun f_9 => z_chk (g_is S_3 2 o) (z_bd (f_X2_interpolate S_3 o f_9 (1 : Int64)) fun S_10 => some S_10)
set_option maxHeartbeats 4000000 in
set_option maxRecDepth 100000 in
theorem mt_X2_passThroughAll (l : Launch) (D : va_G) (cs : Nat → ClassId) (A : Nat → Prop) (S : GS) (o : Nat) {N_ : GS} (h : f_X2_passThroughAll S o = some N_) : Met l yX2_passThroughAll (z_wd yX2_passThroughAll cX2_passThroughAll 2 none) (z_rmA 3 134 0 0) (va_Pc [.ref o] (g_C D cs A S)) (g_Q none N_ D cs A) 0 0 A := by
  refine Met.ofW (cc := cX2_passThroughAll) (maxL := 2) (ret := none) (by decide) rfl ?_
  intro p e s m args below meth c s₁ B hml hv
  obtain ⟨hav, hP0, hK, hN, hSt, hAn⟩ := hv
  have hx := B.exec
  have hb := B.bytes
  have hr := B.returns
  have hts := atoms_spec (ws := z_wd yX2_passThroughAll cX2_passThroughAll 2 none) B.pre
  have hown : s.vm.findClass RX2 = some m.cls := findClass_of_methodNamed B.named
  have hlocks := B.notSynchronized
  have hc : g_X p s m args c cX2_passThroughAll 2 RX2 D cs A := ⟨⟨hx, hb, hml, fun w hw => hts w (List.mem_cons_of_mem _ hw), hown⟩, hK, hN, hSt, hAn⟩
  have hl := lv_entry ([.ref o]) (n := 2) (Nat.le_of_ble_eq_true rfl)
  have hE : entryFrame m args 2 = F0 m 0 ((lg_sl ([.ref o]) ++ List.replicate (2 - (lg_sl ([.ref o])).length) Slot.unset).toArray) [] := by rw [hav]; exact lg_entry_eq m _ _
  rw [hE]
  clear hE hav
  generalize (lg_sl ([.ref o]) ++ List.replicate (2 - (lg_sl ([.ref o])).length) Slot.unset).toArray = ls at hl ⊢
  have hl : lv_has ls 2 [(0, .ref o)] := hl
  obtain ⟨Q, hQ⟩ : ∃ Q, Q = MQ below (g_Q none N_ D cs A) args s 0 0 A := ⟨_, rfl⟩
  rw [← hQ]
  suffices hmain : ∀ (H : Heap) (locs : List Loc), g_P D cs A S H → va_S A s.heap H locs → W p l e (z_rmA 3 134 0 0) s m args below meth c H locs 0 0 Q (F0 m 0 ls []) from hmain s.heap [] hP0 va_S.rf
  clear hP0
  intro H locs hP hS
  unfold f_X2_passThroughAll at h
  refine lv_iconst (v := 0) hx hb dX2_passThroughAll_0 (by decide) ?_
  refine lv_istore_n (lv' := [(1, .int (0 : Int32)), (0, .ref o)]) hx hb dX2_passThroughAll_1 rfl hl (by decide) rfl (fun ls hl => ?_)
  obtain ⟨S_3, hlp, h⟩ := z_bd_some h
  refine z_lp_ind (P := fun x => ∀ (H : Heap) (locs : List Loc) (ls : Array Slot), g_P D cs A x.2 H → va_S A s.heap H locs → lv_has ls 2 [(0, .ref o), (1, .int x.1)] → W p l e (z_rmA 3 134 0 0) s m args below meth c H locs (0) (0) Q (F0 m 2 ls [])) (Qe := fun y => ∀ (H : Heap) (locs : List Loc) (ls : Array Slot), g_P D cs A y H → va_S A s.heap H locs → lv_has ls 2 [(0, .ref o)] → W p l e (z_rmA 3 134 0 0) s m args below meth c H locs (0) (0) Q (F0 m 33 ls [])) ?_ hlp ?_ H locs ls hP hS (lv_sub hl [1, 0] rfl)
  · clear h hlp hP hS hl
    rintro ⟨x1_1, S_2⟩ oo h K_2 H locs ls hP hS hl
    have hP : g_P D cs A S_2 H := hP
    have hl : lv_has ls 2 [(0, .ref o), (1, .int x1_1)] := hl
    have h : f_X2_passThroughAll_L2 o x1_1 S_2 = some oo := h
    unfold f_X2_passThroughAll_L2 at h
    refine lv_iload_n hx hb dX2_passThroughAll_2 rfl (lv_at hl 1 rfl) ?_
    refine lv_aload_n hx hb dX2_passThroughAll_3 rfl (lv_at hl 0 rfl) ?_
    obtain ⟨f_4, ef_4, h⟩ := z_bd_some h
    refine g_get (ci := 2) (k := 8) (v := .int f_4) hc hP rfl z_inX2 (by decide) wF_X2_41 (g_i_v ef_4) dX2_passThroughAll_4 ?_
    refine lv_icmp_ge (tgt := 33) hx hb dX2_passThroughAll_7 (by decide) (fun c_7 => ?_) (fun c_7 => ?_)
    · replace h := z_ip_ c_7 h
      cases h
      exact K_2 H locs ls hP hS (lv_sub hl [0] rfl)
    · replace h := z_in_ c_7 h
      refine lv_iload_n hx hb dX2_passThroughAll_10 rfl (lv_at hl 1 rfl) ?_
      refine lv_iconst (v := 4) hx hb dX2_passThroughAll_11 (by decide) ?_
      refine lv_icmp_ge (tgt := 33) hx hb dX2_passThroughAll_12 (by decide) (fun c_12 => ?_) (fun c_12 => ?_)
      · replace h := z_ip_ c_12 h
        cases h
        exact K_2 H locs ls hP hS (lv_sub hl [0] rfl)
      · replace h := z_in_ c_12 h
        refine lv_aload_n hx hb dX2_passThroughAll_15 rfl (lv_at hl 0 rfl) ?_
        obtain ⟨f_5, ef_5, h⟩ := z_bd_some h
        refine g_get (ci := 2) (k := 4) (v := .ref f_5) hc hP rfl z_inX2 (by decide) wF_X2_25 (g_r_v ef_5) dX2_passThroughAll_16 ?_
        refine lv_iload_n hx hb dX2_passThroughAll_19 rfl (lv_at hl 1 rfl) ?_
        refine lv_aload_n hx hb dX2_passThroughAll_20 rfl (lv_at hl 0 rfl) ?_
        obtain ⟨f_6, ef_6, h⟩ := z_bd_some h
        refine g_get (ci := 2) (k := 1) (v := .ref f_6) hc hP rfl z_inX2 (by decide) wF_X2_15 (g_r_v ef_6) dX2_passThroughAll_21 ?_
        refine lv_iload_n hx hb dX2_passThroughAll_24 rfl (lv_at hl 1 rfl) ?_
        obtain ⟨v_7, ev_7, h⟩ := z_bd_some h
        refine g_lald hc hP ev_7 dX2_passThroughAll_25 ?_
        obtain ⟨S_8, eS_8, h⟩ := z_bd_some h
        refine g_last hc hP hS eS_8 dX2_passThroughAll_26 (fun H locs hP hS => ?_)
        refine lv_iinc (v := (x1_1 + 1)) (lv' := [(1, .int (x1_1 + 1)), (0, .ref o)]) hx hb dX2_passThroughAll_27 hl (k := 1) rfl rfl (by decide) rfl (fun ls hl => ?_)
        refine lv_goto (tgt := 2) hx hb dX2_passThroughAll_30 (by decide) ?_
        cases h
        exact K_2 H locs ls hP hS (lv_sub hl [1, 0] rfl)
  · clear hlp hP hS hl
    intro H locs ls hP hS hl
    have hP : g_P D cs A S_3 H := hP
    have hl : lv_has ls 2 [(0, .ref o)] := hl
    refine lv_aload_n hx hb dX2_passThroughAll_33 rfl (lv_at hl 0 rfl) ?_
    refine lv_aload_n hx hb dX2_passThroughAll_34 rfl (lv_at hl 0 rfl) ?_
    obtain ⟨f_9, ef_9, h⟩ := z_bd_some h
    refine g_get (ci := 2) (k := 8) (v := .int f_9) hc hP rfl z_inX2 (by decide) wF_X2_41 (g_i_v ef_9) dX2_passThroughAll_35 ?_
    refine lv_lconst (v := 1) hx hb dX2_passThroughAll_38 (by decide) ?_
    obtain ⟨ho_39, h⟩ := z_chk_some h
    obtain ⟨vs_, ho_39⟩ := Option.isSome_iff_exists.mp ho_39
    obtain ⟨S_10, e_39, h⟩ := z_bd_some h
    refine g_callV (ci := 2) (As := [.int f_9, .long (1 : Int64)]) (rv := none) (n := 2) hc hP hS rfl ho_39 (mt_X2_interpolate l D cs A S_3 o f_9 (1 : Int64) e_39) wM_X2_155 wI_X2_interpolate wS_X2_interpolate wZ_X2 wC_X2_interpolate md_X2_interpolate ⟨rfl, rfl, Nat.le_of_ble_eq_true rfl, Nat.le_of_ble_eq_true rfl⟩ rfl hl.1 rfl (Nat.le_of_ble_eq_true rfl) dX2_passThroughAll_39 ⟨Nat.le_of_ble_eq_true rfl, Nat.le_of_ble_eq_true rfl⟩ (fun H locs hP hS => ?_)
    show W p l e (z_rmA 3 134 0 0) s m args below meth c H locs (0) (0) Q (F0 m 42 ls [])
    cases h
    rw [hQ]
    exact g_retv hc hr hlocks hP hS dX2_passThroughAll_42
theorem md_X2_passThroughAll : yX2_passThroughAll.cls ≠ "java/lang/invoke/MethodHandle" ∧ yX2_passThroughAll.cls ≠ "java/lang/invoke/VarHandle" ∧ (parseMethodDescriptor yX2_passThroughAll.desc).map (fun d => d.parameters.length) = some 0 := by decide +kernel
noncomputable def f_X2_levelRow_L25 (o : Nat) (r_4 : Int32) (x5_5 : Int32) (S_6 : GS) : Option ((GS) ⊕ (Int32 × GS)) :=
  if r_4 ≤ x5_5 then some (.inl (S_6)) else if (4 : Int32) ≤ x5_5 then some (.inl (S_6)) else z_bd (g_r S_6 2 3 o) fun f_8 => z_bd (g_wI S_6 f_8 x5_5 x5_5) fun S_9 => some (.inr ((x5_5 + 1), S_9))
noncomputable def f_X2_levelRow (S : GS) (o : Nat) (a0 : Nat) (a1 : Int32) (a2 : Int32) : Option (GS) :=
  z_chk (g_is S 2 o) (z_bd (f_X2_load S o a0 a1 a2) fun S_1 => z_bd (g_i S_1 2 8 o) fun f_2 => z_bd (g_i S_1 2 9 o) fun f_3 => z_bd (f_J9_min_7cf53 f_2 (f_3 + (1 : Int32))) fun r_4 => z_bd (z_lp (fun x => f_X2_levelRow_L25 o r_4 x.1 x.2) ((0 : Int32), S_1)) fun S_7 => z_bd (g_i S_7 2 8 o) fun f_10 => z_bd (g_i S_7 2 9 o) fun f_11 => if f_10 ≤ f_11 then z_chk (g_is S_7 2 o) (z_bd (f_X2_passThroughAll S_7 o ) fun S_12 => some S_12) else z_chk (g_is S_7 2 o) (z_bd (f_X2_solve S_7 o ) fun S_13 => z_chk (g_is S_13 2 o) (z_bd2 (f_X2_settle S_13 o ) fun r_15 S_14 => some S_14)))
set_option maxHeartbeats 4000000 in
set_option maxRecDepth 100000 in
theorem mt_X2_levelRow (l : Launch) (D : va_G) (cs : Nat → ClassId) (A : Nat → Prop) (S : GS) (o : Nat) (a0 : Nat) (a1 : Int32) (a2 : Int32) {N_ : GS} (h : f_X2_levelRow S o a0 a1 a2 = some N_) : Met l yX2_levelRow (z_wd yX2_levelRow cX2_levelRow 6 none) (z_rmA 5 214 0 0) (va_Pc [.ref o, .ref a0, .int a1, .int a2] (g_C D cs A S)) (g_Q none N_ D cs A) 0 0 A := by
  refine Met.ofW (cc := cX2_levelRow) (maxL := 6) (ret := none) (by decide) rfl ?_
  intro p e s m args below meth c s₁ B hml hv
  obtain ⟨hav, hP0, hK, hN, hSt, hAn⟩ := hv
  have hx := B.exec
  have hb := B.bytes
  have hr := B.returns
  have hts := atoms_spec (ws := z_wd yX2_levelRow cX2_levelRow 6 none) B.pre
  have hown : s.vm.findClass RX2 = some m.cls := findClass_of_methodNamed B.named
  have hlocks := B.notSynchronized
  have hc : g_X p s m args c cX2_levelRow 6 RX2 D cs A := ⟨⟨hx, hb, hml, fun w hw => hts w (List.mem_cons_of_mem _ hw), hown⟩, hK, hN, hSt, hAn⟩
  have hl := lv_entry ([.ref o, .ref a0, .int a1, .int a2]) (n := 6) (Nat.le_of_ble_eq_true rfl)
  have hE : entryFrame m args 6 = F0 m 0 ((lg_sl ([.ref o, .ref a0, .int a1, .int a2]) ++ List.replicate (6 - (lg_sl ([.ref o, .ref a0, .int a1, .int a2])).length) Slot.unset).toArray) [] := by rw [hav]; exact lg_entry_eq m _ _
  rw [hE]
  clear hE hav
  generalize (lg_sl ([.ref o, .ref a0, .int a1, .int a2]) ++ List.replicate (6 - (lg_sl ([.ref o, .ref a0, .int a1, .int a2])).length) Slot.unset).toArray = ls at hl ⊢
  have hl : lv_has ls 6 [(0, .ref o), (1, .ref a0), (2, .int a1), (3, .int a2)] := hl
  obtain ⟨Q, hQ⟩ : ∃ Q, Q = MQ below (g_Q none N_ D cs A) args s 0 0 A := ⟨_, rfl⟩
  rw [← hQ]
  suffices hmain : ∀ (H : Heap) (locs : List Loc), g_P D cs A S H → va_S A s.heap H locs → W p l e (z_rmA 5 214 0 0) s m args below meth c H locs 0 0 Q (F0 m 0 ls []) from hmain s.heap [] hP0 va_S.rf
  clear hP0
  intro H locs hP hS
  unfold f_X2_levelRow at h
  refine lv_aload_n hx hb dX2_levelRow_0 rfl (lv_at hl 0 rfl) ?_
  refine lv_aload_n hx hb dX2_levelRow_1 rfl (lv_at hl 1 rfl) ?_
  refine lv_iload_n hx hb dX2_levelRow_2 rfl (lv_at hl 2 rfl) ?_
  refine lv_iload_n hx hb dX2_levelRow_3 rfl (lv_at hl 3 rfl) ?_
  obtain ⟨ho_4, h⟩ := z_chk_some h
  obtain ⟨vs_, ho_4⟩ := Option.isSome_iff_exists.mp ho_4
  obtain ⟨S_1, e_4, h⟩ := z_bd_some h
  refine g_callV (ci := 2) (As := [.ref a0, .int a1, .int a2]) (rv := none) (n := 3) hc hP hS rfl ho_4 (mt_X2_load l D cs A S o a0 a1 a2 e_4) wM_X2_52 wI_X2_load wS_X2_load wZ_X2 wC_X2_load md_X2_load ⟨rfl, rfl, Nat.le_of_ble_eq_true rfl, Nat.le_of_ble_eq_true rfl⟩ rfl hl.1 rfl (Nat.le_of_ble_eq_true rfl) dX2_levelRow_4 ⟨Nat.le_of_ble_eq_true rfl, Nat.le_of_ble_eq_true rfl⟩ (fun H locs hP hS => ?_)
  show W p l e (z_rmA 5 214 0 0) s m args below meth c H locs (0) (0) Q (F0 m 7 ls [])
  refine lv_aload_n hx hb dX2_levelRow_7 rfl (lv_at hl 0 rfl) ?_
  obtain ⟨f_2, ef_2, h⟩ := z_bd_some h
  refine g_get (ci := 2) (k := 8) (v := .int f_2) hc hP rfl z_inX2 (by decide) wF_X2_41 (g_i_v ef_2) dX2_levelRow_8 ?_
  refine lv_aload_n hx hb dX2_levelRow_11 rfl (lv_at hl 0 rfl) ?_
  obtain ⟨f_3, ef_3, h⟩ := z_bd_some h
  refine g_get (ci := 2) (k := 9) (v := .int f_3) hc hP rfl z_inX2 (by decide) wF_X2_45 (g_i_v ef_3) dX2_levelRow_12 ?_
  refine lv_iconst (v := 1) hx hb dX2_levelRow_15 (by decide) ?_
  refine lv_iadd hx hb dX2_levelRow_16 ?_
  obtain ⟨r_4, er_4, h⟩ := z_bd_some h
  refine s_calli (As := [.int f_2, .int (f_3 + (1 : Int32))]) (r := r_4) (n := 2) hc.1 (mt_J9_min_7cf53 l f_2 (f_3 + (1 : Int32)) er_4) wM_X2_56 wT_J9_min_7cf53 wZ_J9 wC_J9_min_7cf53 md_J9_min_7cf53 ⟨rfl, rfl, Nat.le_of_ble_eq_true rfl, Nat.le_of_ble_eq_true rfl⟩ rfl hl.1 rfl (Nat.le_of_ble_eq_true rfl) dX2_levelRow_17 ⟨Nat.le_of_ble_eq_true rfl, Nat.le_of_ble_eq_true rfl⟩ ?_
  refine lv_istore (lv' := [(4, .int r_4), (0, .ref o), (1, .ref a0), (2, .int a1), (3, .int a2)]) hx hb dX2_levelRow_20 hl (by decide) rfl (fun ls hl => ?_)
  refine lv_iconst (v := 0) hx hb dX2_levelRow_22 (by decide) ?_
  refine lv_istore (lv' := [(5, .int (0 : Int32)), (4, .int r_4), (0, .ref o), (1, .ref a0), (2, .int a1), (3, .int a2)]) hx hb dX2_levelRow_23 hl (by decide) rfl (fun ls hl => ?_)
  obtain ⟨S_7, hlp, h⟩ := z_bd_some h
  refine z_lp_ind (P := fun x => ∀ (H : Heap) (locs : List Loc) (ls : Array Slot), g_P D cs A x.2 H → va_S A s.heap H locs → lv_has ls 6 [(0, .ref o), (4, .int r_4), (5, .int x.1)] → W p l e (z_rmA 5 214 0 0) s m args below meth c H locs (0) (0) Q (F0 m 25 ls [])) (Qe := fun y => ∀ (H : Heap) (locs : List Loc) (ls : Array Slot), g_P D cs A y H → va_S A s.heap H locs → lv_has ls 6 [(0, .ref o)] → W p l e (z_rmA 5 214 0 0) s m args below meth c H locs (0) (0) Q (F0 m 53 ls [])) ?_ hlp ?_ H locs ls hP hS (lv_sub hl [2, 1, 0] rfl)
  · clear h hlp hP hS hl
    rintro ⟨x5_5, S_6⟩ oo h K_25 H locs ls hP hS hl
    have hP : g_P D cs A S_6 H := hP
    have hl : lv_has ls 6 [(0, .ref o), (4, .int r_4), (5, .int x5_5)] := hl
    have h : f_X2_levelRow_L25 o r_4 x5_5 S_6 = some oo := h
    unfold f_X2_levelRow_L25 at h
    refine lv_iload hx hb dX2_levelRow_25 (lv_at hl 2 rfl) ?_
    refine lv_iload hx hb dX2_levelRow_27 (lv_at hl 1 rfl) ?_
    refine lv_icmp_ge (tgt := 53) hx hb dX2_levelRow_29 (by decide) (fun c_29 => ?_) (fun c_29 => ?_)
    · replace h := z_ip_ c_29 h
      cases h
      exact K_25 H locs ls hP hS (lv_sub hl [0] rfl)
    · replace h := z_in_ c_29 h
      refine lv_iload hx hb dX2_levelRow_32 (lv_at hl 2 rfl) ?_
      refine lv_iconst (v := 4) hx hb dX2_levelRow_34 (by decide) ?_
      refine lv_icmp_ge (tgt := 53) hx hb dX2_levelRow_35 (by decide) (fun c_35 => ?_) (fun c_35 => ?_)
      · replace h := z_ip_ c_35 h
        cases h
        exact K_25 H locs ls hP hS (lv_sub hl [0] rfl)
      · replace h := z_in_ c_35 h
        refine lv_aload_n hx hb dX2_levelRow_38 rfl (lv_at hl 0 rfl) ?_
        obtain ⟨f_8, ef_8, h⟩ := z_bd_some h
        refine g_get (ci := 2) (k := 3) (v := .ref f_8) hc hP rfl z_inX2 (by decide) wF_X2_21 (g_r_v ef_8) dX2_levelRow_39 ?_
        refine lv_iload hx hb dX2_levelRow_42 (lv_at hl 2 rfl) ?_
        refine lv_iload hx hb dX2_levelRow_44 (lv_at hl 2 rfl) ?_
        obtain ⟨S_9, eS_9, h⟩ := z_bd_some h
        refine g_iast hc hP hS eS_9 dX2_levelRow_46 (fun H locs hP hS => ?_)
        refine lv_iinc (v := (x5_5 + 1)) (lv' := [(5, .int (x5_5 + 1)), (0, .ref o), (4, .int r_4)]) hx hb dX2_levelRow_47 hl (k := 2) rfl rfl (by decide) rfl (fun ls hl => ?_)
        refine lv_goto (tgt := 25) hx hb dX2_levelRow_50 (by decide) ?_
        cases h
        exact K_25 H locs ls hP hS (lv_sub hl [1, 2, 0] rfl)
  · clear hlp hP hS hl
    intro H locs ls hP hS hl
    have hP : g_P D cs A S_7 H := hP
    have hl : lv_has ls 6 [(0, .ref o)] := hl
    refine lv_aload_n hx hb dX2_levelRow_53 rfl (lv_at hl 0 rfl) ?_
    obtain ⟨f_10, ef_10, h⟩ := z_bd_some h
    refine g_get (ci := 2) (k := 8) (v := .int f_10) hc hP rfl z_inX2 (by decide) wF_X2_41 (g_i_v ef_10) dX2_levelRow_54 ?_
    refine lv_aload_n hx hb dX2_levelRow_57 rfl (lv_at hl 0 rfl) ?_
    obtain ⟨f_11, ef_11, h⟩ := z_bd_some h
    refine g_get (ci := 2) (k := 9) (v := .int f_11) hc hP rfl z_inX2 (by decide) wF_X2_45 (g_i_v ef_11) dX2_levelRow_58 ?_
    refine lv_icmp_le (tgt := 76) hx hb dX2_levelRow_61 (by decide) (fun c_61 => ?_) (fun c_61 => ?_)
    · replace h := z_ip_ c_61 h
      refine lv_aload_n hx hb dX2_levelRow_76 rfl (lv_at hl 0 rfl) ?_
      obtain ⟨ho_77, h⟩ := z_chk_some h
      obtain ⟨vs_, ho_77⟩ := Option.isSome_iff_exists.mp ho_77
      obtain ⟨S_12, e_77, h⟩ := z_bd_some h
      refine g_callV (ci := 2) (As := []) (rv := none) (n := 0) hc hP hS rfl ho_77 (mt_X2_passThroughAll l D cs A S_7 o  e_77) wM_X2_69 wI_X2_passThroughAll wS_X2_passThroughAll wZ_X2 wC_X2_passThroughAll md_X2_passThroughAll ⟨rfl, rfl, Nat.le_of_ble_eq_true rfl, Nat.le_of_ble_eq_true rfl⟩ rfl hl.1 rfl (Nat.le_of_ble_eq_true rfl) dX2_levelRow_77 ⟨Nat.le_of_ble_eq_true rfl, Nat.le_of_ble_eq_true rfl⟩ (fun H locs hP hS => ?_)
      show W p l e (z_rmA 5 214 0 0) s m args below meth c H locs (0) (0) Q (F0 m 80 ls [])
      cases h
      rw [hQ]
      exact g_retv hc hr hlocks hP hS dX2_levelRow_80
    · replace h := z_in_ c_61 h
      refine lv_aload_n hx hb dX2_levelRow_64 rfl (lv_at hl 0 rfl) ?_
      obtain ⟨ho_65, h⟩ := z_chk_some h
      obtain ⟨vs_, ho_65⟩ := Option.isSome_iff_exists.mp ho_65
      obtain ⟨S_13, e_65, h⟩ := z_bd_some h
      refine g_callV (ci := 2) (As := []) (rv := none) (n := 0) hc hP hS rfl ho_65 (mt_X2_solve l D cs A S_7 o  e_65) wM_X2_62 wI_X2_solve wS_X2_solve wZ_X2 wC_X2_solve md_X2_solve ⟨rfl, rfl, Nat.le_of_ble_eq_true rfl, Nat.le_of_ble_eq_true rfl⟩ rfl hl.1 rfl (Nat.le_of_ble_eq_true rfl) dX2_levelRow_65 ⟨Nat.le_of_ble_eq_true rfl, Nat.le_of_ble_eq_true rfl⟩ (fun H locs hP hS => ?_)
      show W p l e (z_rmA 5 214 0 0) s m args below meth c H locs (0) (0) Q (F0 m 68 ls [])
      refine lv_aload_n hx hb dX2_levelRow_68 rfl (lv_at hl 0 rfl) ?_
      obtain ⟨ho_69, h⟩ := z_chk_some h
      obtain ⟨vs_, ho_69⟩ := Option.isSome_iff_exists.mp ho_69
      obtain ⟨r_15, S_14, e_69, h⟩ := z_bd2_some h
      refine g_callV (ci := 2) (As := []) (rv := (some (.int r_15))) (n := 0) hc hP hS rfl ho_69 (mt_X2_settle l D cs A S_13 o  e_69) wM_X2_65 wI_X2_settle wS_X2_settle wZ_X2 wC_X2_settle md_X2_settle ⟨rfl, rfl, Nat.le_of_ble_eq_true rfl, Nat.le_of_ble_eq_true rfl⟩ rfl hl.1 rfl (Nat.le_of_ble_eq_true rfl) dX2_levelRow_69 ⟨Nat.le_of_ble_eq_true rfl, Nat.le_of_ble_eq_true rfl⟩ (fun H locs hP hS => ?_)
      show W p l e (z_rmA 5 214 0 0) s m args below meth c H locs (0) (0) Q (F0 m 72 ls [.int r_15])
      refine lv_pop hx hb dX2_levelRow_72 rfl ?_
      refine lv_goto (tgt := 80) hx hb dX2_levelRow_73 (by decide) ?_
      cases h
      rw [hQ]
      exact g_retv hc hr hlocks hP hS dX2_levelRow_80
theorem md_X2_levelRow : yX2_levelRow.cls ≠ "java/lang/invoke/MethodHandle" ∧ yX2_levelRow.cls ≠ "java/lang/invoke/VarHandle" ∧ (parseMethodDescriptor yX2_levelRow.desc).map (fun d => d.parameters.length) = some 3 := by decide +kernel
noncomputable def f_X2_takeTurns_L18 (a1 : Int32) (o : Nat) (x3_4 : Int32) (x4_5 : Int32) (S_6 : GS) : Option ((GS) ⊕ (Int32 × Int32 × GS)) :=
  z_bd (g_i S_6 2 8 o) fun f_8 => if f_8 ≤ x4_5 then some (.inl (S_6)) else if (4 : Int32) ≤ x3_4 then some (.inl (S_6)) else if ((a1 >>> (x4_5 &&& 31)) &&& (1 : Int32)) = (1 : Int32) then z_bd (g_r S_6 2 3 o) fun f_9 => z_bd (g_wI S_6 f_9 x3_4 x4_5) fun S_10 => some (.inr ((x3_4 + 1), (x4_5 + 1), S_10)) else some (.inr (x3_4, (x4_5 + 1), S_6))
noncomputable def f_X2_takeTurns (S : GS) (o : Nat) (a0 : Nat) (a1 : Int32) : Option (GS) :=
  z_bd (g_r S 1 3 a0) fun f_1 => z_bd (g_i S 3 3 f_1) fun f_2 => z_chk (g_is S 2 o) (z_bd (f_X2_load S o a0 (0 : Int32) f_2) fun S_3 => z_bd (z_lp (fun x => f_X2_takeTurns_L18 a1 o x.1 x.2.1 x.2.2) ((0 : Int32), (0 : Int32), S_3)) fun S_7 => z_chk (g_is S_7 2 o) (z_bd (f_X2_solve S_7 o ) fun S_11 => some S_11))
set_option maxHeartbeats 4000000 in
set_option maxRecDepth 100000 in
theorem mt_X2_takeTurns (l : Launch) (D : va_G) (cs : Nat → ClassId) (A : Nat → Prop) (S : GS) (o : Nat) (a0 : Nat) (a1 : Int32) {N_ : GS} (h : f_X2_takeTurns S o a0 a1 = some N_) : Met l yX2_takeTurns (z_wd yX2_takeTurns cX2_takeTurns 5 none) (z_rmA 4 177 0 0) (va_Pc [.ref o, .ref a0, .int a1] (g_C D cs A S)) (g_Q none N_ D cs A) 0 0 A := by
  refine Met.ofW (cc := cX2_takeTurns) (maxL := 5) (ret := none) (by decide) rfl ?_
  intro p e s m args below meth c s₁ B hml hv
  obtain ⟨hav, hP0, hK, hN, hSt, hAn⟩ := hv
  have hx := B.exec
  have hb := B.bytes
  have hr := B.returns
  have hts := atoms_spec (ws := z_wd yX2_takeTurns cX2_takeTurns 5 none) B.pre
  have hown : s.vm.findClass RX2 = some m.cls := findClass_of_methodNamed B.named
  have hlocks := B.notSynchronized
  have hc : g_X p s m args c cX2_takeTurns 5 RX2 D cs A := ⟨⟨hx, hb, hml, fun w hw => hts w (List.mem_cons_of_mem _ hw), hown⟩, hK, hN, hSt, hAn⟩
  have hl := lv_entry ([.ref o, .ref a0, .int a1]) (n := 5) (Nat.le_of_ble_eq_true rfl)
  have hE : entryFrame m args 5 = F0 m 0 ((lg_sl ([.ref o, .ref a0, .int a1]) ++ List.replicate (5 - (lg_sl ([.ref o, .ref a0, .int a1])).length) Slot.unset).toArray) [] := by rw [hav]; exact lg_entry_eq m _ _
  rw [hE]
  clear hE hav
  generalize (lg_sl ([.ref o, .ref a0, .int a1]) ++ List.replicate (5 - (lg_sl ([.ref o, .ref a0, .int a1])).length) Slot.unset).toArray = ls at hl ⊢
  have hl : lv_has ls 5 [(0, .ref o), (1, .ref a0), (2, .int a1)] := hl
  obtain ⟨Q, hQ⟩ : ∃ Q, Q = MQ below (g_Q none N_ D cs A) args s 0 0 A := ⟨_, rfl⟩
  rw [← hQ]
  suffices hmain : ∀ (H : Heap) (locs : List Loc), g_P D cs A S H → va_S A s.heap H locs → W p l e (z_rmA 4 177 0 0) s m args below meth c H locs 0 0 Q (F0 m 0 ls []) from hmain s.heap [] hP0 va_S.rf
  clear hP0
  intro H locs hP hS
  unfold f_X2_takeTurns at h
  refine lv_aload_n hx hb dX2_takeTurns_0 rfl (lv_at hl 0 rfl) ?_
  refine lv_aload_n hx hb dX2_takeTurns_1 rfl (lv_at hl 1 rfl) ?_
  refine lv_iconst (v := 0) hx hb dX2_takeTurns_2 (by decide) ?_
  refine lv_aload_n hx hb dX2_takeTurns_3 rfl (lv_at hl 1 rfl) ?_
  obtain ⟨f_1, ef_1, h⟩ := z_bd_some h
  refine g_getN (ci := 1) (k := 3) (v := .ref f_1) hc hP rfl z_inX1 (by decide) wG_X2_72 (g_r_v ef_1) dX2_takeTurns_4 ?_
  obtain ⟨f_2, ef_2, h⟩ := z_bd_some h
  refine g_getN (ci := 3) (k := 3) (v := .int f_2) hc hP rfl z_inX3 (by decide) wG_X2_78 (g_i_v ef_2) dX2_takeTurns_7 ?_
  obtain ⟨ho_10, h⟩ := z_chk_some h
  obtain ⟨vs_, ho_10⟩ := Option.isSome_iff_exists.mp ho_10
  obtain ⟨S_3, e_10, h⟩ := z_bd_some h
  refine g_callV (ci := 2) (As := [.ref a0, .int (0 : Int32), .int f_2]) (rv := none) (n := 3) hc hP hS rfl ho_10 (mt_X2_load l D cs A S o a0 (0 : Int32) f_2 e_10) wM_X2_52 wI_X2_load wS_X2_load wZ_X2 wC_X2_load md_X2_load ⟨rfl, rfl, Nat.le_of_ble_eq_true rfl, Nat.le_of_ble_eq_true rfl⟩ rfl hl.1 rfl (Nat.le_of_ble_eq_true rfl) dX2_takeTurns_10 ⟨Nat.le_of_ble_eq_true rfl, Nat.le_of_ble_eq_true rfl⟩ (fun H locs hP hS => ?_)
  show W p l e (z_rmA 4 177 0 0) s m args below meth c H locs (0) (0) Q (F0 m 13 ls [])
  refine lv_iconst (v := 0) hx hb dX2_takeTurns_13 (by decide) ?_
  refine lv_istore_n (lv' := [(3, .int (0 : Int32)), (0, .ref o), (1, .ref a0), (2, .int a1)]) hx hb dX2_takeTurns_14 rfl hl (by decide) rfl (fun ls hl => ?_)
  refine lv_iconst (v := 0) hx hb dX2_takeTurns_15 (by decide) ?_
  refine lv_istore (lv' := [(4, .int (0 : Int32)), (3, .int (0 : Int32)), (0, .ref o), (1, .ref a0), (2, .int a1)]) hx hb dX2_takeTurns_16 hl (by decide) rfl (fun ls hl => ?_)
  obtain ⟨S_7, hlp, h⟩ := z_bd_some h
  refine z_lp_ind (P := fun x => ∀ (H : Heap) (locs : List Loc) (ls : Array Slot), g_P D cs A x.2.2 H → va_S A s.heap H locs → lv_has ls 5 [(0, .ref o), (2, .int a1), (3, .int x.1), (4, .int x.2.1)] → W p l e (z_rmA 4 177 0 0) s m args below meth c H locs (0) (0) Q (F0 m 18 ls [])) (Qe := fun y => ∀ (H : Heap) (locs : List Loc) (ls : Array Slot), g_P D cs A y H → va_S A s.heap H locs → lv_has ls 5 [(0, .ref o)] → W p l e (z_rmA 4 177 0 0) s m args below meth c H locs (0) (0) Q (F0 m 59 ls [])) ?_ hlp ?_ H locs ls hP hS (lv_sub hl [2, 4, 1, 0] rfl)
  · clear h hlp hP hS hl
    rintro ⟨x3_4, x4_5, S_6⟩ oo h K_18 H locs ls hP hS hl
    have hP : g_P D cs A S_6 H := hP
    have hl : lv_has ls 5 [(0, .ref o), (2, .int a1), (3, .int x3_4), (4, .int x4_5)] := hl
    have h : f_X2_takeTurns_L18 a1 o x3_4 x4_5 S_6 = some oo := h
    unfold f_X2_takeTurns_L18 at h
    refine lv_iload hx hb dX2_takeTurns_18 (lv_at hl 3 rfl) ?_
    refine lv_aload_n hx hb dX2_takeTurns_20 rfl (lv_at hl 0 rfl) ?_
    obtain ⟨f_8, ef_8, h⟩ := z_bd_some h
    refine g_get (ci := 2) (k := 8) (v := .int f_8) hc hP rfl z_inX2 (by decide) wF_X2_41 (g_i_v ef_8) dX2_takeTurns_21 ?_
    refine lv_icmp_ge (tgt := 59) hx hb dX2_takeTurns_24 (by decide) (fun c_24 => ?_) (fun c_24 => ?_)
    · replace h := z_ip_ c_24 h
      cases h
      exact K_18 H locs ls hP hS (lv_sub hl [0] rfl)
    · replace h := z_in_ c_24 h
      refine lv_iload_n hx hb dX2_takeTurns_27 rfl (lv_at hl 2 rfl) ?_
      refine lv_iconst (v := 4) hx hb dX2_takeTurns_28 (by decide) ?_
      refine lv_icmp_ge (tgt := 59) hx hb dX2_takeTurns_29 (by decide) (fun c_29 => ?_) (fun c_29 => ?_)
      · replace h := z_ip_ c_29 h
        cases h
        exact K_18 H locs ls hP hS (lv_sub hl [0] rfl)
      · replace h := z_in_ c_29 h
        refine lv_iload_n hx hb dX2_takeTurns_32 rfl (lv_at hl 1 rfl) ?_
        refine lv_iload hx hb dX2_takeTurns_33 (lv_at hl 3 rfl) ?_
        refine lv_ishr hx hb dX2_takeTurns_35 ?_
        refine lv_iconst (v := 1) hx hb dX2_takeTurns_36 (by decide) ?_
        refine lv_iand hx hb dX2_takeTurns_37 ?_
        refine lv_iconst (v := 1) hx hb dX2_takeTurns_38 (by decide) ?_
        refine lv_icmp_ne (tgt := 53) hx hb dX2_takeTurns_39 (by decide) (fun c_39 => ?_) (fun c_39 => ?_)
        · replace h := z_in_ c_39 h
          refine lv_iinc (v := (x4_5 + 1)) (lv' := [(4, .int (x4_5 + 1)), (0, .ref o), (2, .int a1), (3, .int x3_4)]) hx hb dX2_takeTurns_53 hl (k := 3) rfl rfl (by decide) rfl (fun ls hl => ?_)
          refine lv_goto (tgt := 18) hx hb dX2_takeTurns_56 (by decide) ?_
          cases h
          exact K_18 H locs ls hP hS (lv_sub hl [1, 2, 3, 0] rfl)
        · replace h := z_ip_ c_39 h
          refine lv_aload_n hx hb dX2_takeTurns_42 rfl (lv_at hl 0 rfl) ?_
          obtain ⟨f_9, ef_9, h⟩ := z_bd_some h
          refine g_get (ci := 2) (k := 3) (v := .ref f_9) hc hP rfl z_inX2 (by decide) wF_X2_21 (g_r_v ef_9) dX2_takeTurns_43 ?_
          refine lv_iload_n hx hb dX2_takeTurns_46 rfl (lv_at hl 2 rfl) ?_
          refine lv_iload hx hb dX2_takeTurns_47 (lv_at hl 3 rfl) ?_
          obtain ⟨S_10, eS_10, h⟩ := z_bd_some h
          refine g_iast hc hP hS eS_10 dX2_takeTurns_49 (fun H locs hP hS => ?_)
          refine lv_iinc (v := (x3_4 + 1)) (lv' := [(3, .int (x3_4 + 1)), (0, .ref o), (2, .int a1), (4, .int x4_5)]) hx hb dX2_takeTurns_50 hl (k := 2) rfl rfl (by decide) rfl (fun ls hl => ?_)
          refine lv_iinc (v := (x4_5 + 1)) (lv' := [(4, .int (x4_5 + 1)), (3, .int (x3_4 + 1)), (0, .ref o), (2, .int a1)]) hx hb dX2_takeTurns_53 hl (k := 3) rfl rfl (by decide) rfl (fun ls hl => ?_)
          refine lv_goto (tgt := 18) hx hb dX2_takeTurns_56 (by decide) ?_
          cases h
          exact K_18 H locs ls hP hS (lv_sub hl [2, 3, 1, 0] rfl)
  · clear hlp hP hS hl
    intro H locs ls hP hS hl
    have hP : g_P D cs A S_7 H := hP
    have hl : lv_has ls 5 [(0, .ref o)] := hl
    refine lv_aload_n hx hb dX2_takeTurns_59 rfl (lv_at hl 0 rfl) ?_
    obtain ⟨ho_60, h⟩ := z_chk_some h
    obtain ⟨vs_, ho_60⟩ := Option.isSome_iff_exists.mp ho_60
    obtain ⟨S_11, e_60, h⟩ := z_bd_some h
    refine g_callV (ci := 2) (As := []) (rv := none) (n := 0) hc hP hS rfl ho_60 (mt_X2_solve l D cs A S_7 o  e_60) wM_X2_62 wI_X2_solve wS_X2_solve wZ_X2 wC_X2_solve md_X2_solve ⟨rfl, rfl, Nat.le_of_ble_eq_true rfl, Nat.le_of_ble_eq_true rfl⟩ rfl hl.1 rfl (Nat.le_of_ble_eq_true rfl) dX2_takeTurns_60 ⟨Nat.le_of_ble_eq_true rfl, Nat.le_of_ble_eq_true rfl⟩ (fun H locs hP hS => ?_)
    show W p l e (z_rmA 4 177 0 0) s m args below meth c H locs (0) (0) Q (F0 m 63 ls [])
    cases h
    rw [hQ]
    exact g_retv hc hr hlocks hP hS dX2_takeTurns_63
theorem md_X2_takeTurns : yX2_takeTurns.cls ≠ "java/lang/invoke/MethodHandle" ∧ yX2_takeTurns.cls ≠ "java/lang/invoke/VarHandle" ∧ (parseMethodDescriptor yX2_takeTurns.desc).map (fun d => d.parameters.length) = some 2 := by decide +kernel
