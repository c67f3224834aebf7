noncomputable def f_X1_addPart (S : GS) (o : Nat) (a0 : Int32) : Option ((Option Nat) × GS) :=
  z_lt (g_nw S (.inr (.inr (.inr (4, [.long 0, .long 0, .long 0, .long 0]))))) fun S_1 => z_bd (f_X4_init S_1 S.2 ) fun S_2 => z_bd (g_i S_2 1 6 o) fun f_3 => z_bd (g_r S_2 1 4 o) fun f_4 => z_bd (g_lQ S_2 3 f_4) fun n_5 => if n_5 ≤ f_3 then some ((some S.2), S_2) else z_bd (g_r S_2 1 4 o) fun f_6 => z_bd (g_i S_2 1 6 o) fun f_7 => z_chk (g_is S_2 4 S.2) (z_bd (g_wQ S_2 3 f_6 f_7 (some S.2)) fun S_8 => z_bd (g_r S_8 1 5 o) fun f_9 => z_bd (g_i S_8 1 6 o) fun f_10 => z_bd (g_wI S_8 f_9 f_10 a0) fun S_11 => z_bd (g_i S_11 1 6 o) fun f_12 => z_bd (g_put S_11 1 6 o (.int (f_12 + (1 : Int32)))) fun S_13 => some ((some S.2), S_13))
set_option maxHeartbeats 4000000 in
set_option maxRecDepth 100000 in
theorem mt_X1_addPart (l : Launch) (D : va_G) (cs : Nat → ClassId) (A : Nat → Prop) (S : GS) (o : Nat) (a0 : Int32) {r_ : Option Nat} {N_ : GS} (h : f_X1_addPart S o a0 = some (r_, N_)) : Met l yX1_addPart (z_wd yX1_addPart cX1_addPart 3 (some (.object "LevelFits$Polynomial"))) (z_rmA 2 76 1 4) (va_Pc [.ref o, .int a0] (g_C D cs A S)) (g_Q (some (va_rf r_)) N_ D cs A) 1 4 A := by
  refine Met.ofW (cc := cX1_addPart) (maxL := 3) (ret := (some (.object "LevelFits$Polynomial"))) (by decide) rfl ?_
  intro p e s m args below meth c s₁ B hml hv
  obtain ⟨hav, hP0, hK, hN, hSt, hAn⟩ := hv
  have hx := B.exec
  have hb := B.bytes
  have hr := B.returns
  have hts := atoms_spec (ws := z_wd yX1_addPart cX1_addPart 3 (some (.object "LevelFits$Polynomial"))) B.pre
  have hown : s.vm.findClass RX1 = some m.cls := findClass_of_methodNamed B.named
  have hlocks := B.notSynchronized
  have hc : g_X p s m args c cX1_addPart 3 RX1 D cs A := ⟨⟨hx, hb, hml, fun w hw => hts w (List.mem_cons_of_mem _ hw), hown⟩, hK, hN, hSt, hAn⟩
  have hl := lv_entry ([.ref o, .int a0]) (n := 3) (Nat.le_of_ble_eq_true rfl)
  have hE : entryFrame m args 3 = F0 m 0 ((lg_sl ([.ref o, .int a0]) ++ List.replicate (3 - (lg_sl ([.ref o, .int a0])).length) Slot.unset).toArray) [] := by rw [hav]; exact lg_entry_eq m _ _
  rw [hE]
  clear hE hav
  generalize (lg_sl ([.ref o, .int a0]) ++ List.replicate (3 - (lg_sl ([.ref o, .int a0])).length) Slot.unset).toArray = ls at hl ⊢
  have hl : lv_has ls 3 [(0, .ref o), (1, .int a0)] := hl
  obtain ⟨Q, hQ⟩ : ∃ Q, Q = MQ below (g_Q (some (va_rf r_)) N_ D cs A) args s 1 4 A := ⟨_, rfl⟩
  rw [← hQ]
  suffices hmain : ∀ (H : Heap) (locs : List Loc), g_P D cs A S H → va_S A s.heap H locs → W p l e (z_rmA 2 76 1 4) s m args below meth c H locs 0 0 Q (F0 m 0 ls []) from hmain s.heap [] hP0 va_S.rf
  clear hP0
  intro H locs hP hS
  unfold f_X1_addPart at h
  obtain ⟨S_1, eS_1, h⟩ := z_lt_some h
  refine g_new (ci := 4) tyX4 hc hP hS rfl z_inX4 tyX4_ok wK_X1_36 wN_X4 wZ_X4 gd_4 (Nat.le_of_ble_eq_true rfl) (Nat.le_of_ble_eq_true rfl) eS_1 dX1_addPart_0 (fun H hP hS => ?_)
  show W p l e (z_rmA 2 76 1 4) s m args below meth c H locs (1) (4) Q (F0 m 3 ls [.ref S.2])
  refine lv_dup hx hb dX1_addPart_3 rfl ?_
  obtain ⟨S_2, e_4, h⟩ := z_bd_some h
  refine g_callIN (As := []) (rv := none) (n := 0) hc hP hS (mt_X4_init l D cs A S_1 S.2  e_4) wH_X1_46 wI_X4_init rfl wZ_X4 wC_X4_init md_X4_init ⟨rfl, rfl, Nat.le_of_ble_eq_true rfl, Nat.le_of_ble_eq_true rfl⟩ rfl hl.1 rfl (Nat.le_of_ble_eq_true rfl) dX1_addPart_4 ⟨Nat.le_of_ble_eq_true rfl, Nat.le_of_ble_eq_true rfl⟩ (fun H locs hP hS => ?_)
  show W p l e (z_rmA 2 76 1 4) s m args below meth c H locs (1) (4) Q (F0 m 7 ls [.ref S.2])
  refine lv_astore_n (lv' := [(2, .ref S.2), (0, .ref o), (1, .int a0)]) hx hb dX1_addPart_7 rfl hl (by decide) rfl (fun ls hl => ?_)
  refine lv_aload_n hx hb dX1_addPart_8 rfl (lv_at hl 1 rfl) ?_
  obtain ⟨f_3, ef_3, h⟩ := z_bd_some h
  refine g_get (ci := 1) (k := 6) (v := .int f_3) hc hP rfl z_inX1 (by decide) wF_X1_47 (g_i_v ef_3) dX1_addPart_9 ?_
  refine lv_aload_n hx hb dX1_addPart_12 rfl (lv_at hl 1 rfl) ?_
  obtain ⟨f_4, ef_4, h⟩ := z_bd_some h
  refine g_get (ci := 1) (k := 4) (v := .ref f_4) hc hP rfl z_inX1 (by decide) wF_X1_38 (g_r_v ef_4) dX1_addPart_13 ?_
  obtain ⟨n_5, en_5, h⟩ := z_bd_some h
  refine g_alenQ (t := 3) hc hP rfl en_5 dX1_addPart_16 ?_
  refine lv_icmp_ge (tgt := 50) hx hb dX1_addPart_17 (by decide) (fun c_17 => ?_) (fun c_17 => ?_)
  · replace h := z_ip_ c_17 h
    refine lv_aload_n hx hb dX1_addPart_50 rfl (lv_at hl 0 rfl) ?_
    cases h
    rw [hQ]
    exact g_retq (r := some _) hc hr hlocks hP hS dX1_addPart_51
  · replace h := z_in_ c_17 h
    refine lv_aload_n hx hb dX1_addPart_20 rfl (lv_at hl 1 rfl) ?_
    obtain ⟨f_6, ef_6, h⟩ := z_bd_some h
    refine g_get (ci := 1) (k := 4) (v := .ref f_6) hc hP rfl z_inX1 (by decide) wF_X1_38 (g_r_v ef_6) dX1_addPart_21 ?_
    refine lv_aload_n hx hb dX1_addPart_24 rfl (lv_at hl 1 rfl) ?_
    obtain ⟨f_7, ef_7, h⟩ := z_bd_some h
    refine g_get (ci := 1) (k := 6) (v := .int f_7) hc hP rfl z_inX1 (by decide) wF_X1_47 (g_i_v ef_7) dX1_addPart_25 ?_
    refine lv_aload_n hx hb dX1_addPart_28 rfl (lv_at hl 0 rfl) ?_
    obtain ⟨ho_29, h⟩ := z_chk_some h
    obtain ⟨vs_, ho_29⟩ := Option.isSome_iff_exists.mp ho_29
    obtain ⟨S_8, eS_8, h⟩ := z_bd_some h
    refine g_aast (t := 3) (ci := 4) hc hP hS rfl rfl ho_29 eS_8 dX1_addPart_29 (fun H locs hP hS => ?_)
    refine lv_aload_n hx hb dX1_addPart_30 rfl (lv_at hl 1 rfl) ?_
    obtain ⟨f_9, ef_9, h⟩ := z_bd_some h
    refine g_get (ci := 1) (k := 5) (v := .ref f_9) hc hP rfl z_inX1 (by decide) wF_X1_42 (g_r_v ef_9) dX1_addPart_31 ?_
    refine lv_aload_n hx hb dX1_addPart_34 rfl (lv_at hl 1 rfl) ?_
    obtain ⟨f_10, ef_10, h⟩ := z_bd_some h
    refine g_get (ci := 1) (k := 6) (v := .int f_10) hc hP rfl z_inX1 (by decide) wF_X1_47 (g_i_v ef_10) dX1_addPart_35 ?_
    refine lv_iload_n hx hb dX1_addPart_38 rfl (lv_at hl 2 rfl) ?_
    obtain ⟨S_11, eS_11, h⟩ := z_bd_some h
    refine g_iast hc hP hS eS_11 dX1_addPart_39 (fun H locs hP hS => ?_)
    refine lv_aload_n hx hb dX1_addPart_40 rfl (lv_at hl 1 rfl) ?_
    refine lv_dup hx hb dX1_addPart_41 rfl ?_
    obtain ⟨f_12, ef_12, h⟩ := z_bd_some h
    refine g_get (ci := 1) (k := 6) (v := .int f_12) hc hP rfl z_inX1 (by decide) wF_X1_47 (g_i_v ef_12) dX1_addPart_42 ?_
    refine lv_iconst (v := 1) hx hb dX1_addPart_45 (by decide) ?_
    refine lv_iadd hx hb dX1_addPart_46 ?_
    obtain ⟨S_13, eS_13, h⟩ := z_bd_some h
    refine g_putf (ci := 1) (k := 6) (ty := .int) tyX1 hc hP hS rfl z_inX1 tyX1_ok nmX1 (by decide) wF_X1_47 rfl (by decide +kernel) rfl rfl eS_13 dX1_addPart_47 (fun H locs hP hS => ?_)
    refine lv_aload_n hx hb dX1_addPart_50 rfl (lv_at hl 0 rfl) ?_
    cases h
    rw [hQ]
    exact g_retq (r := some _) hc hr hlocks hP hS dX1_addPart_51
theorem md_X1_addPart : yX1_addPart.cls ≠ "java/lang/invoke/MethodHandle" ∧ yX1_addPart.cls ≠ "java/lang/invoke/VarHandle" ∧ (parseMethodDescriptor yX1_addPart.desc).map (fun d => d.parameters.length) = some 1 := by decide +kernel
noncomputable def f_X1_hasPart (S : GS) (o : Nat) (a0 : Int32) : Option (Int32) :=
  if a0 < 0 then some (0 : Int32) else z_bd (g_i S 1 6 o) fun f_1 => if f_1 ≤ a0 then some (0 : Int32) else some (1 : Int32)
set_option maxHeartbeats 4000000 in
set_option maxRecDepth 100000 in
theorem mt_X1_hasPart (l : Launch) (D : va_G) (cs : Nat → ClassId) (A : Nat → Prop) (S : GS) (o : Nat) (a0 : Int32) {r_ : Int32} (h : f_X1_hasPart S o a0 = some r_) : Met l yX1_hasPart (z_wd yX1_hasPart cX1_hasPart 2 (some .boolean)) (z_rmA 0 0 0 0) (va_Pc [.ref o, .int a0] (g_C D cs A S)) (g_Q (some (.int r_)) S D cs A) 0 0 A := by
  refine Met.ofW (cc := cX1_hasPart) (maxL := 2) (ret := (some .boolean)) (by decide) rfl ?_
  intro p e s m args below meth c s₁ B hml hv
  obtain ⟨hav, hP0, hK, hN, hSt, hAn⟩ := hv
  have hx := B.exec
  have hb := B.bytes
  have hr := B.returns
  have hts := atoms_spec (ws := z_wd yX1_hasPart cX1_hasPart 2 (some .boolean)) B.pre
  have hown : s.vm.findClass RX1 = some m.cls := findClass_of_methodNamed B.named
  have hlocks := B.notSynchronized
  have hc : g_X p s m args c cX1_hasPart 2 RX1 D cs A := ⟨⟨hx, hb, hml, fun w hw => hts w (List.mem_cons_of_mem _ hw), hown⟩, hK, hN, hSt, hAn⟩
  have hl := lv_entry ([.ref o, .int a0]) (n := 2) (Nat.le_of_ble_eq_true rfl)
  have hE : entryFrame m args 2 = F0 m 0 ((lg_sl ([.ref o, .int a0]) ++ List.replicate (2 - (lg_sl ([.ref o, .int a0])).length) Slot.unset).toArray) [] := by rw [hav]; exact lg_entry_eq m _ _
  rw [hE]
  clear hE hav
  generalize (lg_sl ([.ref o, .int a0]) ++ List.replicate (2 - (lg_sl ([.ref o, .int a0])).length) Slot.unset).toArray = ls at hl ⊢
  have hl : lv_has ls 2 [(0, .ref o), (1, .int a0)] := hl
  obtain ⟨Q, hQ⟩ : ∃ Q, Q = MQ below (g_Q (some (.int r_)) S D cs A) args s 0 0 A := ⟨_, rfl⟩
  rw [← hQ]
  suffices hmain : ∀ (H : Heap) (locs : List Loc), g_P D cs A S H → va_S A s.heap H locs → W p l e (z_rmA 0 0 0 0) s m args below meth c H locs 0 0 Q (F0 m 0 ls []) from hmain s.heap [] hP0 va_S.rf
  clear hP0
  intro H locs hP hS
  unfold f_X1_hasPart at h
  refine lv_iload_n hx hb dX1_hasPart_0 rfl (lv_at hl 1 rfl) ?_
  refine lv_if_lt (tgt := 16) hx hb dX1_hasPart_1 (by decide) (fun c_1 => ?_) (fun c_1 => ?_)
  · replace h := z_ip_ c_1 h
    refine lv_iconst (v := 0) hx hb dX1_hasPart_16 (by decide) ?_
    cases h
    rw [hQ]
    exact g_retz hc hr hlocks (by decide) hP hS dX1_hasPart_17
  · replace h := z_in_ c_1 h
    refine lv_iload_n hx hb dX1_hasPart_4 rfl (lv_at hl 1 rfl) ?_
    refine lv_aload_n hx hb dX1_hasPart_5 rfl (lv_at hl 0 rfl) ?_
    obtain ⟨f_1, ef_1, h⟩ := z_bd_some h
    refine g_get (ci := 1) (k := 6) (v := .int f_1) hc hP rfl z_inX1 (by decide) wF_X1_47 (g_i_v ef_1) dX1_hasPart_6 ?_
    refine lv_icmp_ge (tgt := 16) hx hb dX1_hasPart_9 (by decide) (fun c_9 => ?_) (fun c_9 => ?_)
    · replace h := z_ip_ c_9 h
      refine lv_iconst (v := 0) hx hb dX1_hasPart_16 (by decide) ?_
      cases h
      rw [hQ]
      exact g_retz hc hr hlocks (by decide) hP hS dX1_hasPart_17
    · replace h := z_in_ c_9 h
      refine lv_iconst (v := 1) hx hb dX1_hasPart_12 (by decide) ?_
      refine lv_goto (tgt := 17) hx hb dX1_hasPart_13 (by decide) ?_
      cases h
      rw [hQ]
      exact g_retz hc hr hlocks (by decide) hP hS dX1_hasPart_17
theorem md_X1_hasPart : yX1_hasPart.cls ≠ "java/lang/invoke/MethodHandle" ∧ yX1_hasPart.cls ≠ "java/lang/invoke/VarHandle" ∧ (parseMethodDescriptor yX1_hasPart.desc).map (fun d => d.parameters.length) = some 1 := by decide +kernel
noncomputable def f_X1_partFor_L4 (S : GS) (a0 : Int32) (o : Nat) (x2_1 : Int32) (x3_2 : Int32) : Option ((Int32) ⊕ (Int32 × Int32)) :=
  z_bd (g_i S 1 6 o) fun f_4 => if f_4 ≤ x3_2 then some (.inl (x2_1)) else z_bd (g_r S 1 3 o) fun f_5 => z_bd (g_r S 3 0 f_5) fun f_6 => z_bd (g_r S 1 5 o) fun f_7 => z_bd (g_rI S f_7 x3_2) fun v_8 => z_bd (g_rI S f_6 v_8) fun v_9 => if a0 < v_9 then some (.inr (x2_1, (x3_2 + 1))) else some (.inr (x3_2, (x3_2 + 1)))
noncomputable def f_X1_partFor (S : GS) (o : Nat) (a0 : Int32) : Option (Option Nat) :=
  z_bd (z_lp (fun x => f_X1_partFor_L4 S a0 o x.1 x.2) ((0 : Int32), (1 : Int32))) fun y2_3 => z_bd (g_r S 1 4 o) fun f_10 => z_bd (g_rQ S 3 f_10 y2_3) fun q_11 => some q_11
set_option maxHeartbeats 4000000 in
set_option maxRecDepth 100000 in
theorem mt_X1_partFor (l : Launch) (D : va_G) (cs : Nat → ClassId) (A : Nat → Prop) (S : GS) (o : Nat) (a0 : Int32) {r_ : Option Nat} (h : f_X1_partFor S o a0 = some r_) : Met l yX1_partFor (z_wd yX1_partFor cX1_partFor 4 (some (.object "LevelFits$Polynomial"))) (z_rmA 0 0 0 0) (va_Pc [.ref o, .int a0] (g_C D cs A S)) (g_Q (some (va_rf r_)) S D cs A) 0 0 A := by
  refine Met.ofW (cc := cX1_partFor) (maxL := 4) (ret := (some (.object "LevelFits$Polynomial"))) (by decide) rfl ?_
  intro p e s m args below meth c s₁ B hml hv
  obtain ⟨hav, hP0, hK, hN, hSt, hAn⟩ := hv
  have hx := B.exec
  have hb := B.bytes
  have hr := B.returns
  have hts := atoms_spec (ws := z_wd yX1_partFor cX1_partFor 4 (some (.object "LevelFits$Polynomial"))) B.pre
  have hown : s.vm.findClass RX1 = some m.cls := findClass_of_methodNamed B.named
  have hlocks := B.notSynchronized
  have hc : g_X p s m args c cX1_partFor 4 RX1 D cs A := ⟨⟨hx, hb, hml, fun w hw => hts w (List.mem_cons_of_mem _ hw), hown⟩, hK, hN, hSt, hAn⟩
  have hl := lv_entry ([.ref o, .int a0]) (n := 4) (Nat.le_of_ble_eq_true rfl)
  have hE : entryFrame m args 4 = F0 m 0 ((lg_sl ([.ref o, .int a0]) ++ List.replicate (4 - (lg_sl ([.ref o, .int a0])).length) Slot.unset).toArray) [] := by rw [hav]; exact lg_entry_eq m _ _
  rw [hE]
  clear hE hav
  generalize (lg_sl ([.ref o, .int a0]) ++ List.replicate (4 - (lg_sl ([.ref o, .int a0])).length) Slot.unset).toArray = ls at hl ⊢
  have hl : lv_has ls 4 [(0, .ref o), (1, .int a0)] := hl
  obtain ⟨Q, hQ⟩ : ∃ Q, Q = MQ below (g_Q (some (va_rf r_)) S D cs A) args s 0 0 A := ⟨_, rfl⟩
  rw [← hQ]
  suffices hmain : ∀ (H : Heap) (locs : List Loc), g_P D cs A S H → va_S A s.heap H locs → W p l e (z_rmA 0 0 0 0) s m args below meth c H locs 0 0 Q (F0 m 0 ls []) from hmain s.heap [] hP0 va_S.rf
  clear hP0
  intro H locs hP hS
  unfold f_X1_partFor at h
  refine lv_iconst (v := 0) hx hb dX1_partFor_0 (by decide) ?_
  refine lv_istore_n (lv' := [(2, .int (0 : Int32)), (0, .ref o), (1, .int a0)]) hx hb dX1_partFor_1 rfl hl (by decide) rfl (fun ls hl => ?_)
  refine lv_iconst (v := 1) hx hb dX1_partFor_2 (by decide) ?_
  refine lv_istore_n (lv' := [(3, .int (1 : Int32)), (2, .int (0 : Int32)), (0, .ref o), (1, .int a0)]) hx hb dX1_partFor_3 rfl hl (by decide) rfl (fun ls hl => ?_)
  obtain ⟨y2_3, hlp, h⟩ := z_bd_some h
  refine z_lp_ind (P := fun x => ∀ (H : Heap) (locs : List Loc) (ls : Array Slot), g_P D cs A S H → va_S A s.heap H locs → lv_has ls 4 [(0, .ref o), (1, .int a0), (2, .int x.1), (3, .int x.2)] → W p l e (z_rmA 0 0 0 0) s m args below meth c H locs (0) (0) Q (F0 m 4 ls [])) (Qe := fun y => ∀ (H : Heap) (locs : List Loc) (ls : Array Slot), g_P D cs A S H → va_S A s.heap H locs → lv_has ls 4 [(0, .ref o), (2, .int y)] → W p l e (z_rmA 0 0 0 0) s m args below meth c H locs (0) (0) Q (F0 m 38 ls [])) ?_ hlp ?_ H locs ls hP hS (lv_sub hl [2, 3, 1, 0] rfl)
  · clear h hlp hP hS hl
    rintro ⟨x2_1, x3_2⟩ oo h K_4 H locs ls hP hS hl
    have hP : g_P D cs A S H := hP
    have hl : lv_has ls 4 [(0, .ref o), (1, .int a0), (2, .int x2_1), (3, .int x3_2)] := hl
    have h : f_X1_partFor_L4 S a0 o x2_1 x3_2 = some oo := h
    unfold f_X1_partFor_L4 at h
    refine lv_iload_n hx hb dX1_partFor_4 rfl (lv_at hl 3 rfl) ?_
    refine lv_aload_n hx hb dX1_partFor_5 rfl (lv_at hl 0 rfl) ?_
    obtain ⟨f_4, ef_4, h⟩ := z_bd_some h
    refine g_get (ci := 1) (k := 6) (v := .int f_4) hc hP rfl z_inX1 (by decide) wF_X1_47 (g_i_v ef_4) dX1_partFor_6 ?_
    refine lv_icmp_ge (tgt := 38) hx hb dX1_partFor_9 (by decide) (fun c_9 => ?_) (fun c_9 => ?_)
    · replace h := z_ip_ c_9 h
      cases h
      exact K_4 H locs ls hP hS (lv_sub hl [0, 2] rfl)
    · replace h := z_in_ c_9 h
      refine lv_aload_n hx hb dX1_partFor_12 rfl (lv_at hl 0 rfl) ?_
      obtain ⟨f_5, ef_5, h⟩ := z_bd_some h
      refine g_get (ci := 1) (k := 3) (v := .ref f_5) hc hP rfl z_inX1 (by decide) wF_X1_21 (g_r_v ef_5) dX1_partFor_13 ?_
      obtain ⟨f_6, ef_6, h⟩ := z_bd_some h
      refine g_getN (ci := 3) (k := 0) (v := .ref f_6) hc hP rfl z_inX3 (by decide) wG_X1_50 (g_r_v ef_6) dX1_partFor_16 ?_
      refine lv_aload_n hx hb dX1_partFor_19 rfl (lv_at hl 0 rfl) ?_
      obtain ⟨f_7, ef_7, h⟩ := z_bd_some h
      refine g_get (ci := 1) (k := 5) (v := .ref f_7) hc hP rfl z_inX1 (by decide) wF_X1_42 (g_r_v ef_7) dX1_partFor_20 ?_
      refine lv_iload_n hx hb dX1_partFor_23 rfl (lv_at hl 3 rfl) ?_
      obtain ⟨v_8, ev_8, h⟩ := z_bd_some h
      refine g_iald hc hP ev_8 dX1_partFor_24 ?_
      obtain ⟨v_9, ev_9, h⟩ := z_bd_some h
      refine g_iald hc hP ev_9 dX1_partFor_25 ?_
      refine lv_iload_n hx hb dX1_partFor_26 rfl (lv_at hl 1 rfl) ?_
      refine lv_icmp_gt (tgt := 32) hx hb dX1_partFor_27 (by decide) (fun c_27 => ?_) (fun c_27 => ?_)
      · replace h := z_ip_ c_27 h
        refine lv_iinc (v := (x3_2 + 1)) (lv' := [(3, .int (x3_2 + 1)), (0, .ref o), (1, .int a0), (2, .int x2_1)]) hx hb dX1_partFor_32 hl (k := 3) rfl rfl (by decide) rfl (fun ls hl => ?_)
        refine lv_goto (tgt := 4) hx hb dX1_partFor_35 (by decide) ?_
        cases h
        exact K_4 H locs ls hP hS (lv_sub hl [1, 2, 3, 0] rfl)
      · replace h := z_in_ c_27 h
        refine lv_iload_n hx hb dX1_partFor_30 rfl (lv_at hl 3 rfl) ?_
        refine lv_istore_n (lv' := [(2, .int x3_2), (0, .ref o), (1, .int a0), (3, .int x3_2)]) hx hb dX1_partFor_31 rfl hl (by decide) rfl (fun ls hl => ?_)
        refine lv_iinc (v := (x3_2 + 1)) (lv' := [(3, .int (x3_2 + 1)), (2, .int x3_2), (0, .ref o), (1, .int a0)]) hx hb dX1_partFor_32 hl (k := 3) rfl rfl (by decide) rfl (fun ls hl => ?_)
        refine lv_goto (tgt := 4) hx hb dX1_partFor_35 (by decide) ?_
        cases h
        exact K_4 H locs ls hP hS (lv_sub hl [2, 3, 1, 0] rfl)
  · clear hlp hP hS hl
    intro H locs ls hP hS hl
    have hP : g_P D cs A S H := hP
    have hl : lv_has ls 4 [(0, .ref o), (2, .int y2_3)] := hl
    refine lv_aload_n hx hb dX1_partFor_38 rfl (lv_at hl 0 rfl) ?_
    obtain ⟨f_10, ef_10, h⟩ := z_bd_some h
    refine g_get (ci := 1) (k := 4) (v := .ref f_10) hc hP rfl z_inX1 (by decide) wF_X1_38 (g_r_v ef_10) dX1_partFor_39 ?_
    refine lv_iload_n hx hb dX1_partFor_42 rfl (lv_at hl 1 rfl) ?_
    obtain ⟨q_11, eq_11, h⟩ := z_bd_some h
    refine g_aald (t := 3) hc hP rfl eq_11 dX1_partFor_43 ?_
    cases h
    rw [hQ]
    exact g_retq hc hr hlocks hP hS dX1_partFor_44
theorem md_X1_partFor : yX1_partFor.cls ≠ "java/lang/invoke/MethodHandle" ∧ yX1_partFor.cls ≠ "java/lang/invoke/VarHandle" ∧ (parseMethodDescriptor yX1_partFor.desc).map (fun d => d.parameters.length) = some 1 := by decide +kernel
noncomputable def f_X3_has (S : GS) (o : Nat) (a0 : Int32) : Option (Int32) :=
  if a0 < 0 then some (0 : Int32) else z_bd (g_i S 3 3 o) fun f_1 => if f_1 ≤ a0 then some (0 : Int32) else some (1 : Int32)
set_option maxHeartbeats 4000000 in
set_option maxRecDepth 100000 in
theorem mt_X3_has (l : Launch) (D : va_G) (cs : Nat → ClassId) (A : Nat → Prop) (S : GS) (o : Nat) (a0 : Int32) {r_ : Int32} (h : f_X3_has S o a0 = some r_) : Met l yX3_has (z_wd yX3_has cX3_has 2 (some .boolean)) (z_rmA 0 0 0 0) (va_Pc [.ref o, .int a0] (g_C D cs A S)) (g_Q (some (.int r_)) S D cs A) 0 0 A := by
  refine Met.ofW (cc := cX3_has) (maxL := 2) (ret := (some .boolean)) (by decide) rfl ?_
  intro p e s m args below meth c s₁ B hml hv
  obtain ⟨hav, hP0, hK, hN, hSt, hAn⟩ := hv
  have hx := B.exec
  have hb := B.bytes
  have hr := B.returns
  have hts := atoms_spec (ws := z_wd yX3_has cX3_has 2 (some .boolean)) B.pre
  have hown : s.vm.findClass RX3 = some m.cls := findClass_of_methodNamed B.named
  have hlocks := B.notSynchronized
  have hc : g_X p s m args c cX3_has 2 RX3 D cs A := ⟨⟨hx, hb, hml, fun w hw => hts w (List.mem_cons_of_mem _ hw), hown⟩, hK, hN, hSt, hAn⟩
  have hl := lv_entry ([.ref o, .int a0]) (n := 2) (Nat.le_of_ble_eq_true rfl)
  have hE : entryFrame m args 2 = F0 m 0 ((lg_sl ([.ref o, .int a0]) ++ List.replicate (2 - (lg_sl ([.ref o, .int a0])).length) Slot.unset).toArray) [] := by rw [hav]; exact lg_entry_eq m _ _
  rw [hE]
  clear hE hav
  generalize (lg_sl ([.ref o, .int a0]) ++ List.replicate (2 - (lg_sl ([.ref o, .int a0])).length) Slot.unset).toArray = ls at hl ⊢
  have hl : lv_has ls 2 [(0, .ref o), (1, .int a0)] := hl
  obtain ⟨Q, hQ⟩ : ∃ Q, Q = MQ below (g_Q (some (.int r_)) S D cs A) args s 0 0 A := ⟨_, rfl⟩
  rw [← hQ]
  suffices hmain : ∀ (H : Heap) (locs : List Loc), g_P D cs A S H → va_S A s.heap H locs → W p l e (z_rmA 0 0 0 0) s m args below meth c H locs 0 0 Q (F0 m 0 ls []) from hmain s.heap [] hP0 va_S.rf
  clear hP0
  intro H locs hP hS
  unfold f_X3_has at h
  refine lv_iload_n hx hb dX3_has_0 rfl (lv_at hl 1 rfl) ?_
  refine lv_if_lt (tgt := 16) hx hb dX3_has_1 (by decide) (fun c_1 => ?_) (fun c_1 => ?_)
  · replace h := z_ip_ c_1 h
    refine lv_iconst (v := 0) hx hb dX3_has_16 (by decide) ?_
    cases h
    rw [hQ]
    exact g_retz hc hr hlocks (by decide) hP hS dX3_has_17
  · replace h := z_in_ c_1 h
    refine lv_iload_n hx hb dX3_has_4 rfl (lv_at hl 1 rfl) ?_
    refine lv_aload_n hx hb dX3_has_5 rfl (lv_at hl 0 rfl) ?_
    obtain ⟨f_1, ef_1, h⟩ := z_bd_some h
    refine g_get (ci := 3) (k := 3) (v := .int f_1) hc hP rfl z_inX3 (by decide) wF_X3_21 (g_i_v ef_1) dX3_has_6 ?_
    refine lv_icmp_ge (tgt := 16) hx hb dX3_has_9 (by decide) (fun c_9 => ?_) (fun c_9 => ?_)
    · replace h := z_ip_ c_9 h
      refine lv_iconst (v := 0) hx hb dX3_has_16 (by decide) ?_
      cases h
      rw [hQ]
      exact g_retz hc hr hlocks (by decide) hP hS dX3_has_17
    · replace h := z_in_ c_9 h
      refine lv_iconst (v := 1) hx hb dX3_has_12 (by decide) ?_
      refine lv_goto (tgt := 17) hx hb dX3_has_13 (by decide) ?_
      cases h
      rw [hQ]
      exact g_retz hc hr hlocks (by decide) hP hS dX3_has_17
theorem md_X3_has : yX3_has.cls ≠ "java/lang/invoke/MethodHandle" ∧ yX3_has.cls ≠ "java/lang/invoke/VarHandle" ∧ (parseMethodDescriptor yX3_has.desc).map (fun d => d.parameters.length) = some 1 := by decide +kernel
noncomputable def f_X4_aboveAt (S : GS) (o : Nat) (a0 : Int64) : Option (Int64) :=
  z_bd (g_l S 4 0 o) fun f_1 => z_bd (g_l S 4 1 o) fun f_2 => z_bd (g_l S 4 2 o) fun f_3 => some (f_1 + ((f_2 + (f_3 * a0)) * a0))
set_option maxHeartbeats 4000000 in
set_option maxRecDepth 100000 in
theorem mt_X4_aboveAt (l : Launch) (D : va_G) (cs : Nat → ClassId) (A : Nat → Prop) (S : GS) (o : Nat) (a0 : Int64) {r_ : Int64} (h : f_X4_aboveAt S o a0 = some r_) : Met l yX4_aboveAt (z_wd yX4_aboveAt cX4_aboveAt 3 (some .long)) (z_rmA 0 0 0 0) (va_Pc [.ref o, .long a0] (g_C D cs A S)) (g_Q (some (.long r_)) S D cs A) 0 0 A := by
  refine Met.ofW (cc := cX4_aboveAt) (maxL := 3) (ret := (some .long)) (by decide) rfl ?_
  intro p e s m args below meth c s₁ B hml hv
  obtain ⟨hav, hP0, hK, hN, hSt, hAn⟩ := hv
  have hx := B.exec
  have hb := B.bytes
  have hr := B.returns
  have hts := atoms_spec (ws := z_wd yX4_aboveAt cX4_aboveAt 3 (some .long)) B.pre
  have hown : s.vm.findClass RX4 = some m.cls := findClass_of_methodNamed B.named
  have hlocks := B.notSynchronized
  have hc : g_X p s m args c cX4_aboveAt 3 RX4 D cs A := ⟨⟨hx, hb, hml, fun w hw => hts w (List.mem_cons_of_mem _ hw), hown⟩, hK, hN, hSt, hAn⟩
  have hl := lv_entry ([.ref o, .long a0]) (n := 3) (Nat.le_of_ble_eq_true rfl)
  have hE : entryFrame m args 3 = F0 m 0 ((lg_sl ([.ref o, .long a0]) ++ List.replicate (3 - (lg_sl ([.ref o, .long a0])).length) Slot.unset).toArray) [] := by rw [hav]; exact lg_entry_eq m _ _
  rw [hE]
  clear hE hav
  generalize (lg_sl ([.ref o, .long a0]) ++ List.replicate (3 - (lg_sl ([.ref o, .long a0])).length) Slot.unset).toArray = ls at hl ⊢
  have hl : lv_has ls 3 [(0, .ref o), (1, .long a0)] := hl
  obtain ⟨Q, hQ⟩ : ∃ Q, Q = MQ below (g_Q (some (.long r_)) S D cs A) args s 0 0 A := ⟨_, rfl⟩
  rw [← hQ]
  suffices hmain : ∀ (H : Heap) (locs : List Loc), g_P D cs A S H → va_S A s.heap H locs → W p l e (z_rmA 0 0 0 0) s m args below meth c H locs 0 0 Q (F0 m 0 ls []) from hmain s.heap [] hP0 va_S.rf
  clear hP0
  intro H locs hP hS
  unfold f_X4_aboveAt at h
  refine lv_aload_n hx hb dX4_aboveAt_0 rfl (lv_at hl 0 rfl) ?_
  obtain ⟨f_1, ef_1, h⟩ := z_bd_some h
  refine g_get (ci := 4) (k := 0) (v := .long f_1) hc hP rfl z_inX4 (by decide) wF_X4_7 (g_l_v ef_1) dX4_aboveAt_1 ?_
  refine lv_aload_n hx hb dX4_aboveAt_4 rfl (lv_at hl 0 rfl) ?_
  obtain ⟨f_2, ef_2, h⟩ := z_bd_some h
  refine g_get (ci := 4) (k := 1) (v := .long f_2) hc hP rfl z_inX4 (by decide) wF_X4_13 (g_l_v ef_2) dX4_aboveAt_5 ?_
  refine lv_aload_n hx hb dX4_aboveAt_8 rfl (lv_at hl 0 rfl) ?_
  obtain ⟨f_3, ef_3, h⟩ := z_bd_some h
  refine g_get (ci := 4) (k := 2) (v := .long f_3) hc hP rfl z_inX4 (by decide) wF_X4_16 (g_l_v ef_3) dX4_aboveAt_9 ?_
  refine lv_lload_n hx hb dX4_aboveAt_12 rfl (lv_at hl 1 rfl) ?_
  refine lv_lmul hx hb dX4_aboveAt_13 ?_
  refine lv_ladd hx hb dX4_aboveAt_14 ?_
  refine lv_lload_n hx hb dX4_aboveAt_15 rfl (lv_at hl 1 rfl) ?_
  refine lv_lmul hx hb dX4_aboveAt_16 ?_
  refine lv_ladd hx hb dX4_aboveAt_17 ?_
  cases h
  rw [hQ]
  exact g_retl hc hr hlocks hP hS dX4_aboveAt_18
theorem md_X4_aboveAt : yX4_aboveAt.cls ≠ "java/lang/invoke/MethodHandle" ∧ yX4_aboveAt.cls ≠ "java/lang/invoke/VarHandle" ∧ (parseMethodDescriptor yX4_aboveAt.desc).map (fun d => d.parameters.length) = some 1 := by decide +kernel
noncomputable def f_X1_missAbove (S : GS) (o : Nat) (a0 : Int32) : Option (Int64) :=
  z_bd (g_r S 1 3 o) fun f_1 => z_chk (g_is S 3 f_1) (z_bd (f_X3_has S f_1 a0) fun r_2 => if r_2 = 0 then some (0 : Int64) else z_bd (g_r S 1 3 o) fun f_3 => z_bd (g_r S 3 0 f_3) fun f_4 => z_bd (g_rI S f_4 a0) fun v_5 => z_chk (g_is S 1 o) (z_bd (f_X1_partFor S o v_5) fun q_6 => z_bd (g_r S 1 3 o) fun f_7 => z_bd (g_r S 3 2 f_7) fun f_8 => z_bd (g_rI S f_8 a0) fun v_9 => z_bd (g_r S 1 3 o) fun f_10 => z_bd (g_r S 3 1 f_10) fun f_11 => z_bd (g_rI S f_11 a0) fun v_12 => z_bd q_6 fun a_13 => z_bd (g_l S 4 3 a_13) fun f_14 => z_chk (g_is S 4 a_13) (z_bd (f_X4_aboveAt S a_13 v_5.toInt64) fun r_15 => some (v_9.toInt64 * ((v_12.toInt64 * f_14) - r_15)))))
set_option maxHeartbeats 4000000 in
set_option maxRecDepth 100000 in
theorem mt_X1_missAbove (l : Launch) (D : va_G) (cs : Nat → ClassId) (A : Nat → Prop) (S : GS) (o : Nat) (a0 : Int32) {r_ : Int64} (h : f_X1_missAbove S o a0 = some r_) : Met l yX1_missAbove (z_wd yX1_missAbove cX1_missAbove 4 (some .long)) (z_rmA 1 39 0 0) (va_Pc [.ref o, .int a0] (g_C D cs A S)) (g_Q (some (.long r_)) S D cs A) 0 0 A := by
  refine Met.ofW (cc := cX1_missAbove) (maxL := 4) (ret := (some .long)) (by decide) rfl ?_
  intro p e s m args below meth c s₁ B hml hv
  obtain ⟨hav, hP0, hK, hN, hSt, hAn⟩ := hv
  have hx := B.exec
  have hb := B.bytes
  have hr := B.returns
  have hts := atoms_spec (ws := z_wd yX1_missAbove cX1_missAbove 4 (some .long)) B.pre
  have hown : s.vm.findClass RX1 = some m.cls := findClass_of_methodNamed B.named
  have hlocks := B.notSynchronized
  have hc : g_X p s m args c cX1_missAbove 4 RX1 D cs A := ⟨⟨hx, hb, hml, fun w hw => hts w (List.mem_cons_of_mem _ hw), hown⟩, hK, hN, hSt, hAn⟩
  have hl := lv_entry ([.ref o, .int a0]) (n := 4) (Nat.le_of_ble_eq_true rfl)
  have hE : entryFrame m args 4 = F0 m 0 ((lg_sl ([.ref o, .int a0]) ++ List.replicate (4 - (lg_sl ([.ref o, .int a0])).length) Slot.unset).toArray) [] := by rw [hav]; exact lg_entry_eq m _ _
  rw [hE]
  clear hE hav
  generalize (lg_sl ([.ref o, .int a0]) ++ List.replicate (4 - (lg_sl ([.ref o, .int a0])).length) Slot.unset).toArray = ls at hl ⊢
  have hl : lv_has ls 4 [(0, .ref o), (1, .int a0)] := hl
  obtain ⟨Q, hQ⟩ : ∃ Q, Q = MQ below (g_Q (some (.long r_)) S D cs A) args s 0 0 A := ⟨_, rfl⟩
  rw [← hQ]
  suffices hmain : ∀ (H : Heap) (locs : List Loc), g_P D cs A S H → va_S A s.heap H locs → W p l e (z_rmA 1 39 0 0) s m args below meth c H locs 0 0 Q (F0 m 0 ls []) from hmain s.heap [] hP0 va_S.rf
  clear hP0
  intro H locs hP hS
  unfold f_X1_missAbove at h
  refine lv_aload_n hx hb dX1_missAbove_0 rfl (lv_at hl 0 rfl) ?_
  obtain ⟨f_1, ef_1, h⟩ := z_bd_some h
  refine g_get (ci := 1) (k := 3) (v := .ref f_1) hc hP rfl z_inX1 (by decide) wF_X1_21 (g_r_v ef_1) dX1_missAbove_1 ?_
  refine lv_iload_n hx hb dX1_missAbove_4 rfl (lv_at hl 1 rfl) ?_
  obtain ⟨ho_5, h⟩ := z_chk_some h
  obtain ⟨vs_, ho_5⟩ := Option.isSome_iff_exists.mp ho_5
  obtain ⟨r_2, e_5, h⟩ := z_bd_some h
  refine g_callV (ci := 3) (As := [.int a0]) (rv := (some (.int r_2))) (n := 1) hc hP hS rfl ho_5 (mt_X3_has l D cs A S f_1 a0 e_5) wM_X1_53 wI_X3_has wS_X3_has wZ_X3 wC_X3_has md_X3_has ⟨rfl, rfl, Nat.le_of_ble_eq_true rfl, Nat.le_of_ble_eq_true rfl⟩ rfl hl.1 rfl (Nat.le_of_ble_eq_true rfl) dX1_missAbove_5 ⟨Nat.le_of_ble_eq_true rfl, Nat.le_of_ble_eq_true rfl⟩ (fun H locs hP hS => ?_)
  show W p l e (z_rmA 1 39 0 0) s m args below meth c H locs (0) (0) Q (F0 m 8 ls [.int r_2])
  refine lv_if_ne (tgt := 13) hx hb dX1_missAbove_8 (by decide) (fun c_8 => ?_) (fun c_8 => ?_)
  · replace h := z_in_ c_8 h
    refine lv_aload_n hx hb dX1_missAbove_13 rfl (lv_at hl 0 rfl) ?_
    obtain ⟨f_3, ef_3, h⟩ := z_bd_some h
    refine g_get (ci := 1) (k := 3) (v := .ref f_3) hc hP rfl z_inX1 (by decide) wF_X1_21 (g_r_v ef_3) dX1_missAbove_14 ?_
    obtain ⟨f_4, ef_4, h⟩ := z_bd_some h
    refine g_getN (ci := 3) (k := 0) (v := .ref f_4) hc hP rfl z_inX3 (by decide) wG_X1_50 (g_r_v ef_4) dX1_missAbove_17 ?_
    refine lv_iload_n hx hb dX1_missAbove_20 rfl (lv_at hl 1 rfl) ?_
    obtain ⟨v_5, ev_5, h⟩ := z_bd_some h
    refine g_iald hc hP ev_5 dX1_missAbove_21 ?_
    refine lv_istore_n (lv' := [(2, .int v_5), (0, .ref o), (1, .int a0)]) hx hb dX1_missAbove_22 rfl hl (by decide) rfl (fun ls hl => ?_)
    refine lv_aload_n hx hb dX1_missAbove_23 rfl (lv_at hl 1 rfl) ?_
    refine lv_iload_n hx hb dX1_missAbove_24 rfl (lv_at hl 0 rfl) ?_
    obtain ⟨ho_25, h⟩ := z_chk_some h
    obtain ⟨vs_, ho_25⟩ := Option.isSome_iff_exists.mp ho_25
    obtain ⟨q_6, e_25, h⟩ := z_bd_some h
    refine g_callV (ci := 1) (As := [.int v_5]) (rv := (some (va_rf q_6))) (n := 1) hc hP hS rfl ho_25 (mt_X1_partFor l D cs A S o v_5 e_25) wM_X1_57 wI_X1_partFor wS_X1_partFor wZ_X1 wC_X1_partFor md_X1_partFor ⟨rfl, rfl, Nat.le_of_ble_eq_true rfl, Nat.le_of_ble_eq_true rfl⟩ rfl hl.1 rfl (Nat.le_of_ble_eq_true rfl) dX1_missAbove_25 ⟨Nat.le_of_ble_eq_true rfl, Nat.le_of_ble_eq_true rfl⟩ (fun H locs hP hS => ?_)
    show W p l e (z_rmA 1 39 0 0) s m args below meth c H locs (0) (0) Q (F0 m 28 ls [va_rf q_6])
    refine q_astore_n (lv' := [(3, va_rf q_6), (2, .int v_5), (0, .ref o), (1, .int a0)]) hx hb dX1_missAbove_28 rfl hl (by decide) rfl (fun ls hl => ?_)
    refine lv_aload_n hx hb dX1_missAbove_29 rfl (lv_at hl 2 rfl) ?_
    obtain ⟨f_7, ef_7, h⟩ := z_bd_some h
    refine g_get (ci := 1) (k := 3) (v := .ref f_7) hc hP rfl z_inX1 (by decide) wF_X1_21 (g_r_v ef_7) dX1_missAbove_30 ?_
    obtain ⟨f_8, ef_8, h⟩ := z_bd_some h
    refine g_getN (ci := 3) (k := 2) (v := .ref f_8) hc hP rfl z_inX3 (by decide) wG_X1_61 (g_r_v ef_8) dX1_missAbove_33 ?_
    refine lv_iload_n hx hb dX1_missAbove_36 rfl (lv_at hl 3 rfl) ?_
    obtain ⟨v_9, ev_9, h⟩ := z_bd_some h
    refine g_iald hc hP ev_9 dX1_missAbove_37 ?_
    refine lv_i2l (v := v_9.toInt64) hx hb dX1_missAbove_38 rfl ?_
    refine lv_aload_n hx hb dX1_missAbove_39 rfl (lv_at hl 2 rfl) ?_
    obtain ⟨f_10, ef_10, h⟩ := z_bd_some h
    refine g_get (ci := 1) (k := 3) (v := .ref f_10) hc hP rfl z_inX1 (by decide) wF_X1_21 (g_r_v ef_10) dX1_missAbove_40 ?_
    obtain ⟨f_11, ef_11, h⟩ := z_bd_some h
    refine g_getN (ci := 3) (k := 1) (v := .ref f_11) hc hP rfl z_inX3 (by decide) wG_X1_64 (g_r_v ef_11) dX1_missAbove_43 ?_
    refine lv_iload_n hx hb dX1_missAbove_46 rfl (lv_at hl 3 rfl) ?_
    obtain ⟨v_12, ev_12, h⟩ := z_bd_some h
    refine g_iald hc hP ev_12 dX1_missAbove_47 ?_
    refine lv_i2l (v := v_12.toInt64) hx hb dX1_missAbove_48 rfl ?_
    refine q_aload_n hx hb dX1_missAbove_49 rfl (lv_at hl 0 rfl) ?_
    obtain ⟨a_13, ea_13, hu⟩ := z_bd_some h
    clear h
    subst ea_13
    have h := hu
    clear hu
    obtain ⟨f_14, ef_14, h⟩ := z_bd_some h
    refine g_getN (ci := 4) (k := 3) (v := .long f_14) hc hP rfl z_inX4 (by decide) wG_X1_67 (g_l_v ef_14) dX1_missAbove_50 ?_
    refine lv_lmul hx hb dX1_missAbove_53 ?_
    refine lv_aload_n hx hb dX1_missAbove_54 rfl (lv_at hl 0 rfl) ?_
    refine lv_iload_n hx hb dX1_missAbove_55 rfl (lv_at hl 1 rfl) ?_
    refine lv_i2l (v := v_5.toInt64) hx hb dX1_missAbove_56 rfl ?_
    obtain ⟨ho_57, h⟩ := z_chk_some h
    obtain ⟨vs_, ho_57⟩ := Option.isSome_iff_exists.mp ho_57
    obtain ⟨r_15, e_57, h⟩ := z_bd_some h
    refine g_callV (ci := 4) (As := [.long v_5.toInt64]) (rv := (some (.long r_15))) (n := 1) hc hP hS rfl ho_57 (mt_X4_aboveAt l D cs A S a_13 v_5.toInt64 e_57) wM_X1_71 wI_X4_aboveAt wS_X4_aboveAt wZ_X4 wC_X4_aboveAt md_X4_aboveAt ⟨rfl, rfl, Nat.le_of_ble_eq_true rfl, Nat.le_of_ble_eq_true rfl⟩ rfl hl.1 rfl (Nat.le_of_ble_eq_true rfl) dX1_missAbove_57 ⟨Nat.le_of_ble_eq_true rfl, Nat.le_of_ble_eq_true rfl⟩ (fun H locs hP hS => ?_)
    show W p l e (z_rmA 1 39 0 0) s m args below meth c H locs (0) (0) Q (F0 m 60 ls [.long r_15, .long (v_12.toInt64 * f_14), .long v_9.toInt64])
    refine lv_lsub hx hb dX1_missAbove_60 ?_
    refine lv_lmul hx hb dX1_missAbove_61 ?_
    cases h
    rw [hQ]
    exact g_retl hc hr hlocks hP hS dX1_missAbove_62
  · replace h := z_ip_ c_8 h
    refine lv_lconst (v := 0) hx hb dX1_missAbove_11 (by decide) ?_
    cases h
    rw [hQ]
    exact g_retl hc hr hlocks hP hS dX1_missAbove_12
theorem md_X1_missAbove : yX1_missAbove.cls ≠ "java/lang/invoke/MethodHandle" ∧ yX1_missAbove.cls ≠ "java/lang/invoke/VarHandle" ∧ (parseMethodDescriptor yX1_missAbove.desc).map (fun d => d.parameters.length) = some 1 := by decide +kernel
