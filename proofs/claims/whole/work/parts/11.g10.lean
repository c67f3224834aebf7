noncomputable def f_X3_remove_L17 (o : Nat) (x2_2 : Int32) (S_3 : GS) : Option ((GS) ⊕ (Int32 × GS)) :=
  z_bd (g_i S_3 3 3 o) fun f_5 => if f_5 ≤ x2_2 then some (.inl (S_3)) else z_chk (g_is S_3 3 o) (z_bd (f_X3_move S_3 o x2_2 (x2_2 - (1 : Int32))) fun S_6 => some (.inr ((x2_2 + 1), S_6)))
noncomputable def f_X3_remove (S : GS) (o : Nat) (a0 : Int32) : Option ((Int32) × GS) :=
  z_chk (g_is S 3 o) (z_bd (f_X3_has S o a0) fun r_1 => if r_1 = 0 then z_bd (g_i S 3 3 o) fun f_10 => some (f_10, S) else z_bd (z_lp (fun x => f_X3_remove_L17 o x.1 x.2) ((a0 + (1 : Int32)), S)) fun S_4 => z_bd (g_i S_4 3 3 o) fun f_7 => z_bd (g_put S_4 3 3 o (.int (f_7 - (1 : Int32)))) fun S_8 => z_bd (g_i S_8 3 3 o) fun f_9 => some (f_9, S_8))
set_option maxHeartbeats 4000000 in
set_option maxRecDepth 100000 in
theorem mt_X3_remove (l : Launch) (D : va_G) (cs : Nat → ClassId) (A : Nat → Prop) (S : GS) (o : Nat) (a0 : Int32) {r_ : Int32} {N_ : GS} (h : f_X3_remove S o a0 = some (r_, N_)) : Met l yX3_remove (z_wd yX3_remove cX3_remove 3 (some .int)) (z_rmA 1 38 0 0) (va_Pc [.ref o, .int a0] (g_C D cs A S)) (g_Q (some (.int r_)) N_ D cs A) 0 0 A := by
  refine Met.ofW (cc := cX3_remove) (maxL := 3) (ret := (some .int)) (by decide) rfl ?_
  intro p e s m args below meth c s₁ B hml hv
  obtain ⟨hav, hP0, hK, hN, hSt, hAn⟩ := hv
  have hx := B.exec
  have hb := B.bytes
  have hr := B.returns
  have hts := atoms_spec (ws := z_wd yX3_remove cX3_remove 3 (some .int)) B.pre
  have hown : s.vm.findClass RX3 = some m.cls := findClass_of_methodNamed B.named
  have hlocks := B.notSynchronized
  have hc : g_X p s m args c cX3_remove 3 RX3 D cs A := ⟨⟨hx, hb, hml, fun w hw => hts w (List.mem_cons_of_mem _ hw), hown⟩, hK, hN, hSt, hAn⟩
  have hl := lv_entry ([.ref o, .int a0]) (n := 3) (Nat.le_of_ble_eq_true rfl)
  have hE : entryFrame m args 3 = F0 m 0 ((lg_sl ([.ref o, .int a0]) ++ List.replicate (3 - (lg_sl ([.ref o, .int a0])).length) Slot.unset).toArray) [] := by rw [hav]; exact lg_entry_eq m _ _
  rw [hE]
  clear hE hav
  generalize (lg_sl ([.ref o, .int a0]) ++ List.replicate (3 - (lg_sl ([.ref o, .int a0])).length) Slot.unset).toArray = ls at hl ⊢
  have hl : lv_has ls 3 [(0, .ref o), (1, .int a0)] := hl
  obtain ⟨Q, hQ⟩ : ∃ Q, Q = MQ below (g_Q (some (.int r_)) N_ D cs A) args s 0 0 A := ⟨_, rfl⟩
  rw [← hQ]
  suffices hmain : ∀ (H : Heap) (locs : List Loc), g_P D cs A S H → va_S A s.heap H locs → W p l e (z_rmA 1 38 0 0) s m args below meth c H locs 0 0 Q (F0 m 0 ls []) from hmain s.heap [] hP0 va_S.rf
  clear hP0
  intro H locs hP hS
  unfold f_X3_remove at h
  refine lv_aload_n hx hb dX3_remove_0 rfl (lv_at hl 0 rfl) ?_
  refine lv_iload_n hx hb dX3_remove_1 rfl (lv_at hl 1 rfl) ?_
  obtain ⟨ho_2, h⟩ := z_chk_some h
  obtain ⟨vs_, ho_2⟩ := Option.isSome_iff_exists.mp ho_2
  obtain ⟨r_1, e_2, h⟩ := z_bd_some h
  refine g_callV (ci := 3) (As := [.int a0]) (rv := (some (.int r_1))) (n := 1) hc hP hS rfl ho_2 (mt_X3_has l D cs A S o a0 e_2) wM_X3_45 wI_X3_has wS_X3_has wZ_X3 wC_X3_has md_X3_has ⟨rfl, rfl, Nat.le_of_ble_eq_true rfl, Nat.le_of_ble_eq_true rfl⟩ rfl hl.1 rfl (Nat.le_of_ble_eq_true rfl) dX3_remove_2 ⟨Nat.le_of_ble_eq_true rfl, Nat.le_of_ble_eq_true rfl⟩ (fun H locs hP hS => ?_)
  show W p l e (z_rmA 1 38 0 0) s m args below meth c H locs (0) (0) Q (F0 m 5 ls [.int r_1])
  refine lv_if_ne (tgt := 13) hx hb dX3_remove_5 (by decide) (fun c_5 => ?_) (fun c_5 => ?_)
  · replace h := z_in_ c_5 h
    refine lv_iload_n hx hb dX3_remove_13 rfl (lv_at hl 1 rfl) ?_
    refine lv_iconst (v := 1) hx hb dX3_remove_14 (by decide) ?_
    refine lv_iadd hx hb dX3_remove_15 ?_
    refine lv_istore_n (lv' := [(2, .int (a0 + (1 : Int32))), (0, .ref o), (1, .int a0)]) hx hb dX3_remove_16 rfl hl (by decide) rfl (fun ls hl => ?_)
    obtain ⟨S_4, hlp, h⟩ := z_bd_some h
    refine z_lp_ind (P := fun x => ∀ (H : Heap) (locs : List Loc) (ls : Array Slot), g_P D cs A x.2 H → va_S A s.heap H locs → lv_has ls 3 [(0, .ref o), (2, .int x.1)] → W p l e (z_rmA 1 38 0 0) s m args below meth c H locs (0) (0) Q (F0 m 17 ls [])) (Qe := fun y => ∀ (H : Heap) (locs : List Loc) (ls : Array Slot), g_P D cs A y H → va_S A s.heap H locs → lv_has ls 3 [(0, .ref o)] → W p l e (z_rmA 1 38 0 0) s m args below meth c H locs (0) (0) Q (F0 m 39 ls [])) ?_ hlp ?_ H locs ls hP hS (lv_sub hl [1, 0] rfl)
    · clear h hlp hP hS hl
      rintro ⟨x2_2, S_3⟩ oo h K_17 H locs ls hP hS hl
      have hP : g_P D cs A S_3 H := hP
      have hl : lv_has ls 3 [(0, .ref o), (2, .int x2_2)] := hl
      have h : f_X3_remove_L17 o x2_2 S_3 = some oo := h
      unfold f_X3_remove_L17 at h
      refine lv_iload_n hx hb dX3_remove_17 rfl (lv_at hl 1 rfl) ?_
      refine lv_aload_n hx hb dX3_remove_18 rfl (lv_at hl 0 rfl) ?_
      obtain ⟨f_5, ef_5, h⟩ := z_bd_some h
      refine g_get (ci := 3) (k := 3) (v := .int f_5) hc hP rfl z_inX3 (by decide) wF_X3_21 (g_i_v ef_5) dX3_remove_19 ?_
      refine lv_icmp_ge (tgt := 39) hx hb dX3_remove_22 (by decide) (fun c_22 => ?_) (fun c_22 => ?_)
      · replace h := z_ip_ c_22 h
        cases h
        exact K_17 H locs ls hP hS (lv_sub hl [0] rfl)
      · replace h := z_in_ c_22 h
        refine lv_aload_n hx hb dX3_remove_25 rfl (lv_at hl 0 rfl) ?_
        refine lv_iload_n hx hb dX3_remove_26 rfl (lv_at hl 1 rfl) ?_
        refine lv_iload_n hx hb dX3_remove_27 rfl (lv_at hl 1 rfl) ?_
        refine lv_iconst (v := 1) hx hb dX3_remove_28 (by decide) ?_
        refine lv_isub hx hb dX3_remove_29 ?_
        obtain ⟨ho_30, h⟩ := z_chk_some h
        obtain ⟨vs_, ho_30⟩ := Option.isSome_iff_exists.mp ho_30
        obtain ⟨S_6, e_30, h⟩ := z_bd_some h
        refine g_callV (ci := 3) (As := [.int x2_2, .int (x2_2 - (1 : Int32))]) (rv := none) (n := 2) hc hP hS rfl ho_30 (mt_X3_move l D cs A S_3 o x2_2 (x2_2 - (1 : Int32)) e_30) wM_X3_41 wI_X3_move wS_X3_move wZ_X3 wC_X3_move md_X3_move ⟨rfl, rfl, Nat.le_of_ble_eq_true rfl, Nat.le_of_ble_eq_true rfl⟩ rfl hl.1 rfl (Nat.le_of_ble_eq_true rfl) dX3_remove_30 ⟨Nat.le_of_ble_eq_true rfl, Nat.le_of_ble_eq_true rfl⟩ (fun H locs hP hS => ?_)
        show W p l e (z_rmA 1 38 0 0) s m args below meth c H locs (0) (0) Q (F0 m 33 ls [])
        refine lv_iinc (v := (x2_2 + 1)) (lv' := [(2, .int (x2_2 + 1)), (0, .ref o)]) hx hb dX3_remove_33 hl (k := 1) rfl rfl (by decide) rfl (fun ls hl => ?_)
        refine lv_goto (tgt := 17) hx hb dX3_remove_36 (by decide) ?_
        cases h
        exact K_17 H locs ls hP hS (lv_sub hl [1, 0] rfl)
    · clear hlp hP hS hl
      intro H locs ls hP hS hl
      have hP : g_P D cs A S_4 H := hP
      have hl : lv_has ls 3 [(0, .ref o)] := hl
      refine lv_aload_n hx hb dX3_remove_39 rfl (lv_at hl 0 rfl) ?_
      refine lv_dup hx hb dX3_remove_40 rfl ?_
      obtain ⟨f_7, ef_7, h⟩ := z_bd_some h
      refine g_get (ci := 3) (k := 3) (v := .int f_7) hc hP rfl z_inX3 (by decide) wF_X3_21 (g_i_v ef_7) dX3_remove_41 ?_
      refine lv_iconst (v := 1) hx hb dX3_remove_44 (by decide) ?_
      refine lv_isub hx hb dX3_remove_45 ?_
      obtain ⟨S_8, eS_8, h⟩ := z_bd_some h
      refine g_putf (ci := 3) (k := 3) (ty := .int) tyX3 hc hP hS rfl z_inX3 tyX3_ok nmX3 (by decide) wF_X3_21 rfl (by decide +kernel) rfl rfl eS_8 dX3_remove_46 (fun H locs hP hS => ?_)
      refine lv_aload_n hx hb dX3_remove_49 rfl (lv_at hl 0 rfl) ?_
      obtain ⟨f_9, ef_9, h⟩ := z_bd_some h
      refine g_get (ci := 3) (k := 3) (v := .int f_9) hc hP rfl z_inX3 (by decide) wF_X3_21 (g_i_v ef_9) dX3_remove_50 ?_
      cases h
      rw [hQ]
      exact g_reti hc hr hlocks hP hS dX3_remove_53
  · replace h := z_ip_ c_5 h
    refine lv_aload_n hx hb dX3_remove_8 rfl (lv_at hl 0 rfl) ?_
    obtain ⟨f_10, ef_10, h⟩ := z_bd_some h
    refine g_get (ci := 3) (k := 3) (v := .int f_10) hc hP rfl z_inX3 (by decide) wF_X3_21 (g_i_v ef_10) dX3_remove_9 ?_
    cases h
    rw [hQ]
    exact g_reti hc hr hlocks hP hS dX3_remove_12
theorem md_X3_remove : yX3_remove.cls ≠ "java/lang/invoke/MethodHandle" ∧ yX3_remove.cls ≠ "java/lang/invoke/VarHandle" ∧ (parseMethodDescriptor yX3_remove.desc).map (fun d => d.parameters.length) = some 1 := by decide +kernel
noncomputable def f_X4_coefficient (S : GS) (o : Nat) (a0 : Int32) : Option (Int64) :=
  if a0 = 0 then z_bd (g_l S 4 0 o) fun f_3 => some f_3 else if a0 = (1 : Int32) then z_bd (g_l S 4 1 o) fun f_2 => some f_2 else z_bd (g_l S 4 2 o) fun f_1 => some f_1
set_option maxHeartbeats 4000000 in
set_option maxRecDepth 100000 in
theorem mt_X4_coefficient (l : Launch) (D : va_G) (cs : Nat → ClassId) (A : Nat → Prop) (S : GS) (o : Nat) (a0 : Int32) {r_ : Int64} (h : f_X4_coefficient S o a0 = some r_) : Met l yX4_coefficient (z_wd yX4_coefficient cX4_coefficient 2 (some .long)) (z_rmA 0 0 0 0) (va_Pc [.ref o, .int a0] (g_C D cs A S)) (g_Q (some (.long r_)) S D cs A) 0 0 A := by
  refine Met.ofW (cc := cX4_coefficient) (maxL := 2) (ret := (some .long)) (by decide) rfl ?_
  intro p e s m args below meth c s₁ B hml hv
  obtain ⟨hav, hP0, hK, hN, hSt, hAn⟩ := hv
  have hx := B.exec
  have hb := B.bytes
  have hr := B.returns
  have hts := atoms_spec (ws := z_wd yX4_coefficient cX4_coefficient 2 (some .long)) B.pre
  have hown : s.vm.findClass RX4 = some m.cls := findClass_of_methodNamed B.named
  have hlocks := B.notSynchronized
  have hc : g_X p s m args c cX4_coefficient 2 RX4 D cs A := ⟨⟨hx, hb, hml, fun w hw => hts w (List.mem_cons_of_mem _ hw), hown⟩, hK, hN, hSt, hAn⟩
  have hl := lv_entry ([.ref o, .int a0]) (n := 2) (Nat.le_of_ble_eq_true rfl)
  have hE : entryFrame m args 2 = F0 m 0 ((lg_sl ([.ref o, .int a0]) ++ List.replicate (2 - (lg_sl ([.ref o, .int a0])).length) Slot.unset).toArray) [] := by rw [hav]; exact lg_entry_eq m _ _
  rw [hE]
  clear hE hav
  generalize (lg_sl ([.ref o, .int a0]) ++ List.replicate (2 - (lg_sl ([.ref o, .int a0])).length) Slot.unset).toArray = ls at hl ⊢
  have hl : lv_has ls 2 [(0, .ref o), (1, .int a0)] := hl
  obtain ⟨Q, hQ⟩ : ∃ Q, Q = MQ below (g_Q (some (.long r_)) S D cs A) args s 0 0 A := ⟨_, rfl⟩
  rw [← hQ]
  suffices hmain : ∀ (H : Heap) (locs : List Loc), g_P D cs A S H → va_S A s.heap H locs → W p l e (z_rmA 0 0 0 0) s m args below meth c H locs 0 0 Q (F0 m 0 ls []) from hmain s.heap [] hP0 va_S.rf
  clear hP0
  intro H locs hP hS
  unfold f_X4_coefficient at h
  refine lv_iload_n hx hb dX4_coefficient_0 rfl (lv_at hl 1 rfl) ?_
  refine lv_if_ne (tgt := 9) hx hb dX4_coefficient_1 (by decide) (fun c_1 => ?_) (fun c_1 => ?_)
  · replace h := z_in_ c_1 h
    refine lv_iload_n hx hb dX4_coefficient_9 rfl (lv_at hl 1 rfl) ?_
    refine lv_iconst (v := 1) hx hb dX4_coefficient_10 (by decide) ?_
    refine lv_icmp_ne (tgt := 21) hx hb dX4_coefficient_11 (by decide) (fun c_11 => ?_) (fun c_11 => ?_)
    · replace h := z_in_ c_11 h
      refine lv_aload_n hx hb dX4_coefficient_21 rfl (lv_at hl 0 rfl) ?_
      obtain ⟨f_1, ef_1, h⟩ := z_bd_some h
      refine g_get (ci := 4) (k := 2) (v := .long f_1) hc hP rfl z_inX4 (by decide) wF_X4_16 (g_l_v ef_1) dX4_coefficient_22 ?_
      cases h
      rw [hQ]
      exact g_retl hc hr hlocks hP hS dX4_coefficient_25
    · replace h := z_ip_ c_11 h
      refine lv_aload_n hx hb dX4_coefficient_14 rfl (lv_at hl 0 rfl) ?_
      obtain ⟨f_2, ef_2, h⟩ := z_bd_some h
      refine g_get (ci := 4) (k := 1) (v := .long f_2) hc hP rfl z_inX4 (by decide) wF_X4_13 (g_l_v ef_2) dX4_coefficient_15 ?_
      refine lv_goto (tgt := 25) hx hb dX4_coefficient_18 (by decide) ?_
      cases h
      rw [hQ]
      exact g_retl hc hr hlocks hP hS dX4_coefficient_25
  · replace h := z_ip_ c_1 h
    refine lv_aload_n hx hb dX4_coefficient_4 rfl (lv_at hl 0 rfl) ?_
    obtain ⟨f_3, ef_3, h⟩ := z_bd_some h
    refine g_get (ci := 4) (k := 0) (v := .long f_3) hc hP rfl z_inX4 (by decide) wF_X4_7 (g_l_v ef_3) dX4_coefficient_5 ?_
    cases h
    rw [hQ]
    exact g_retl hc hr hlocks hP hS dX4_coefficient_8
theorem md_X4_coefficient : yX4_coefficient.cls ≠ "java/lang/invoke/MethodHandle" ∧ yX4_coefficient.cls ≠ "java/lang/invoke/VarHandle" ∧ (parseMethodDescriptor yX4_coefficient.desc).map (fun d => d.parameters.length) = some 1 := by decide +kernel
noncomputable def f_X4_isLike (S : GS) (o : Nat) (a0 : Nat) : Option (Int32) :=
  z_bd (g_l S 4 0 o) fun f_1 => z_bd (g_l S 4 0 a0) fun f_2 => if (lg_cmp f_1 f_2) = 0 then z_bd (g_l S 4 1 o) fun f_3 => z_bd (g_l S 4 1 a0) fun f_4 => if (lg_cmp f_3 f_4) = 0 then z_bd (g_l S 4 2 o) fun f_5 => z_bd (g_l S 4 2 a0) fun f_6 => if (lg_cmp f_5 f_6) = 0 then z_bd (g_l S 4 3 o) fun f_7 => z_bd (g_l S 4 3 a0) fun f_8 => if (lg_cmp f_7 f_8) = 0 then some (1 : Int32) else some (0 : Int32) else some (0 : Int32) else some (0 : Int32) else some (0 : Int32)
set_option maxHeartbeats 4000000 in
set_option maxRecDepth 100000 in
theorem mt_X4_isLike (l : Launch) (D : va_G) (cs : Nat → ClassId) (A : Nat → Prop) (S : GS) (o : Nat) (a0 : Nat) {r_ : Int32} (h : f_X4_isLike S o a0 = some r_) : Met l yX4_isLike (z_wd yX4_isLike cX4_isLike 2 (some .boolean)) (z_rmA 0 0 0 0) (va_Pc [.ref o, .ref a0] (g_C D cs A S)) (g_Q (some (.int r_)) S D cs A) 0 0 A := by
  refine Met.ofW (cc := cX4_isLike) (maxL := 2) (ret := (some .boolean)) (by decide) rfl ?_
  intro p e s m args below meth c s₁ B hml hv
  obtain ⟨hav, hP0, hK, hN, hSt, hAn⟩ := hv
  have hx := B.exec
  have hb := B.bytes
  have hr := B.returns
  have hts := atoms_spec (ws := z_wd yX4_isLike cX4_isLike 2 (some .boolean)) B.pre
  have hown : s.vm.findClass RX4 = some m.cls := findClass_of_methodNamed B.named
  have hlocks := B.notSynchronized
  have hc : g_X p s m args c cX4_isLike 2 RX4 D cs A := ⟨⟨hx, hb, hml, fun w hw => hts w (List.mem_cons_of_mem _ hw), hown⟩, hK, hN, hSt, hAn⟩
  have hl := lv_entry ([.ref o, .ref a0]) (n := 2) (Nat.le_of_ble_eq_true rfl)
  have hE : entryFrame m args 2 = F0 m 0 ((lg_sl ([.ref o, .ref a0]) ++ List.replicate (2 - (lg_sl ([.ref o, .ref a0])).length) Slot.unset).toArray) [] := by rw [hav]; exact lg_entry_eq m _ _
  rw [hE]
  clear hE hav
  generalize (lg_sl ([.ref o, .ref a0]) ++ List.replicate (2 - (lg_sl ([.ref o, .ref a0])).length) Slot.unset).toArray = ls at hl ⊢
  have hl : lv_has ls 2 [(0, .ref o), (1, .ref a0)] := hl
  obtain ⟨Q, hQ⟩ : ∃ Q, Q = MQ below (g_Q (some (.int r_)) S D cs A) args s 0 0 A := ⟨_, rfl⟩
  rw [← hQ]
  suffices hmain : ∀ (H : Heap) (locs : List Loc), g_P D cs A S H → va_S A s.heap H locs → W p l e (z_rmA 0 0 0 0) s m args below meth c H locs 0 0 Q (F0 m 0 ls []) from hmain s.heap [] hP0 va_S.rf
  clear hP0
  intro H locs hP hS
  unfold f_X4_isLike at h
  refine lv_aload_n hx hb dX4_isLike_0 rfl (lv_at hl 0 rfl) ?_
  obtain ⟨f_1, ef_1, h⟩ := z_bd_some h
  refine g_get (ci := 4) (k := 0) (v := .long f_1) hc hP rfl z_inX4 (by decide) wF_X4_7 (g_l_v ef_1) dX4_isLike_1 ?_
  refine lv_aload_n hx hb dX4_isLike_4 rfl (lv_at hl 1 rfl) ?_
  obtain ⟨f_2, ef_2, h⟩ := z_bd_some h
  refine g_get (ci := 4) (k := 0) (v := .long f_2) hc hP rfl z_inX4 (by decide) wF_X4_7 (g_l_v ef_2) dX4_isLike_5 ?_
  refine W.lcmp hx hb dX4_isLike_8 ?_
  refine lv_if_ne (tgt := 52) hx hb dX4_isLike_9 (by decide) (fun c_9 => ?_) (fun c_9 => ?_)
  · replace h := z_in_ c_9 h
    refine lv_iconst (v := 0) hx hb dX4_isLike_52 (by decide) ?_
    cases h
    rw [hQ]
    exact g_retz hc hr hlocks (by decide) hP hS dX4_isLike_53
  · replace h := z_ip_ c_9 h
    refine lv_aload_n hx hb dX4_isLike_12 rfl (lv_at hl 0 rfl) ?_
    obtain ⟨f_3, ef_3, h⟩ := z_bd_some h
    refine g_get (ci := 4) (k := 1) (v := .long f_3) hc hP rfl z_inX4 (by decide) wF_X4_13 (g_l_v ef_3) dX4_isLike_13 ?_
    refine lv_aload_n hx hb dX4_isLike_16 rfl (lv_at hl 1 rfl) ?_
    obtain ⟨f_4, ef_4, h⟩ := z_bd_some h
    refine g_get (ci := 4) (k := 1) (v := .long f_4) hc hP rfl z_inX4 (by decide) wF_X4_13 (g_l_v ef_4) dX4_isLike_17 ?_
    refine W.lcmp hx hb dX4_isLike_20 ?_
    refine lv_if_ne (tgt := 52) hx hb dX4_isLike_21 (by decide) (fun c_21 => ?_) (fun c_21 => ?_)
    · replace h := z_in_ c_21 h
      refine lv_iconst (v := 0) hx hb dX4_isLike_52 (by decide) ?_
      cases h
      rw [hQ]
      exact g_retz hc hr hlocks (by decide) hP hS dX4_isLike_53
    · replace h := z_ip_ c_21 h
      refine lv_aload_n hx hb dX4_isLike_24 rfl (lv_at hl 0 rfl) ?_
      obtain ⟨f_5, ef_5, h⟩ := z_bd_some h
      refine g_get (ci := 4) (k := 2) (v := .long f_5) hc hP rfl z_inX4 (by decide) wF_X4_16 (g_l_v ef_5) dX4_isLike_25 ?_
      refine lv_aload_n hx hb dX4_isLike_28 rfl (lv_at hl 1 rfl) ?_
      obtain ⟨f_6, ef_6, h⟩ := z_bd_some h
      refine g_get (ci := 4) (k := 2) (v := .long f_6) hc hP rfl z_inX4 (by decide) wF_X4_16 (g_l_v ef_6) dX4_isLike_29 ?_
      refine W.lcmp hx hb dX4_isLike_32 ?_
      refine lv_if_ne (tgt := 52) hx hb dX4_isLike_33 (by decide) (fun c_33 => ?_) (fun c_33 => ?_)
      · replace h := z_in_ c_33 h
        refine lv_iconst (v := 0) hx hb dX4_isLike_52 (by decide) ?_
        cases h
        rw [hQ]
        exact g_retz hc hr hlocks (by decide) hP hS dX4_isLike_53
      · replace h := z_ip_ c_33 h
        refine lv_aload_n hx hb dX4_isLike_36 rfl (lv_at hl 0 rfl) ?_
        obtain ⟨f_7, ef_7, h⟩ := z_bd_some h
        refine g_get (ci := 4) (k := 3) (v := .long f_7) hc hP rfl z_inX4 (by decide) wF_X4_19 (g_l_v ef_7) dX4_isLike_37 ?_
        refine lv_aload_n hx hb dX4_isLike_40 rfl (lv_at hl 1 rfl) ?_
        obtain ⟨f_8, ef_8, h⟩ := z_bd_some h
        refine g_get (ci := 4) (k := 3) (v := .long f_8) hc hP rfl z_inX4 (by decide) wF_X4_19 (g_l_v ef_8) dX4_isLike_41 ?_
        refine W.lcmp hx hb dX4_isLike_44 ?_
        refine lv_if_ne (tgt := 52) hx hb dX4_isLike_45 (by decide) (fun c_45 => ?_) (fun c_45 => ?_)
        · replace h := z_in_ c_45 h
          refine lv_iconst (v := 0) hx hb dX4_isLike_52 (by decide) ?_
          cases h
          rw [hQ]
          exact g_retz hc hr hlocks (by decide) hP hS dX4_isLike_53
        · replace h := z_ip_ c_45 h
          refine lv_iconst (v := 1) hx hb dX4_isLike_48 (by decide) ?_
          refine lv_goto (tgt := 53) hx hb dX4_isLike_49 (by decide) ?_
          cases h
          rw [hQ]
          exact g_retz hc hr hlocks (by decide) hP hS dX4_isLike_53
theorem md_X4_isLike : yX4_isLike.cls ≠ "java/lang/invoke/MethodHandle" ∧ yX4_isLike.cls ≠ "java/lang/invoke/VarHandle" ∧ (parseMethodDescriptor yX4_isLike.desc).map (fun d => d.parameters.length) = some 1 := by decide +kernel
noncomputable def f_X5_init (S : GS) (o : Nat) (a0 : Int32) (a1 : Int32) : Option (GS) :=
  z_bd (g_put S 5 0 o (.int a0)) fun S_1 => z_bd (f_J9_max_7cf53 a1 (0 : Int32)) fun r_2 => z_chk (z_sz r_2 40) (z_lt (g_nw S_1 (.inl (r_2.toNatClampNeg, fun _ => 0))) fun S_3 => z_bd (g_put S_3 5 1 o (.ref S_1.2)) fun S_4 => some S_4)
set_option maxHeartbeats 4000000 in
set_option maxRecDepth 100000 in
theorem mt_X5_init (l : Launch) (D : va_G) (cs : Nat → ClassId) (A : Nat → Prop) (S : GS) (o : Nat) (a0 : Int32) (a1 : Int32) {N_ : GS} (h : f_X5_init S o a0 a1 = some N_) : Met l yX5_init (z_wd yX5_init cX5_init 3 none) (z_rmA 1 40 1 40) (va_Pc [.ref o, .int a0, .int a1] (g_C D cs A S)) (g_Q none N_ D cs A) 1 40 A := by
  refine Met.ofW (cc := cX5_init) (maxL := 3) (ret := none) (by decide) rfl ?_
  intro p e s m args below meth c s₁ B hml hv
  obtain ⟨hav, hP0, hK, hN, hSt, hAn⟩ := hv
  have hx := B.exec
  have hb := B.bytes
  have hr := B.returns
  have hts := atoms_spec (ws := z_wd yX5_init cX5_init 3 none) B.pre
  have hown : s.vm.findClass RX5 = some m.cls := findClass_of_methodNamed B.named
  have hlocks := B.notSynchronized
  have hin : meth.name = "<init>" := (name_of_methodNamed B.named B.method).1
  have hc : g_X p s m args c cX5_init 3 RX5 D cs A := ⟨⟨hx, hb, hml, fun w hw => hts w (List.mem_cons_of_mem _ hw), hown⟩, hK, hN, hSt, hAn⟩
  have hl := lv_entry ([.ref o, .int a0, .int a1]) (n := 3) (Nat.le_of_ble_eq_true rfl)
  have hE : entryFrame m args 3 = F0 m 0 ((lg_sl ([.ref o, .int a0, .int a1]) ++ List.replicate (3 - (lg_sl ([.ref o, .int a0, .int a1])).length) Slot.unset).toArray) [] := by rw [hav]; exact lg_entry_eq m _ _
  rw [hE]
  clear hE hav
  generalize (lg_sl ([.ref o, .int a0, .int a1]) ++ List.replicate (3 - (lg_sl ([.ref o, .int a0, .int a1])).length) Slot.unset).toArray = ls at hl ⊢
  have hl : lv_has ls 3 [(0, .ref o), (1, .int a0), (2, .int a1)] := hl
  obtain ⟨Q, hQ⟩ : ∃ Q, Q = MQ below (g_Q none N_ D cs A) args s 1 40 A := ⟨_, rfl⟩
  rw [← hQ]
  suffices hmain : ∀ (H : Heap) (locs : List Loc), g_P D cs A S H → va_S A s.heap H locs → W p l e (z_rmA 1 40 1 40) s m args below meth c H locs 0 0 Q (F0 m 0 ls []) from hmain s.heap [] hP0 va_S.rf
  clear hP0
  intro H locs hP hS
  unfold f_X5_init at h
  refine lv_aload_n hx hb dX5_init_0 rfl (lv_at hl 0 rfl) ?_
  refine g_obj hc wM_X5_1 hl.1 (Nat.le_of_ble_eq_true rfl) (Nat.le_of_ble_eq_true rfl) dX5_init_1 ?_
  show W p l e (z_rmA 1 40 1 40) s m args below meth c H locs (0) (0) Q (F0 m 4 ls [])
  refine lv_aload_n hx hb dX5_init_4 rfl (lv_at hl 0 rfl) ?_
  refine lv_iload_n hx hb dX5_init_5 rfl (lv_at hl 1 rfl) ?_
  obtain ⟨S_1, eS_1, h⟩ := z_bd_some h
  refine g_putF (ci := 5) (k := 0) (ty := .int) tyX5 hc hP hS rfl z_inX5 tyX5_ok nmX5 (by decide) wF_X5_7 rfl hin rfl (by decide +kernel) rfl rfl eS_1 dX5_init_6 (fun H locs hP hS => ?_)
  refine lv_aload_n hx hb dX5_init_9 rfl (lv_at hl 0 rfl) ?_
  refine lv_iload_n hx hb dX5_init_10 rfl (lv_at hl 2 rfl) ?_
  refine lv_iconst (v := 0) hx hb dX5_init_11 (by decide) ?_
  obtain ⟨r_2, er_2, h⟩ := z_bd_some h
  refine s_calli (As := [.int a1, .int (0 : Int32)]) (r := r_2) (n := 2) hc.1 (mt_J9_max_7cf53 l a1 (0 : Int32) er_2) wM_X5_13 wT_J9_max_7cf53 wZ_J9 wC_J9_max_7cf53 md_J9_max_7cf53 ⟨rfl, rfl, Nat.le_of_ble_eq_true rfl, Nat.le_of_ble_eq_true rfl⟩ rfl hl.1 rfl (Nat.le_of_ble_eq_true rfl) dX5_init_12 ⟨Nat.le_of_ble_eq_true rfl, Nat.le_of_ble_eq_true rfl⟩ ?_
  obtain ⟨cz_15, h⟩ := z_chk_some h
  obtain ⟨S_3, eS_3, h⟩ := z_lt_some h
  refine g_newI (N' := r_2.toNatClampNeg) hc hP hS wY_int cz_15.1 rfl (by have := cz_15.2; omega) (Nat.le_of_ble_eq_true rfl) (Nat.le_trans (Nat.add_le_add_left cz_15.2 _) (Nat.le_of_ble_eq_true rfl)) eS_3 dX5_init_15 (fun H hP hS => ?_)
  refine W.widen (k := 1) (n := 40) (Nat.le_refl _) (Nat.add_le_add_left cz_15.2 _) ?_
  show W p l e (z_rmA 1 40 1 40) s m args below meth c H locs (1) (40) Q (F0 m 17 ls [.ref S_1.2, .ref o])
  obtain ⟨S_4, eS_4, h⟩ := z_bd_some h
  refine g_putF (ci := 5) (k := 1) (ty := (.array .int)) tyX5 hc hP hS rfl z_inX5 tyX5_ok nmX5 (by decide) wF_X5_19 rfl hin rfl (by decide +kernel) rfl rfl eS_4 dX5_init_17 (fun H locs hP hS => ?_)
  cases h
  rw [hQ]
  exact g_retv hc hr hlocks hP hS dX5_init_20
theorem md_X5_init : yX5_init.cls ≠ "java/lang/invoke/MethodHandle" ∧ yX5_init.cls ≠ "java/lang/invoke/VarHandle" ∧ (parseMethodDescriptor yX5_init.desc).map (fun d => d.parameters.length) = some 2 := by decide +kernel
noncomputable def f_X5_has (S : GS) (o : Nat) (a0 : Int32) : Option (Int32) :=
  if a0 < 0 then some (0 : Int32) else z_bd (g_r S 5 1 o) fun f_1 => z_bd (g_lI S f_1) fun n_2 => if n_2 ≤ a0 then some (0 : Int32) else some (1 : Int32)
set_option maxHeartbeats 4000000 in
set_option maxRecDepth 100000 in
theorem mt_X5_has (l : Launch) (D : va_G) (cs : Nat → ClassId) (A : Nat → Prop) (S : GS) (o : Nat) (a0 : Int32) {r_ : Int32} (h : f_X5_has S o a0 = some r_) : Met l yX5_has (z_wd yX5_has cX5_has 2 (some .boolean)) (z_rmA 0 0 0 0) (va_Pc [.ref o, .int a0] (g_C D cs A S)) (g_Q (some (.int r_)) S D cs A) 0 0 A := by
  refine Met.ofW (cc := cX5_has) (maxL := 2) (ret := (some .boolean)) (by decide) rfl ?_
  intro p e s m args below meth c s₁ B hml hv
  obtain ⟨hav, hP0, hK, hN, hSt, hAn⟩ := hv
  have hx := B.exec
  have hb := B.bytes
  have hr := B.returns
  have hts := atoms_spec (ws := z_wd yX5_has cX5_has 2 (some .boolean)) B.pre
  have hown : s.vm.findClass RX5 = some m.cls := findClass_of_methodNamed B.named
  have hlocks := B.notSynchronized
  have hc : g_X p s m args c cX5_has 2 RX5 D cs A := ⟨⟨hx, hb, hml, fun w hw => hts w (List.mem_cons_of_mem _ hw), hown⟩, hK, hN, hSt, hAn⟩
  have hl := lv_entry ([.ref o, .int a0]) (n := 2) (Nat.le_of_ble_eq_true rfl)
  have hE : entryFrame m args 2 = F0 m 0 ((lg_sl ([.ref o, .int a0]) ++ List.replicate (2 - (lg_sl ([.ref o, .int a0])).length) Slot.unset).toArray) [] := by rw [hav]; exact lg_entry_eq m _ _
  rw [hE]
  clear hE hav
  generalize (lg_sl ([.ref o, .int a0]) ++ List.replicate (2 - (lg_sl ([.ref o, .int a0])).length) Slot.unset).toArray = ls at hl ⊢
  have hl : lv_has ls 2 [(0, .ref o), (1, .int a0)] := hl
  obtain ⟨Q, hQ⟩ : ∃ Q, Q = MQ below (g_Q (some (.int r_)) S D cs A) args s 0 0 A := ⟨_, rfl⟩
  rw [← hQ]
  suffices hmain : ∀ (H : Heap) (locs : List Loc), g_P D cs A S H → va_S A s.heap H locs → W p l e (z_rmA 0 0 0 0) s m args below meth c H locs 0 0 Q (F0 m 0 ls []) from hmain s.heap [] hP0 va_S.rf
  clear hP0
  intro H locs hP hS
  unfold f_X5_has at h
  refine lv_iload_n hx hb dX5_has_0 rfl (lv_at hl 1 rfl) ?_
  refine lv_if_lt (tgt := 17) hx hb dX5_has_1 (by decide) (fun c_1 => ?_) (fun c_1 => ?_)
  · replace h := z_ip_ c_1 h
    refine lv_iconst (v := 0) hx hb dX5_has_17 (by decide) ?_
    cases h
    rw [hQ]
    exact g_retz hc hr hlocks (by decide) hP hS dX5_has_18
  · replace h := z_in_ c_1 h
    refine lv_iload_n hx hb dX5_has_4 rfl (lv_at hl 1 rfl) ?_
    refine lv_aload_n hx hb dX5_has_5 rfl (lv_at hl 0 rfl) ?_
    obtain ⟨f_1, ef_1, h⟩ := z_bd_some h
    refine g_get (ci := 5) (k := 1) (v := .ref f_1) hc hP rfl z_inX5 (by decide) wF_X5_19 (g_r_v ef_1) dX5_has_6 ?_
    obtain ⟨n_2, en_2, h⟩ := z_bd_some h
    refine g_alenI hc hP en_2 dX5_has_9 ?_
    refine lv_icmp_ge (tgt := 17) hx hb dX5_has_10 (by decide) (fun c_10 => ?_) (fun c_10 => ?_)
    · replace h := z_ip_ c_10 h
      refine lv_iconst (v := 0) hx hb dX5_has_17 (by decide) ?_
      cases h
      rw [hQ]
      exact g_retz hc hr hlocks (by decide) hP hS dX5_has_18
    · replace h := z_in_ c_10 h
      refine lv_iconst (v := 1) hx hb dX5_has_13 (by decide) ?_
      refine lv_goto (tgt := 18) hx hb dX5_has_14 (by decide) ?_
      cases h
      rw [hQ]
      exact g_retz hc hr hlocks (by decide) hP hS dX5_has_18
theorem md_X5_has : yX5_has.cls ≠ "java/lang/invoke/MethodHandle" ∧ yX5_has.cls ≠ "java/lang/invoke/VarHandle" ∧ (parseMethodDescriptor yX5_has.desc).map (fun d => d.parameters.length) = some 1 := by decide +kernel
noncomputable def f_X6_init (S : GS) (o : Nat) : Option (GS) :=
  z_lt (g_nw S (.inl (12, fun _ => 0))) fun S_1 => z_bd (g_put S_1 6 0 o (.ref S.2)) fun S_2 => z_bd (g_put S_2 6 1 o (.int (0 : Int32))) fun S_3 => z_bd (g_put S_3 6 2 o (.int (0 : Int32))) fun S_4 => some S_4
set_option maxHeartbeats 4000000 in
set_option maxRecDepth 100000 in
theorem mt_X6_init (l : Launch) (D : va_G) (cs : Nat → ClassId) (A : Nat → Prop) (S : GS) (o : Nat) {N_ : GS} (h : f_X6_init S o = some N_) : Met l yX6_init (z_wd yX6_init cX6_init 1 none) (z_rmA 1 40 1 12) (va_Pc [.ref o] (g_C D cs A S)) (g_Q none N_ D cs A) 1 12 A := by
  refine Met.ofW (cc := cX6_init) (maxL := 1) (ret := none) (by decide) rfl ?_
  intro p e s m args below meth c s₁ B hml hv
  obtain ⟨hav, hP0, hK, hN, hSt, hAn⟩ := hv
  have hx := B.exec
  have hb := B.bytes
  have hr := B.returns
  have hts := atoms_spec (ws := z_wd yX6_init cX6_init 1 none) B.pre
  have hown : s.vm.findClass RX6 = some m.cls := findClass_of_methodNamed B.named
  have hlocks := B.notSynchronized
  have hin : meth.name = "<init>" := (name_of_methodNamed B.named B.method).1
  have hc : g_X p s m args c cX6_init 1 RX6 D cs A := ⟨⟨hx, hb, hml, fun w hw => hts w (List.mem_cons_of_mem _ hw), hown⟩, hK, hN, hSt, hAn⟩
  have hl := lv_entry ([.ref o]) (n := 1) (Nat.le_of_ble_eq_true rfl)
  have hE : entryFrame m args 1 = F0 m 0 ((lg_sl ([.ref o]) ++ List.replicate (1 - (lg_sl ([.ref o])).length) Slot.unset).toArray) [] := by rw [hav]; exact lg_entry_eq m _ _
  rw [hE]
  clear hE hav
  generalize (lg_sl ([.ref o]) ++ List.replicate (1 - (lg_sl ([.ref o])).length) Slot.unset).toArray = ls at hl ⊢
  have hl : lv_has ls 1 [(0, .ref o)] := hl
  obtain ⟨Q, hQ⟩ : ∃ Q, Q = MQ below (g_Q none N_ D cs A) args s 1 12 A := ⟨_, rfl⟩
  rw [← hQ]
  suffices hmain : ∀ (H : Heap) (locs : List Loc), g_P D cs A S H → va_S A s.heap H locs → W p l e (z_rmA 1 40 1 12) s m args below meth c H locs 0 0 Q (F0 m 0 ls []) from hmain s.heap [] hP0 va_S.rf
  clear hP0
  intro H locs hP hS
  unfold f_X6_init at h
  refine lv_aload_n hx hb dX6_init_0 rfl (lv_at hl 0 rfl) ?_
  refine g_obj hc wM_X6_3 hl.1 (Nat.le_of_ble_eq_true rfl) (Nat.le_of_ble_eq_true rfl) dX6_init_1 ?_
  show W p l e (z_rmA 1 40 1 12) s m args below meth c H locs (0) (0) Q (F0 m 4 ls [])
  refine lv_aload_n hx hb dX6_init_4 rfl (lv_at hl 0 rfl) ?_
  refine lv_bipush (v := 12) hx hb dX6_init_5 (by decide) ?_
  obtain ⟨S_1, eS_1, h⟩ := z_lt_some h
  refine g_newI (N' := 12) hc hP hS wY_int (by decide) (by decide) (by decide) (Nat.le_of_ble_eq_true rfl) (Nat.le_of_ble_eq_true rfl) eS_1 dX6_init_7 (fun H hP hS => ?_)
  show W p l e (z_rmA 1 40 1 12) s m args below meth c H locs (1) (12) Q (F0 m 9 ls [.ref S.2, .ref o])
  obtain ⟨S_2, eS_2, h⟩ := z_bd_some h
  refine g_putF (ci := 6) (k := 0) (ty := (.array .int)) tyX6 hc hP hS rfl z_inX6 tyX6_ok nmX6 (by decide) wF_X6_9 rfl hin rfl (by decide +kernel) rfl rfl eS_2 dX6_init_9 (fun H locs hP hS => ?_)
  refine lv_aload_n hx hb dX6_init_12 rfl (lv_at hl 0 rfl) ?_
  refine lv_iconst (v := 0) hx hb dX6_init_13 (by decide) ?_
  obtain ⟨S_3, eS_3, h⟩ := z_bd_some h
  refine g_putf (ci := 6) (k := 1) (ty := .int) tyX6 hc hP hS rfl z_inX6 tyX6_ok nmX6 (by decide) wF_X6_15 rfl (by decide +kernel) rfl rfl eS_3 dX6_init_14 (fun H locs hP hS => ?_)
  refine lv_aload_n hx hb dX6_init_17 rfl (lv_at hl 0 rfl) ?_
  refine lv_iconst (v := 0) hx hb dX6_init_18 (by decide) ?_
  obtain ⟨S_4, eS_4, h⟩ := z_bd_some h
  refine g_putf (ci := 6) (k := 2) (ty := .int) tyX6 hc hP hS rfl z_inX6 tyX6_ok nmX6 (by decide) wF_X6_19 rfl (by decide +kernel) rfl rfl eS_4 dX6_init_19 (fun H locs hP hS => ?_)
  cases h
  rw [hQ]
  exact g_retv hc hr hlocks hP hS dX6_init_22
theorem md_X6_init : yX6_init.cls ≠ "java/lang/invoke/MethodHandle" ∧ yX6_init.cls ≠ "java/lang/invoke/VarHandle" ∧ (parseMethodDescriptor yX6_init.desc).map (fun d => d.parameters.length) = some 0 := by decide +kernel
