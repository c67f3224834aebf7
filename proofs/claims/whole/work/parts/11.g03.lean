noncomputable def f_X1_compareMisses (S : GS) (o : Nat) (a0 : Int32) (a1 : Int32) : Option (Int32) :=
  z_chk (g_is S 1 o) (z_bd (f_X1_missSize S o a0) fun r_1 => z_chk (g_is S 1 o) (z_bd (f_X1_missBelow S o a1) fun r_2 => z_chk (g_is S 1 o) (z_bd (f_X1_missSize S o a1) fun r_3 => z_chk (g_is S 1 o) (z_bd (f_X1_missBelow S o a0) fun r_4 => z_bd (f_J13_compare_74951 (r_1 * r_2) (r_3 * r_4)) fun r_5 => some r_5))))
set_option maxHeartbeats 4000000 in
set_option maxRecDepth 100000 in
theorem mt_X1_compareMisses (l : Launch) (D : va_G) (cs : Nat → ClassId) (A : Nat → Prop) (S : GS) (o : Nat) (a0 : Int32) (a1 : Int32) {r_ : Int32} (h : f_X1_compareMisses S o a0 a1 = some r_) : Met l yX1_compareMisses (z_wd yX1_compareMisses cX1_compareMisses 3 (some .int)) (z_rmA 3 115 0 0) (va_Pc [.ref o, .int a0, .int a1] (g_C D cs A S)) (g_Q (some (.int r_)) S D cs A) 0 0 A := by
  refine Met.ofW (cc := cX1_compareMisses) (maxL := 3) (ret := (some .int)) (by decide) rfl ?_
  intro p e s m args below meth c s₁ B hml hv
  obtain ⟨hav, hP0, hK, hN, hSt, hAn⟩ := hv
  have hx := B.exec
  have hb := B.bytes
  have hr := B.returns
  have hts := atoms_spec (ws := z_wd yX1_compareMisses cX1_compareMisses 3 (some .int)) B.pre
  have hown : s.vm.findClass RX1 = some m.cls := findClass_of_methodNamed B.named
  have hlocks := B.notSynchronized
  have hc : g_X p s m args c cX1_compareMisses 3 RX1 D cs A := ⟨⟨hx, hb, hml, fun w hw => hts w (List.mem_cons_of_mem _ hw), hown⟩, hK, hN, hSt, hAn⟩
  have hl := lv_entry ([.ref o, .int a0, .int a1]) (n := 3) (Nat.le_of_ble_eq_true rfl)
  have hE : entryFrame m args 3 = F0 m 0 ((lg_sl ([.ref o, .int a0, .int a1]) ++ List.replicate (3 - (lg_sl ([.ref o, .int a0, .int a1])).length) Slot.unset).toArray) [] := by rw [hav]; exact lg_entry_eq m _ _
  rw [hE]
  clear hE hav
  generalize (lg_sl ([.ref o, .int a0, .int a1]) ++ List.replicate (3 - (lg_sl ([.ref o, .int a0, .int a1])).length) Slot.unset).toArray = ls at hl ⊢
  have hl : lv_has ls 3 [(0, .ref o), (1, .int a0), (2, .int a1)] := hl
  obtain ⟨Q, hQ⟩ : ∃ Q, Q = MQ below (g_Q (some (.int r_)) S D cs A) args s 0 0 A := ⟨_, rfl⟩
  rw [← hQ]
  suffices hmain : ∀ (H : Heap) (locs : List Loc), g_P D cs A S H → va_S A s.heap H locs → W p l e (z_rmA 3 115 0 0) s m args below meth c H locs 0 0 Q (F0 m 0 ls []) from hmain s.heap [] hP0 va_S.rf
  clear hP0
  intro H locs hP hS
  unfold f_X1_compareMisses at h
  refine lv_aload_n hx hb dX1_compareMisses_0 rfl (lv_at hl 0 rfl) ?_
  refine lv_iload_n hx hb dX1_compareMisses_1 rfl (lv_at hl 1 rfl) ?_
  obtain ⟨ho_2, h⟩ := z_chk_some h
  obtain ⟨vs_, ho_2⟩ := Option.isSome_iff_exists.mp ho_2
  obtain ⟨r_1, e_2, h⟩ := z_bd_some h
  refine g_callV (ci := 1) (As := [.int a0]) (rv := (some (.long r_1))) (n := 1) hc hP hS rfl ho_2 (mt_X1_missSize l D cs A S o a0 e_2) wM_X1_82 wI_X1_missSize wS_X1_missSize wZ_X1 wC_X1_missSize md_X1_missSize ⟨rfl, rfl, Nat.le_of_ble_eq_true rfl, Nat.le_of_ble_eq_true rfl⟩ rfl hl.1 rfl (Nat.le_of_ble_eq_true rfl) dX1_compareMisses_2 ⟨Nat.le_of_ble_eq_true rfl, Nat.le_of_ble_eq_true rfl⟩ (fun H locs hP hS => ?_)
  show W p l e (z_rmA 3 115 0 0) s m args below meth c H locs (0) (0) Q (F0 m 5 ls [.long r_1])
  refine lv_aload_n hx hb dX1_compareMisses_5 rfl (lv_at hl 0 rfl) ?_
  refine lv_iload_n hx hb dX1_compareMisses_6 rfl (lv_at hl 2 rfl) ?_
  obtain ⟨ho_7, h⟩ := z_chk_some h
  obtain ⟨vs_, ho_7⟩ := Option.isSome_iff_exists.mp ho_7
  obtain ⟨r_2, e_7, h⟩ := z_bd_some h
  refine g_callV (ci := 1) (As := [.int a1]) (rv := (some (.long r_2))) (n := 1) hc hP hS rfl ho_7 (mt_X1_missBelow l D cs A S o a1 e_7) wM_X1_85 wI_X1_missBelow wS_X1_missBelow wZ_X1 wC_X1_missBelow md_X1_missBelow ⟨rfl, rfl, Nat.le_of_ble_eq_true rfl, Nat.le_of_ble_eq_true rfl⟩ rfl hl.1 rfl (Nat.le_of_ble_eq_true rfl) dX1_compareMisses_7 ⟨Nat.le_of_ble_eq_true rfl, Nat.le_of_ble_eq_true rfl⟩ (fun H locs hP hS => ?_)
  show W p l e (z_rmA 3 115 0 0) s m args below meth c H locs (0) (0) Q (F0 m 10 ls [.long r_2, .long r_1])
  refine lv_lmul hx hb dX1_compareMisses_10 ?_
  refine lv_aload_n hx hb dX1_compareMisses_11 rfl (lv_at hl 0 rfl) ?_
  refine lv_iload_n hx hb dX1_compareMisses_12 rfl (lv_at hl 2 rfl) ?_
  obtain ⟨ho_13, h⟩ := z_chk_some h
  obtain ⟨vs_, ho_13⟩ := Option.isSome_iff_exists.mp ho_13
  obtain ⟨r_3, e_13, h⟩ := z_bd_some h
  refine g_callV (ci := 1) (As := [.int a1]) (rv := (some (.long r_3))) (n := 1) hc hP hS rfl ho_13 (mt_X1_missSize l D cs A S o a1 e_13) wM_X1_82 wI_X1_missSize wS_X1_missSize wZ_X1 wC_X1_missSize md_X1_missSize ⟨rfl, rfl, Nat.le_of_ble_eq_true rfl, Nat.le_of_ble_eq_true rfl⟩ rfl hl.1 rfl (Nat.le_of_ble_eq_true rfl) dX1_compareMisses_13 ⟨Nat.le_of_ble_eq_true rfl, Nat.le_of_ble_eq_true rfl⟩ (fun H locs hP hS => ?_)
  show W p l e (z_rmA 3 115 0 0) s m args below meth c H locs (0) (0) Q (F0 m 16 ls [.long r_3, .long (r_1 * r_2)])
  refine lv_aload_n hx hb dX1_compareMisses_16 rfl (lv_at hl 0 rfl) ?_
  refine lv_iload_n hx hb dX1_compareMisses_17 rfl (lv_at hl 1 rfl) ?_
  obtain ⟨ho_18, h⟩ := z_chk_some h
  obtain ⟨vs_, ho_18⟩ := Option.isSome_iff_exists.mp ho_18
  obtain ⟨r_4, e_18, h⟩ := z_bd_some h
  refine g_callV (ci := 1) (As := [.int a0]) (rv := (some (.long r_4))) (n := 1) hc hP hS rfl ho_18 (mt_X1_missBelow l D cs A S o a0 e_18) wM_X1_85 wI_X1_missBelow wS_X1_missBelow wZ_X1 wC_X1_missBelow md_X1_missBelow ⟨rfl, rfl, Nat.le_of_ble_eq_true rfl, Nat.le_of_ble_eq_true rfl⟩ rfl hl.1 rfl (Nat.le_of_ble_eq_true rfl) dX1_compareMisses_18 ⟨Nat.le_of_ble_eq_true rfl, Nat.le_of_ble_eq_true rfl⟩ (fun H locs hP hS => ?_)
  show W p l e (z_rmA 3 115 0 0) s m args below meth c H locs (0) (0) Q (F0 m 21 ls [.long r_4, .long r_3, .long (r_1 * r_2)])
  refine lv_lmul hx hb dX1_compareMisses_21 ?_
  obtain ⟨r_5, er_5, h⟩ := z_bd_some h
  refine s_calli (As := [.long (r_1 * r_2), .long (r_3 * r_4)]) (r := r_5) (n := 2) hc.1 (mt_J13_compare_74951 l (r_1 * r_2) (r_3 * r_4) er_5) wM_X1_88 wT_J13_compare_74951 wZ_J13 wC_J13_compare_74951 md_J13_compare_74951 ⟨rfl, rfl, Nat.le_of_ble_eq_true rfl, Nat.le_of_ble_eq_true rfl⟩ rfl hl.1 rfl (Nat.le_of_ble_eq_true rfl) dX1_compareMisses_22 ⟨Nat.le_of_ble_eq_true rfl, Nat.le_of_ble_eq_true rfl⟩ ?_
  cases h
  rw [hQ]
  exact g_reti hc hr hlocks hP hS dX1_compareMisses_25
theorem md_X1_compareMisses : yX1_compareMisses.cls ≠ "java/lang/invoke/MethodHandle" ∧ yX1_compareMisses.cls ≠ "java/lang/invoke/VarHandle" ∧ (parseMethodDescriptor yX1_compareMisses.desc).map (fun d => d.parameters.length) = some 2 := by decide +kernel
noncomputable def f_X1_farthest_L18 (S : GS) (o : Nat) (x1_4 : Int32) (x2_5 : Int32) : Option ((Int32) ⊕ (Int32 × Int32)) :=
  z_bd (g_r S 1 3 o) fun f_7 => z_bd (g_i S 3 3 f_7) fun f_8 => if f_8 ≤ x2_5 then some (.inl (x1_4)) else z_chk (g_is S 1 o) (z_bd (f_X1_compareMisses S o x2_5 x1_4) fun r_9 => if r_9 ≤ 0 then some (.inr (x1_4, (x2_5 + 1))) else some (.inr (x2_5, (x2_5 + 1))))
noncomputable def f_X1_farthest (S : GS) (o : Nat) : Option (Int32) :=
  z_bd (g_r S 1 3 o) fun f_1 => z_bd (g_i S 3 3 f_1) fun f_2 => z_bd (if f_2 ≤ 0 then some ((-1 : Int32)) else some ((0 : Int32))) fun v_3 => z_bd (z_lp (fun x => f_X1_farthest_L18 S o x.1 x.2) (v_3, (1 : Int32))) fun y1_6 => some y1_6
set_option maxHeartbeats 4000000 in
set_option maxRecDepth 100000 in
theorem mt_X1_farthest (l : Launch) (D : va_G) (cs : Nat → ClassId) (A : Nat → Prop) (S : GS) (o : Nat) {r_ : Int32} (h : f_X1_farthest S o = some r_) : Met l yX1_farthest (z_wd yX1_farthest cX1_farthest 3 (some .int)) (z_rmA 4 153 0 0) (va_Pc [.ref o] (g_C D cs A S)) (g_Q (some (.int r_)) S D cs A) 0 0 A := by
  refine Met.ofW (cc := cX1_farthest) (maxL := 3) (ret := (some .int)) (by decide) rfl ?_
  intro p e s m args below meth c s₁ B hml hv
  obtain ⟨hav, hP0, hK, hN, hSt, hAn⟩ := hv
  have hx := B.exec
  have hb := B.bytes
  have hr := B.returns
  have hts := atoms_spec (ws := z_wd yX1_farthest cX1_farthest 3 (some .int)) B.pre
  have hown : s.vm.findClass RX1 = some m.cls := findClass_of_methodNamed B.named
  have hlocks := B.notSynchronized
  have hc : g_X p s m args c cX1_farthest 3 RX1 D cs A := ⟨⟨hx, hb, hml, fun w hw => hts w (List.mem_cons_of_mem _ hw), hown⟩, hK, hN, hSt, hAn⟩
  have hl := lv_entry ([.ref o]) (n := 3) (Nat.le_of_ble_eq_true rfl)
  have hE : entryFrame m args 3 = F0 m 0 ((lg_sl ([.ref o]) ++ List.replicate (3 - (lg_sl ([.ref o])).length) Slot.unset).toArray) [] := by rw [hav]; exact lg_entry_eq m _ _
  rw [hE]
  clear hE hav
  generalize (lg_sl ([.ref o]) ++ List.replicate (3 - (lg_sl ([.ref o])).length) Slot.unset).toArray = ls at hl ⊢
  have hl : lv_has ls 3 [(0, .ref o)] := hl
  obtain ⟨Q, hQ⟩ : ∃ Q, Q = MQ below (g_Q (some (.int r_)) S D cs A) args s 0 0 A := ⟨_, rfl⟩
  rw [← hQ]
  suffices hmain : ∀ (H : Heap) (locs : List Loc), g_P D cs A S H → va_S A s.heap H locs → W p l e (z_rmA 4 153 0 0) s m args below meth c H locs 0 0 Q (F0 m 0 ls []) from hmain s.heap [] hP0 va_S.rf
  clear hP0
  intro H locs hP hS
  unfold f_X1_farthest at h
  refine lv_aload_n hx hb dX1_farthest_0 rfl (lv_at hl 0 rfl) ?_
  obtain ⟨f_1, ef_1, h⟩ := z_bd_some h
  refine g_get (ci := 1) (k := 3) (v := .ref f_1) hc hP rfl z_inX1 (by decide) wF_X1_21 (g_r_v ef_1) dX1_farthest_1 ?_
  obtain ⟨f_2, ef_2, h⟩ := z_bd_some h
  refine g_getN (ci := 3) (k := 3) (v := .int f_2) hc hP rfl z_inX3 (by decide) wG_X1_25 (g_i_v ef_2) dX1_farthest_4 ?_
  obtain ⟨v_3, hJ, h⟩ := z_bd_some h
  have J_15 : ∀ (H : Heap) (locs : List Loc) (ls : Array Slot), g_P D cs A S H → va_S A s.heap H locs → lv_has ls 3 [(0, .ref o)] → W p l e (z_rmA 4 153 0 0) s m args below meth c H locs (0) (0) Q (F0 m 15 ls [.int v_3]) := by
    intro H locs ls hP hS hl
    refine lv_istore_n (lv' := [(1, .int v_3), (0, .ref o)]) hx hb dX1_farthest_15 rfl hl (by decide) rfl (fun ls hl => ?_)
    refine lv_iconst (v := 1) hx hb dX1_farthest_16 (by decide) ?_
    refine lv_istore_n (lv' := [(2, .int (1 : Int32)), (1, .int v_3), (0, .ref o)]) hx hb dX1_farthest_17 rfl hl (by decide) rfl (fun ls hl => ?_)
    obtain ⟨y1_6, hlp, h⟩ := z_bd_some h
    refine z_lp_ind (P := fun x => ∀ (H : Heap) (locs : List Loc) (ls : Array Slot), g_P D cs A S H → va_S A s.heap H locs → lv_has ls 3 [(0, .ref o), (1, .int x.1), (2, .int x.2)] → W p l e (z_rmA 4 153 0 0) s m args below meth c H locs (0) (0) Q (F0 m 18 ls [])) (Qe := fun y => ∀ (H : Heap) (locs : List Loc) (ls : Array Slot), g_P D cs A S H → va_S A s.heap H locs → lv_has ls 3 [(1, .int y)] → W p l e (z_rmA 4 153 0 0) s m args below meth c H locs (0) (0) Q (F0 m 46 ls [])) ?_ hlp ?_ H locs ls hP hS (lv_sub hl [2, 1, 0] rfl)
    · clear h hlp hP hS hl
      rintro ⟨x1_4, x2_5⟩ oo h K_18 H locs ls hP hS hl
      have hP : g_P D cs A S H := hP
      have hl : lv_has ls 3 [(0, .ref o), (1, .int x1_4), (2, .int x2_5)] := hl
      have h : f_X1_farthest_L18 S o x1_4 x2_5 = some oo := h
      unfold f_X1_farthest_L18 at h
      refine lv_iload_n hx hb dX1_farthest_18 rfl (lv_at hl 2 rfl) ?_
      refine lv_aload_n hx hb dX1_farthest_19 rfl (lv_at hl 0 rfl) ?_
      obtain ⟨f_7, ef_7, h⟩ := z_bd_some h
      refine g_get (ci := 1) (k := 3) (v := .ref f_7) hc hP rfl z_inX1 (by decide) wF_X1_21 (g_r_v ef_7) dX1_farthest_20 ?_
      obtain ⟨f_8, ef_8, h⟩ := z_bd_some h
      refine g_getN (ci := 3) (k := 3) (v := .int f_8) hc hP rfl z_inX3 (by decide) wG_X1_25 (g_i_v ef_8) dX1_farthest_23 ?_
      refine lv_icmp_ge (tgt := 46) hx hb dX1_farthest_26 (by decide) (fun c_26 => ?_) (fun c_26 => ?_)
      · replace h := z_ip_ c_26 h
        cases h
        exact K_18 H locs ls hP hS (lv_sub hl [1] rfl)
      · replace h := z_in_ c_26 h
        refine lv_aload_n hx hb dX1_farthest_29 rfl (lv_at hl 0 rfl) ?_
        refine lv_iload_n hx hb dX1_farthest_30 rfl (lv_at hl 2 rfl) ?_
        refine lv_iload_n hx hb dX1_farthest_31 rfl (lv_at hl 1 rfl) ?_
        obtain ⟨ho_32, h⟩ := z_chk_some h
        obtain ⟨vs_, ho_32⟩ := Option.isSome_iff_exists.mp ho_32
        obtain ⟨r_9, e_32, h⟩ := z_bd_some h
        refine g_callV (ci := 1) (As := [.int x2_5, .int x1_4]) (rv := (some (.int r_9))) (n := 2) hc hP hS rfl ho_32 (mt_X1_compareMisses l D cs A S o x2_5 x1_4 e_32) wM_X1_94 wI_X1_compareMisses wS_X1_compareMisses wZ_X1 wC_X1_compareMisses md_X1_compareMisses ⟨rfl, rfl, Nat.le_of_ble_eq_true rfl, Nat.le_of_ble_eq_true rfl⟩ rfl hl.1 rfl (Nat.le_of_ble_eq_true rfl) dX1_farthest_32 ⟨Nat.le_of_ble_eq_true rfl, Nat.le_of_ble_eq_true rfl⟩ (fun H locs hP hS => ?_)
        show W p l e (z_rmA 4 153 0 0) s m args below meth c H locs (0) (0) Q (F0 m 35 ls [.int r_9])
        refine lv_if_le (tgt := 40) hx hb dX1_farthest_35 (by decide) (fun c_35 => ?_) (fun c_35 => ?_)
        · replace h := z_ip_ c_35 h
          refine lv_iinc (v := (x2_5 + 1)) (lv' := [(2, .int (x2_5 + 1)), (0, .ref o), (1, .int x1_4)]) hx hb dX1_farthest_40 hl (k := 2) rfl rfl (by decide) rfl (fun ls hl => ?_)
          refine lv_goto (tgt := 18) hx hb dX1_farthest_43 (by decide) ?_
          cases h
          exact K_18 H locs ls hP hS (lv_sub hl [1, 2, 0] rfl)
        · replace h := z_in_ c_35 h
          refine lv_iload_n hx hb dX1_farthest_38 rfl (lv_at hl 2 rfl) ?_
          refine lv_istore_n (lv' := [(1, .int x2_5), (0, .ref o), (2, .int x2_5)]) hx hb dX1_farthest_39 rfl hl (by decide) rfl (fun ls hl => ?_)
          refine lv_iinc (v := (x2_5 + 1)) (lv' := [(2, .int (x2_5 + 1)), (1, .int x2_5), (0, .ref o)]) hx hb dX1_farthest_40 hl (k := 2) rfl rfl (by decide) rfl (fun ls hl => ?_)
          refine lv_goto (tgt := 18) hx hb dX1_farthest_43 (by decide) ?_
          cases h
          exact K_18 H locs ls hP hS (lv_sub hl [2, 1, 0] rfl)
    · clear hlp hP hS hl
      intro H locs ls hP hS hl
      have hP : g_P D cs A S H := hP
      have hl : lv_has ls 3 [(1, .int y1_6)] := hl
      refine lv_iload_n hx hb dX1_farthest_46 rfl (lv_at hl 0 rfl) ?_
      cases h
      rw [hQ]
      exact g_reti hc hr hlocks hP hS dX1_farthest_47
  clear h
  have h := hJ
  clear hJ
  refine lv_if_le (tgt := 14) hx hb dX1_farthest_7 (by decide) (fun c_7 => ?_) (fun c_7 => ?_)
  · replace h := z_ip_ c_7 h
    refine lv_iconst (v := -1) hx hb dX1_farthest_14 (by decide) ?_
    cases h
    exact J_15 H locs ls hP hS (lv_sub hl [0] rfl)
  · replace h := z_in_ c_7 h
    refine lv_iconst (v := 0) hx hb dX1_farthest_10 (by decide) ?_
    refine lv_goto (tgt := 15) hx hb dX1_farthest_11 (by decide) ?_
    cases h
    exact J_15 H locs ls hP hS (lv_sub hl [0] rfl)
theorem md_X1_farthest : yX1_farthest.cls ≠ "java/lang/invoke/MethodHandle" ∧ yX1_farthest.cls ≠ "java/lang/invoke/VarHandle" ∧ (parseMethodDescriptor yX1_farthest.desc).map (fun d => d.parameters.length) = some 0 := by decide +kernel
noncomputable def f_X1_farCount_L9 (S : GS) (o : Nat) (r_1 : Int32) (x2_2 : Int32) (x3_3 : Int32) : Option ((Int32) ⊕ (Int32 × Int32)) :=
  z_bd (g_r S 1 3 o) fun f_5 => z_bd (g_i S 3 3 f_5) fun f_6 => if f_6 ≤ x3_3 then some (.inl (x2_2)) else z_chk (g_is S 1 o) (z_bd (f_X1_compareMisses S o x3_3 r_1) fun r_7 => if r_7 = 0 then some (.inr ((x2_2 + 1), (x3_3 + 1))) else some (.inr (x2_2, (x3_3 + 1))))
noncomputable def f_X1_farCount (S : GS) (o : Nat) : Option (Int32) :=
  z_chk (g_is S 1 o) (z_bd (f_X1_farthest S o ) fun r_1 => z_bd (z_lp (fun x => f_X1_farCount_L9 S o r_1 x.1 x.2) ((0 : Int32), (0 : Int32))) fun y2_4 => some y2_4)
set_option maxHeartbeats 4000000 in
set_option maxRecDepth 100000 in
theorem mt_X1_farCount (l : Launch) (D : va_G) (cs : Nat → ClassId) (A : Nat → Prop) (S : GS) (o : Nat) {r_ : Int32} (h : f_X1_farCount S o = some r_) : Met l yX1_farCount (z_wd yX1_farCount cX1_farCount 4 (some .int)) (z_rmA 5 191 0 0) (va_Pc [.ref o] (g_C D cs A S)) (g_Q (some (.int r_)) S D cs A) 0 0 A := by
  refine Met.ofW (cc := cX1_farCount) (maxL := 4) (ret := (some .int)) (by decide) rfl ?_
  intro p e s m args below meth c s₁ B hml hv
  obtain ⟨hav, hP0, hK, hN, hSt, hAn⟩ := hv
  have hx := B.exec
  have hb := B.bytes
  have hr := B.returns
  have hts := atoms_spec (ws := z_wd yX1_farCount cX1_farCount 4 (some .int)) B.pre
  have hown : s.vm.findClass RX1 = some m.cls := findClass_of_methodNamed B.named
  have hlocks := B.notSynchronized
  have hc : g_X p s m args c cX1_farCount 4 RX1 D cs A := ⟨⟨hx, hb, hml, fun w hw => hts w (List.mem_cons_of_mem _ hw), hown⟩, hK, hN, hSt, hAn⟩
  have hl := lv_entry ([.ref o]) (n := 4) (Nat.le_of_ble_eq_true rfl)
  have hE : entryFrame m args 4 = F0 m 0 ((lg_sl ([.ref o]) ++ List.replicate (4 - (lg_sl ([.ref o])).length) Slot.unset).toArray) [] := by rw [hav]; exact lg_entry_eq m _ _
  rw [hE]
  clear hE hav
  generalize (lg_sl ([.ref o]) ++ List.replicate (4 - (lg_sl ([.ref o])).length) Slot.unset).toArray = ls at hl ⊢
  have hl : lv_has ls 4 [(0, .ref o)] := hl
  obtain ⟨Q, hQ⟩ : ∃ Q, Q = MQ below (g_Q (some (.int r_)) S D cs A) args s 0 0 A := ⟨_, rfl⟩
  rw [← hQ]
  suffices hmain : ∀ (H : Heap) (locs : List Loc), g_P D cs A S H → va_S A s.heap H locs → W p l e (z_rmA 5 191 0 0) s m args below meth c H locs 0 0 Q (F0 m 0 ls []) from hmain s.heap [] hP0 va_S.rf
  clear hP0
  intro H locs hP hS
  unfold f_X1_farCount at h
  refine lv_aload_n hx hb dX1_farCount_0 rfl (lv_at hl 0 rfl) ?_
  obtain ⟨ho_1, h⟩ := z_chk_some h
  obtain ⟨vs_, ho_1⟩ := Option.isSome_iff_exists.mp ho_1
  obtain ⟨r_1, e_1, h⟩ := z_bd_some h
  refine g_callV (ci := 1) (As := []) (rv := (some (.int r_1))) (n := 0) hc hP hS rfl ho_1 (mt_X1_farthest l D cs A S o  e_1) wM_X1_97 wI_X1_farthest wS_X1_farthest wZ_X1 wC_X1_farthest md_X1_farthest ⟨rfl, rfl, Nat.le_of_ble_eq_true rfl, Nat.le_of_ble_eq_true rfl⟩ rfl hl.1 rfl (Nat.le_of_ble_eq_true rfl) dX1_farCount_1 ⟨Nat.le_of_ble_eq_true rfl, Nat.le_of_ble_eq_true rfl⟩ (fun H locs hP hS => ?_)
  show W p l e (z_rmA 5 191 0 0) s m args below meth c H locs (0) (0) Q (F0 m 4 ls [.int r_1])
  refine lv_istore_n (lv' := [(1, .int r_1), (0, .ref o)]) hx hb dX1_farCount_4 rfl hl (by decide) rfl (fun ls hl => ?_)
  refine lv_iconst (v := 0) hx hb dX1_farCount_5 (by decide) ?_
  refine lv_istore_n (lv' := [(2, .int (0 : Int32)), (1, .int r_1), (0, .ref o)]) hx hb dX1_farCount_6 rfl hl (by decide) rfl (fun ls hl => ?_)
  refine lv_iconst (v := 0) hx hb dX1_farCount_7 (by decide) ?_
  refine lv_istore_n (lv' := [(3, .int (0 : Int32)), (2, .int (0 : Int32)), (1, .int r_1), (0, .ref o)]) hx hb dX1_farCount_8 rfl hl (by decide) rfl (fun ls hl => ?_)
  obtain ⟨y2_4, hlp, h⟩ := z_bd_some h
  refine z_lp_ind (P := fun x => ∀ (H : Heap) (locs : List Loc) (ls : Array Slot), g_P D cs A S H → va_S A s.heap H locs → lv_has ls 4 [(0, .ref o), (1, .int r_1), (2, .int x.1), (3, .int x.2)] → W p l e (z_rmA 5 191 0 0) s m args below meth c H locs (0) (0) Q (F0 m 9 ls [])) (Qe := fun y => ∀ (H : Heap) (locs : List Loc) (ls : Array Slot), g_P D cs A S H → va_S A s.heap H locs → lv_has ls 4 [(2, .int y)] → W p l e (z_rmA 5 191 0 0) s m args below meth c H locs (0) (0) Q (F0 m 38 ls [])) ?_ hlp ?_ H locs ls hP hS (lv_sub hl [3, 2, 1, 0] rfl)
  · clear h hlp hP hS hl
    rintro ⟨x2_2, x3_3⟩ oo h K_9 H locs ls hP hS hl
    have hP : g_P D cs A S H := hP
    have hl : lv_has ls 4 [(0, .ref o), (1, .int r_1), (2, .int x2_2), (3, .int x3_3)] := hl
    have h : f_X1_farCount_L9 S o r_1 x2_2 x3_3 = some oo := h
    unfold f_X1_farCount_L9 at h
    refine lv_iload_n hx hb dX1_farCount_9 rfl (lv_at hl 3 rfl) ?_
    refine lv_aload_n hx hb dX1_farCount_10 rfl (lv_at hl 0 rfl) ?_
    obtain ⟨f_5, ef_5, h⟩ := z_bd_some h
    refine g_get (ci := 1) (k := 3) (v := .ref f_5) hc hP rfl z_inX1 (by decide) wF_X1_21 (g_r_v ef_5) dX1_farCount_11 ?_
    obtain ⟨f_6, ef_6, h⟩ := z_bd_some h
    refine g_getN (ci := 3) (k := 3) (v := .int f_6) hc hP rfl z_inX3 (by decide) wG_X1_25 (g_i_v ef_6) dX1_farCount_14 ?_
    refine lv_icmp_ge (tgt := 38) hx hb dX1_farCount_17 (by decide) (fun c_17 => ?_) (fun c_17 => ?_)
    · replace h := z_ip_ c_17 h
      cases h
      exact K_9 H locs ls hP hS (lv_sub hl [2] rfl)
    · replace h := z_in_ c_17 h
      refine lv_aload_n hx hb dX1_farCount_20 rfl (lv_at hl 0 rfl) ?_
      refine lv_iload_n hx hb dX1_farCount_21 rfl (lv_at hl 3 rfl) ?_
      refine lv_iload_n hx hb dX1_farCount_22 rfl (lv_at hl 1 rfl) ?_
      obtain ⟨ho_23, h⟩ := z_chk_some h
      obtain ⟨vs_, ho_23⟩ := Option.isSome_iff_exists.mp ho_23
      obtain ⟨r_7, e_23, h⟩ := z_bd_some h
      refine g_callV (ci := 1) (As := [.int x3_3, .int r_1]) (rv := (some (.int r_7))) (n := 2) hc hP hS rfl ho_23 (mt_X1_compareMisses l D cs A S o x3_3 r_1 e_23) wM_X1_94 wI_X1_compareMisses wS_X1_compareMisses wZ_X1 wC_X1_compareMisses md_X1_compareMisses ⟨rfl, rfl, Nat.le_of_ble_eq_true rfl, Nat.le_of_ble_eq_true rfl⟩ rfl hl.1 rfl (Nat.le_of_ble_eq_true rfl) dX1_farCount_23 ⟨Nat.le_of_ble_eq_true rfl, Nat.le_of_ble_eq_true rfl⟩ (fun H locs hP hS => ?_)
      show W p l e (z_rmA 5 191 0 0) s m args below meth c H locs (0) (0) Q (F0 m 26 ls [.int r_7])
      refine lv_if_ne (tgt := 32) hx hb dX1_farCount_26 (by decide) (fun c_26 => ?_) (fun c_26 => ?_)
      · replace h := z_in_ c_26 h
        refine lv_iinc (v := (x3_3 + 1)) (lv' := [(3, .int (x3_3 + 1)), (0, .ref o), (1, .int r_1), (2, .int x2_2)]) hx hb dX1_farCount_32 hl (k := 3) rfl rfl (by decide) rfl (fun ls hl => ?_)
        refine lv_goto (tgt := 9) hx hb dX1_farCount_35 (by decide) ?_
        cases h
        exact K_9 H locs ls hP hS (lv_sub hl [1, 2, 3, 0] rfl)
      · replace h := z_ip_ c_26 h
        refine lv_iinc (v := (x2_2 + 1)) (lv' := [(2, .int (x2_2 + 1)), (0, .ref o), (1, .int r_1), (3, .int x3_3)]) hx hb dX1_farCount_29 hl (k := 2) rfl rfl (by decide) rfl (fun ls hl => ?_)
        refine lv_iinc (v := (x3_3 + 1)) (lv' := [(3, .int (x3_3 + 1)), (2, .int (x2_2 + 1)), (0, .ref o), (1, .int r_1)]) hx hb dX1_farCount_32 hl (k := 3) rfl rfl (by decide) rfl (fun ls hl => ?_)
        refine lv_goto (tgt := 9) hx hb dX1_farCount_35 (by decide) ?_
        cases h
        exact K_9 H locs ls hP hS (lv_sub hl [2, 3, 1, 0] rfl)
  · clear hlp hP hS hl
    intro H locs ls hP hS hl
    have hP : g_P D cs A S H := hP
    have hl : lv_has ls 4 [(2, .int y2_4)] := hl
    refine lv_iload_n hx hb dX1_farCount_38 rfl (lv_at hl 0 rfl) ?_
    cases h
    rw [hQ]
    exact g_reti hc hr hlocks hP hS dX1_farCount_39
theorem md_X1_farCount : yX1_farCount.cls ≠ "java/lang/invoke/MethodHandle" ∧ yX1_farCount.cls ≠ "java/lang/invoke/VarHandle" ∧ (parseMethodDescriptor yX1_farCount.desc).map (fun d => d.parameters.length) = some 0 := by decide +kernel
noncomputable def f_X1_farPoint_L10 (S : GS) (a0 : Int32) (o : Nat) (r_1 : Int32) (x3_2 : Int32) (x4_3 : Int32) : Option (((Int32) ⊕ (Unit)) ⊕ (Int32 × Int32)) :=
  z_bd (g_r S 1 3 o) fun f_4 => z_bd (g_i S 3 3 f_4) fun f_5 => if f_5 ≤ x4_3 then some (.inl (.inr ())) else z_chk (g_is S 1 o) (z_bd (f_X1_compareMisses S o x4_3 r_1) fun r_6 => if r_6 = 0 then if x3_2 = a0 then some (.inl (.inl x4_3)) else some (.inr ((x3_2 + 1), (x4_3 + 1))) else some (.inr (x3_2, (x4_3 + 1))))
noncomputable def f_X1_farPoint (S : GS) (o : Nat) (a0 : Int32) : Option (Int32) :=
  z_chk (g_is S 1 o) (z_bd (f_X1_farthest S o ) fun r_1 => z_bs (z_lp (fun x => f_X1_farPoint_L10 S a0 o r_1 x.1 x.2) ((0 : Int32), (0 : Int32))) fun y => some (-1 : Int32))
set_option maxHeartbeats 4000000 in
set_option maxRecDepth 100000 in
theorem mt_X1_farPoint (l : Launch) (D : va_G) (cs : Nat → ClassId) (A : Nat → Prop) (S : GS) (o : Nat) (a0 : Int32) {r_ : Int32} (h : f_X1_farPoint S o a0 = some r_) : Met l yX1_farPoint (z_wd yX1_farPoint cX1_farPoint 5 (some .int)) (z_rmA 5 191 0 0) (va_Pc [.ref o, .int a0] (g_C D cs A S)) (g_Q (some (.int r_)) S D cs A) 0 0 A := by
  refine Met.ofW (cc := cX1_farPoint) (maxL := 5) (ret := (some .int)) (by decide) rfl ?_
  intro p e s m args below meth c s₁ B hml hv
  obtain ⟨hav, hP0, hK, hN, hSt, hAn⟩ := hv
  have hx := B.exec
  have hb := B.bytes
  have hr := B.returns
  have hts := atoms_spec (ws := z_wd yX1_farPoint cX1_farPoint 5 (some .int)) B.pre
  have hown : s.vm.findClass RX1 = some m.cls := findClass_of_methodNamed B.named
  have hlocks := B.notSynchronized
  have hc : g_X p s m args c cX1_farPoint 5 RX1 D cs A := ⟨⟨hx, hb, hml, fun w hw => hts w (List.mem_cons_of_mem _ hw), hown⟩, hK, hN, hSt, hAn⟩
  have hl := lv_entry ([.ref o, .int a0]) (n := 5) (Nat.le_of_ble_eq_true rfl)
  have hE : entryFrame m args 5 = F0 m 0 ((lg_sl ([.ref o, .int a0]) ++ List.replicate (5 - (lg_sl ([.ref o, .int a0])).length) Slot.unset).toArray) [] := by rw [hav]; exact lg_entry_eq m _ _
  rw [hE]
  clear hE hav
  generalize (lg_sl ([.ref o, .int a0]) ++ List.replicate (5 - (lg_sl ([.ref o, .int a0])).length) Slot.unset).toArray = ls at hl ⊢
  have hl : lv_has ls 5 [(0, .ref o), (1, .int a0)] := hl
  obtain ⟨Q, hQ⟩ : ∃ Q, Q = MQ below (g_Q (some (.int r_)) S D cs A) args s 0 0 A := ⟨_, rfl⟩
  rw [← hQ]
  suffices hmain : ∀ (H : Heap) (locs : List Loc), g_P D cs A S H → va_S A s.heap H locs → W p l e (z_rmA 5 191 0 0) s m args below meth c H locs 0 0 Q (F0 m 0 ls []) from hmain s.heap [] hP0 va_S.rf
  clear hP0
  intro H locs hP hS
  unfold f_X1_farPoint at h
  refine lv_aload_n hx hb dX1_farPoint_0 rfl (lv_at hl 0 rfl) ?_
  obtain ⟨ho_1, h⟩ := z_chk_some h
  obtain ⟨vs_, ho_1⟩ := Option.isSome_iff_exists.mp ho_1
  obtain ⟨r_1, e_1, h⟩ := z_bd_some h
  refine g_callV (ci := 1) (As := []) (rv := (some (.int r_1))) (n := 0) hc hP hS rfl ho_1 (mt_X1_farthest l D cs A S o  e_1) wM_X1_97 wI_X1_farthest wS_X1_farthest wZ_X1 wC_X1_farthest md_X1_farthest ⟨rfl, rfl, Nat.le_of_ble_eq_true rfl, Nat.le_of_ble_eq_true rfl⟩ rfl hl.1 rfl (Nat.le_of_ble_eq_true rfl) dX1_farPoint_1 ⟨Nat.le_of_ble_eq_true rfl, Nat.le_of_ble_eq_true rfl⟩ (fun H locs hP hS => ?_)
  show W p l e (z_rmA 5 191 0 0) s m args below meth c H locs (0) (0) Q (F0 m 4 ls [.int r_1])
  refine lv_istore_n (lv' := [(2, .int r_1), (0, .ref o), (1, .int a0)]) hx hb dX1_farPoint_4 rfl hl (by decide) rfl (fun ls hl => ?_)
  refine lv_iconst (v := 0) hx hb dX1_farPoint_5 (by decide) ?_
  refine lv_istore_n (lv' := [(3, .int (0 : Int32)), (2, .int r_1), (0, .ref o), (1, .int a0)]) hx hb dX1_farPoint_6 rfl hl (by decide) rfl (fun ls hl => ?_)
  refine lv_iconst (v := 0) hx hb dX1_farPoint_7 (by decide) ?_
  refine lv_istore (lv' := [(4, .int (0 : Int32)), (3, .int (0 : Int32)), (2, .int r_1), (0, .ref o), (1, .int a0)]) hx hb dX1_farPoint_8 hl (by decide) rfl (fun ls hl => ?_)
  have LP_10 : ∀ ee, z_lp (fun x => f_X1_farPoint_L10 S a0 o r_1 x.1 x.2) ((0 : Int32), (0 : Int32)) = some ee → ((fun z => match z with
      | .inl rr => rr = r_
      | .inr y => ∀ (H : Heap) (locs : List Loc) (ls : Array Slot), g_P D cs A S H → va_S A s.heap H locs → lv_has ls 5 [] → W p l e (z_rmA 5 191 0 0) s m args below meth c H locs (0) (0) Q (F0 m 49 ls []) : (Int32) ⊕ (Unit) → Prop) ee) → W p l e (z_rmA 5 191 0 0) s m args below meth c H locs (0) (0) Q (F0 m 10 ls []) := by
    intro ee hlp hq
    refine z_lp_ind (P := fun x => ∀ (H : Heap) (locs : List Loc) (ls : Array Slot), g_P D cs A S H → va_S A s.heap H locs → lv_has ls 5 [(0, .ref o), (1, .int a0), (2, .int r_1), (3, .int x.1), (4, .int x.2)] → W p l e (z_rmA 5 191 0 0) s m args below meth c H locs (0) (0) Q (F0 m 10 ls [])) (Qe := fun z => match z with
      | .inl rr => rr = r_
      | .inr y => ∀ (H : Heap) (locs : List Loc) (ls : Array Slot), g_P D cs A S H → va_S A s.heap H locs → lv_has ls 5 [] → W p l e (z_rmA 5 191 0 0) s m args below meth c H locs (0) (0) Q (F0 m 49 ls [])) ?_ hlp hq H locs ls hP hS (lv_sub hl [3, 4, 2, 1, 0] rfl)
    clear h hlp hq hP hS hl
    rintro ⟨x3_2, x4_3⟩ oo h K_10 H locs ls hP hS hl
    have hP : g_P D cs A S H := hP
    have hl : lv_has ls 5 [(0, .ref o), (1, .int a0), (2, .int r_1), (3, .int x3_2), (4, .int x4_3)] := hl
    have h : f_X1_farPoint_L10 S a0 o r_1 x3_2 x4_3 = some oo := h
    unfold f_X1_farPoint_L10 at h
    refine lv_iload hx hb dX1_farPoint_10 (lv_at hl 4 rfl) ?_
    refine lv_aload_n hx hb dX1_farPoint_12 rfl (lv_at hl 0 rfl) ?_
    obtain ⟨f_4, ef_4, h⟩ := z_bd_some h
    refine g_get (ci := 1) (k := 3) (v := .ref f_4) hc hP rfl z_inX1 (by decide) wF_X1_21 (g_r_v ef_4) dX1_farPoint_13 ?_
    obtain ⟨f_5, ef_5, h⟩ := z_bd_some h
    refine g_getN (ci := 3) (k := 3) (v := .int f_5) hc hP rfl z_inX3 (by decide) wG_X1_25 (g_i_v ef_5) dX1_farPoint_16 ?_
    refine lv_icmp_ge (tgt := 49) hx hb dX1_farPoint_19 (by decide) (fun c_19 => ?_) (fun c_19 => ?_)
    · replace h := z_ip_ c_19 h
      cases h
      exact K_10 H locs ls hP hS (lv_sub hl [] rfl)
    · replace h := z_in_ c_19 h
      refine lv_aload_n hx hb dX1_farPoint_22 rfl (lv_at hl 0 rfl) ?_
      refine lv_iload hx hb dX1_farPoint_23 (lv_at hl 4 rfl) ?_
      refine lv_iload_n hx hb dX1_farPoint_25 rfl (lv_at hl 2 rfl) ?_
      obtain ⟨ho_26, h⟩ := z_chk_some h
      obtain ⟨vs_, ho_26⟩ := Option.isSome_iff_exists.mp ho_26
      obtain ⟨r_6, e_26, h⟩ := z_bd_some h
      refine g_callV (ci := 1) (As := [.int x4_3, .int r_1]) (rv := (some (.int r_6))) (n := 2) hc hP hS rfl ho_26 (mt_X1_compareMisses l D cs A S o x4_3 r_1 e_26) wM_X1_94 wI_X1_compareMisses wS_X1_compareMisses wZ_X1 wC_X1_compareMisses md_X1_compareMisses ⟨rfl, rfl, Nat.le_of_ble_eq_true rfl, Nat.le_of_ble_eq_true rfl⟩ rfl hl.1 rfl (Nat.le_of_ble_eq_true rfl) dX1_farPoint_26 ⟨Nat.le_of_ble_eq_true rfl, Nat.le_of_ble_eq_true rfl⟩ (fun H locs hP hS => ?_)
      show W p l e (z_rmA 5 191 0 0) s m args below meth c H locs (0) (0) Q (F0 m 29 ls [.int r_6])
      refine lv_if_ne (tgt := 43) hx hb dX1_farPoint_29 (by decide) (fun c_29 => ?_) (fun c_29 => ?_)
      · replace h := z_in_ c_29 h
        refine lv_iinc (v := (x4_3 + 1)) (lv' := [(4, .int (x4_3 + 1)), (0, .ref o), (1, .int a0), (2, .int r_1), (3, .int x3_2)]) hx hb dX1_farPoint_43 hl (k := 4) rfl rfl (by decide) rfl (fun ls hl => ?_)
        refine lv_goto (tgt := 10) hx hb dX1_farPoint_46 (by decide) ?_
        cases h
        exact K_10 H locs ls hP hS (lv_sub hl [1, 2, 3, 4, 0] rfl)
      · replace h := z_ip_ c_29 h
        refine lv_iload_n hx hb dX1_farPoint_32 rfl (lv_at hl 3 rfl) ?_
        refine lv_iload_n hx hb dX1_farPoint_33 rfl (lv_at hl 1 rfl) ?_
        refine lv_icmp_ne (tgt := 40) hx hb dX1_farPoint_34 (by decide) (fun c_34 => ?_) (fun c_34 => ?_)
        · replace h := z_in_ c_34 h
          refine lv_iinc (v := (x3_2 + 1)) (lv' := [(3, .int (x3_2 + 1)), (0, .ref o), (1, .int a0), (2, .int r_1), (4, .int x4_3)]) hx hb dX1_farPoint_40 hl (k := 3) rfl rfl (by decide) rfl (fun ls hl => ?_)
          refine lv_iinc (v := (x4_3 + 1)) (lv' := [(4, .int (x4_3 + 1)), (3, .int (x3_2 + 1)), (0, .ref o), (1, .int a0), (2, .int r_1)]) hx hb dX1_farPoint_43 hl (k := 4) rfl rfl (by decide) rfl (fun ls hl => ?_)
          refine lv_goto (tgt := 10) hx hb dX1_farPoint_46 (by decide) ?_
          cases h
          exact K_10 H locs ls hP hS (lv_sub hl [2, 3, 4, 1, 0] rfl)
        · replace h := z_ip_ c_34 h
          refine lv_iload hx hb dX1_farPoint_37 (lv_at hl 4 rfl) ?_
          cases h
          have K_10 : x4_3 = r_ := K_10
          cases K_10
          rw [hQ]
          exact g_reti hc hr hlocks hP hS dX1_farPoint_39
  rcases z_bs_some h with hlp | ⟨y, hlp, h⟩
  · exact LP_10 _ hlp rfl
  · refine LP_10 _ hlp ?_
    skip
    clear hlp LP_10 hP hS hl
    show ∀ (H : Heap) (locs : List Loc) (ls : Array Slot), g_P D cs A S H → va_S A s.heap H locs → lv_has ls 5 [] → W p l e (z_rmA 5 191 0 0) s m args below meth c H locs (0) (0) Q (F0 m 49 ls [])
    intro H locs ls hP hS hl
    have hP : g_P D cs A S H := hP
    have hl : lv_has ls 5 [] := hl
    refine lv_iconst (v := -1) hx hb dX1_farPoint_49 (by decide) ?_
    cases h
    rw [hQ]
    exact g_reti hc hr hlocks hP hS dX1_farPoint_50
theorem md_X1_farPoint : yX1_farPoint.cls ≠ "java/lang/invoke/MethodHandle" ∧ yX1_farPoint.cls ≠ "java/lang/invoke/VarHandle" ∧ (parseMethodDescriptor yX1_farPoint.desc).map (fun d => d.parameters.length) = some 1 := by decide +kernel
noncomputable def f_X1_freeNumbers (S : GS) (o : Nat) : Option (Int32) :=
  z_bd (g_i S 1 1 o) fun f_1 => if f_1 = (2 : Int32) then some (2 : Int32) else z_bd (g_i S 1 2 o) fun f_2 => some (f_2 + (1 : Int32))
set_option maxHeartbeats 4000000 in
set_option maxRecDepth 100000 in
theorem mt_X1_freeNumbers (l : Launch) (D : va_G) (cs : Nat → ClassId) (A : Nat → Prop) (S : GS) (o : Nat) {r_ : Int32} (h : f_X1_freeNumbers S o = some r_) : Met l yX1_freeNumbers (z_wd yX1_freeNumbers cX1_freeNumbers 1 (some .int)) (z_rmA 0 0 0 0) (va_Pc [.ref o] (g_C D cs A S)) (g_Q (some (.int r_)) S D cs A) 0 0 A := by
  refine Met.ofW (cc := cX1_freeNumbers) (maxL := 1) (ret := (some .int)) (by decide) rfl ?_
  intro p e s m args below meth c s₁ B hml hv
  obtain ⟨hav, hP0, hK, hN, hSt, hAn⟩ := hv
  have hx := B.exec
  have hb := B.bytes
  have hr := B.returns
  have hts := atoms_spec (ws := z_wd yX1_freeNumbers cX1_freeNumbers 1 (some .int)) B.pre
  have hown : s.vm.findClass RX1 = some m.cls := findClass_of_methodNamed B.named
  have hlocks := B.notSynchronized
  have hc : g_X p s m args c cX1_freeNumbers 1 RX1 D cs A := ⟨⟨hx, hb, hml, fun w hw => hts w (List.mem_cons_of_mem _ hw), hown⟩, hK, hN, hSt, hAn⟩
  have hl := lv_entry ([.ref o]) (n := 1) (Nat.le_of_ble_eq_true rfl)
  have hE : entryFrame m args 1 = F0 m 0 ((lg_sl ([.ref o]) ++ List.replicate (1 - (lg_sl ([.ref o])).length) Slot.unset).toArray) [] := by rw [hav]; exact lg_entry_eq m _ _
  rw [hE]
  clear hE hav
  generalize (lg_sl ([.ref o]) ++ List.replicate (1 - (lg_sl ([.ref o])).length) Slot.unset).toArray = ls at hl ⊢
  have hl : lv_has ls 1 [(0, .ref o)] := hl
  obtain ⟨Q, hQ⟩ : ∃ Q, Q = MQ below (g_Q (some (.int r_)) S D cs A) args s 0 0 A := ⟨_, rfl⟩
  rw [← hQ]
  suffices hmain : ∀ (H : Heap) (locs : List Loc), g_P D cs A S H → va_S A s.heap H locs → W p l e (z_rmA 0 0 0 0) s m args below meth c H locs 0 0 Q (F0 m 0 ls []) from hmain s.heap [] hP0 va_S.rf
  clear hP0
  intro H locs hP hS
  unfold f_X1_freeNumbers at h
  refine lv_aload_n hx hb dX1_freeNumbers_0 rfl (lv_at hl 0 rfl) ?_
  obtain ⟨f_1, ef_1, h⟩ := z_bd_some h
  refine g_get (ci := 1) (k := 1) (v := .int f_1) hc hP rfl z_inX1 (by decide) wF_X1_15 (g_i_v ef_1) dX1_freeNumbers_1 ?_
  refine lv_iconst (v := 2) hx hb dX1_freeNumbers_4 (by decide) ?_
  refine lv_icmp_ne (tgt := 12) hx hb dX1_freeNumbers_5 (by decide) (fun c_5 => ?_) (fun c_5 => ?_)
  · replace h := z_in_ c_5 h
    refine lv_aload_n hx hb dX1_freeNumbers_12 rfl (lv_at hl 0 rfl) ?_
    obtain ⟨f_2, ef_2, h⟩ := z_bd_some h
    refine g_get (ci := 1) (k := 2) (v := .int f_2) hc hP rfl z_inX1 (by decide) wF_X1_18 (g_i_v ef_2) dX1_freeNumbers_13 ?_
    refine lv_iconst (v := 1) hx hb dX1_freeNumbers_16 (by decide) ?_
    refine lv_iadd hx hb dX1_freeNumbers_17 ?_
    cases h
    rw [hQ]
    exact g_reti hc hr hlocks hP hS dX1_freeNumbers_18
  · replace h := z_ip_ c_5 h
    refine lv_iconst (v := 2) hx hb dX1_freeNumbers_8 (by decide) ?_
    refine lv_goto (tgt := 18) hx hb dX1_freeNumbers_9 (by decide) ?_
    cases h
    rw [hQ]
    exact g_reti hc hr hlocks hP hS dX1_freeNumbers_18
theorem md_X1_freeNumbers : yX1_freeNumbers.cls ≠ "java/lang/invoke/MethodHandle" ∧ yX1_freeNumbers.cls ≠ "java/lang/invoke/VarHandle" ∧ (parseMethodDescriptor yX1_freeNumbers.desc).map (fun d => d.parameters.length) = some 0 := by decide +kernel
noncomputable def f_X1_hasTurns (S : GS) (o : Nat) : Option (Int32) :=
  z_bd (g_i S 1 1 o) fun f_1 => if f_1 = (1 : Int32) then z_bd (g_r S 1 3 o) fun f_2 => z_bd (g_i S 3 3 f_2) fun f_3 => z_chk (g_is S 1 o) (z_bd (f_X1_freeNumbers S o ) fun r_4 => if f_3 ≤ r_4 then some (0 : Int32) else some (1 : Int32)) else z_bd (g_i S 1 1 o) fun f_5 => if f_5 = (2 : Int32) then z_bd (g_r S 1 3 o) fun f_6 => z_bd (g_i S 3 3 f_6) fun f_7 => z_chk (g_is S 1 o) (z_bd (f_X1_freeNumbers S o ) fun r_8 => if f_7 ≤ r_8 then some (0 : Int32) else some (1 : Int32)) else some (0 : Int32)
set_option maxHeartbeats 4000000 in
set_option maxRecDepth 100000 in
theorem mt_X1_hasTurns (l : Launch) (D : va_G) (cs : Nat → ClassId) (A : Nat → Prop) (S : GS) (o : Nat) {r_ : Int32} (h : f_X1_hasTurns S o = some r_) : Met l yX1_hasTurns (z_wd yX1_hasTurns cX1_hasTurns 1 (some .boolean)) (z_rmA 1 36 0 0) (va_Pc [.ref o] (g_C D cs A S)) (g_Q (some (.int r_)) S D cs A) 0 0 A := by
  refine Met.ofW (cc := cX1_hasTurns) (maxL := 1) (ret := (some .boolean)) (by decide) rfl ?_
  intro p e s m args below meth c s₁ B hml hv
  obtain ⟨hav, hP0, hK, hN, hSt, hAn⟩ := hv
  have hx := B.exec
  have hb := B.bytes
  have hr := B.returns
  have hts := atoms_spec (ws := z_wd yX1_hasTurns cX1_hasTurns 1 (some .boolean)) B.pre
  have hown : s.vm.findClass RX1 = some m.cls := findClass_of_methodNamed B.named
  have hlocks := B.notSynchronized
  have hc : g_X p s m args c cX1_hasTurns 1 RX1 D cs A := ⟨⟨hx, hb, hml, fun w hw => hts w (List.mem_cons_of_mem _ hw), hown⟩, hK, hN, hSt, hAn⟩
  have hl := lv_entry ([.ref o]) (n := 1) (Nat.le_of_ble_eq_true rfl)
  have hE : entryFrame m args 1 = F0 m 0 ((lg_sl ([.ref o]) ++ List.replicate (1 - (lg_sl ([.ref o])).length) Slot.unset).toArray) [] := by rw [hav]; exact lg_entry_eq m _ _
  rw [hE]
  clear hE hav
  generalize (lg_sl ([.ref o]) ++ List.replicate (1 - (lg_sl ([.ref o])).length) Slot.unset).toArray = ls at hl ⊢
  have hl : lv_has ls 1 [(0, .ref o)] := hl
  obtain ⟨Q, hQ⟩ : ∃ Q, Q = MQ below (g_Q (some (.int r_)) S D cs A) args s 0 0 A := ⟨_, rfl⟩
  rw [← hQ]
  suffices hmain : ∀ (H : Heap) (locs : List Loc), g_P D cs A S H → va_S A s.heap H locs → W p l e (z_rmA 1 36 0 0) s m args below meth c H locs 0 0 Q (F0 m 0 ls []) from hmain s.heap [] hP0 va_S.rf
  clear hP0
  intro H locs hP hS
  unfold f_X1_hasTurns at h
  refine lv_aload_n hx hb dX1_hasTurns_0 rfl (lv_at hl 0 rfl) ?_
  obtain ⟨f_1, ef_1, h⟩ := z_bd_some h
  refine g_get (ci := 1) (k := 1) (v := .int f_1) hc hP rfl z_inX1 (by decide) wF_X1_15 (g_i_v ef_1) dX1_hasTurns_1 ?_
  refine lv_iconst (v := 1) hx hb dX1_hasTurns_4 (by decide) ?_
  refine lv_icmp_eq (tgt := 16) hx hb dX1_hasTurns_5 (by decide) (fun c_5 => ?_) (fun c_5 => ?_)
  · replace h := z_ip_ c_5 h
    refine lv_aload_n hx hb dX1_hasTurns_16 rfl (lv_at hl 0 rfl) ?_
    obtain ⟨f_2, ef_2, h⟩ := z_bd_some h
    refine g_get (ci := 1) (k := 3) (v := .ref f_2) hc hP rfl z_inX1 (by decide) wF_X1_21 (g_r_v ef_2) dX1_hasTurns_17 ?_
    obtain ⟨f_3, ef_3, h⟩ := z_bd_some h
    refine g_getN (ci := 3) (k := 3) (v := .int f_3) hc hP rfl z_inX3 (by decide) wG_X1_25 (g_i_v ef_3) dX1_hasTurns_20 ?_
    refine lv_aload_n hx hb dX1_hasTurns_23 rfl (lv_at hl 0 rfl) ?_
    obtain ⟨ho_24, h⟩ := z_chk_some h
    obtain ⟨vs_, ho_24⟩ := Option.isSome_iff_exists.mp ho_24
    obtain ⟨r_4, e_24, h⟩ := z_bd_some h
    refine g_callV (ci := 1) (As := []) (rv := (some (.int r_4))) (n := 0) hc hP hS rfl ho_24 (mt_X1_freeNumbers l D cs A S o  e_24) wM_X1_101 wI_X1_freeNumbers wS_X1_freeNumbers wZ_X1 wC_X1_freeNumbers md_X1_freeNumbers ⟨rfl, rfl, Nat.le_of_ble_eq_true rfl, Nat.le_of_ble_eq_true rfl⟩ rfl hl.1 rfl (Nat.le_of_ble_eq_true rfl) dX1_hasTurns_24 ⟨Nat.le_of_ble_eq_true rfl, Nat.le_of_ble_eq_true rfl⟩ (fun H locs hP hS => ?_)
    show W p l e (z_rmA 1 36 0 0) s m args below meth c H locs (0) (0) Q (F0 m 27 ls [.int r_4, .int f_3])
    refine lv_icmp_le (tgt := 34) hx hb dX1_hasTurns_27 (by decide) (fun c_27 => ?_) (fun c_27 => ?_)
    · replace h := z_ip_ c_27 h
      refine lv_iconst (v := 0) hx hb dX1_hasTurns_34 (by decide) ?_
      cases h
      rw [hQ]
      exact g_retz hc hr hlocks (by decide) hP hS dX1_hasTurns_35
    · replace h := z_in_ c_27 h
      refine lv_iconst (v := 1) hx hb dX1_hasTurns_30 (by decide) ?_
      refine lv_goto (tgt := 35) hx hb dX1_hasTurns_31 (by decide) ?_
      cases h
      rw [hQ]
      exact g_retz hc hr hlocks (by decide) hP hS dX1_hasTurns_35
  · replace h := z_in_ c_5 h
    refine lv_aload_n hx hb dX1_hasTurns_8 rfl (lv_at hl 0 rfl) ?_
    obtain ⟨f_5, ef_5, h⟩ := z_bd_some h
    refine g_get (ci := 1) (k := 1) (v := .int f_5) hc hP rfl z_inX1 (by decide) wF_X1_15 (g_i_v ef_5) dX1_hasTurns_9 ?_
    refine lv_iconst (v := 2) hx hb dX1_hasTurns_12 (by decide) ?_
    refine lv_icmp_ne (tgt := 34) hx hb dX1_hasTurns_13 (by decide) (fun c_13 => ?_) (fun c_13 => ?_)
    · replace h := z_in_ c_13 h
      refine lv_iconst (v := 0) hx hb dX1_hasTurns_34 (by decide) ?_
      cases h
      rw [hQ]
      exact g_retz hc hr hlocks (by decide) hP hS dX1_hasTurns_35
    · replace h := z_ip_ c_13 h
      refine lv_aload_n hx hb dX1_hasTurns_16 rfl (lv_at hl 0 rfl) ?_
      obtain ⟨f_6, ef_6, h⟩ := z_bd_some h
      refine g_get (ci := 1) (k := 3) (v := .ref f_6) hc hP rfl z_inX1 (by decide) wF_X1_21 (g_r_v ef_6) dX1_hasTurns_17 ?_
      obtain ⟨f_7, ef_7, h⟩ := z_bd_some h
      refine g_getN (ci := 3) (k := 3) (v := .int f_7) hc hP rfl z_inX3 (by decide) wG_X1_25 (g_i_v ef_7) dX1_hasTurns_20 ?_
      refine lv_aload_n hx hb dX1_hasTurns_23 rfl (lv_at hl 0 rfl) ?_
      obtain ⟨ho_24, h⟩ := z_chk_some h
      obtain ⟨vs_, ho_24⟩ := Option.isSome_iff_exists.mp ho_24
      obtain ⟨r_8, e_24, h⟩ := z_bd_some h
      refine g_callV (ci := 1) (As := []) (rv := (some (.int r_8))) (n := 0) hc hP hS rfl ho_24 (mt_X1_freeNumbers l D cs A S o  e_24) wM_X1_101 wI_X1_freeNumbers wS_X1_freeNumbers wZ_X1 wC_X1_freeNumbers md_X1_freeNumbers ⟨rfl, rfl, Nat.le_of_ble_eq_true rfl, Nat.le_of_ble_eq_true rfl⟩ rfl hl.1 rfl (Nat.le_of_ble_eq_true rfl) dX1_hasTurns_24 ⟨Nat.le_of_ble_eq_true rfl, Nat.le_of_ble_eq_true rfl⟩ (fun H locs hP hS => ?_)
      show W p l e (z_rmA 1 36 0 0) s m args below meth c H locs (0) (0) Q (F0 m 27 ls [.int r_8, .int f_7])
      refine lv_icmp_le (tgt := 34) hx hb dX1_hasTurns_27 (by decide) (fun c_27 => ?_) (fun c_27 => ?_)
      · replace h := z_ip_ c_27 h
        refine lv_iconst (v := 0) hx hb dX1_hasTurns_34 (by decide) ?_
        cases h
        rw [hQ]
        exact g_retz hc hr hlocks (by decide) hP hS dX1_hasTurns_35
      · replace h := z_in_ c_27 h
        refine lv_iconst (v := 1) hx hb dX1_hasTurns_30 (by decide) ?_
        refine lv_goto (tgt := 35) hx hb dX1_hasTurns_31 (by decide) ?_
        cases h
        rw [hQ]
        exact g_retz hc hr hlocks (by decide) hP hS dX1_hasTurns_35
theorem md_X1_hasTurns : yX1_hasTurns.cls ≠ "java/lang/invoke/MethodHandle" ∧ yX1_hasTurns.cls ≠ "java/lang/invoke/VarHandle" ∧ (parseMethodDescriptor yX1_hasTurns.desc).map (fun d => d.parameters.length) = some 0 := by decide +kernel
