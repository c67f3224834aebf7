noncomputable def f_X6_levelAt_L5 (S : GS) (a0 : Nat) (a1 : Int32) (o : Nat) (x3_1 : Int32) (x4_2 : Int32) : Option ((Int32) ⊕ (Int32 × Int32)) :=
  z_bd (g_i S 3 3 a0) fun f_4 => if f_4 ≤ x4_2 then some (.inl (x3_1)) else z_bd (g_r S 3 2 a0) fun f_5 => z_bd (g_rI S f_5 x4_2) fun v_6 => z_bd (g_r S 6 0 o) fun f_7 => z_bd (g_rI S f_7 x4_2) fun v_8 => z_bd (f_J9_abs_0f7a4 (v_8 - a1)) fun r_9 => z_bd (f_J9_max_7cf53 x3_1 (v_6 * r_9)) fun r_10 => some (.inr (r_10, (x4_2 + 1)))
noncomputable def f_X6_levelAt (S : GS) (o : Nat) (a0 : Nat) (a1 : Int32) : Option (Int32) :=
  z_bd (z_lp (fun x => f_X6_levelAt_L5 S a0 a1 o x.1 x.2) ((0 : Int32), (0 : Int32))) fun y3_3 => some y3_3
set_option maxHeartbeats 4000000 in
set_option maxRecDepth 100000 in
theorem mt_X6_levelAt (l : Launch) (D : va_G) (cs : Nat → ClassId) (A : Nat → Prop) (S : GS) (o : Nat) (a0 : Nat) (a1 : Int32) {r_ : Int32} (h : f_X6_levelAt S o a0 a1 = some r_) : Met l yX6_levelAt (z_wd yX6_levelAt cX6_levelAt 5 (some .int)) (z_rmA 1 37 0 0) (va_Pc [.ref o, .ref a0, .int a1] (g_C D cs A S)) (g_Q (some (.int r_)) S D cs A) 0 0 A := by
  refine Met.ofW (cc := cX6_levelAt) (maxL := 5) (ret := (some .int)) (by decide) rfl ?_
  intro p e s m args below meth c s₁ B hml hv
  obtain ⟨hav, hP0, hK, hN, hSt, hAn⟩ := hv
  have hx := B.exec
  have hb := B.bytes
  have hr := B.returns
  have hts := atoms_spec (ws := z_wd yX6_levelAt cX6_levelAt 5 (some .int)) B.pre
  have hown : s.vm.findClass RX6 = some m.cls := findClass_of_methodNamed B.named
  have hlocks := B.notSynchronized
  have hc : g_X p s m args c cX6_levelAt 5 RX6 D cs A := ⟨⟨hx, hb, hml, fun w hw => hts w (List.mem_cons_of_mem _ hw), hown⟩, hK, hN, hSt, hAn⟩
  have hl := lv_entry ([.ref o, .ref a0, .int a1]) (n := 5) (Nat.le_of_ble_eq_true rfl)
  have hE : entryFrame m args 5 = F0 m 0 ((lg_sl ([.ref o, .ref a0, .int a1]) ++ List.replicate (5 - (lg_sl ([.ref o, .ref a0, .int a1])).length) Slot.unset).toArray) [] := by rw [hav]; exact lg_entry_eq m _ _
  rw [hE]
  clear hE hav
  generalize (lg_sl ([.ref o, .ref a0, .int a1]) ++ List.replicate (5 - (lg_sl ([.ref o, .ref a0, .int a1])).length) Slot.unset).toArray = ls at hl ⊢
  have hl : lv_has ls 5 [(0, .ref o), (1, .ref a0), (2, .int a1)] := hl
  obtain ⟨Q, hQ⟩ : ∃ Q, Q = MQ below (g_Q (some (.int r_)) S D cs A) args s 0 0 A := ⟨_, rfl⟩
  rw [← hQ]
  suffices hmain : ∀ (H : Heap) (locs : List Loc), g_P D cs A S H → va_S A s.heap H locs → W p l e (z_rmA 1 37 0 0) s m args below meth c H locs 0 0 Q (F0 m 0 ls []) from hmain s.heap [] hP0 va_S.rf
  clear hP0
  intro H locs hP hS
  unfold f_X6_levelAt at h
  refine lv_iconst (v := 0) hx hb dX6_levelAt_0 (by decide) ?_
  refine lv_istore_n (lv' := [(3, .int (0 : Int32)), (0, .ref o), (1, .ref a0), (2, .int a1)]) hx hb dX6_levelAt_1 rfl hl (by decide) rfl (fun ls hl => ?_)
  refine lv_iconst (v := 0) hx hb dX6_levelAt_2 (by decide) ?_
  refine lv_istore (lv' := [(4, .int (0 : Int32)), (3, .int (0 : Int32)), (0, .ref o), (1, .ref a0), (2, .int a1)]) hx hb dX6_levelAt_3 hl (by decide) rfl (fun ls hl => ?_)
  obtain ⟨y3_3, hlp, h⟩ := z_bd_some h
  refine z_lp_ind (P := fun x => ∀ (H : Heap) (locs : List Loc) (ls : Array Slot), g_P D cs A S H → va_S A s.heap H locs → lv_has ls 5 [(0, .ref o), (1, .ref a0), (2, .int a1), (3, .int x.1), (4, .int x.2)] → W p l e (z_rmA 1 37 0 0) s m args below meth c H locs (0) (0) Q (F0 m 5 ls [])) (Qe := fun y => ∀ (H : Heap) (locs : List Loc) (ls : Array Slot), g_P D cs A S H → va_S A s.heap H locs → lv_has ls 5 [(3, .int y)] → W p l e (z_rmA 1 37 0 0) s m args below meth c H locs (0) (0) Q (F0 m 45 ls [])) ?_ hlp ?_ H locs ls hP hS (lv_sub hl [2, 3, 4, 1, 0] rfl)
  · clear h hlp hP hS hl
    rintro ⟨x3_1, x4_2⟩ oo h K_5 H locs ls hP hS hl
    have hP : g_P D cs A S H := hP
    have hl : lv_has ls 5 [(0, .ref o), (1, .ref a0), (2, .int a1), (3, .int x3_1), (4, .int x4_2)] := hl
    have h : f_X6_levelAt_L5 S a0 a1 o x3_1 x4_2 = some oo := h
    unfold f_X6_levelAt_L5 at h
    refine lv_iload hx hb dX6_levelAt_5 (lv_at hl 4 rfl) ?_
    refine lv_aload_n hx hb dX6_levelAt_7 rfl (lv_at hl 1 rfl) ?_
    obtain ⟨f_4, ef_4, h⟩ := z_bd_some h
    refine g_getN (ci := 3) (k := 3) (v := .int f_4) hc hP rfl z_inX3 (by decide) wG_X6_22 (g_i_v ef_4) dX6_levelAt_8 ?_
    refine lv_icmp_ge (tgt := 45) hx hb dX6_levelAt_11 (by decide) (fun c_11 => ?_) (fun c_11 => ?_)
    · replace h := z_ip_ c_11 h
      cases h
      exact K_5 H locs ls hP hS (lv_sub hl [3] rfl)
    · replace h := z_in_ c_11 h
      refine lv_iload_n hx hb dX6_levelAt_14 rfl (lv_at hl 3 rfl) ?_
      refine lv_aload_n hx hb dX6_levelAt_15 rfl (lv_at hl 1 rfl) ?_
      obtain ⟨f_5, ef_5, h⟩ := z_bd_some h
      refine g_getN (ci := 3) (k := 2) (v := .ref f_5) hc hP rfl z_inX3 (by decide) wG_X6_46 (g_r_v ef_5) dX6_levelAt_16 ?_
      refine lv_iload hx hb dX6_levelAt_19 (lv_at hl 4 rfl) ?_
      obtain ⟨v_6, ev_6, h⟩ := z_bd_some h
      refine g_iald hc hP ev_6 dX6_levelAt_21 ?_
      refine lv_aload_n hx hb dX6_levelAt_22 rfl (lv_at hl 0 rfl) ?_
      obtain ⟨f_7, ef_7, h⟩ := z_bd_some h
      refine g_get (ci := 6) (k := 0) (v := .ref f_7) hc hP rfl z_inX6 (by decide) wF_X6_9 (g_r_v ef_7) dX6_levelAt_23 ?_
      refine lv_iload hx hb dX6_levelAt_26 (lv_at hl 4 rfl) ?_
      obtain ⟨v_8, ev_8, h⟩ := z_bd_some h
      refine g_iald hc hP ev_8 dX6_levelAt_28 ?_
      refine lv_iload_n hx hb dX6_levelAt_29 rfl (lv_at hl 2 rfl) ?_
      refine lv_isub hx hb dX6_levelAt_30 ?_
      obtain ⟨r_9, er_9, h⟩ := z_bd_some h
      refine s_calli (As := [.int (v_8 - a1)]) (r := r_9) (n := 1) hc.1 (mt_J9_abs_0f7a4 l (v_8 - a1) er_9) wM_X6_49 wT_J9_abs_0f7a4 wZ_J9 wC_J9_abs_0f7a4 md_J9_abs_0f7a4 ⟨rfl, rfl, Nat.le_of_ble_eq_true rfl, Nat.le_of_ble_eq_true rfl⟩ rfl hl.1 rfl (Nat.le_of_ble_eq_true rfl) dX6_levelAt_31 ⟨Nat.le_of_ble_eq_true rfl, Nat.le_of_ble_eq_true rfl⟩ ?_
      refine lv_imul hx hb dX6_levelAt_34 ?_
      obtain ⟨r_10, er_10, h⟩ := z_bd_some h
      refine s_calli (As := [.int x3_1, .int (v_6 * r_9)]) (r := r_10) (n := 2) hc.1 (mt_J9_max_7cf53 l x3_1 (v_6 * r_9) er_10) wM_X6_53 wT_J9_max_7cf53 wZ_J9 wC_J9_max_7cf53 md_J9_max_7cf53 ⟨rfl, rfl, Nat.le_of_ble_eq_true rfl, Nat.le_of_ble_eq_true rfl⟩ rfl hl.1 rfl (Nat.le_of_ble_eq_true rfl) dX6_levelAt_35 ⟨Nat.le_of_ble_eq_true rfl, Nat.le_of_ble_eq_true rfl⟩ ?_
      refine lv_istore_n (lv' := [(3, .int r_10), (0, .ref o), (1, .ref a0), (2, .int a1), (4, .int x4_2)]) hx hb dX6_levelAt_38 rfl hl (by decide) rfl (fun ls hl => ?_)
      refine lv_iinc (v := (x4_2 + 1)) (lv' := [(4, .int (x4_2 + 1)), (3, .int r_10), (0, .ref o), (1, .ref a0), (2, .int a1)]) hx hb dX6_levelAt_39 hl (k := 4) rfl rfl (by decide) rfl (fun ls hl => ?_)
      refine lv_goto (tgt := 5) hx hb dX6_levelAt_42 (by decide) ?_
      cases h
      exact K_5 H locs ls hP hS (lv_sub hl [2, 3, 4, 1, 0] rfl)
  · clear hlp hP hS hl
    intro H locs ls hP hS hl
    have hP : g_P D cs A S H := hP
    have hl : lv_has ls 5 [(3, .int y3_3)] := hl
    refine lv_iload_n hx hb dX6_levelAt_45 rfl (lv_at hl 0 rfl) ?_
    cases h
    rw [hQ]
    exact g_reti hc hr hlocks hP hS dX6_levelAt_46
theorem md_X6_levelAt : yX6_levelAt.cls ≠ "java/lang/invoke/MethodHandle" ∧ yX6_levelAt.cls ≠ "java/lang/invoke/VarHandle" ∧ (parseMethodDescriptor yX6_levelAt.desc).map (fun d => d.parameters.length) = some 2 := by decide +kernel
noncomputable def f_X6_leastC0_L9 (S : GS) (a0 : Nat) (o : Nat) (x3_1 : Int32) (x4_2 : Int32) (x5_3 : Int32) : Option ((Int32) ⊕ (Int32 × Int32 × Int32)) :=
  if (32 : Int32) ≤ x5_3 then some (.inl (x3_1)) else if x4_2 ≤ x3_1 then some (.inl (x3_1)) else z_bd (f_J9_floorDiv_7cf53 (x3_1 + x4_2) (2 : Int32)) fun r_5 => z_chk (g_is S 6 o) (z_bd (f_X6_levelAt S o a0 r_5) fun r_6 => z_chk (g_is S 6 o) (z_bd (f_X6_levelAt S o a0 (r_5 + (1 : Int32))) fun r_7 => if r_7 < r_6 then some (.inr ((r_5 + (1 : Int32)), x4_2, (x5_3 + 1))) else some (.inr (x3_1, r_5, (x5_3 + 1)))))
noncomputable def f_X6_leastC0 (S : GS) (o : Nat) (a0 : Nat) (a1 : Int32) : Option (Int32) :=
  z_bd (z_lp (fun x => f_X6_leastC0_L9 S a0 o x.1 x.2.1 x.2.2) ((-a1), a1, (0 : Int32))) fun y3_4 => some y3_4
set_option maxHeartbeats 4000000 in
set_option maxRecDepth 100000 in
theorem mt_X6_leastC0 (l : Launch) (D : va_G) (cs : Nat → ClassId) (A : Nat → Prop) (S : GS) (o : Nat) (a0 : Nat) (a1 : Int32) {r_ : Int32} (h : f_X6_leastC0 S o a0 a1 = some r_) : Met l yX6_leastC0 (z_wd yX6_leastC0 cX6_leastC0 7 (some .int)) (z_rmA 2 77 0 0) (va_Pc [.ref o, .ref a0, .int a1] (g_C D cs A S)) (g_Q (some (.int r_)) S D cs A) 0 0 A := by
  refine Met.ofW (cc := cX6_leastC0) (maxL := 7) (ret := (some .int)) (by decide) rfl ?_
  intro p e s m args below meth c s₁ B hml hv
  obtain ⟨hav, hP0, hK, hN, hSt, hAn⟩ := hv
  have hx := B.exec
  have hb := B.bytes
  have hr := B.returns
  have hts := atoms_spec (ws := z_wd yX6_leastC0 cX6_leastC0 7 (some .int)) B.pre
  have hown : s.vm.findClass RX6 = some m.cls := findClass_of_methodNamed B.named
  have hlocks := B.notSynchronized
  have hc : g_X p s m args c cX6_leastC0 7 RX6 D cs A := ⟨⟨hx, hb, hml, fun w hw => hts w (List.mem_cons_of_mem _ hw), hown⟩, hK, hN, hSt, hAn⟩
  have hl := lv_entry ([.ref o, .ref a0, .int a1]) (n := 7) (Nat.le_of_ble_eq_true rfl)
  have hE : entryFrame m args 7 = F0 m 0 ((lg_sl ([.ref o, .ref a0, .int a1]) ++ List.replicate (7 - (lg_sl ([.ref o, .ref a0, .int a1])).length) Slot.unset).toArray) [] := by rw [hav]; exact lg_entry_eq m _ _
  rw [hE]
  clear hE hav
  generalize (lg_sl ([.ref o, .ref a0, .int a1]) ++ List.replicate (7 - (lg_sl ([.ref o, .ref a0, .int a1])).length) Slot.unset).toArray = ls at hl ⊢
  have hl : lv_has ls 7 [(0, .ref o), (1, .ref a0), (2, .int a1)] := hl
  obtain ⟨Q, hQ⟩ : ∃ Q, Q = MQ below (g_Q (some (.int r_)) S D cs A) args s 0 0 A := ⟨_, rfl⟩
  rw [← hQ]
  suffices hmain : ∀ (H : Heap) (locs : List Loc), g_P D cs A S H → va_S A s.heap H locs → W p l e (z_rmA 2 77 0 0) s m args below meth c H locs 0 0 Q (F0 m 0 ls []) from hmain s.heap [] hP0 va_S.rf
  clear hP0
  intro H locs hP hS
  unfold f_X6_leastC0 at h
  refine lv_iload_n hx hb dX6_leastC0_0 rfl (lv_at hl 2 rfl) ?_
  refine lv_ineg hx hb dX6_leastC0_1 ?_
  refine lv_istore_n (lv' := [(3, .int (-a1)), (0, .ref o), (1, .ref a0), (2, .int a1)]) hx hb dX6_leastC0_2 rfl hl (by decide) rfl (fun ls hl => ?_)
  refine lv_iload_n hx hb dX6_leastC0_3 rfl (lv_at hl 3 rfl) ?_
  refine lv_istore (lv' := [(4, .int a1), (3, .int (-a1)), (0, .ref o), (1, .ref a0), (2, .int a1)]) hx hb dX6_leastC0_4 hl (by decide) rfl (fun ls hl => ?_)
  refine lv_iconst (v := 0) hx hb dX6_leastC0_6 (by decide) ?_
  refine lv_istore (lv' := [(5, .int (0 : Int32)), (4, .int a1), (3, .int (-a1)), (0, .ref o), (1, .ref a0), (2, .int a1)]) hx hb dX6_leastC0_7 hl (by decide) rfl (fun ls hl => ?_)
  obtain ⟨y3_4, hlp, h⟩ := z_bd_some h
  refine z_lp_ind (P := fun x => ∀ (H : Heap) (locs : List Loc) (ls : Array Slot), g_P D cs A S H → va_S A s.heap H locs → lv_has ls 7 [(0, .ref o), (1, .ref a0), (3, .int x.1), (4, .int x.2.1), (5, .int x.2.2)] → W p l e (z_rmA 2 77 0 0) s m args below meth c H locs (0) (0) Q (F0 m 9 ls [])) (Qe := fun y => ∀ (H : Heap) (locs : List Loc) (ls : Array Slot), g_P D cs A S H → va_S A s.heap H locs → lv_has ls 7 [(3, .int y)] → W p l e (z_rmA 2 77 0 0) s m args below meth c H locs (0) (0) Q (F0 m 69 ls [])) ?_ hlp ?_ H locs ls hP hS (lv_sub hl [3, 4, 2, 1, 0] rfl)
  · clear h hlp hP hS hl
    rintro ⟨x3_1, x4_2, x5_3⟩ oo h K_9 H locs ls hP hS hl
    have hP : g_P D cs A S H := hP
    have hl : lv_has ls 7 [(0, .ref o), (1, .ref a0), (3, .int x3_1), (4, .int x4_2), (5, .int x5_3)] := hl
    have h : f_X6_leastC0_L9 S a0 o x3_1 x4_2 x5_3 = some oo := h
    unfold f_X6_leastC0_L9 at h
    refine lv_iload hx hb dX6_leastC0_9 (lv_at hl 4 rfl) ?_
    refine lv_bipush (v := 32) hx hb dX6_leastC0_11 (by decide) ?_
    refine lv_icmp_ge (tgt := 69) hx hb dX6_leastC0_13 (by decide) (fun c_13 => ?_) (fun c_13 => ?_)
    · replace h := z_ip_ c_13 h
      cases h
      exact K_9 H locs ls hP hS (lv_sub hl [2] rfl)
    · replace h := z_in_ c_13 h
      refine lv_iload_n hx hb dX6_leastC0_16 rfl (lv_at hl 2 rfl) ?_
      refine lv_iload hx hb dX6_leastC0_17 (lv_at hl 3 rfl) ?_
      refine lv_icmp_ge (tgt := 69) hx hb dX6_leastC0_19 (by decide) (fun c_19 => ?_) (fun c_19 => ?_)
      · replace h := z_ip_ c_19 h
        cases h
        exact K_9 H locs ls hP hS (lv_sub hl [2] rfl)
      · replace h := z_in_ c_19 h
        refine lv_iload_n hx hb dX6_leastC0_22 rfl (lv_at hl 2 rfl) ?_
        refine lv_iload hx hb dX6_leastC0_23 (lv_at hl 3 rfl) ?_
        refine lv_iadd hx hb dX6_leastC0_25 ?_
        refine lv_iconst (v := 2) hx hb dX6_leastC0_26 (by decide) ?_
        obtain ⟨r_5, er_5, h⟩ := z_bd_some h
        refine s_calli (As := [.int (x3_1 + x4_2), .int (2 : Int32)]) (r := r_5) (n := 2) hc.1 (mt_J9_floorDiv_7cf53 l (x3_1 + x4_2) (2 : Int32) er_5) wM_X6_40 wT_J9_floorDiv_7cf53 wZ_J9 wC_J9_floorDiv_7cf53 md_J9_floorDiv_7cf53 ⟨rfl, rfl, Nat.le_of_ble_eq_true rfl, Nat.le_of_ble_eq_true rfl⟩ rfl hl.1 rfl (Nat.le_of_ble_eq_true rfl) dX6_leastC0_27 ⟨Nat.le_of_ble_eq_true rfl, Nat.le_of_ble_eq_true rfl⟩ ?_
        refine lv_istore (lv' := [(6, .int r_5), (0, .ref o), (1, .ref a0), (3, .int x3_1), (4, .int x4_2), (5, .int x5_3)]) hx hb dX6_leastC0_30 hl (by decide) rfl (fun ls hl => ?_)
        refine lv_aload_n hx hb dX6_leastC0_32 rfl (lv_at hl 1 rfl) ?_
        refine lv_aload_n hx hb dX6_leastC0_33 rfl (lv_at hl 2 rfl) ?_
        refine lv_iload hx hb dX6_leastC0_34 (lv_at hl 0 rfl) ?_
        obtain ⟨ho_36, h⟩ := z_chk_some h
        obtain ⟨vs_, ho_36⟩ := Option.isSome_iff_exists.mp ho_36
        obtain ⟨r_6, e_36, h⟩ := z_bd_some h
        refine g_callV (ci := 6) (As := [.ref a0, .int r_5]) (rv := (some (.int r_6))) (n := 2) hc hP hS rfl ho_36 (mt_X6_levelAt l D cs A S o a0 r_5 e_36) wM_X6_37 wI_X6_levelAt wS_X6_levelAt wZ_X6 wC_X6_levelAt md_X6_levelAt ⟨rfl, rfl, Nat.le_of_ble_eq_true rfl, Nat.le_of_ble_eq_true rfl⟩ rfl hl.1 rfl (Nat.le_of_ble_eq_true rfl) dX6_leastC0_36 ⟨Nat.le_of_ble_eq_true rfl, Nat.le_of_ble_eq_true rfl⟩ (fun H locs hP hS => ?_)
        show W p l e (z_rmA 2 77 0 0) s m args below meth c H locs (0) (0) Q (F0 m 39 ls [.int r_6])
        refine lv_aload_n hx hb dX6_leastC0_39 rfl (lv_at hl 1 rfl) ?_
        refine lv_aload_n hx hb dX6_leastC0_40 rfl (lv_at hl 2 rfl) ?_
        refine lv_iload hx hb dX6_leastC0_41 (lv_at hl 0 rfl) ?_
        refine lv_iconst (v := 1) hx hb dX6_leastC0_43 (by decide) ?_
        refine lv_iadd hx hb dX6_leastC0_44 ?_
        obtain ⟨ho_45, h⟩ := z_chk_some h
        obtain ⟨vs_, ho_45⟩ := Option.isSome_iff_exists.mp ho_45
        obtain ⟨r_7, e_45, h⟩ := z_bd_some h
        refine g_callV (ci := 6) (As := [.ref a0, .int (r_5 + (1 : Int32))]) (rv := (some (.int r_7))) (n := 2) hc hP hS rfl ho_45 (mt_X6_levelAt l D cs A S o a0 (r_5 + (1 : Int32)) e_45) wM_X6_37 wI_X6_levelAt wS_X6_levelAt wZ_X6 wC_X6_levelAt md_X6_levelAt ⟨rfl, rfl, Nat.le_of_ble_eq_true rfl, Nat.le_of_ble_eq_true rfl⟩ rfl hl.1 rfl (Nat.le_of_ble_eq_true rfl) dX6_leastC0_45 ⟨Nat.le_of_ble_eq_true rfl, Nat.le_of_ble_eq_true rfl⟩ (fun H locs hP hS => ?_)
        show W p l e (z_rmA 2 77 0 0) s m args below meth c H locs (0) (0) Q (F0 m 48 ls [.int r_7, .int r_6])
        refine lv_icmp_gt (tgt := 58) hx hb dX6_leastC0_48 (by decide) (fun c_48 => ?_) (fun c_48 => ?_)
        · replace h := z_ip_ c_48 h
          refine lv_iload hx hb dX6_leastC0_58 (lv_at hl 0 rfl) ?_
          refine lv_iconst (v := 1) hx hb dX6_leastC0_60 (by decide) ?_
          refine lv_iadd hx hb dX6_leastC0_61 ?_
          refine lv_istore_n (lv' := [(3, .int (r_5 + (1 : Int32))), (6, .int r_5), (0, .ref o), (1, .ref a0), (4, .int x4_2), (5, .int x5_3)]) hx hb dX6_leastC0_62 rfl hl (by decide) rfl (fun ls hl => ?_)
          refine lv_iinc (v := (x5_3 + 1)) (lv' := [(5, .int (x5_3 + 1)), (3, .int (r_5 + (1 : Int32))), (6, .int r_5), (0, .ref o), (1, .ref a0), (4, .int x4_2)]) hx hb dX6_leastC0_63 hl (k := 5) rfl rfl (by decide) rfl (fun ls hl => ?_)
          refine lv_goto (tgt := 9) hx hb dX6_leastC0_66 (by decide) ?_
          cases h
          exact K_9 H locs ls hP hS (lv_sub hl [3, 4, 1, 5, 0] rfl)
        · replace h := z_in_ c_48 h
          refine lv_iload hx hb dX6_leastC0_51 (lv_at hl 0 rfl) ?_
          refine lv_istore (lv' := [(4, .int r_5), (6, .int r_5), (0, .ref o), (1, .ref a0), (3, .int x3_1), (5, .int x5_3)]) hx hb dX6_leastC0_53 hl (by decide) rfl (fun ls hl => ?_)
          refine lv_goto (tgt := 63) hx hb dX6_leastC0_55 (by decide) ?_
          refine lv_iinc (v := (x5_3 + 1)) (lv' := [(5, .int (x5_3 + 1)), (4, .int r_5), (6, .int r_5), (0, .ref o), (1, .ref a0), (3, .int x3_1)]) hx hb dX6_leastC0_63 hl (k := 5) rfl rfl (by decide) rfl (fun ls hl => ?_)
          refine lv_goto (tgt := 9) hx hb dX6_leastC0_66 (by decide) ?_
          cases h
          exact K_9 H locs ls hP hS (lv_sub hl [3, 4, 5, 1, 0] rfl)
  · clear hlp hP hS hl
    intro H locs ls hP hS hl
    have hP : g_P D cs A S H := hP
    have hl : lv_has ls 7 [(3, .int y3_4)] := hl
    refine lv_iload_n hx hb dX6_leastC0_69 rfl (lv_at hl 0 rfl) ?_
    cases h
    rw [hQ]
    exact g_reti hc hr hlocks hP hS dX6_leastC0_70
theorem md_X6_leastC0 : yX6_leastC0.cls ≠ "java/lang/invoke/MethodHandle" ∧ yX6_leastC0.cls ≠ "java/lang/invoke/VarHandle" ∧ (parseMethodDescriptor yX6_leastC0.desc).map (fun d => d.parameters.length) = some 2 := by decide +kernel
noncomputable def f_X6_search_L32 (a0 : Nat) (a2 : Int32) (o : Nat) (x6_3 : Int32) (x7_6 : Int32) (S_7 : GS) : Option ((GS) ⊕ (Int32 × GS)) :=
  z_bd (g_i S_7 3 3 a0) fun f_9 => if f_9 ≤ x7_6 then some (.inl (S_7)) else z_bd (g_r S_7 6 0 o) fun f_10 => z_bd (g_r S_7 3 1 a0) fun f_11 => z_bd (g_rI S_7 f_11 x7_6) fun v_12 => z_bd (g_r S_7 3 0 a0) fun f_13 => z_bd (g_rI S_7 f_13 x7_6) fun v_14 => z_bd (g_wI S_7 f_10 x7_6 ((v_12 <<< (a2 &&& 31)) - (x6_3 * v_14))) fun S_15 => some (.inr ((x7_6 + 1), S_15))
noncomputable def f_X6_search_L22 (a0 : Nat) (a2 : Int32) (o : Nat) (v_1 : Int32) (x5_2 : Int32) (x6_3 : Int32) (S_4 : GS) : Option ((GS) ⊕ (Int32 × Int32 × GS)) :=
  if v_1 < x6_3 then some (.inl (S_4)) else z_bd (z_lp (fun x => f_X6_search_L32 a0 a2 o x6_3 x.1 x.2) ((0 : Int32), S_4)) fun S_8 => z_chk (g_is S_8 6 o) (z_bd (f_X6_leastC0 S_8 o a0 ((64 : Int32) <<< (a2 &&& 31))) fun r_16 => z_chk (g_is S_8 6 o) (z_bd (f_X6_levelAt S_8 o a0 r_16) fun r_17 => z_bd (if x5_2 < 0 then some ((1 : Int32)) else if r_17 < x5_2 then some ((1 : Int32)) else if r_17 = x5_2 then z_bd (g_i S_8 6 1 o) fun f_19 => if f_19 ≤ r_16 then some ((0 : Int32)) else some ((1 : Int32)) else some ((0 : Int32))) fun v_18 => if v_18 = 0 then some (.inr (x5_2, (x6_3 + 1), S_8)) else z_bd (g_put S_8 6 1 o (.int r_16)) fun S_20 => z_bd (g_put S_20 6 2 o (.int x6_3)) fun S_21 => some (.inr (r_17, (x6_3 + 1), S_21))))
noncomputable def f_X6_search (S : GS) (o : Nat) (a0 : Nat) (a1 : Int32) (a2 : Int32) : Option (GS) :=
  z_bd (if a1 = 0 then some ((0 : Int32)) else some (((8 : Int32) <<< (a2 &&& 31)))) fun v_1 => z_bd (z_lp (fun x => f_X6_search_L22 a0 a2 o v_1 x.1 x.2.1 x.2.2) ((-1 : Int32), (-v_1), S)) fun S_5 => some S_5
set_option maxHeartbeats 4000000 in
set_option maxRecDepth 100000 in
theorem mt_X6_search (l : Launch) (D : va_G) (cs : Nat → ClassId) (A : Nat → Prop) (S : GS) (o : Nat) (a0 : Nat) (a1 : Int32) (a2 : Int32) {N_ : GS} (h : f_X6_search S o a0 a1 a2 = some N_) : Met l yX6_search (z_wd yX6_search cX6_search 10 none) (z_rmA 3 119 0 0) (va_Pc [.ref o, .ref a0, .int a1, .int a2] (g_C D cs A S)) (g_Q none N_ D cs A) 0 0 A := by
  refine Met.ofW (cc := cX6_search) (maxL := 10) (ret := none) (by decide) rfl ?_
  intro p e s m args below meth c s₁ B hml hv
  obtain ⟨hav, hP0, hK, hN, hSt, hAn⟩ := hv
  have hx := B.exec
  have hb := B.bytes
  have hr := B.returns
  have hts := atoms_spec (ws := z_wd yX6_search cX6_search 10 none) B.pre
  have hown : s.vm.findClass RX6 = some m.cls := findClass_of_methodNamed B.named
  have hlocks := B.notSynchronized
  have hc : g_X p s m args c cX6_search 10 RX6 D cs A := ⟨⟨hx, hb, hml, fun w hw => hts w (List.mem_cons_of_mem _ hw), hown⟩, hK, hN, hSt, hAn⟩
  have hl := lv_entry ([.ref o, .ref a0, .int a1, .int a2]) (n := 10) (Nat.le_of_ble_eq_true rfl)
  have hE : entryFrame m args 10 = F0 m 0 ((lg_sl ([.ref o, .ref a0, .int a1, .int a2]) ++ List.replicate (10 - (lg_sl ([.ref o, .ref a0, .int a1, .int a2])).length) Slot.unset).toArray) [] := by rw [hav]; exact lg_entry_eq m _ _
  rw [hE]
  clear hE hav
  generalize (lg_sl ([.ref o, .ref a0, .int a1, .int a2]) ++ List.replicate (10 - (lg_sl ([.ref o, .ref a0, .int a1, .int a2])).length) Slot.unset).toArray = ls at hl ⊢
  have hl : lv_has ls 10 [(0, .ref o), (1, .ref a0), (2, .int a1), (3, .int a2)] := hl
  obtain ⟨Q, hQ⟩ : ∃ Q, Q = MQ below (g_Q none N_ D cs A) args s 0 0 A := ⟨_, rfl⟩
  rw [← hQ]
  suffices hmain : ∀ (H : Heap) (locs : List Loc), g_P D cs A S H → va_S A s.heap H locs → W p l e (z_rmA 3 119 0 0) s m args below meth c H locs 0 0 Q (F0 m 0 ls []) from hmain s.heap [] hP0 va_S.rf
  clear hP0
  intro H locs hP hS
  unfold f_X6_search at h
  refine lv_iload_n hx hb dX6_search_0 rfl (lv_at hl 2 rfl) ?_
  obtain ⟨v_1, hJ, h⟩ := z_bd_some h
  have J_12 : ∀ (H : Heap) (locs : List Loc) (ls : Array Slot), g_P D cs A S H → va_S A s.heap H locs → lv_has ls 10 [(0, .ref o), (1, .ref a0), (3, .int a2)] → W p l e (z_rmA 3 119 0 0) s m args below meth c H locs (0) (0) Q (F0 m 12 ls [.int v_1]) := by
    intro H locs ls hP hS hl
    refine lv_istore (lv' := [(4, .int v_1), (0, .ref o), (1, .ref a0), (3, .int a2)]) hx hb dX6_search_12 hl (by decide) rfl (fun ls hl => ?_)
    refine lv_iconst (v := -1) hx hb dX6_search_14 (by decide) ?_
    refine lv_istore (lv' := [(5, .int (-1 : Int32)), (4, .int v_1), (0, .ref o), (1, .ref a0), (3, .int a2)]) hx hb dX6_search_15 hl (by decide) rfl (fun ls hl => ?_)
    refine lv_iload hx hb dX6_search_17 (lv_at hl 1 rfl) ?_
    refine lv_ineg hx hb dX6_search_19 ?_
    refine lv_istore (lv' := [(6, .int (-v_1)), (5, .int (-1 : Int32)), (4, .int v_1), (0, .ref o), (1, .ref a0), (3, .int a2)]) hx hb dX6_search_20 hl (by decide) rfl (fun ls hl => ?_)
    obtain ⟨S_5, hlp, h⟩ := z_bd_some h
    refine z_lp_ind (P := fun x => ∀ (H : Heap) (locs : List Loc) (ls : Array Slot), g_P D cs A x.2.2 H → va_S A s.heap H locs → lv_has ls 10 [(0, .ref o), (1, .ref a0), (3, .int a2), (4, .int v_1), (5, .int x.1), (6, .int x.2.1)] → W p l e (z_rmA 3 119 0 0) s m args below meth c H locs (0) (0) Q (F0 m 22 ls [])) (Qe := fun y => ∀ (H : Heap) (locs : List Loc) (ls : Array Slot), g_P D cs A y H → va_S A s.heap H locs → lv_has ls 10 [] → W p l e (z_rmA 3 119 0 0) s m args below meth c H locs (0) (0) Q (F0 m 156 ls [])) ?_ hlp ?_ H locs ls hP hS (lv_sub hl [3, 4, 5, 2, 1, 0] rfl)
    · clear h hlp hP hS hl
      rintro ⟨x5_2, x6_3, S_4⟩ oo h K_22 H locs ls hP hS hl
      have hP : g_P D cs A S_4 H := hP
      have hl : lv_has ls 10 [(0, .ref o), (1, .ref a0), (3, .int a2), (4, .int v_1), (5, .int x5_2), (6, .int x6_3)] := hl
      have h : f_X6_search_L22 a0 a2 o v_1 x5_2 x6_3 S_4 = some oo := h
      unfold f_X6_search_L22 at h
      refine lv_iload hx hb dX6_search_22 (lv_at hl 5 rfl) ?_
      refine lv_iload hx hb dX6_search_24 (lv_at hl 3 rfl) ?_
      refine lv_icmp_gt (tgt := 156) hx hb dX6_search_26 (by decide) (fun c_26 => ?_) (fun c_26 => ?_)
      · replace h := z_ip_ c_26 h
        cases h
        exact K_22 H locs ls hP hS (lv_sub hl [] rfl)
      · replace h := z_in_ c_26 h
        refine lv_iconst (v := 0) hx hb dX6_search_29 (by decide) ?_
        refine lv_istore (lv' := [(7, .int (0 : Int32)), (0, .ref o), (1, .ref a0), (3, .int a2), (4, .int v_1), (5, .int x5_2), (6, .int x6_3)]) hx hb dX6_search_30 hl (by decide) rfl (fun ls hl => ?_)
        obtain ⟨S_8, hlp, h⟩ := z_bd_some h
        refine z_lp_ind (P := fun x => ∀ (H : Heap) (locs : List Loc) (ls : Array Slot), g_P D cs A x.2 H → va_S A s.heap H locs → lv_has ls 10 [(0, .ref o), (1, .ref a0), (3, .int a2), (4, .int v_1), (5, .int x5_2), (6, .int x6_3), (7, .int x.1)] → W p l e (z_rmA 3 119 0 0) s m args below meth c H locs (0) (0) Q (F0 m 32 ls [])) (Qe := fun y => ∀ (H : Heap) (locs : List Loc) (ls : Array Slot), g_P D cs A y H → va_S A s.heap H locs → lv_has ls 10 [(0, .ref o), (1, .ref a0), (3, .int a2), (4, .int v_1), (5, .int x5_2), (6, .int x6_3)] → W p l e (z_rmA 3 119 0 0) s m args below meth c H locs (0) (0) Q (F0 m 74 ls [])) ?_ hlp ?_ H locs ls hP hS (lv_sub hl [1, 2, 3, 4, 5, 6, 0] rfl)
        · clear h hlp hP hS hl
          rintro ⟨x7_6, S_7⟩ oo h K_32 H locs ls hP hS hl
          have hP : g_P D cs A S_7 H := hP
          have hl : lv_has ls 10 [(0, .ref o), (1, .ref a0), (3, .int a2), (4, .int v_1), (5, .int x5_2), (6, .int x6_3), (7, .int x7_6)] := hl
          have h : f_X6_search_L32 a0 a2 o x6_3 x7_6 S_7 = some oo := h
          unfold f_X6_search_L32 at h
          refine lv_iload hx hb dX6_search_32 (lv_at hl 6 rfl) ?_
          refine lv_aload_n hx hb dX6_search_34 rfl (lv_at hl 1 rfl) ?_
          obtain ⟨f_9, ef_9, h⟩ := z_bd_some h
          refine g_getN (ci := 3) (k := 3) (v := .int f_9) hc hP rfl z_inX3 (by decide) wG_X6_22 (g_i_v ef_9) dX6_search_35 ?_
          refine lv_icmp_ge (tgt := 74) hx hb dX6_search_38 (by decide) (fun c_38 => ?_) (fun c_38 => ?_)
          · replace h := z_ip_ c_38 h
            cases h
            exact K_32 H locs ls hP hS (lv_sub hl [0, 1, 2, 3, 4, 5] rfl)
          · replace h := z_in_ c_38 h
            refine lv_aload_n hx hb dX6_search_41 rfl (lv_at hl 0 rfl) ?_
            obtain ⟨f_10, ef_10, h⟩ := z_bd_some h
            refine g_get (ci := 6) (k := 0) (v := .ref f_10) hc hP rfl z_inX6 (by decide) wF_X6_9 (g_r_v ef_10) dX6_search_42 ?_
            refine lv_iload hx hb dX6_search_45 (lv_at hl 6 rfl) ?_
            refine lv_aload_n hx hb dX6_search_47 rfl (lv_at hl 1 rfl) ?_
            obtain ⟨f_11, ef_11, h⟩ := z_bd_some h
            refine g_getN (ci := 3) (k := 1) (v := .ref f_11) hc hP rfl z_inX3 (by decide) wG_X6_27 (g_r_v ef_11) dX6_search_48 ?_
            refine lv_iload hx hb dX6_search_51 (lv_at hl 6 rfl) ?_
            obtain ⟨v_12, ev_12, h⟩ := z_bd_some h
            refine g_iald hc hP ev_12 dX6_search_53 ?_
            refine lv_iload_n hx hb dX6_search_54 rfl (lv_at hl 2 rfl) ?_
            refine lv_ishl hx hb dX6_search_55 ?_
            refine lv_iload hx hb dX6_search_56 (lv_at hl 5 rfl) ?_
            refine lv_aload_n hx hb dX6_search_58 rfl (lv_at hl 1 rfl) ?_
            obtain ⟨f_13, ef_13, h⟩ := z_bd_some h
            refine g_getN (ci := 3) (k := 0) (v := .ref f_13) hc hP rfl z_inX3 (by decide) wG_X6_30 (g_r_v ef_13) dX6_search_59 ?_
            refine lv_iload hx hb dX6_search_62 (lv_at hl 6 rfl) ?_
            obtain ⟨v_14, ev_14, h⟩ := z_bd_some h
            refine g_iald hc hP ev_14 dX6_search_64 ?_
            refine lv_imul hx hb dX6_search_65 ?_
            refine lv_isub hx hb dX6_search_66 ?_
            obtain ⟨S_15, eS_15, h⟩ := z_bd_some h
            refine g_iast hc hP hS eS_15 dX6_search_67 (fun H locs hP hS => ?_)
            refine lv_iinc (v := (x7_6 + 1)) (lv' := [(7, .int (x7_6 + 1)), (0, .ref o), (1, .ref a0), (3, .int a2), (4, .int v_1), (5, .int x5_2), (6, .int x6_3)]) hx hb dX6_search_68 hl (k := 6) rfl rfl (by decide) rfl (fun ls hl => ?_)
            refine lv_goto (tgt := 32) hx hb dX6_search_71 (by decide) ?_
            cases h
            exact K_32 H locs ls hP hS (lv_sub hl [1, 2, 3, 4, 5, 6, 0] rfl)
        · clear hlp hP hS hl
          intro H locs ls hP hS hl
          have hP : g_P D cs A S_8 H := hP
          have hl : lv_has ls 10 [(0, .ref o), (1, .ref a0), (3, .int a2), (4, .int v_1), (5, .int x5_2), (6, .int x6_3)] := hl
          refine lv_aload_n hx hb dX6_search_74 rfl (lv_at hl 0 rfl) ?_
          refine lv_aload_n hx hb dX6_search_75 rfl (lv_at hl 1 rfl) ?_
          refine lv_bipush (v := 64) hx hb dX6_search_76 (by decide) ?_
          refine lv_iload_n hx hb dX6_search_78 rfl (lv_at hl 2 rfl) ?_
          refine lv_ishl hx hb dX6_search_79 ?_
          obtain ⟨ho_80, h⟩ := z_chk_some h
          obtain ⟨vs_, ho_80⟩ := Option.isSome_iff_exists.mp ho_80
          obtain ⟨r_16, e_80, h⟩ := z_bd_some h
          refine g_callV (ci := 6) (As := [.ref a0, .int ((64 : Int32) <<< (a2 &&& 31))]) (rv := (some (.int r_16))) (n := 2) hc hP hS rfl ho_80 (mt_X6_leastC0 l D cs A S_8 o a0 ((64 : Int32) <<< (a2 &&& 31)) e_80) wM_X6_33 wI_X6_leastC0 wS_X6_leastC0 wZ_X6 wC_X6_leastC0 md_X6_leastC0 ⟨rfl, rfl, Nat.le_of_ble_eq_true rfl, Nat.le_of_ble_eq_true rfl⟩ rfl hl.1 rfl (Nat.le_of_ble_eq_true rfl) dX6_search_80 ⟨Nat.le_of_ble_eq_true rfl, Nat.le_of_ble_eq_true rfl⟩ (fun H locs hP hS => ?_)
          show W p l e (z_rmA 3 119 0 0) s m args below meth c H locs (0) (0) Q (F0 m 83 ls [.int r_16])
          refine lv_istore (lv' := [(7, .int r_16), (0, .ref o), (1, .ref a0), (3, .int a2), (4, .int v_1), (5, .int x5_2), (6, .int x6_3)]) hx hb dX6_search_83 hl (by decide) rfl (fun ls hl => ?_)
          refine lv_aload_n hx hb dX6_search_85 rfl (lv_at hl 1 rfl) ?_
          refine lv_aload_n hx hb dX6_search_86 rfl (lv_at hl 2 rfl) ?_
          refine lv_iload hx hb dX6_search_87 (lv_at hl 0 rfl) ?_
          obtain ⟨ho_89, h⟩ := z_chk_some h
          obtain ⟨vs_, ho_89⟩ := Option.isSome_iff_exists.mp ho_89
          obtain ⟨r_17, e_89, h⟩ := z_bd_some h
          refine g_callV (ci := 6) (As := [.ref a0, .int r_16]) (rv := (some (.int r_17))) (n := 2) hc hP hS rfl ho_89 (mt_X6_levelAt l D cs A S_8 o a0 r_16 e_89) wM_X6_37 wI_X6_levelAt wS_X6_levelAt wZ_X6 wC_X6_levelAt md_X6_levelAt ⟨rfl, rfl, Nat.le_of_ble_eq_true rfl, Nat.le_of_ble_eq_true rfl⟩ rfl hl.1 rfl (Nat.le_of_ble_eq_true rfl) dX6_search_89 ⟨Nat.le_of_ble_eq_true rfl, Nat.le_of_ble_eq_true rfl⟩ (fun H locs hP hS => ?_)
          show W p l e (z_rmA 3 119 0 0) s m args below meth c H locs (0) (0) Q (F0 m 92 ls [.int r_17])
          refine lv_istore (lv' := [(8, .int r_17), (7, .int r_16), (0, .ref o), (1, .ref a0), (3, .int a2), (4, .int v_1), (5, .int x5_2), (6, .int x6_3)]) hx hb dX6_search_92 hl (by decide) rfl (fun ls hl => ?_)
          refine lv_iload hx hb dX6_search_94 (lv_at hl 6 rfl) ?_
          obtain ⟨v_18, hJ, h⟩ := z_bd_some h
          have J_127 : ∀ (H : Heap) (locs : List Loc) (ls : Array Slot), g_P D cs A S_8 H → va_S A s.heap H locs → lv_has ls 10 [(0, .ref o), (1, .ref a0), (3, .int a2), (4, .int v_1), (5, .int x5_2), (6, .int x6_3), (7, .int r_16), (8, .int r_17)] → W p l e (z_rmA 3 119 0 0) s m args below meth c H locs (0) (0) Q (F0 m 127 ls [.int v_18]) := by
            intro H locs ls hP hS hl
            refine lv_istore (lv' := [(9, .int v_18), (0, .ref o), (1, .ref a0), (3, .int a2), (4, .int v_1), (5, .int x5_2), (6, .int x6_3), (7, .int r_16), (8, .int r_17)]) hx hb dX6_search_127 hl (by decide) rfl (fun ls hl => ?_)
            refine lv_iload hx hb dX6_search_129 (lv_at hl 0 rfl) ?_
            refine lv_if_eq (tgt := 150) hx hb dX6_search_131 (by decide) (fun c_131 => ?_) (fun c_131 => ?_)
            · replace h := z_ip_ c_131 h
              refine lv_iinc (v := (x6_3 + 1)) (lv' := [(6, .int (x6_3 + 1)), (9, .int v_18), (0, .ref o), (1, .ref a0), (3, .int a2), (4, .int v_1), (5, .int x5_2), (7, .int r_16), (8, .int r_17)]) hx hb dX6_search_150 hl (k := 6) rfl rfl (by decide) rfl (fun ls hl => ?_)
              refine lv_goto (tgt := 22) hx hb dX6_search_153 (by decide) ?_
              cases h
              exact K_22 H locs ls hP hS (lv_sub hl [2, 3, 4, 5, 6, 0] rfl)
            · replace h := z_in_ c_131 h
              refine lv_iload hx hb dX6_search_134 (lv_at hl 8 rfl) ?_
              refine lv_istore (lv' := [(5, .int r_17), (9, .int v_18), (0, .ref o), (1, .ref a0), (3, .int a2), (4, .int v_1), (6, .int x6_3), (7, .int r_16), (8, .int r_17)]) hx hb dX6_search_136 hl (by decide) rfl (fun ls hl => ?_)
              refine lv_aload_n hx hb dX6_search_138 rfl (lv_at hl 2 rfl) ?_
              refine lv_iload hx hb dX6_search_139 (lv_at hl 7 rfl) ?_
              obtain ⟨S_20, eS_20, h⟩ := z_bd_some h
              refine g_putf (ci := 6) (k := 1) (ty := .int) tyX6 hc hP hS rfl z_inX6 tyX6_ok nmX6 (by decide) wF_X6_15 rfl (by decide +kernel) rfl rfl eS_20 dX6_search_141 (fun H locs hP hS => ?_)
              refine lv_aload_n hx hb dX6_search_144 rfl (lv_at hl 2 rfl) ?_
              refine lv_iload hx hb dX6_search_145 (lv_at hl 6 rfl) ?_
              obtain ⟨S_21, eS_21, h⟩ := z_bd_some h
              refine g_putf (ci := 6) (k := 2) (ty := .int) tyX6 hc hP hS rfl z_inX6 tyX6_ok nmX6 (by decide) wF_X6_19 rfl (by decide +kernel) rfl rfl eS_21 dX6_search_147 (fun H locs hP hS => ?_)
              refine lv_iinc (v := (x6_3 + 1)) (lv' := [(6, .int (x6_3 + 1)), (5, .int r_17), (9, .int v_18), (0, .ref o), (1, .ref a0), (3, .int a2), (4, .int v_1), (7, .int r_16), (8, .int r_17)]) hx hb dX6_search_150 hl (k := 6) rfl rfl (by decide) rfl (fun ls hl => ?_)
              refine lv_goto (tgt := 22) hx hb dX6_search_153 (by decide) ?_
              cases h
              exact K_22 H locs ls hP hS (lv_sub hl [3, 4, 5, 6, 1, 0] rfl)
          clear h
          have h := hJ
          clear hJ
          refine lv_if_lt (tgt := 122) hx hb dX6_search_96 (by decide) (fun c_96 => ?_) (fun c_96 => ?_)
          · replace h := z_ip_ c_96 h
            refine lv_iconst (v := 1) hx hb dX6_search_122 (by decide) ?_
            refine lv_goto (tgt := 127) hx hb dX6_search_123 (by decide) ?_
            cases h
            exact J_127 H locs ls hP hS (lv_sub hl [2, 3, 4, 5, 6, 7, 1, 0] rfl)
          · replace h := z_in_ c_96 h
            refine lv_iload hx hb dX6_search_99 (lv_at hl 0 rfl) ?_
            refine lv_iload hx hb dX6_search_101 (lv_at hl 6 rfl) ?_
            refine lv_icmp_lt (tgt := 122) hx hb dX6_search_103 (by decide) (fun c_103 => ?_) (fun c_103 => ?_)
            · replace h := z_ip_ c_103 h
              refine lv_iconst (v := 1) hx hb dX6_search_122 (by decide) ?_
              refine lv_goto (tgt := 127) hx hb dX6_search_123 (by decide) ?_
              cases h
              exact J_127 H locs ls hP hS (lv_sub hl [2, 3, 4, 5, 6, 7, 1, 0] rfl)
            · replace h := z_in_ c_103 h
              refine lv_iload hx hb dX6_search_106 (lv_at hl 0 rfl) ?_
              refine lv_iload hx hb dX6_search_108 (lv_at hl 6 rfl) ?_
              refine lv_icmp_ne (tgt := 126) hx hb dX6_search_110 (by decide) (fun c_110 => ?_) (fun c_110 => ?_)
              · replace h := z_in_ c_110 h
                refine lv_iconst (v := 0) hx hb dX6_search_126 (by decide) ?_
                cases h
                exact J_127 H locs ls hP hS (lv_sub hl [2, 3, 4, 5, 6, 7, 1, 0] rfl)
              · replace h := z_ip_ c_110 h
                refine lv_iload hx hb dX6_search_113 (lv_at hl 1 rfl) ?_
                refine lv_aload_n hx hb dX6_search_115 rfl (lv_at hl 2 rfl) ?_
                obtain ⟨f_19, ef_19, h⟩ := z_bd_some h
                refine g_get (ci := 6) (k := 1) (v := .int f_19) hc hP rfl z_inX6 (by decide) wF_X6_15 (g_i_v ef_19) dX6_search_116 ?_
                refine lv_icmp_ge (tgt := 126) hx hb dX6_search_119 (by decide) (fun c_119 => ?_) (fun c_119 => ?_)
                · replace h := z_ip_ c_119 h
                  refine lv_iconst (v := 0) hx hb dX6_search_126 (by decide) ?_
                  cases h
                  exact J_127 H locs ls hP hS (lv_sub hl [2, 3, 4, 5, 6, 7, 1, 0] rfl)
                · replace h := z_in_ c_119 h
                  refine lv_iconst (v := 1) hx hb dX6_search_122 (by decide) ?_
                  refine lv_goto (tgt := 127) hx hb dX6_search_123 (by decide) ?_
                  cases h
                  exact J_127 H locs ls hP hS (lv_sub hl [2, 3, 4, 5, 6, 7, 1, 0] rfl)
    · clear hlp hP hS hl
      intro H locs ls hP hS hl
      have hP : g_P D cs A S_5 H := hP
      have hl : lv_has ls 10 [] := hl
      cases h
      rw [hQ]
      exact g_retv hc hr hlocks hP hS dX6_search_156
  clear h
  have h := hJ
  clear hJ
  refine lv_if_ne (tgt := 8) hx hb dX6_search_1 (by decide) (fun c_1 => ?_) (fun c_1 => ?_)
  · replace h := z_in_ c_1 h
    refine lv_bipush (v := 8) hx hb dX6_search_8 (by decide) ?_
    refine lv_iload_n hx hb dX6_search_10 rfl (lv_at hl 3 rfl) ?_
    refine lv_ishl hx hb dX6_search_11 ?_
    cases h
    exact J_12 H locs ls hP hS (lv_sub hl [0, 1, 3] rfl)
  · replace h := z_ip_ c_1 h
    refine lv_iconst (v := 0) hx hb dX6_search_4 (by decide) ?_
    refine lv_goto (tgt := 12) hx hb dX6_search_5 (by decide) ?_
    cases h
    exact J_12 H locs ls hP hS (lv_sub hl [0, 1, 3] rfl)
theorem md_X6_search : yX6_search.cls ≠ "java/lang/invoke/MethodHandle" ∧ yX6_search.cls ≠ "java/lang/invoke/VarHandle" ∧ (parseMethodDescriptor yX6_search.desc).map (fun d => d.parameters.length) = some 3 := by decide +kernel
noncomputable def f_X7_setAt (S : GS) (o : Nat) (a0 : Int32) : Option (Option Nat) :=
  if a0 < 0 then some none else if (6 : Int32) ≤ a0 then some none else z_bd (g_r S 7 0 o) fun f_1 => z_bd (g_rQ S 0 f_1 a0) fun q_2 => some q_2
set_option maxHeartbeats 4000000 in
set_option maxRecDepth 100000 in
theorem mt_X7_setAt (l : Launch) (D : va_G) (cs : Nat → ClassId) (A : Nat → Prop) (S : GS) (o : Nat) (a0 : Int32) {r_ : Option Nat} (h : f_X7_setAt S o a0 = some r_) : Met l yX7_setAt (z_wd yX7_setAt cX7_setAt 2 (some (.object "LevelFits$Points"))) (z_rmA 0 0 0 0) (va_Pc [.ref o, .int a0] (g_C D cs A S)) (g_Q (some (va_rf r_)) S D cs A) 0 0 A := by
  refine Met.ofW (cc := cX7_setAt) (maxL := 2) (ret := (some (.object "LevelFits$Points"))) (by decide) rfl ?_
  intro p e s m args below meth c s₁ B hml hv
  obtain ⟨hav, hP0, hK, hN, hSt, hAn⟩ := hv
  have hx := B.exec
  have hb := B.bytes
  have hr := B.returns
  have hts := atoms_spec (ws := z_wd yX7_setAt cX7_setAt 2 (some (.object "LevelFits$Points"))) B.pre
  have hown : s.vm.findClass RX7 = some m.cls := findClass_of_methodNamed B.named
  have hlocks := B.notSynchronized
  have hc : g_X p s m args c cX7_setAt 2 RX7 D cs A := ⟨⟨hx, hb, hml, fun w hw => hts w (List.mem_cons_of_mem _ hw), hown⟩, hK, hN, hSt, hAn⟩
  have hl := lv_entry ([.ref o, .int a0]) (n := 2) (Nat.le_of_ble_eq_true rfl)
  have hE : entryFrame m args 2 = F0 m 0 ((lg_sl ([.ref o, .int a0]) ++ List.replicate (2 - (lg_sl ([.ref o, .int a0])).length) Slot.unset).toArray) [] := by rw [hav]; exact lg_entry_eq m _ _
  rw [hE]
  clear hE hav
  generalize (lg_sl ([.ref o, .int a0]) ++ List.replicate (2 - (lg_sl ([.ref o, .int a0])).length) Slot.unset).toArray = ls at hl ⊢
  have hl : lv_has ls 2 [(0, .ref o), (1, .int a0)] := hl
  obtain ⟨Q, hQ⟩ : ∃ Q, Q = MQ below (g_Q (some (va_rf r_)) S D cs A) args s 0 0 A := ⟨_, rfl⟩
  rw [← hQ]
  suffices hmain : ∀ (H : Heap) (locs : List Loc), g_P D cs A S H → va_S A s.heap H locs → W p l e (z_rmA 0 0 0 0) s m args below meth c H locs 0 0 Q (F0 m 0 ls []) from hmain s.heap [] hP0 va_S.rf
  clear hP0
  intro H locs hP hS
  unfold f_X7_setAt at h
  refine lv_iload_n hx hb dX7_setAt_0 rfl (lv_at hl 1 rfl) ?_
  refine lv_if_lt (tgt := 19) hx hb dX7_setAt_1 (by decide) (fun c_1 => ?_) (fun c_1 => ?_)
  · replace h := z_ip_ c_1 h
    refine lv_null hx hb dX7_setAt_19 ?_
    cases h
    rw [hQ]
    exact g_retq (r := none) hc hr hlocks hP hS dX7_setAt_20
  · replace h := z_in_ c_1 h
    refine lv_iload_n hx hb dX7_setAt_4 rfl (lv_at hl 1 rfl) ?_
    refine lv_bipush (v := 6) hx hb dX7_setAt_5 (by decide) ?_
    refine lv_icmp_ge (tgt := 19) hx hb dX7_setAt_7 (by decide) (fun c_7 => ?_) (fun c_7 => ?_)
    · replace h := z_ip_ c_7 h
      refine lv_null hx hb dX7_setAt_19 ?_
      cases h
      rw [hQ]
      exact g_retq (r := none) hc hr hlocks hP hS dX7_setAt_20
    · replace h := z_in_ c_7 h
      refine lv_aload_n hx hb dX7_setAt_10 rfl (lv_at hl 0 rfl) ?_
      obtain ⟨f_1, ef_1, h⟩ := z_bd_some h
      refine g_get (ci := 7) (k := 0) (v := .ref f_1) hc hP rfl z_inX7 (by decide) wF_X7_11 (g_r_v ef_1) dX7_setAt_11 ?_
      refine lv_iload_n hx hb dX7_setAt_14 rfl (lv_at hl 1 rfl) ?_
      obtain ⟨q_2, eq_2, h⟩ := z_bd_some h
      refine g_aald (t := 0) hc hP rfl eq_2 dX7_setAt_15 ?_
      refine lv_goto (tgt := 20) hx hb dX7_setAt_16 (by decide) ?_
      cases h
      rw [hQ]
      exact g_retq hc hr hlocks hP hS dX7_setAt_20
theorem md_X7_setAt : yX7_setAt.cls ≠ "java/lang/invoke/MethodHandle" ∧ yX7_setAt.cls ≠ "java/lang/invoke/VarHandle" ∧ (parseMethodDescriptor yX7_setAt.desc).map (fun d => d.parameters.length) = some 1 := by decide +kernel
noncomputable def f_X7_refuse (S : GS) (o : Nat) (a0 : Int32) : Option ((Int32) × GS) :=
  z_bd (g_put S 7 7 o (.int a0)) fun S_1 => some ((-1 : Int32), S_1)
set_option maxHeartbeats 4000000 in
set_option maxRecDepth 100000 in
theorem mt_X7_refuse (l : Launch) (D : va_G) (cs : Nat → ClassId) (A : Nat → Prop) (S : GS) (o : Nat) (a0 : Int32) {r_ : Int32} {N_ : GS} (h : f_X7_refuse S o a0 = some (r_, N_)) : Met l yX7_refuse (z_wd yX7_refuse cX7_refuse 2 (some .int)) (z_rmA 0 0 0 0) (va_Pc [.ref o, .int a0] (g_C D cs A S)) (g_Q (some (.int r_)) N_ D cs A) 0 0 A := by
  refine Met.ofW (cc := cX7_refuse) (maxL := 2) (ret := (some .int)) (by decide) rfl ?_
  intro p e s m args below meth c s₁ B hml hv
  obtain ⟨hav, hP0, hK, hN, hSt, hAn⟩ := hv
  have hx := B.exec
  have hb := B.bytes
  have hr := B.returns
  have hts := atoms_spec (ws := z_wd yX7_refuse cX7_refuse 2 (some .int)) B.pre
  have hown : s.vm.findClass RX7 = some m.cls := findClass_of_methodNamed B.named
  have hlocks := B.notSynchronized
  have hc : g_X p s m args c cX7_refuse 2 RX7 D cs A := ⟨⟨hx, hb, hml, fun w hw => hts w (List.mem_cons_of_mem _ hw), hown⟩, hK, hN, hSt, hAn⟩
  have hl := lv_entry ([.ref o, .int a0]) (n := 2) (Nat.le_of_ble_eq_true rfl)
  have hE : entryFrame m args 2 = F0 m 0 ((lg_sl ([.ref o, .int a0]) ++ List.replicate (2 - (lg_sl ([.ref o, .int a0])).length) Slot.unset).toArray) [] := by rw [hav]; exact lg_entry_eq m _ _
  rw [hE]
  clear hE hav
  generalize (lg_sl ([.ref o, .int a0]) ++ List.replicate (2 - (lg_sl ([.ref o, .int a0])).length) Slot.unset).toArray = ls at hl ⊢
  have hl : lv_has ls 2 [(0, .ref o), (1, .int a0)] := hl
  obtain ⟨Q, hQ⟩ : ∃ Q, Q = MQ below (g_Q (some (.int r_)) N_ D cs A) args s 0 0 A := ⟨_, rfl⟩
  rw [← hQ]
  suffices hmain : ∀ (H : Heap) (locs : List Loc), g_P D cs A S H → va_S A s.heap H locs → W p l e (z_rmA 0 0 0 0) s m args below meth c H locs 0 0 Q (F0 m 0 ls []) from hmain s.heap [] hP0 va_S.rf
  clear hP0
  intro H locs hP hS
  unfold f_X7_refuse at h
  refine lv_aload_n hx hb dX7_refuse_0 rfl (lv_at hl 0 rfl) ?_
  refine lv_iload_n hx hb dX7_refuse_1 rfl (lv_at hl 1 rfl) ?_
  obtain ⟨S_1, eS_1, h⟩ := z_bd_some h
  refine g_putf (ci := 7) (k := 7) (ty := .int) tyX7 hc hP hS rfl z_inX7 tyX7_ok nmX7 (by decide) wF_X7_52 rfl (by decide +kernel) rfl rfl eS_1 dX7_refuse_2 (fun H locs hP hS => ?_)
  refine lv_iconst (v := -1) hx hb dX7_refuse_5 (by decide) ?_
  cases h
  rw [hQ]
  exact g_reti hc hr hlocks hP hS dX7_refuse_6
theorem md_X7_refuse : yX7_refuse.cls ≠ "java/lang/invoke/MethodHandle" ∧ yX7_refuse.cls ≠ "java/lang/invoke/VarHandle" ∧ (parseMethodDescriptor yX7_refuse.desc).map (fun d => d.parameters.length) = some 1 := by decide +kernel
noncomputable def f_X7_done (S : GS) (o : Nat) (a0 : Int32) : Option ((Int32) × GS) :=
  z_bd (g_put S 7 7 o (.int (0 : Int32))) fun S_1 => some (a0, S_1)
set_option maxHeartbeats 4000000 in
set_option maxRecDepth 100000 in
theorem mt_X7_done (l : Launch) (D : va_G) (cs : Nat → ClassId) (A : Nat → Prop) (S : GS) (o : Nat) (a0 : Int32) {r_ : Int32} {N_ : GS} (h : f_X7_done S o a0 = some (r_, N_)) : Met l yX7_done (z_wd yX7_done cX7_done 2 (some .int)) (z_rmA 0 0 0 0) (va_Pc [.ref o, .int a0] (g_C D cs A S)) (g_Q (some (.int r_)) N_ D cs A) 0 0 A := by
  refine Met.ofW (cc := cX7_done) (maxL := 2) (ret := (some .int)) (by decide) rfl ?_
  intro p e s m args below meth c s₁ B hml hv
  obtain ⟨hav, hP0, hK, hN, hSt, hAn⟩ := hv
  have hx := B.exec
  have hb := B.bytes
  have hr := B.returns
  have hts := atoms_spec (ws := z_wd yX7_done cX7_done 2 (some .int)) B.pre
  have hown : s.vm.findClass RX7 = some m.cls := findClass_of_methodNamed B.named
  have hlocks := B.notSynchronized
  have hc : g_X p s m args c cX7_done 2 RX7 D cs A := ⟨⟨hx, hb, hml, fun w hw => hts w (List.mem_cons_of_mem _ hw), hown⟩, hK, hN, hSt, hAn⟩
  have hl := lv_entry ([.ref o, .int a0]) (n := 2) (Nat.le_of_ble_eq_true rfl)
  have hE : entryFrame m args 2 = F0 m 0 ((lg_sl ([.ref o, .int a0]) ++ List.replicate (2 - (lg_sl ([.ref o, .int a0])).length) Slot.unset).toArray) [] := by rw [hav]; exact lg_entry_eq m _ _
  rw [hE]
  clear hE hav
  generalize (lg_sl ([.ref o, .int a0]) ++ List.replicate (2 - (lg_sl ([.ref o, .int a0])).length) Slot.unset).toArray = ls at hl ⊢
  have hl : lv_has ls 2 [(0, .ref o), (1, .int a0)] := hl
  obtain ⟨Q, hQ⟩ : ∃ Q, Q = MQ below (g_Q (some (.int r_)) N_ D cs A) args s 0 0 A := ⟨_, rfl⟩
  rw [← hQ]
  suffices hmain : ∀ (H : Heap) (locs : List Loc), g_P D cs A S H → va_S A s.heap H locs → W p l e (z_rmA 0 0 0 0) s m args below meth c H locs 0 0 Q (F0 m 0 ls []) from hmain s.heap [] hP0 va_S.rf
  clear hP0
  intro H locs hP hS
  unfold f_X7_done at h
  refine lv_aload_n hx hb dX7_done_0 rfl (lv_at hl 0 rfl) ?_
  refine lv_iconst (v := 0) hx hb dX7_done_1 (by decide) ?_
  obtain ⟨S_1, eS_1, h⟩ := z_bd_some h
  refine g_putf (ci := 7) (k := 7) (ty := .int) tyX7 hc hP hS rfl z_inX7 tyX7_ok nmX7 (by decide) wF_X7_52 rfl (by decide +kernel) rfl rfl eS_1 dX7_done_2 (fun H locs hP hS => ?_)
  refine lv_iload_n hx hb dX7_done_5 rfl (lv_at hl 1 rfl) ?_
  cases h
  rw [hQ]
  exact g_reti hc hr hlocks hP hS dX7_done_6
theorem md_X7_done : yX7_done.cls ≠ "java/lang/invoke/MethodHandle" ∧ yX7_done.cls ≠ "java/lang/invoke/VarHandle" ∧ (parseMethodDescriptor yX7_done.desc).map (fun d => d.parameters.length) = some 1 := by decide +kernel
