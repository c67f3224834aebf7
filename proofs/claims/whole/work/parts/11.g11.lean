noncomputable def f_J9_floorDiv_7cf53 (a0 : Int32) (a1 : Int32) : Option (Int32) :=
  z_chk (¬ a1 = 0) (if 0 ≤ (a0 ^^^ a1) then some (a0 / a1) else if ((a0 / a1) * a1) = a0 then some (a0 / a1) else some ((a0 / a1) - (1 : Int32)))
set_option maxHeartbeats 4000000 in
set_option maxRecDepth 100000 in
theorem mt_J9_floorDiv_7cf53 (l : Launch) (a0 : Int32) (a1 : Int32) {r_ : Int32} (h : f_J9_floorDiv_7cf53 a0 a1 = some r_) : Met l yJ9_floorDiv_7cf53 (z_wd yJ9_floorDiv_7cf53 cJ9_floorDiv_7cf53 3 (some .int)) (z_rm 0 0) (va_Pc [.int a0, .int a1] (fun _ => True)) (vp_Si (fun r1 : Int32 => r1 = r_)) 0 0 (fun _ => False) := by
  refine z_ofWF (cc := cJ9_floorDiv_7cf53) (maxL := 3) (ret := (some .int)) (by decide +kernel) rfl ?_
  intro p e s m args below meth c s₁ B hml hv
  obtain ⟨hav, -⟩ := hv
  have hx := B.exec
  have hb := B.bytes
  have hr := B.returns
  have hts := atoms_spec (ws := z_wd yJ9_floorDiv_7cf53 cJ9_floorDiv_7cf53 3 (some .int)) B.pre
  have hown : s.vm.findClass RJ9 = some m.cls := findClass_of_methodNamed B.named
  have hlocks := B.notSynchronized
  have hc : s_X p s m args c cJ9_floorDiv_7cf53 3 RJ9 := ⟨hx, hb, hml, fun w hw => hts w (List.mem_cons_of_mem _ hw), hown⟩
  have hl := lv_entry ([.int a0, .int a1]) (n := 3) (Nat.le_of_ble_eq_true rfl)
  have hE : entryFrame m args 3 = F0 m 0 ((lg_sl ([.int a0, .int a1]) ++ List.replicate (3 - (lg_sl ([.int a0, .int a1])).length) Slot.unset).toArray) [] := by rw [hav]; exact lg_entry_eq m _ _
  rw [hE]
  clear hE hav
  generalize (lg_sl ([.int a0, .int a1]) ++ List.replicate (3 - (lg_sl ([.int a0, .int a1])).length) Slot.unset).toArray = ls at hl ⊢
  have hl : lv_has ls 3 [(0, .int a0), (1, .int a1)] := hl
  obtain ⟨Q, hQ⟩ : ∃ Q, Q = MQ below (vp_Si (fun r1 : Int32 => r1 = r_)) args s 0 0 (fun _ => False) := ⟨_, rfl⟩
  rw [← hQ]
  show W p l e (z_rm 0 0) s m args below meth c s.heap [] 0 0 Q (F0 m 0 ls [])
  unfold f_J9_floorDiv_7cf53 at h
  refine lv_iload_n hx hb dJ9_floorDiv_7cf53_0 rfl (lv_at hl 0 rfl) ?_
  refine lv_iload_n hx hb dJ9_floorDiv_7cf53_1 rfl (lv_at hl 1 rfl) ?_
  obtain ⟨c_2, h⟩ := z_chk_some h
  refine lv_idiv hx hb dJ9_floorDiv_7cf53_2 c_2 ?_
  refine lv_istore_n (lv' := [(2, .int (a0 / a1)), (0, .int a0), (1, .int a1)]) hx hb dJ9_floorDiv_7cf53_3 rfl hl (by decide) rfl (fun ls hl => ?_)
  refine lv_iload_n hx hb dJ9_floorDiv_7cf53_4 rfl (lv_at hl 1 rfl) ?_
  refine lv_iload_n hx hb dJ9_floorDiv_7cf53_5 rfl (lv_at hl 2 rfl) ?_
  refine lv_ixor hx hb dJ9_floorDiv_7cf53_6 ?_
  refine lv_if_ge (tgt := 21) hx hb dJ9_floorDiv_7cf53_7 (by decide) (fun c_7 => ?_) (fun c_7 => ?_)
  · replace h := z_ip_ c_7 h
    refine lv_iload_n hx hb dJ9_floorDiv_7cf53_21 rfl (lv_at hl 0 rfl) ?_
    cases h
    rw [hQ]
    exact s_reti hc hr hlocks dJ9_floorDiv_7cf53_22
  · replace h := z_in_ c_7 h
    refine lv_iload_n hx hb dJ9_floorDiv_7cf53_10 rfl (lv_at hl 0 rfl) ?_
    refine lv_iload_n hx hb dJ9_floorDiv_7cf53_11 rfl (lv_at hl 2 rfl) ?_
    refine lv_imul hx hb dJ9_floorDiv_7cf53_12 ?_
    refine lv_iload_n hx hb dJ9_floorDiv_7cf53_13 rfl (lv_at hl 1 rfl) ?_
    refine lv_icmp_eq (tgt := 21) hx hb dJ9_floorDiv_7cf53_14 (by decide) (fun c_14 => ?_) (fun c_14 => ?_)
    · replace h := z_ip_ c_14 h
      refine lv_iload_n hx hb dJ9_floorDiv_7cf53_21 rfl (lv_at hl 0 rfl) ?_
      cases h
      rw [hQ]
      exact s_reti hc hr hlocks dJ9_floorDiv_7cf53_22
    · replace h := z_in_ c_14 h
      refine lv_iload_n hx hb dJ9_floorDiv_7cf53_17 rfl (lv_at hl 0 rfl) ?_
      refine lv_iconst (v := 1) hx hb dJ9_floorDiv_7cf53_18 (by decide) ?_
      refine lv_isub hx hb dJ9_floorDiv_7cf53_19 ?_
      cases h
      rw [hQ]
      exact s_reti hc hr hlocks dJ9_floorDiv_7cf53_20
theorem md_J9_floorDiv_7cf53 : yJ9_floorDiv_7cf53.cls ≠ "java/lang/invoke/MethodHandle" ∧ yJ9_floorDiv_7cf53.cls ≠ "java/lang/invoke/VarHandle" ∧ (parseMethodDescriptor yJ9_floorDiv_7cf53.desc).map (fun d => d.parameters.length) = some 2 := by decide +kernel
noncomputable def f_J9_abs_0f7a4 (a0 : Int32) : Option (Int32) :=
  if 0 ≤ a0 then some a0 else some (-a0)
set_option maxHeartbeats 4000000 in
set_option maxRecDepth 100000 in
theorem mt_J9_abs_0f7a4 (l : Launch) (a0 : Int32) {r_ : Int32} (h : f_J9_abs_0f7a4 a0 = some r_) : Met l yJ9_abs_0f7a4 (z_wd yJ9_abs_0f7a4 cJ9_abs_0f7a4 1 (some .int)) (z_rm 0 0) (va_Pc [.int a0] (fun _ => True)) (vp_Si (fun r1 : Int32 => r1 = r_)) 0 0 (fun _ => False) := by
  refine z_ofWF (cc := cJ9_abs_0f7a4) (maxL := 1) (ret := (some .int)) (by decide +kernel) rfl ?_
  intro p e s m args below meth c s₁ B hml hv
  obtain ⟨hav, -⟩ := hv
  have hx := B.exec
  have hb := B.bytes
  have hr := B.returns
  have hts := atoms_spec (ws := z_wd yJ9_abs_0f7a4 cJ9_abs_0f7a4 1 (some .int)) B.pre
  have hown : s.vm.findClass RJ9 = some m.cls := findClass_of_methodNamed B.named
  have hlocks := B.notSynchronized
  have hc : s_X p s m args c cJ9_abs_0f7a4 1 RJ9 := ⟨hx, hb, hml, fun w hw => hts w (List.mem_cons_of_mem _ hw), hown⟩
  have hl := lv_entry ([.int a0]) (n := 1) (Nat.le_of_ble_eq_true rfl)
  have hE : entryFrame m args 1 = F0 m 0 ((lg_sl ([.int a0]) ++ List.replicate (1 - (lg_sl ([.int a0])).length) Slot.unset).toArray) [] := by rw [hav]; exact lg_entry_eq m _ _
  rw [hE]
  clear hE hav
  generalize (lg_sl ([.int a0]) ++ List.replicate (1 - (lg_sl ([.int a0])).length) Slot.unset).toArray = ls at hl ⊢
  have hl : lv_has ls 1 [(0, .int a0)] := hl
  obtain ⟨Q, hQ⟩ : ∃ Q, Q = MQ below (vp_Si (fun r1 : Int32 => r1 = r_)) args s 0 0 (fun _ => False) := ⟨_, rfl⟩
  rw [← hQ]
  show W p l e (z_rm 0 0) s m args below meth c s.heap [] 0 0 Q (F0 m 0 ls [])
  unfold f_J9_abs_0f7a4 at h
  refine lv_iload_n hx hb dJ9_abs_0f7a4_0 rfl (lv_at hl 0 rfl) ?_
  refine lv_if_ge (tgt := 9) hx hb dJ9_abs_0f7a4_1 (by decide) (fun c_1 => ?_) (fun c_1 => ?_)
  · replace h := z_ip_ c_1 h
    refine lv_iload_n hx hb dJ9_abs_0f7a4_9 rfl (lv_at hl 0 rfl) ?_
    cases h
    rw [hQ]
    exact s_reti hc hr hlocks dJ9_abs_0f7a4_10
  · replace h := z_in_ c_1 h
    refine lv_iload_n hx hb dJ9_abs_0f7a4_4 rfl (lv_at hl 0 rfl) ?_
    refine lv_ineg hx hb dJ9_abs_0f7a4_5 ?_
    refine lv_goto (tgt := 10) hx hb dJ9_abs_0f7a4_6 (by decide) ?_
    cases h
    rw [hQ]
    exact s_reti hc hr hlocks dJ9_abs_0f7a4_10
theorem md_J9_abs_0f7a4 : yJ9_abs_0f7a4.cls ≠ "java/lang/invoke/MethodHandle" ∧ yJ9_abs_0f7a4.cls ≠ "java/lang/invoke/VarHandle" ∧ (parseMethodDescriptor yJ9_abs_0f7a4.desc).map (fun d => d.parameters.length) = some 1 := by decide +kernel
noncomputable def f_X6_levelAt_L5 (S : GS) (a0 : Nat) (a1 : Int32) (o : Nat) (x3_1 : Int32) (x4_2 : Int32) : Option ((Int32) ⊕ (Int32 × Int32)) :=
  z_bd (g_i S 3 3 a0) fun f_4 => if f_4 ≤ x4_2 then some (.inl (x3_1)) else z_bd (g_r S 3 2 a0) fun f_5 => z_bd (g_rI S f_5 x4_2) fun v_6 => z_bd (g_r S 6 0 o) fun f_7 => z_bd (g_rI S f_7 x4_2) fun v_8 => z_bd (f_J9_abs_0f7a4 (v_8 - a1)) fun r_9 => z_bd (f_J9_max_7cf53 x3_1 (v_6 * r_9)) fun r_10 => some (.inr (r_10, (x4_2 + 1)))
noncomputable def f_X6_levelAt (S : GS) (o : Nat) (a0 : Nat) (a1 : Int32) : Option (Int32) :=
  z_bd (z_lp (fun x => f_X6_levelAt_L5 S a0 a1 o x.1 x.2) ((0 : Int32), (0 : Int32))) fun y3_3 => some y3_3
set_option maxHeartbeats 4000000 in
set_option maxRecDepth 100000 in
theorem mt_X6_levelAt (l : Launch) (D : va_G) (cs : Nat → ClassId) (A : Nat → Prop) (S : GS) (o : Nat) (a0 : Nat) (a1 : Int32) {r_ : Int32} (h : f_X6_levelAt S o a0 a1 = some r_) : Met l yX6_levelAt (z_wd yX6_levelAt cX6_levelAt 5 (some .int)) (z_rmA 1 37 0 0) (va_Pc [.ref o, .ref a0, .int a1] (g_C D cs A S)) (g_Q (some (.int r_)) S D cs A) 0 0 A := by
  refine Met.ofW (cc := cX6_levelAt) (maxL := 5) (ret := (some .int)) (by decide) rfl ?_
  intro p e s m args below meth c s₁ B hml hv
  obtain ⟨hav, hP0, hK, hN, hSt, hAn⟩ := hv
  have hx := B.exec
  have hb := B.bytes
  have hr := B.returns
  have hts := atoms_spec (ws := z_wd yX6_levelAt cX6_levelAt 5 (some .int)) B.pre
  have hown : s.vm.findClass RX6 = some m.cls := findClass_of_methodNamed B.named
  have hlocks := B.notSynchronized
  have hc : g_X p s m args c cX6_levelAt 5 RX6 D cs A := ⟨⟨hx, hb, hml, fun w hw => hts w (List.mem_cons_of_mem _ hw), hown⟩, hK, hN, hSt, hAn⟩
  have hl := lv_entry ([.ref o, .ref a0, .int a1]) (n := 5) (Nat.le_of_ble_eq_true rfl)
  have hE : entryFrame m args 5 = F0 m 0 ((lg_sl ([.ref o, .ref a0, .int a1]) ++ List.replicate (5 - (lg_sl ([.ref o, .ref a0, .int a1])).length) Slot.unset).toArray) [] := by rw [hav]; exact lg_entry_eq m _ _
  rw [hE]
  clear hE hav
  generalize (lg_sl ([.ref o, .ref a0, .int a1]) ++ List.replicate (5 - (lg_sl ([.ref o, .ref a0, .int a1])).length) Slot.unset).toArray = ls at hl ⊢
  have hl : lv_has ls 5 [(0, .ref o), (1, .ref a0), (2, .int a1)] := hl
  obtain ⟨Q, hQ⟩ : ∃ Q, Q = MQ below (g_Q (some (.int r_)) S D cs A) args s 0 0 A := ⟨_, rfl⟩
  rw [← hQ]
  suffices hmain : ∀ (H : Heap) (locs : List Loc), g_P D cs A S H → va_S A s.heap H locs → W p l e (z_rmA 1 37 0 0) s m args below meth c H locs 0 0 Q (F0 m 0 ls []) from hmain s.heap [] hP0 va_S.rf
  clear hP0
  intro H locs hP hS
  unfold f_X6_levelAt at h
  refine lv_iconst (v := 0) hx hb dX6_levelAt_0 (by decide) ?_
  refine lv_istore_n (lv' := [(3, .int (0 : Int32)), (0, .ref o), (1, .ref a0), (2, .int a1)]) hx hb dX6_levelAt_1 rfl hl (by decide) rfl (fun ls hl => ?_)
  refine lv_iconst (v := 0) hx hb dX6_levelAt_2 (by decide) ?_
  refine lv_istore (lv' := [(4, .int (0 : Int32)), (3, .int (0 : Int32)), (0, .ref o), (1, .ref a0), (2, .int a1)]) hx hb dX6_levelAt_3 hl (by decide) rfl (fun ls hl => ?_)
  obtain ⟨y3_3, hlp, h⟩ := z_bd_some h
  refine z_lp_ind (P := fun x => ∀ (H : Heap) (locs : List Loc) (ls : Array Slot), g_P D cs A S H → va_S A s.heap H locs → lv_has ls 5 [(0, .ref o), (1, .ref a0), (2, .int a1), (3, .int x.1), (4, .int x.2)] → W p l e (z_rmA 1 37 0 0) s m args below meth c H locs (0) (0) Q (F0 m 5 ls [])) (Qe := fun y => ∀ (H : Heap) (locs : List Loc) (ls : Array Slot), g_P D cs A S H → va_S A s.heap H locs → lv_has ls 5 [(3, .int y)] → W p l e (z_rmA 1 37 0 0) s m args below meth c H locs (0) (0) Q (F0 m 45 ls [])) ?_ hlp ?_ H locs ls hP hS (lv_sub hl [2, 3, 4, 1, 0] rfl)
  · clear h hlp hP hS hl
    rintro ⟨x3_1, x4_2⟩ oo h K_5 H locs ls hP hS hl
    have hP : g_P D cs A S H := hP
    have hl : lv_has ls 5 [(0, .ref o), (1, .ref a0), (2, .int a1), (3, .int x3_1), (4, .int x4_2)] := hl
    have h : f_X6_levelAt_L5 S a0 a1 o x3_1 x4_2 = some oo := h
    unfold f_X6_levelAt_L5 at h
    refine lv_iload hx hb dX6_levelAt_5 (lv_at hl 4 rfl) ?_
    refine lv_aload_n hx hb dX6_levelAt_7 rfl (lv_at hl 1 rfl) ?_
    obtain ⟨f_4, ef_4, h⟩ := z_bd_some h
    refine g_getN (ci := 3) (k := 3) (v := .int f_4) hc hP rfl z_inX3 (by decide) wG_X6_22 (g_i_v ef_4) dX6_levelAt_8 ?_
    refine lv_icmp_ge (tgt := 45) hx hb dX6_levelAt_11 (by decide) (fun c_11 => ?_) (fun c_11 => ?_)
    · replace h := z_ip_ c_11 h
      cases h
      exact K_5 H locs ls hP hS (lv_sub hl [3] rfl)
    · replace h := z_in_ c_11 h
      refine lv_iload_n hx hb dX6_levelAt_14 rfl (lv_at hl 3 rfl) ?_
      refine lv_aload_n hx hb dX6_levelAt_15 rfl (lv_at hl 1 rfl) ?_
      obtain ⟨f_5, ef_5, h⟩ := z_bd_some h
      refine g_getN (ci := 3) (k := 2) (v := .ref f_5) hc hP rfl z_inX3 (by decide) wG_X6_46 (g_r_v ef_5) dX6_levelAt_16 ?_
      refine lv_iload hx hb dX6_levelAt_19 (lv_at hl 4 rfl) ?_
      obtain ⟨v_6, ev_6, h⟩ := z_bd_some h
      refine g_iald hc hP ev_6 dX6_levelAt_21 ?_
      refine lv_aload_n hx hb dX6_levelAt_22 rfl (lv_at hl 0 rfl) ?_
      obtain ⟨f_7, ef_7, h⟩ := z_bd_some h
      refine g_get (ci := 6) (k := 0) (v := .ref f_7) hc hP rfl z_inX6 (by decide) wF_X6_9 (g_r_v ef_7) dX6_levelAt_23 ?_
      refine lv_iload hx hb dX6_levelAt_26 (lv_at hl 4 rfl) ?_
      obtain ⟨v_8, ev_8, h⟩ := z_bd_some h
      refine g_iald hc hP ev_8 dX6_levelAt_28 ?_
      refine lv_iload_n hx hb dX6_levelAt_29 rfl (lv_at hl 2 rfl) ?_
      refine lv_isub hx hb dX6_levelAt_30 ?_
      obtain ⟨r_9, er_9, h⟩ := z_bd_some h
      refine s_calli (As := [.int (v_8 - a1)]) (r := r_9) (n := 1) hc.1 (mt_J9_abs_0f7a4 l (v_8 - a1) er_9) wM_X6_49 wT_J9_abs_0f7a4 wZ_J9 wC_J9_abs_0f7a4 md_J9_abs_0f7a4 ⟨rfl, rfl, Nat.le_of_ble_eq_true rfl, Nat.le_of_ble_eq_true rfl⟩ rfl hl.1 rfl (Nat.le_of_ble_eq_true rfl) dX6_levelAt_31 ⟨Nat.le_of_ble_eq_true rfl, Nat.le_of_ble_eq_true rfl⟩ ?_
      refine lv_imul hx hb dX6_levelAt_34 ?_
      obtain ⟨r_10, er_10, h⟩ := z_bd_some h
      refine s_calli (As := [.int x3_1, .int (v_6 * r_9)]) (r := r_10) (n := 2) hc.1 (mt_J9_max_7cf53 l x3_1 (v_6 * r_9) er_10) wM_X6_53 wT_J9_max_7cf53 wZ_J9 wC_J9_max_7cf53 md_J9_max_7cf53 ⟨rfl, rfl, Nat.le_of_ble_eq_true rfl, Nat.le_of_ble_eq_true rfl⟩ rfl hl.1 rfl (Nat.le_of_ble_eq_true rfl) dX6_levelAt_35 ⟨Nat.le_of_ble_eq_true rfl, Nat.le_of_ble_eq_true rfl⟩ ?_
      refine lv_istore_n (lv' := [(3, .int r_10), (0, .ref o), (1, .ref a0), (2, .int a1), (4, .int x4_2)]) hx hb dX6_levelAt_38 rfl hl (by decide) rfl (fun ls hl => ?_)
      refine lv_iinc (v := (x4_2 + 1)) (lv' := [(4, .int (x4_2 + 1)), (3, .int r_10), (0, .ref o), (1, .ref a0), (2, .int a1)]) hx hb dX6_levelAt_39 hl (k := 4) rfl rfl (by decide) rfl (fun ls hl => ?_)
      refine lv_goto (tgt := 5) hx hb dX6_levelAt_42 (by decide) ?_
      cases h
      exact K_5 H locs ls hP hS (lv_sub hl [2, 3, 4, 1, 0] rfl)
  · clear hlp hP hS hl
    intro H locs ls hP hS hl
    have hP : g_P D cs A S H := hP
    have hl : lv_has ls 5 [(3, .int y3_3)] := hl
    refine lv_iload_n hx hb dX6_levelAt_45 rfl (lv_at hl 0 rfl) ?_
    cases h
    rw [hQ]
    exact g_reti hc hr hlocks hP hS dX6_levelAt_46
theorem md_X6_levelAt : yX6_levelAt.cls ≠ "java/lang/invoke/MethodHandle" ∧ yX6_levelAt.cls ≠ "java/lang/invoke/VarHandle" ∧ (parseMethodDescriptor yX6_levelAt.desc).map (fun d => d.parameters.length) = some 2 := by decide +kernel
noncomputable def f_X6_leastC0_L9 (S : GS) (a0 : Nat) (o : Nat) (x3_1 : Int32) (x4_2 : Int32) (x5_3 : Int32) : Option ((Int32) ⊕ (Int32 × Int32 × Int32)) :=
  if (32 : Int32) ≤ x5_3 then some (.inl (x3_1)) else if x4_2 ≤ x3_1 then some (.inl (x3_1)) else z_bd (f_J9_floorDiv_7cf53 (x3_1 + x4_2) (2 : Int32)) fun r_5 => z_chk (g_is S 6 o) (z_bd (f_X6_levelAt S o a0 r_5) fun r_6 => z_chk (g_is S 6 o) (z_bd (f_X6_levelAt S o a0 (r_5 + (1 : Int32))) fun r_7 => if r_7 < r_6 then some (.inr ((r_5 + (1 : Int32)), x4_2, (x5_3 + 1))) else some (.inr (x3_1, r_5, (x5_3 + 1)))))
noncomputable def f_X6_leastC0 (S : GS) (o : Nat) (a0 : Nat) (a1 : Int32) : Option (Int32) :=
  z_bd (z_lp (fun x => f_X6_leastC0_L9 S a0 o x.1 x.2.1 x.2.2) ((-a1), a1, (0 : Int32))) fun y3_4 => some y3_4
set_option maxHeartbeats 4000000 in
set_option maxRecDepth 100000 in
theorem mt_X6_leastC0 (l : Launch) (D : va_G) (cs : Nat → ClassId) (A : Nat → Prop) (S : GS) (o : Nat) (a0 : Nat) (a1 : Int32) {r_ : Int32} (h : f_X6_leastC0 S o a0 a1 = some r_) : Met l yX6_leastC0 (z_wd yX6_leastC0 cX6_leastC0 7 (some .int)) (z_rmA 2 77 0 0) (va_Pc [.ref o, .ref a0, .int a1] (g_C D cs A S)) (g_Q (some (.int r_)) S D cs A) 0 0 A := by
  refine Met.ofW (cc := cX6_leastC0) (maxL := 7) (ret := (some .int)) (by decide) rfl ?_
  intro p e s m args below meth c s₁ B hml hv
  obtain ⟨hav, hP0, hK, hN, hSt, hAn⟩ := hv
  have hx := B.exec
  have hb := B.bytes
  have hr := B.returns
  have hts := atoms_spec (ws := z_wd yX6_leastC0 cX6_leastC0 7 (some .int)) B.pre
  have hown : s.vm.findClass RX6 = some m.cls := findClass_of_methodNamed B.named
  have hlocks := B.notSynchronized
  have hc : g_X p s m args c cX6_leastC0 7 RX6 D cs A := ⟨⟨hx, hb, hml, fun w hw => hts w (List.mem_cons_of_mem _ hw), hown⟩, hK, hN, hSt, hAn⟩
  have hl := lv_entry ([.ref o, .ref a0, .int a1]) (n := 7) (Nat.le_of_ble_eq_true rfl)
  have hE : entryFrame m args 7 = F0 m 0 ((lg_sl ([.ref o, .ref a0, .int a1]) ++ List.replicate (7 - (lg_sl ([.ref o, .ref a0, .int a1])).length) Slot.unset).toArray) [] := by rw [hav]; exact lg_entry_eq m _ _
  rw [hE]
  clear hE hav
  generalize (lg_sl ([.ref o, .ref a0, .int a1]) ++ List.replicate (7 - (lg_sl ([.ref o, .ref a0, .int a1])).length) Slot.unset).toArray = ls at hl ⊢
  have hl : lv_has ls 7 [(0, .ref o), (1, .ref a0), (2, .int a1)] := hl
  obtain ⟨Q, hQ⟩ : ∃ Q, Q = MQ below (g_Q (some (.int r_)) S D cs A) args s 0 0 A := ⟨_, rfl⟩
  rw [← hQ]
  suffices hmain : ∀ (H : Heap) (locs : List Loc), g_P D cs A S H → va_S A s.heap H locs → W p l e (z_rmA 2 77 0 0) s m args below meth c H locs 0 0 Q (F0 m 0 ls []) from hmain s.heap [] hP0 va_S.rf
  clear hP0
  intro H locs hP hS
  unfold f_X6_leastC0 at h
  refine lv_iload_n hx hb dX6_leastC0_0 rfl (lv_at hl 2 rfl) ?_
  refine lv_ineg hx hb dX6_leastC0_1 ?_
  refine lv_istore_n (lv' := [(3, .int (-a1)), (0, .ref o), (1, .ref a0), (2, .int a1)]) hx hb dX6_leastC0_2 rfl hl (by decide) rfl (fun ls hl => ?_)
  refine lv_iload_n hx hb dX6_leastC0_3 rfl (lv_at hl 3 rfl) ?_
  refine lv_istore (lv' := [(4, .int a1), (3, .int (-a1)), (0, .ref o), (1, .ref a0), (2, .int a1)]) hx hb dX6_leastC0_4 hl (by decide) rfl (fun ls hl => ?_)
  refine lv_iconst (v := 0) hx hb dX6_leastC0_6 (by decide) ?_
  refine lv_istore (lv' := [(5, .int (0 : Int32)), (4, .int a1), (3, .int (-a1)), (0, .ref o), (1, .ref a0), (2, .int a1)]) hx hb dX6_leastC0_7 hl (by decide) rfl (fun ls hl => ?_)
  obtain ⟨y3_4, hlp, h⟩ := z_bd_some h
  refine z_lp_ind (P := fun x => ∀ (H : Heap) (locs : List Loc) (ls : Array Slot), g_P D cs A S H → va_S A s.heap H locs → lv_has ls 7 [(0, .ref o), (1, .ref a0), (3, .int x.1), (4, .int x.2.1), (5, .int x.2.2)] → W p l e (z_rmA 2 77 0 0) s m args below meth c H locs (0) (0) Q (F0 m 9 ls [])) (Qe := fun y => ∀ (H : Heap) (locs : List Loc) (ls : Array Slot), g_P D cs A S H → va_S A s.heap H locs → lv_has ls 7 [(3, .int y)] → W p l e (z_rmA 2 77 0 0) s m args below meth c H locs (0) (0) Q (F0 m 69 ls [])) ?_ hlp ?_ H locs ls hP hS (lv_sub hl [3, 4, 2, 1, 0] rfl)
  · clear h hlp hP hS hl
    rintro ⟨x3_1, x4_2, x5_3⟩ oo h K_9 H locs ls hP hS hl
    have hP : g_P D cs A S H := hP
    have hl : lv_has ls 7 [(0, .ref o), (1, .ref a0), (3, .int x3_1), (4, .int x4_2), (5, .int x5_3)] := hl
    have h : f_X6_leastC0_L9 S a0 o x3_1 x4_2 x5_3 = some oo := h
    unfold f_X6_leastC0_L9 at h
    refine lv_iload hx hb dX6_leastC0_9 (lv_at hl 4 rfl) ?_
    refine lv_bipush (v := 32) hx hb dX6_leastC0_11 (by decide) ?_
    refine lv_icmp_ge (tgt := 69) hx hb dX6_leastC0_13 (by decide) (fun c_13 => ?_) (fun c_13 => ?_)
    · replace h := z_ip_ c_13 h
      cases h
      exact K_9 H locs ls hP hS (lv_sub hl [2] rfl)
    · replace h := z_in_ c_13 h
      refine lv_iload_n hx hb dX6_leastC0_16 rfl (lv_at hl 2 rfl) ?_
      refine lv_iload hx hb dX6_leastC0_17 (lv_at hl 3 rfl) ?_
      refine lv_icmp_ge (tgt := 69) hx hb dX6_leastC0_19 (by decide) (fun c_19 => ?_) (fun c_19 => ?_)
      · replace h := z_ip_ c_19 h
        cases h
        exact K_9 H locs ls hP hS (lv_sub hl [2] rfl)
      · replace h := z_in_ c_19 h
        refine lv_iload_n hx hb dX6_leastC0_22 rfl (lv_at hl 2 rfl) ?_
        refine lv_iload hx hb dX6_leastC0_23 (lv_at hl 3 rfl) ?_
        refine lv_iadd hx hb dX6_leastC0_25 ?_
        refine lv_iconst (v := 2) hx hb dX6_leastC0_26 (by decide) ?_
        obtain ⟨r_5, er_5, h⟩ := z_bd_some h
        refine s_calli (As := [.int (x3_1 + x4_2), .int (2 : Int32)]) (r := r_5) (n := 2) hc.1 (mt_J9_floorDiv_7cf53 l (x3_1 + x4_2) (2 : Int32) er_5) wM_X6_40 wT_J9_floorDiv_7cf53 wZ_J9 wC_J9_floorDiv_7cf53 md_J9_floorDiv_7cf53 ⟨rfl, rfl, Nat.le_of_ble_eq_true rfl, Nat.le_of_ble_eq_true rfl⟩ rfl hl.1 rfl (Nat.le_of_ble_eq_true rfl) dX6_leastC0_27 ⟨Nat.le_of_ble_eq_true rfl, Nat.le_of_ble_eq_true rfl⟩ ?_
        refine lv_istore (lv' := [(6, .int r_5), (0, .ref o), (1, .ref a0), (3, .int x3_1), (4, .int x4_2), (5, .int x5_3)]) hx hb dX6_leastC0_30 hl (by decide) rfl (fun ls hl => ?_)
        refine lv_aload_n hx hb dX6_leastC0_32 rfl (lv_at hl 1 rfl) ?_
        refine lv_aload_n hx hb dX6_leastC0_33 rfl (lv_at hl 2 rfl) ?_
        refine lv_iload hx hb dX6_leastC0_34 (lv_at hl 0 rfl) ?_
        obtain ⟨ho_36, h⟩ := z_chk_some h
        obtain ⟨vs_, ho_36⟩ := Option.isSome_iff_exists.mp ho_36
        obtain ⟨r_6, e_36, h⟩ := z_bd_some h
        refine g_callV (ci := 6) (As := [.ref a0, .int r_5]) (rv := (some (.int r_6))) (n := 2) hc hP hS rfl ho_36 (mt_X6_levelAt l D cs A S o a0 r_5 e_36) wM_X6_37 wI_X6_levelAt wS_X6_levelAt wZ_X6 wC_X6_levelAt md_X6_levelAt ⟨rfl, rfl, Nat.le_of_ble_eq_true rfl, Nat.le_of_ble_eq_true rfl⟩ rfl hl.1 rfl (Nat.le_of_ble_eq_true rfl) dX6_leastC0_36 ⟨Nat.le_of_ble_eq_true rfl, Nat.le_of_ble_eq_true rfl⟩ (fun H locs hP hS => ?_)
        show W p l e (z_rmA 2 77 0 0) s m args below meth c H locs (0) (0) Q (F0 m 39 ls [.int r_6])
        refine lv_aload_n hx hb dX6_leastC0_39 rfl (lv_at hl 1 rfl) ?_
        refine lv_aload_n hx hb dX6_leastC0_40 rfl (lv_at hl 2 rfl) ?_
        refine lv_iload hx hb dX6_leastC0_41 (lv_at hl 0 rfl) ?_
        refine lv_iconst (v := 1) hx hb dX6_leastC0_43 (by decide) ?_
        refine lv_iadd hx hb dX6_leastC0_44 ?_
        obtain ⟨ho_45, h⟩ := z_chk_some h
        obtain ⟨vs_, ho_45⟩ := Option.isSome_iff_exists.mp ho_45
        obtain ⟨r_7, e_45, h⟩ := z_bd_some h
        refine g_callV (ci := 6) (As := [.ref a0, .int (r_5 + (1 : Int32))]) (rv := (some (.int r_7))) (n := 2) hc hP hS rfl ho_45 (mt_X6_levelAt l D cs A S o a0 (r_5 + (1 : Int32)) e_45) wM_X6_37 wI_X6_levelAt wS_X6_levelAt wZ_X6 wC_X6_levelAt md_X6_levelAt ⟨rfl, rfl, Nat.le_of_ble_eq_true rfl, Nat.le_of_ble_eq_true rfl⟩ rfl hl.1 rfl (Nat.le_of_ble_eq_true rfl) dX6_leastC0_45 ⟨Nat.le_of_ble_eq_true rfl, Nat.le_of_ble_eq_true rfl⟩ (fun H locs hP hS => ?_)
        show W p l e (z_rmA 2 77 0 0) s m args below meth c H locs (0) (0) Q (F0 m 48 ls [.int r_7, .int r_6])
        refine lv_icmp_gt (tgt := 58) hx hb dX6_leastC0_48 (by decide) (fun c_48 => ?_) (fun c_48 => ?_)
        · replace h := z_ip_ c_48 h
          refine lv_iload hx hb dX6_leastC0_58 (lv_at hl 0 rfl) ?_
          refine lv_iconst (v := 1) hx hb dX6_leastC0_60 (by decide) ?_
          refine lv_iadd hx hb dX6_leastC0_61 ?_
          refine lv_istore_n (lv' := [(3, .int (r_5 + (1 : Int32))), (6, .int r_5), (0, .ref o), (1, .ref a0), (4, .int x4_2), (5, .int x5_3)]) hx hb dX6_leastC0_62 rfl hl (by decide) rfl (fun ls hl => ?_)
          refine lv_iinc (v := (x5_3 + 1)) (lv' := [(5, .int (x5_3 + 1)), (3, .int (r_5 + (1 : Int32))), (6, .int r_5), (0, .ref o), (1, .ref a0), (4, .int x4_2)]) hx hb dX6_leastC0_63 hl (k := 5) rfl rfl (by decide) rfl (fun ls hl => ?_)
          refine lv_goto (tgt := 9) hx hb dX6_leastC0_66 (by decide) ?_
          cases h
          exact K_9 H locs ls hP hS (lv_sub hl [3, 4, 1, 5, 0] rfl)
        · replace h := z_in_ c_48 h
          refine lv_iload hx hb dX6_leastC0_51 (lv_at hl 0 rfl) ?_
          refine lv_istore (lv' := [(4, .int r_5), (6, .int r_5), (0, .ref o), (1, .ref a0), (3, .int x3_1), (5, .int x5_3)]) hx hb dX6_leastC0_53 hl (by decide) rfl (fun ls hl => ?_)
          refine lv_goto (tgt := 63) hx hb dX6_leastC0_55 (by decide) ?_
          refine lv_iinc (v := (x5_3 + 1)) (lv' := [(5, .int (x5_3 + 1)), (4, .int r_5), (6, .int r_5), (0, .ref o), (1, .ref a0), (3, .int x3_1)]) hx hb dX6_leastC0_63 hl (k := 5) rfl rfl (by decide) rfl (fun ls hl => ?_)
          refine lv_goto (tgt := 9) hx hb dX6_leastC0_66 (by decide) ?_
          cases h
          exact K_9 H locs ls hP hS (lv_sub hl [3, 4, 5, 1, 0] rfl)
  · clear hlp hP hS hl
    intro H locs ls hP hS hl
    have hP : g_P D cs A S H := hP
    have hl : lv_has ls 7 [(3, .int y3_4)] := hl
    refine lv_iload_n hx hb dX6_leastC0_69 rfl (lv_at hl 0 rfl) ?_
    cases h
    rw [hQ]
    exact g_reti hc hr hlocks hP hS dX6_leastC0_70
theorem md_X6_leastC0 : yX6_leastC0.cls ≠ "java/lang/invoke/MethodHandle" ∧ yX6_leastC0.cls ≠ "java/lang/invoke/VarHandle" ∧ (parseMethodDescriptor yX6_leastC0.desc).map (fun d => d.parameters.length) = some 2 := by decide +kernel
noncomputable def f_X6_search_L32 (a0 : Nat) (a2 : Int32) (o : Nat) (x6_3 : Int32) (x7_6 : Int32) (S_7 : GS) : Option ((GS) ⊕ (Int32 × GS)) :=
  z_bd (g_i S_7 3 3 a0) fun f_9 => if f_9 ≤ x7_6 then some (.inl (S_7)) else z_bd (g_r S_7 6 0 o) fun f_10 => z_bd (g_r S_7 3 1 a0) fun f_11 => z_bd (g_rI S_7 f_11 x7_6) fun v_12 => z_bd (g_r S_7 3 0 a0) fun f_13 => z_bd (g_rI S_7 f_13 x7_6) fun v_14 => z_bd (g_wI S_7 f_10 x7_6 ((v_12 <<< (a2 &&& 31)) - (x6_3 * v_14))) fun S_15 => some (.inr ((x7_6 + 1), S_15))
noncomputable def f_X6_search_L22 (a0 : Nat) (a2 : Int32) (o : Nat) (v_1 : Int32) (x5_2 : Int32) (x6_3 : Int32) (S_4 : GS) : Option ((GS) ⊕ (Int32 × Int32 × GS)) :=
  if v_1 < x6_3 then some (.inl (S_4)) else z_bd (z_lp (fun x => f_X6_search_L32 a0 a2 o x6_3 x.1 x.2) ((0 : Int32), S_4)) fun S_8 => z_chk (g_is S_8 6 o) (z_bd (f_X6_leastC0 S_8 o a0 ((64 : Int32) <<< (a2 &&& 31))) fun r_16 => z_chk (g_is S_8 6 o) (z_bd (f_X6_levelAt S_8 o a0 r_16) fun r_17 => z_bd (if x5_2 < 0 then some ((1 : Int32)) else if r_17 < x5_2 then some ((1 : Int32)) else if r_17 = x5_2 then z_bd (g_i S_8 6 1 o) fun f_19 => if f_19 ≤ r_16 then some ((0 : Int32)) else some ((1 : Int32)) else some ((0 : Int32))) fun v_18 => if v_18 = 0 then some (.inr (x5_2, (x6_3 + 1), S_8)) else z_bd (g_put S_8 6 1 o (.int r_16)) fun S_20 => z_bd (g_put S_20 6 2 o (.int x6_3)) fun S_21 => some (.inr (r_17, (x6_3 + 1), S_21))))
noncomputable def f_X6_search (S : GS) (o : Nat) (a0 : Nat) (a1 : Int32) (a2 : Int32) : Option (GS) :=
  z_bd (if a1 = 0 then some ((0 : Int32)) else some (((8 : Int32) <<< (a2 &&& 31)))) fun v_1 => z_bd (z_lp (fun x => f_X6_search_L22 a0 a2 o v_1 x.1 x.2.1 x.2.2) ((-1 : Int32), (-v_1), S)) fun S_5 => some S_5
set_option maxHeartbeats 4000000 in
set_option maxRecDepth 100000 in
theorem mt_X6_search (l : Launch) (D : va_G) (cs : Nat → ClassId) (A : Nat → Prop) (S : GS) (o : Nat) (a0 : Nat) (a1 : Int32) (a2 : Int32) {N_ : GS} (h : f_X6_search S o a0 a1 a2 = some N_) : Met l yX6_search (z_wd yX6_search cX6_search 10 none) (z_rmA 3 119 0 0) (va_Pc [.ref o, .ref a0, .int a1, .int a2] (g_C D cs A S)) (g_Q none N_ D cs A) 0 0 A := by
  refine Met.ofW (cc := cX6_search) (maxL := 10) (ret := none) (by decide) rfl ?_
  intro p e s m args below meth c s₁ B hml hv
  obtain ⟨hav, hP0, hK, hN, hSt, hAn⟩ := hv
  have hx := B.exec
  have hb := B.bytes
  have hr := B.returns
  have hts := atoms_spec (ws := z_wd yX6_search cX6_search 10 none) B.pre
  have hown : s.vm.findClass RX6 = some m.cls := findClass_of_methodNamed B.named
  have hlocks := B.notSynchronized
  have hc : g_X p s m args c cX6_search 10 RX6 D cs A := ⟨⟨hx, hb, hml, fun w hw => hts w (List.mem_cons_of_mem _ hw), hown⟩, hK, hN, hSt, hAn⟩
  have hl := lv_entry ([.ref o, .ref a0, .int a1, .int a2]) (n := 10) (Nat.le_of_ble_eq_true rfl)
  have hE : entryFrame m args 10 = F0 m 0 ((lg_sl ([.ref o, .ref a0, .int a1, .int a2]) ++ List.replicate (10 - (lg_sl ([.ref o, .ref a0, .int a1, .int a2])).length) Slot.unset).toArray) [] := by rw [hav]; exact lg_entry_eq m _ _
  rw [hE]
  clear hE hav
  generalize (lg_sl ([.ref o, .ref a0, .int a1, .int a2]) ++ List.replicate (10 - (lg_sl ([.ref o, .ref a0, .int a1, .int a2])).length) Slot.unset).toArray = ls at hl ⊢
  have hl : lv_has ls 10 [(0, .ref o), (1, .ref a0), (2, .int a1), (3, .int a2)] := hl
  obtain ⟨Q, hQ⟩ : ∃ Q, Q = MQ below (g_Q none N_ D cs A) args s 0 0 A := ⟨_, rfl⟩
  rw [← hQ]
  suffices hmain : ∀ (H : Heap) (locs : List Loc), g_P D cs A S H → va_S A s.heap H locs → W p l e (z_rmA 3 119 0 0) s m args below meth c H locs 0 0 Q (F0 m 0 ls []) from hmain s.heap [] hP0 va_S.rf
  clear hP0
  intro H locs hP hS
  unfold f_X6_search at h
  refine lv_iload_n hx hb dX6_search_0 rfl (lv_at hl 2 rfl) ?_
  obtain ⟨v_1, hJ, h⟩ := z_bd_some h
  have J_12 : ∀ (H : Heap) (locs : List Loc) (ls : Array Slot), g_P D cs A S H → va_S A s.heap H locs → lv_has ls 10 [(0, .ref o), (1, .ref a0), (3, .int a2)] → W p l e (z_rmA 3 119 0 0) s m args below meth c H locs (0) (0) Q (F0 m 12 ls [.int v_1]) := by
    intro H locs ls hP hS hl
    refine lv_istore (lv' := [(4, .int v_1), (0, .ref o), (1, .ref a0), (3, .int a2)]) hx hb dX6_search_12 hl (by decide) rfl (fun ls hl => ?_)
    refine lv_iconst (v := -1) hx hb dX6_search_14 (by decide) ?_
    refine lv_istore (lv' := [(5, .int (-1 : Int32)), (4, .int v_1), (0, .ref o), (1, .ref a0), (3, .int a2)]) hx hb dX6_search_15 hl (by decide) rfl (fun ls hl => ?_)
    refine lv_iload hx hb dX6_search_17 (lv_at hl 1 rfl) ?_
    refine lv_ineg hx hb dX6_search_19 ?_
    refine lv_istore (lv' := [(6, .int (-v_1)), (5, .int (-1 : Int32)), (4, .int v_1), (0, .ref o), (1, .ref a0), (3, .int a2)]) hx hb dX6_search_20 hl (by decide) rfl (fun ls hl => ?_)
    obtain ⟨S_5, hlp, h⟩ := z_bd_some h
    refine z_lp_ind (P := fun x => ∀ (H : Heap) (locs : List Loc) (ls : Array Slot), g_P D cs A x.2.2 H → va_S A s.heap H locs → lv_has ls 10 [(0, .ref o), (1, .ref a0), (3, .int a2), (4, .int v_1), (5, .int x.1), (6, .int x.2.1)] → W p l e (z_rmA 3 119 0 0) s m args below meth c H locs (0) (0) Q (F0 m 22 ls [])) (Qe := fun y => ∀ (H : Heap) (locs : List Loc) (ls : Array Slot), g_P D cs A y H → va_S A s.heap H locs → lv_has ls 10 [] → W p l e (z_rmA 3 119 0 0) s m args below meth c H locs (0) (0) Q (F0 m 156 ls [])) ?_ hlp ?_ H locs ls hP hS (lv_sub hl [3, 4, 5, 2, 1, 0] rfl)
    · clear h hlp hP hS hl
      rintro ⟨x5_2, x6_3, S_4⟩ oo h K_22 H locs ls hP hS hl
      have hP : g_P D cs A S_4 H := hP
      have hl : lv_has ls 10 [(0, .ref o), (1, .ref a0), (3, .int a2), (4, .int v_1), (5, .int x5_2), (6, .int x6_3)] := hl
      have h : f_X6_search_L22 a0 a2 o v_1 x5_2 x6_3 S_4 = some oo := h
      unfold f_X6_search_L22 at h
      refine lv_iload hx hb dX6_search_22 (lv_at hl 5 rfl) ?_
      refine lv_iload hx hb dX6_search_24 (lv_at hl 3 rfl) ?_
      refine lv_icmp_gt (tgt := 156) hx hb dX6_search_26 (by decide) (fun c_26 => ?_) (fun c_26 => ?_)
      · replace h := z_ip_ c_26 h
        cases h
        exact K_22 H locs ls hP hS (lv_sub hl [] rfl)
      · replace h := z_in_ c_26 h
        refine lv_iconst (v := 0) hx hb dX6_search_29 (by decide) ?_
        refine lv_istore (lv' := [(7, .int (0 : Int32)), (0, .ref o), (1, .ref a0), (3, .int a2), (4, .int v_1), (5, .int x5_2), (6, .int x6_3)]) hx hb dX6_search_30 hl (by decide) rfl (fun ls hl => ?_)
        obtain ⟨S_8, hlp, h⟩ := z_bd_some h
        refine z_lp_ind (P := fun x => ∀ (H : Heap) (locs : List Loc) (ls : Array Slot), g_P D cs A x.2 H → va_S A s.heap H locs → lv_has ls 10 [(0, .ref o), (1, .ref a0), (3, .int a2), (4, .int v_1), (5, .int x5_2), (6, .int x6_3), (7, .int x.1)] → W p l e (z_rmA 3 119 0 0) s m args below meth c H locs (0) (0) Q (F0 m 32 ls [])) (Qe := fun y => ∀ (H : Heap) (locs : List Loc) (ls : Array Slot), g_P D cs A y H → va_S A s.heap H locs → lv_has ls 10 [(0, .ref o), (1, .ref a0), (3, .int a2), (4, .int v_1), (5, .int x5_2), (6, .int x6_3)] → W p l e (z_rmA 3 119 0 0) s m args below meth c H locs (0) (0) Q (F0 m 74 ls [])) ?_ hlp ?_ H locs ls hP hS (lv_sub hl [1, 2, 3, 4, 5, 6, 0] rfl)
        · clear h hlp hP hS hl
          rintro ⟨x7_6, S_7⟩ oo h K_32 H locs ls hP hS hl
          have hP : g_P D cs A S_7 H := hP
          have hl : lv_has ls 10 [(0, .ref o), (1, .ref a0), (3, .int a2), (4, .int v_1), (5, .int x5_2), (6, .int x6_3), (7, .int x7_6)] := hl
          have h : f_X6_search_L32 a0 a2 o x6_3 x7_6 S_7 = some oo := h
          unfold f_X6_search_L32 at h
          refine lv_iload hx hb dX6_search_32 (lv_at hl 6 rfl) ?_
          refine lv_aload_n hx hb dX6_search_34 rfl (lv_at hl 1 rfl) ?_
          obtain ⟨f_9, ef_9, h⟩ := z_bd_some h
          refine g_getN (ci := 3) (k := 3) (v := .int f_9) hc hP rfl z_inX3 (by decide) wG_X6_22 (g_i_v ef_9) dX6_search_35 ?_
          refine lv_icmp_ge (tgt := 74) hx hb dX6_search_38 (by decide) (fun c_38 => ?_) (fun c_38 => ?_)
          · replace h := z_ip_ c_38 h
            cases h
            exact K_32 H locs ls hP hS (lv_sub hl [0, 1, 2, 3, 4, 5] rfl)
          · replace h := z_in_ c_38 h
            refine lv_aload_n hx hb dX6_search_41 rfl (lv_at hl 0 rfl) ?_
            obtain ⟨f_10, ef_10, h⟩ := z_bd_some h
            refine g_get (ci := 6) (k := 0) (v := .ref f_10) hc hP rfl z_inX6 (by decide) wF_X6_9 (g_r_v ef_10) dX6_search_42 ?_
            refine lv_iload hx hb dX6_search_45 (lv_at hl 6 rfl) ?_
            refine lv_aload_n hx hb dX6_search_47 rfl (lv_at hl 1 rfl) ?_
            obtain ⟨f_11, ef_11, h⟩ := z_bd_some h
            refine g_getN (ci := 3) (k := 1) (v := .ref f_11) hc hP rfl z_inX3 (by decide) wG_X6_27 (g_r_v ef_11) dX6_search_48 ?_
            refine lv_iload hx hb dX6_search_51 (lv_at hl 6 rfl) ?_
            obtain ⟨v_12, ev_12, h⟩ := z_bd_some h
            refine g_iald hc hP ev_12 dX6_search_53 ?_
            refine lv_iload_n hx hb dX6_search_54 rfl (lv_at hl 2 rfl) ?_
            refine lv_ishl hx hb dX6_search_55 ?_
            refine lv_iload hx hb dX6_search_56 (lv_at hl 5 rfl) ?_
            refine lv_aload_n hx hb dX6_search_58 rfl (lv_at hl 1 rfl) ?_
            obtain ⟨f_13, ef_13, h⟩ := z_bd_some h
            refine g_getN (ci := 3) (k := 0) (v := .ref f_13) hc hP rfl z_inX3 (by decide) wG_X6_30 (g_r_v ef_13) dX6_search_59 ?_
            refine lv_iload hx hb dX6_search_62 (lv_at hl 6 rfl) ?_
            obtain ⟨v_14, ev_14, h⟩ := z_bd_some h
            refine g_iald hc hP ev_14 dX6_search_64 ?_
            refine lv_imul hx hb dX6_search_65 ?_
            refine lv_isub hx hb dX6_search_66 ?_
            obtain ⟨S_15, eS_15, h⟩ := z_bd_some h
            refine g_iast hc hP hS eS_15 dX6_search_67 (fun H locs hP hS => ?_)
            refine lv_iinc (v := (x7_6 + 1)) (lv' := [(7, .int (x7_6 + 1)), (0, .ref o), (1, .ref a0), (3, .int a2), (4, .int v_1), (5, .int x5_2), (6, .int x6_3)]) hx hb dX6_search_68 hl (k := 6) rfl rfl (by decide) rfl (fun ls hl => ?_)
            refine lv_goto (tgt := 32) hx hb dX6_search_71 (by decide) ?_
            cases h
            exact K_32 H locs ls hP hS (lv_sub hl [1, 2, 3, 4, 5, 6, 0] rfl)
        · clear hlp hP hS hl
          intro H locs ls hP hS hl
          have hP : g_P D cs A S_8 H := hP
          have hl : lv_has ls 10 [(0, .ref o), (1, .ref a0), (3, .int a2), (4, .int v_1), (5, .int x5_2), (6, .int x6_3)] := hl
          refine lv_aload_n hx hb dX6_search_74 rfl (lv_at hl 0 rfl) ?_
          refine lv_aload_n hx hb dX6_search_75 rfl (lv_at hl 1 rfl) ?_
          refine lv_bipush (v := 64) hx hb dX6_search_76 (by decide) ?_
          refine lv_iload_n hx hb dX6_search_78 rfl (lv_at hl 2 rfl) ?_
          refine lv_ishl hx hb dX6_search_79 ?_
          obtain ⟨ho_80, h⟩ := z_chk_some h
          obtain ⟨vs_, ho_80⟩ := Option.isSome_iff_exists.mp ho_80
          obtain ⟨r_16, e_80, h⟩ := z_bd_some h
          refine g_callV (ci := 6) (As := [.ref a0, .int ((64 : Int32) <<< (a2 &&& 31))]) (rv := (some (.int r_16))) (n := 2) hc hP hS rfl ho_80 (mt_X6_leastC0 l D cs A S_8 o a0 ((64 : Int32) <<< (a2 &&& 31)) e_80) wM_X6_33 wI_X6_leastC0 wS_X6_leastC0 wZ_X6 wC_X6_leastC0 md_X6_leastC0 ⟨rfl, rfl, Nat.le_of_ble_eq_true rfl, Nat.le_of_ble_eq_true rfl⟩ rfl hl.1 rfl (Nat.le_of_ble_eq_true rfl) dX6_search_80 ⟨Nat.le_of_ble_eq_true rfl, Nat.le_of_ble_eq_true rfl⟩ (fun H locs hP hS => ?_)
          show W p l e (z_rmA 3 119 0 0) s m args below meth c H locs (0) (0) Q (F0 m 83 ls [.int r_16])
          refine lv_istore (lv' := [(7, .int r_16), (0, .ref o), (1, .ref a0), (3, .int a2), (4, .int v_1), (5, .int x5_2), (6, .int x6_3)]) hx hb dX6_search_83 hl (by decide) rfl (fun ls hl => ?_)
          refine lv_aload_n hx hb dX6_search_85 rfl (lv_at hl 1 rfl) ?_
          refine lv_aload_n hx hb dX6_search_86 rfl (lv_at hl 2 rfl) ?_
          refine lv_iload hx hb dX6_search_87 (lv_at hl 0 rfl) ?_
          obtain ⟨ho_89, h⟩ := z_chk_some h
          obtain ⟨vs_, ho_89⟩ := Option.isSome_iff_exists.mp ho_89
          obtain ⟨r_17, e_89, h⟩ := z_bd_some h
          refine g_callV (ci := 6) (As := [.ref a0, .int r_16]) (rv := (some (.int r_17))) (n := 2) hc hP hS rfl ho_89 (mt_X6_levelAt l D cs A S_8 o a0 r_16 e_89) wM_X6_37 wI_X6_levelAt wS_X6_levelAt wZ_X6 wC_X6_levelAt md_X6_levelAt ⟨rfl, rfl, Nat.le_of_ble_eq_true rfl, Nat.le_of_ble_eq_true rfl⟩ rfl hl.1 rfl (Nat.le_of_ble_eq_true rfl) dX6_search_89 ⟨Nat.le_of_ble_eq_true rfl, Nat.le_of_ble_eq_true rfl⟩ (fun H locs hP hS => ?_)
          show W p l e (z_rmA 3 119 0 0) s m args below meth c H locs (0) (0) Q (F0 m 92 ls [.int r_17])
          refine lv_istore (lv' := [(8, .int r_17), (7, .int r_16), (0, .ref o), (1, .ref a0), (3, .int a2), (4, .int v_1), (5, .int x5_2), (6, .int x6_3)]) hx hb dX6_search_92 hl (by decide) rfl (fun ls hl => ?_)
          refine lv_iload hx hb dX6_search_94 (lv_at hl 6 rfl) ?_
          obtain ⟨v_18, hJ, h⟩ := z_bd_some h
          have J_127 : ∀ (H : Heap) (locs : List Loc) (ls : Array Slot), g_P D cs A S_8 H → va_S A s.heap H locs → lv_has ls 10 [(0, .ref o), (1, .ref a0), (3, .int a2), (4, .int v_1), (5, .int x5_2), (6, .int x6_3), (7, .int r_16), (8, .int r_17)] → W p l e (z_rmA 3 119 0 0) s m args below meth c H locs (0) (0) Q (F0 m 127 ls [.int v_18]) := by
            intro H locs ls hP hS hl
            refine lv_istore (lv' := [(9, .int v_18), (0, .ref o), (1, .ref a0), (3, .int a2), (4, .int v_1), (5, .int x5_2), (6, .int x6_3), (7, .int r_16), (8, .int r_17)]) hx hb dX6_search_127 hl (by decide) rfl (fun ls hl => ?_)
            refine lv_iload hx hb dX6_search_129 (lv_at hl 0 rfl) ?_
            refine lv_if_eq (tgt := 150) hx hb dX6_search_131 (by decide) (fun c_131 => ?_) (fun c_131 => ?_)
            · replace h := z_ip_ c_131 h
              refine lv_iinc (v := (x6_3 + 1)) (lv' := [(6, .int (x6_3 + 1)), (9, .int v_18), (0, .ref o), (1, .ref a0), (3, .int a2), (4, .int v_1), (5, .int x5_2), (7, .int r_16), (8, .int r_17)]) hx hb dX6_search_150 hl (k := 6) rfl rfl (by decide) rfl (fun ls hl => ?_)
              refine lv_goto (tgt := 22) hx hb dX6_search_153 (by decide) ?_
              cases h
              exact K_22 H locs ls hP hS (lv_sub hl [2, 3, 4, 5, 6, 0] rfl)
            · replace h := z_in_ c_131 h
              refine lv_iload hx hb dX6_search_134 (lv_at hl 8 rfl) ?_
              refine lv_istore (lv' := [(5, .int r_17), (9, .int v_18), (0, .ref o), (1, .ref a0), (3, .int a2), (4, .int v_1), (6, .int x6_3), (7, .int r_16), (8, .int r_17)]) hx hb dX6_search_136 hl (by decide) rfl (fun ls hl => ?_)
              refine lv_aload_n hx hb dX6_search_138 rfl (lv_at hl 2 rfl) ?_
              refine lv_iload hx hb dX6_search_139 (lv_at hl 7 rfl) ?_
              obtain ⟨S_20, eS_20, h⟩ := z_bd_some h
              refine g_putf (ci := 6) (k := 1) (ty := .int) tyX6 hc hP hS rfl z_inX6 tyX6_ok nmX6 (by decide) wF_X6_15 rfl (by decide +kernel) rfl rfl eS_20 dX6_search_141 (fun H locs hP hS => ?_)
              refine lv_aload_n hx hb dX6_search_144 rfl (lv_at hl 2 rfl) ?_
              refine lv_iload hx hb dX6_search_145 (lv_at hl 6 rfl) ?_
              obtain ⟨S_21, eS_21, h⟩ := z_bd_some h
              refine g_putf (ci := 6) (k := 2) (ty := .int) tyX6 hc hP hS rfl z_inX6 tyX6_ok nmX6 (by decide) wF_X6_19 rfl (by decide +kernel) rfl rfl eS_21 dX6_search_147 (fun H locs hP hS => ?_)
              refine lv_iinc (v := (x6_3 + 1)) (lv' := [(6, .int (x6_3 + 1)), (5, .int r_17), (9, .int v_18), (0, .ref o), (1, .ref a0), (3, .int a2), (4, .int v_1), (7, .int r_16), (8, .int r_17)]) hx hb dX6_search_150 hl (k := 6) rfl rfl (by decide) rfl (fun ls hl => ?_)
              refine lv_goto (tgt := 22) hx hb dX6_search_153 (by decide) ?_
              cases h
              exact K_22 H locs ls hP hS (lv_sub hl [3, 4, 5, 6, 1, 0] rfl)
          clear h
          have h := hJ
          clear hJ
          refine lv_if_lt (tgt := 122) hx hb dX6_search_96 (by decide) (fun c_96 => ?_) (fun c_96 => ?_)
          · replace h := z_ip_ c_96 h
            refine lv_iconst (v := 1) hx hb dX6_search_122 (by decide) ?_
            refine lv_goto (tgt := 127) hx hb dX6_search_123 (by decide) ?_
            cases h
            exact J_127 H locs ls hP hS (lv_sub hl [2, 3, 4, 5, 6, 7, 1, 0] rfl)
          · replace h := z_in_ c_96 h
            refine lv_iload hx hb dX6_search_99 (lv_at hl 0 rfl) ?_
            refine lv_iload hx hb dX6_search_101 (lv_at hl 6 rfl) ?_
            refine lv_icmp_lt (tgt := 122) hx hb dX6_search_103 (by decide) (fun c_103 => ?_) (fun c_103 => ?_)
            · replace h := z_ip_ c_103 h
              refine lv_iconst (v := 1) hx hb dX6_search_122 (by decide) ?_
              refine lv_goto (tgt := 127) hx hb dX6_search_123 (by decide) ?_
              cases h
              exact J_127 H locs ls hP hS (lv_sub hl [2, 3, 4, 5, 6, 7, 1, 0] rfl)
            · replace h := z_in_ c_103 h
              refine lv_iload hx hb dX6_search_106 (lv_at hl 0 rfl) ?_
              refine lv_iload hx hb dX6_search_108 (lv_at hl 6 rfl) ?_
              refine lv_icmp_ne (tgt := 126) hx hb dX6_search_110 (by decide) (fun c_110 => ?_) (fun c_110 => ?_)
              · replace h := z_in_ c_110 h
                refine lv_iconst (v := 0) hx hb dX6_search_126 (by decide) ?_
                cases h
                exact J_127 H locs ls hP hS (lv_sub hl [2, 3, 4, 5, 6, 7, 1, 0] rfl)
              · replace h := z_ip_ c_110 h
                refine lv_iload hx hb dX6_search_113 (lv_at hl 1 rfl) ?_
                refine lv_aload_n hx hb dX6_search_115 rfl (lv_at hl 2 rfl) ?_
                obtain ⟨f_19, ef_19, h⟩ := z_bd_some h
                refine g_get (ci := 6) (k := 1) (v := .int f_19) hc hP rfl z_inX6 (by decide) wF_X6_15 (g_i_v ef_19) dX6_search_116 ?_
                refine lv_icmp_ge (tgt := 126) hx hb dX6_search_119 (by decide) (fun c_119 => ?_) (fun c_119 => ?_)
                · replace h := z_ip_ c_119 h
                  refine lv_iconst (v := 0) hx hb dX6_search_126 (by decide) ?_
                  cases h
                  exact J_127 H locs ls hP hS (lv_sub hl [2, 3, 4, 5, 6, 7, 1, 0] rfl)
                · replace h := z_in_ c_119 h
                  refine lv_iconst (v := 1) hx hb dX6_search_122 (by decide) ?_
                  refine lv_goto (tgt := 127) hx hb dX6_search_123 (by decide) ?_
                  cases h
                  exact J_127 H locs ls hP hS (lv_sub hl [2, 3, 4, 5, 6, 7, 1, 0] rfl)
    · clear hlp hP hS hl
      intro H locs ls hP hS hl
      have hP : g_P D cs A S_5 H := hP
      have hl : lv_has ls 10 [] := hl
      cases h
      rw [hQ]
      exact g_retv hc hr hlocks hP hS dX6_search_156
  clear h
  have h := hJ
  clear hJ
  refine lv_if_ne (tgt := 8) hx hb dX6_search_1 (by decide) (fun c_1 => ?_) (fun c_1 => ?_)
  · replace h := z_in_ c_1 h
    refine lv_bipush (v := 8) hx hb dX6_search_8 (by decide) ?_
    refine lv_iload_n hx hb dX6_search_10 rfl (lv_at hl 3 rfl) ?_
    refine lv_ishl hx hb dX6_search_11 ?_
    cases h
    exact J_12 H locs ls hP hS (lv_sub hl [0, 1, 3] rfl)
  · replace h := z_ip_ c_1 h
    refine lv_iconst (v := 0) hx hb dX6_search_4 (by decide) ?_
    refine lv_goto (tgt := 12) hx hb dX6_search_5 (by decide) ?_
    cases h
    exact J_12 H locs ls hP hS (lv_sub hl [0, 1, 3] rfl)
theorem md_X6_search : yX6_search.cls ≠ "java/lang/invoke/MethodHandle" ∧ yX6_search.cls ≠ "java/lang/invoke/VarHandle" ∧ (parseMethodDescriptor yX6_search.desc).map (fun d => d.parameters.length) = some 3 := by decide +kernel
noncomputable def f_X7_init_L75 (o : Nat) (x1_18 : Int32) (S_19 : GS) : Option ((GS) ⊕ (Int32 × GS)) :=
  if (6 : Int32) ≤ x1_18 then some (.inl (S_19)) else z_bd (g_r S_19 7 0 o) fun f_21 => z_lt (g_nw S_19 (.inr (.inr (.inr (3, [.null, .null, .null, .int 0]))))) fun S_22 => z_bd (f_X3_init S_22 S_19.2 ) fun S_23 => z_chk (g_is S_23 3 S_19.2) (z_bd (g_wQ S_23 0 f_21 x1_18 (some S_19.2)) fun S_24 => some (.inr ((x1_18 + 1), S_24)))
noncomputable def f_X7_init (S : GS) (o : Nat) : Option (GS) :=
  z_lt (g_nw S (.inr (.inr (.inl (0, 6, fun _ => none))))) fun S_1 => z_bd (g_put S_1 7 0 o (.ref S.2)) fun S_2 => z_lt (g_nw S_2 (.inr (.inr (.inl (1, 10, fun _ => none))))) fun S_3 => z_bd (g_put S_3 7 1 o (.ref S_2.2)) fun S_4 => z_lt (g_nw S_4 (.inr (.inr (.inl (2, 4, fun _ => none))))) fun S_5 => z_bd (g_put S_5 7 2 o (.ref S_4.2)) fun S_6 => z_lt (g_nw S_6 (.inr (.inr (.inr (2, [.null, .null, .null, .null, .null, .null, .null, .null, .int 0, .int 0, .int 0]))))) fun S_7 => z_bd (f_X2_init S_7 S_6.2 ) fun S_8 => z_bd (g_put S_8 7 3 o (.ref S_6.2)) fun S_9 => z_lt (g_nw S_9 (.inr (.inr (.inr (6, [.null, .int 0, .int 0]))))) fun S_10 => z_bd (f_X6_init S_10 S_9.2 ) fun S_11 => z_bd (g_put S_11 7 4 o (.ref S_9.2)) fun S_12 => z_lt (g_nw S_12 (.inr (.inr (.inr (0, [.null, .int 0]))))) fun S_13 => z_bd (f_X0_init S_13 S_12.2 ) fun S_14 => z_bd (g_put S_14 7 5 o (.ref S_12.2)) fun S_15 => z_bd (g_put S_15 7 6 o (.int (0 : Int32))) fun S_16 => z_bd (g_put S_16 7 7 o (.int (0 : Int32))) fun S_17 => z_bd (z_lp (fun x => f_X7_init_L75 o x.1 x.2) ((0 : Int32), S_17)) fun S_20 => some S_20
set_option maxHeartbeats 4000000 in
set_option maxRecDepth 100000 in
theorem mt_X7_init (l : Launch) (D : va_G) (cs : Nat → ClassId) (A : Nat → Prop) (S : GS) (o : Nat) {N_ : GS} (h : f_X7_init S o = some N_) : Met l yX7_init (z_wd yX7_init cX7_init 2 none) (z_rmA 3 112 40 392) (va_Pc [.ref o] (g_C D cs A S)) (g_Q none N_ D cs A) 40 392 A := by
  refine Met.ofW (cc := cX7_init) (maxL := 2) (ret := none) (by decide) rfl ?_
  intro p e s m args below meth c s₁ B hml hv
  obtain ⟨hav, hP0, hK, hN, hSt, hAn⟩ := hv
  have hx := B.exec
  have hb := B.bytes
  have hr := B.returns
  have hts := atoms_spec (ws := z_wd yX7_init cX7_init 2 none) B.pre
  have hown : s.vm.findClass RX7 = some m.cls := findClass_of_methodNamed B.named
  have hlocks := B.notSynchronized
  have hin : meth.name = "<init>" := (name_of_methodNamed B.named B.method).1
  have hc : g_X p s m args c cX7_init 2 RX7 D cs A := ⟨⟨hx, hb, hml, fun w hw => hts w (List.mem_cons_of_mem _ hw), hown⟩, hK, hN, hSt, hAn⟩
  have hl := lv_entry ([.ref o]) (n := 2) (Nat.le_of_ble_eq_true rfl)
  have hE : entryFrame m args 2 = F0 m 0 ((lg_sl ([.ref o]) ++ List.replicate (2 - (lg_sl ([.ref o])).length) Slot.unset).toArray) [] := by rw [hav]; exact lg_entry_eq m _ _
  rw [hE]
  clear hE hav
  generalize (lg_sl ([.ref o]) ++ List.replicate (2 - (lg_sl ([.ref o])).length) Slot.unset).toArray = ls at hl ⊢
  have hl : lv_has ls 2 [(0, .ref o)] := hl
  obtain ⟨Q, hQ⟩ : ∃ Q, Q = MQ below (g_Q none N_ D cs A) args s 40 392 A := ⟨_, rfl⟩
  rw [← hQ]
  suffices hmain : ∀ (H : Heap) (locs : List Loc), g_P D cs A S H → va_S A s.heap H locs → W p l e (z_rmA 3 112 40 392) s m args below meth c H locs 0 0 Q (F0 m 0 ls []) from hmain s.heap [] hP0 va_S.rf
  clear hP0
  intro H locs hP hS
  unfold f_X7_init at h
  refine lv_aload_n hx hb dX7_init_0 rfl (lv_at hl 0 rfl) ?_
  refine g_obj hc wM_X7_1 hl.1 (Nat.le_of_ble_eq_true rfl) (Nat.le_of_ble_eq_true rfl) dX7_init_1 ?_
  show W p l e (z_rmA 3 112 40 392) s m args below meth c H locs (0) (0) Q (F0 m 4 ls [])
  refine lv_aload_n hx hb dX7_init_4 rfl (lv_at hl 0 rfl) ?_
  refine lv_bipush (v := 6) hx hb dX7_init_5 (by decide) ?_
  obtain ⟨S_1, eS_1, h⟩ := z_lt_some h
  refine g_newQ (t := 0) (N' := 6) hc hP hS rfl wK_X7_9 wA_Points (by decide) (by decide) (by decide) (Nat.le_of_ble_eq_true rfl) (Nat.le_of_ble_eq_true rfl) eS_1 dX7_init_7 (fun H hP hS => ?_)
  show W p l e (z_rmA 3 112 40 392) s m args below meth c H locs (1) (6) Q (F0 m 10 ls [.ref S.2, .ref o])
  obtain ⟨S_2, eS_2, h⟩ := z_bd_some h
  refine g_putF (ci := 7) (k := 0) (ty := (.array (.object "LevelFits$Points"))) tyX7 hc hP hS rfl z_inX7 tyX7_ok nmX7 (by decide) wF_X7_11 rfl hin rfl (by decide +kernel) rfl rfl eS_2 dX7_init_10 (fun H locs hP hS => ?_)
  refine lv_aload_n hx hb dX7_init_13 rfl (lv_at hl 0 rfl) ?_
  refine lv_bipush (v := 10) hx hb dX7_init_14 (by decide) ?_
  obtain ⟨S_3, eS_3, h⟩ := z_lt_some h
  refine g_newQ (t := 1) (N' := 10) hc hP hS rfl wK_X7_15 wA_Fit (by decide) (by decide) (by decide) (Nat.le_of_ble_eq_true rfl) (Nat.le_of_ble_eq_true rfl) eS_3 dX7_init_16 (fun H hP hS => ?_)
  show W p l e (z_rmA 3 112 40 392) s m args below meth c H locs (2) (16) Q (F0 m 19 ls [.ref S_2.2, .ref o])
  obtain ⟨S_4, eS_4, h⟩ := z_bd_some h
  refine g_putF (ci := 7) (k := 1) (ty := (.array (.object "LevelFits$Fit"))) tyX7 hc hP hS rfl z_inX7 tyX7_ok nmX7 (by decide) wF_X7_17 rfl hin rfl (by decide +kernel) rfl rfl eS_4 dX7_init_19 (fun H locs hP hS => ?_)
  refine lv_aload_n hx hb dX7_init_22 rfl (lv_at hl 0 rfl) ?_
  refine lv_iconst (v := 4) hx hb dX7_init_23 (by decide) ?_
  obtain ⟨S_5, eS_5, h⟩ := z_lt_some h
  refine g_newQ (t := 2) (N' := 4) hc hP hS rfl wK_X7_21 wA_Sheet (by decide) (by decide) (by decide) (Nat.le_of_ble_eq_true rfl) (Nat.le_of_ble_eq_true rfl) eS_5 dX7_init_24 (fun H hP hS => ?_)
  show W p l e (z_rmA 3 112 40 392) s m args below meth c H locs (3) (20) Q (F0 m 27 ls [.ref S_4.2, .ref o])
  obtain ⟨S_6, eS_6, h⟩ := z_bd_some h
  refine g_putF (ci := 7) (k := 2) (ty := (.array (.object "LevelFits$Sheet"))) tyX7 hc hP hS rfl z_inX7 tyX7_ok nmX7 (by decide) wF_X7_23 rfl hin rfl (by decide +kernel) rfl rfl eS_6 dX7_init_27 (fun H locs hP hS => ?_)
  refine lv_aload_n hx hb dX7_init_30 rfl (lv_at hl 0 rfl) ?_
  obtain ⟨S_7, eS_7, h⟩ := z_lt_some h
  refine g_new (ci := 2) tyX2 hc hP hS rfl z_inX2 tyX2_ok wK_X7_27 wN_X2 wZ_X2 gd_2 (Nat.le_of_ble_eq_true rfl) (Nat.le_of_ble_eq_true rfl) eS_7 dX7_init_31 (fun H hP hS => ?_)
  show W p l e (z_rmA 3 112 40 392) s m args below meth c H locs (4) (31) Q (F0 m 34 ls [.ref S_6.2, .ref o])
  refine lv_dup hx hb dX7_init_34 rfl ?_
  obtain ⟨S_8, e_35, h⟩ := z_bd_some h
  refine g_callIN (As := []) (rv := none) (n := 0) hc hP hS (mt_X2_init l D cs A S_7 S_6.2  e_35) wH_X7_29 wI_X2_init rfl wZ_X2 wC_X2_init md_X2_init ⟨rfl, rfl, Nat.le_of_ble_eq_true rfl, Nat.le_of_ble_eq_true rfl⟩ rfl hl.1 rfl (Nat.le_of_ble_eq_true rfl) dX7_init_35 ⟨Nat.le_of_ble_eq_true rfl, Nat.le_of_ble_eq_true rfl⟩ (fun H locs hP hS => ?_)
  show W p l e (z_rmA 3 112 40 392) s m args below meth c H locs (12) (85) Q (F0 m 38 ls [.ref S_6.2, .ref o])
  obtain ⟨S_9, eS_9, h⟩ := z_bd_some h
  refine g_putF (ci := 7) (k := 3) (ty := (.object "LevelFits$Leveller")) tyX7 hc hP hS rfl z_inX7 tyX7_ok nmX7 (by decide) wF_X7_30 rfl hin rfl (by decide +kernel) rfl rfl eS_9 dX7_init_38 (fun H locs hP hS => ?_)
  refine lv_aload_n hx hb dX7_init_41 rfl (lv_at hl 0 rfl) ?_
  obtain ⟨S_10, eS_10, h⟩ := z_lt_some h
  refine g_new (ci := 6) tyX6 hc hP hS rfl z_inX6 tyX6_ok wK_X7_34 wN_X6 wZ_X6 gd_6 (Nat.le_of_ble_eq_true rfl) (Nat.le_of_ble_eq_true rfl) eS_10 dX7_init_42 (fun H hP hS => ?_)
  show W p l e (z_rmA 3 112 40 392) s m args below meth c H locs (13) (88) Q (F0 m 45 ls [.ref S_9.2, .ref o])
  refine lv_dup hx hb dX7_init_45 rfl ?_
  obtain ⟨S_11, e_46, h⟩ := z_bd_some h
  refine g_callIN (As := []) (rv := none) (n := 0) hc hP hS (mt_X6_init l D cs A S_10 S_9.2  e_46) wH_X7_36 wI_X6_init rfl wZ_X6 wC_X6_init md_X6_init ⟨rfl, rfl, Nat.le_of_ble_eq_true rfl, Nat.le_of_ble_eq_true rfl⟩ rfl hl.1 rfl (Nat.le_of_ble_eq_true rfl) dX7_init_46 ⟨Nat.le_of_ble_eq_true rfl, Nat.le_of_ble_eq_true rfl⟩ (fun H locs hP hS => ?_)
  show W p l e (z_rmA 3 112 40 392) s m args below meth c H locs (14) (100) Q (F0 m 49 ls [.ref S_9.2, .ref o])
  obtain ⟨S_12, eS_12, h⟩ := z_bd_some h
  refine g_putF (ci := 7) (k := 4) (ty := (.object "LevelFits$ShortSearch")) tyX7 hc hP hS rfl z_inX7 tyX7_ok nmX7 (by decide) wF_X7_37 rfl hin rfl (by decide +kernel) rfl rfl eS_12 dX7_init_49 (fun H locs hP hS => ?_)
  refine lv_aload_n hx hb dX7_init_52 rfl (lv_at hl 0 rfl) ?_
  obtain ⟨S_13, eS_13, h⟩ := z_lt_some h
  refine g_new (ci := 0) tyX0 hc hP hS rfl z_inX0 tyX0_ok wK_X7_41 wN_X0 wZ_X0 gd_0 (Nat.le_of_ble_eq_true rfl) (Nat.le_of_ble_eq_true rfl) eS_13 dX7_init_53 (fun H hP hS => ?_)
  show W p l e (z_rmA 3 112 40 392) s m args below meth c H locs (15) (102) Q (F0 m 56 ls [.ref S_12.2, .ref o])
  refine lv_dup hx hb dX7_init_56 rfl ?_
  obtain ⟨S_14, e_57, h⟩ := z_bd_some h
  refine g_callIN (As := []) (rv := none) (n := 0) hc hP hS (mt_X0_init l D cs A S_13 S_12.2  e_57) wH_X7_43 wI_X0_init rfl wZ_X0 wC_X0_init md_X0_init ⟨rfl, rfl, Nat.le_of_ble_eq_true rfl, Nat.le_of_ble_eq_true rfl⟩ rfl hl.1 rfl (Nat.le_of_ble_eq_true rfl) dX7_init_57 ⟨Nat.le_of_ble_eq_true rfl, Nat.le_of_ble_eq_true rfl⟩ (fun H locs hP hS => ?_)
  show W p l e (z_rmA 3 112 40 392) s m args below meth c H locs (16) (152) Q (F0 m 60 ls [.ref S_12.2, .ref o])
  obtain ⟨S_15, eS_15, h⟩ := z_bd_some h
  refine g_putF (ci := 7) (k := 5) (ty := (.object "LevelFits$Acts")) tyX7 hc hP hS rfl z_inX7 tyX7_ok nmX7 (by decide) wF_X7_44 rfl hin rfl (by decide +kernel) rfl rfl eS_15 dX7_init_60 (fun H locs hP hS => ?_)
  refine lv_aload_n hx hb dX7_init_63 rfl (lv_at hl 0 rfl) ?_
  refine lv_iconst (v := 0) hx hb dX7_init_64 (by decide) ?_
  obtain ⟨S_16, eS_16, h⟩ := z_bd_some h
  refine g_putf (ci := 7) (k := 6) (ty := .int) tyX7 hc hP hS rfl z_inX7 tyX7_ok nmX7 (by decide) wF_X7_48 rfl (by decide +kernel) rfl rfl eS_16 dX7_init_65 (fun H locs hP hS => ?_)
  refine lv_aload_n hx hb dX7_init_68 rfl (lv_at hl 0 rfl) ?_
  refine lv_iconst (v := 0) hx hb dX7_init_69 (by decide) ?_
  obtain ⟨S_17, eS_17, h⟩ := z_bd_some h
  refine g_putf (ci := 7) (k := 7) (ty := .int) tyX7 hc hP hS rfl z_inX7 tyX7_ok nmX7 (by decide) wF_X7_52 rfl (by decide +kernel) rfl rfl eS_17 dX7_init_70 (fun H locs hP hS => ?_)
  refine lv_iconst (v := 0) hx hb dX7_init_73 (by decide) ?_
  refine lv_istore_n (lv' := [(1, .int (0 : Int32)), (0, .ref o)]) hx hb dX7_init_74 rfl hl (by decide) rfl (fun ls hl => ?_)
  obtain ⟨S_20, hlp, h⟩ := z_bd_some h
  refine z_lp_ind (P := fun x => ∀ k_ : Nat, x.1 = nI k_ → k_ ≤ 6 → ∀ (H : Heap) (locs : List Loc) (ls : Array Slot), g_P D cs A x.2 H → va_S A s.heap H locs → lv_has ls 2 [(0, .ref o), (1, .int x.1)] → W p l e (z_rmA 3 112 40 392) s m args below meth c H locs (16 + k_ * 4) (152 + k_ * 40) Q (F0 m 75 ls [])) (Qe := fun y => ∀ (H : Heap) (locs : List Loc) (ls : Array Slot), g_P D cs A y H → va_S A s.heap H locs → lv_has ls 2 [] → W p l e (z_rmA 3 112 40 392) s m args below meth c H locs (40) (392) Q (F0 m 100 ls [])) ?_ hlp ?_ 0 nI_0.symm (Nat.zero_le _) H locs ls hP hS (lv_sub hl [1, 0] rfl)
  · clear h hlp hP hS hl
    rintro ⟨x1_18, S_19⟩ oo h K_75 k_ hcnt_ hkle_ H locs ls hP hS hl
    have hcnt_ : x1_18 = nI k_ := hcnt_
    have hP : g_P D cs A S_19 H := hP
    have hl : lv_has ls 2 [(0, .ref o), (1, .int x1_18)] := hl
    have h : f_X7_init_L75 o x1_18 S_19 = some oo := h
    unfold f_X7_init_L75 at h
    refine lv_iload_n hx hb dX7_init_75 rfl (lv_at hl 1 rfl) ?_
    refine lv_bipush (v := 6) hx hb dX7_init_76 (by decide) ?_
    refine lv_icmp_ge (tgt := 100) hx hb dX7_init_78 (by decide) (fun c_78 => ?_) (fun c_78 => ?_)
    · replace h := z_ip_ c_78 h
      cases h
      refine W.widen (k := 40) (n := 392) (by omega) (by omega) ?_
      exact K_75 H locs ls hP hS (lv_sub hl [] rfl)
    · replace h := z_in_ c_78 h
      have hk_ : k_ < 6 := z_cnt 6 (by decide) hcnt_ (by decide) hkle_ c_78
      refine lv_aload_n hx hb dX7_init_81 rfl (lv_at hl 0 rfl) ?_
      obtain ⟨f_21, ef_21, h⟩ := z_bd_some h
      refine g_get (ci := 7) (k := 0) (v := .ref f_21) hc hP rfl z_inX7 (by decide) wF_X7_11 (g_r_v ef_21) dX7_init_82 ?_
      refine lv_iload_n hx hb dX7_init_85 rfl (lv_at hl 1 rfl) ?_
      obtain ⟨S_22, eS_22, h⟩ := z_lt_some h
      refine g_new (ci := 3) tyX3 hc hP hS rfl z_inX3 tyX3_ok wK_X7_9 wN_X3 wZ_X3 gd_3 (by simp only [z_rmA]; omega) (by simp only [z_rmA]; omega) eS_22 dX7_init_86 (fun H hP hS => ?_)
      show W p l e (z_rmA 3 112 40 392) s m args below meth c H locs (16 + k_ * 4 + 1) (152 + k_ * 40 + 4) Q (F0 m 89 ls [.ref S_19.2, .int x1_18, .ref f_21])
      refine lv_dup hx hb dX7_init_89 rfl ?_
      obtain ⟨S_23, e_90, h⟩ := z_bd_some h
      refine g_callI (As := []) (rv := none) (n := 0) hc hP hS (mt_X3_init l D cs A S_22 S_19.2  e_90) wM_X7_55 wI_X3_init rfl wZ_X3 wC_X3_init md_X3_init ⟨rfl, rfl, Nat.le_of_ble_eq_true rfl, Nat.le_of_ble_eq_true rfl⟩ rfl hl.1 rfl (Nat.le_of_ble_eq_true rfl) dX7_init_90 ⟨by simp only [z_rmA]; omega, by simp only [z_rmA]; omega⟩ (fun H locs hP hS => ?_)
      show W p l e (z_rmA 3 112 40 392) s m args below meth c H locs (16 + k_ * 4 + 4) (152 + k_ * 40 + 40) Q (F0 m 93 ls [.ref S_19.2, .int x1_18, .ref f_21])
      obtain ⟨ho_93, h⟩ := z_chk_some h
      obtain ⟨vs_, ho_93⟩ := Option.isSome_iff_exists.mp ho_93
      obtain ⟨S_24, eS_24, h⟩ := z_bd_some h
      refine g_aast (t := 0) (ci := 3) hc hP hS rfl rfl ho_93 eS_24 dX7_init_93 (fun H locs hP hS => ?_)
      refine lv_iinc (v := (x1_18 + 1)) (lv' := [(1, .int (x1_18 + 1)), (0, .ref o)]) hx hb dX7_init_94 hl (k := 1) rfl rfl (by decide) rfl (fun ls hl => ?_)
      refine lv_goto (tgt := 75) hx hb dX7_init_97 (by decide) ?_
      cases h
      refine W.widen (k := 16 + (k_ + 1) * 4) (n := 152 + (k_ + 1) * 40) (by omega) (by omega) ?_
      exact K_75 (k_ + 1) (by rw [hcnt_]; exact nI_1 k_) hk_ H locs ls hP hS (lv_sub hl [1, 0] rfl)
  · clear hlp hP hS hl
    intro H locs ls hP hS hl
    have hP : g_P D cs A S_20 H := hP
    have hl : lv_has ls 2 [] := hl
    cases h
    rw [hQ]
    exact g_retv hc hr hlocks hP hS dX7_init_100
theorem md_X7_init : yX7_init.cls ≠ "java/lang/invoke/MethodHandle" ∧ yX7_init.cls ≠ "java/lang/invoke/VarHandle" ∧ (parseMethodDescriptor yX7_init.desc).map (fun d => d.parameters.length) = some 0 := by decide +kernel
