noncomputable def f_X2_spreadWithout_L23 (S : GS) (a0 : Int32) (a1 : Int32) (o : Nat) (x5_2 : Int32) (x3_4 : Int64) (x6_5 : Int32) : Option ((Int64) ⊕ (Int64 × Int32)) :=
  if a1 ≤ x6_5 then some (.inl (x3_4)) else if (4 : Int32) ≤ x6_5 then some (.inl (x3_4)) else if x5_2 = a0 then some (.inr (x3_4, (x6_5 + 1))) else if x6_5 = a0 then some (.inr (x3_4, (x6_5 + 1))) else z_bd (g_r S 2 0 o) fun f_7 => z_bd (g_r S 2 3 o) fun f_8 => z_bd (g_rI S f_8 x6_5) fun v_9 => z_bd (g_rJ S f_7 v_9) fun v_10 => z_bd (g_r S 2 0 o) fun f_11 => z_bd (g_r S 2 3 o) fun f_12 => z_bd (g_rI S f_12 x5_2) fun v_13 => z_bd (g_rJ S f_11 v_13) fun v_14 => some (.inr ((x3_4 * (v_10 - v_14)), (x6_5 + 1)))
noncomputable def f_X2_spreadWithout_L5 (S : GS) (a0 : Int32) (a1 : Int32) (o : Nat) (x3_1 : Int64) (x5_2 : Int32) : Option ((Int64) ⊕ (Int64 × Int32)) :=
  if a1 ≤ x5_2 then some (.inl (x3_1)) else if (4 : Int32) ≤ x5_2 then some (.inl (x3_1)) else z_bd (z_lp (fun x => f_X2_spreadWithout_L23 S a0 a1 o x5_2 x.1 x.2) (x3_1, (x5_2 + (1 : Int32)))) fun y3_6 => some (.inr (y3_6, (x5_2 + 1)))
noncomputable def f_X2_spreadWithout (S : GS) (o : Nat) (a0 : Int32) (a1 : Int32) : Option (Int64) :=
  z_bd (z_lp (fun x => f_X2_spreadWithout_L5 S a0 a1 o x.1 x.2) ((1 : Int64), (0 : Int32))) fun y3_3 => some y3_3
set_option maxHeartbeats 4000000 in
set_option maxRecDepth 100000 in
theorem mt_X2_spreadWithout (l : Launch) (D : va_G) (cs : Nat → ClassId) (A : Nat → Prop) (S : GS) (o : Nat) (a0 : Int32) (a1 : Int32) {r_ : Int64} (h : f_X2_spreadWithout S o a0 a1 = some r_) : Met l yX2_spreadWithout (z_wd yX2_spreadWithout cX2_spreadWithout 7 (some .long)) (z_rmA 0 0 0 0) (va_Pc [.ref o, .int a0, .int a1] (g_C D cs A S)) (g_Q (some (.long r_)) S D cs A) 0 0 A := by
  refine Met.ofW (cc := cX2_spreadWithout) (maxL := 7) (ret := (some .long)) (by decide) rfl ?_
  intro p e s m args below meth c s₁ B hml hv
  obtain ⟨hav, hP0, hK, hN, hSt, hAn⟩ := hv
  have hx := B.exec
  have hb := B.bytes
  have hr := B.returns
  have hts := atoms_spec (ws := z_wd yX2_spreadWithout cX2_spreadWithout 7 (some .long)) B.pre
  have hown : s.vm.findClass RX2 = some m.cls := findClass_of_methodNamed B.named
  have hlocks := B.notSynchronized
  have hc : g_X p s m args c cX2_spreadWithout 7 RX2 D cs A := ⟨⟨hx, hb, hml, fun w hw => hts w (List.mem_cons_of_mem _ hw), hown⟩, hK, hN, hSt, hAn⟩
  have hl := lv_entry ([.ref o, .int a0, .int a1]) (n := 7) (Nat.le_of_ble_eq_true rfl)
  have hE : entryFrame m args 7 = F0 m 0 ((lg_sl ([.ref o, .int a0, .int a1]) ++ List.replicate (7 - (lg_sl ([.ref o, .int a0, .int a1])).length) Slot.unset).toArray) [] := by rw [hav]; exact lg_entry_eq m _ _
  rw [hE]
  clear hE hav
  generalize (lg_sl ([.ref o, .int a0, .int a1]) ++ List.replicate (7 - (lg_sl ([.ref o, .int a0, .int a1])).length) Slot.unset).toArray = ls at hl ⊢
  have hl : lv_has ls 7 [(0, .ref o), (1, .int a0), (2, .int a1)] := hl
  obtain ⟨Q, hQ⟩ : ∃ Q, Q = MQ below (g_Q (some (.long r_)) S D cs A) args s 0 0 A := ⟨_, rfl⟩
  rw [← hQ]
  suffices hmain : ∀ (H : Heap) (locs : List Loc), g_P D cs A S H → va_S A s.heap H locs → W p l e (z_rmA 0 0 0 0) s m args below meth c H locs 0 0 Q (F0 m 0 ls []) from hmain s.heap [] hP0 va_S.rf
  clear hP0
  intro H locs hP hS
  unfold f_X2_spreadWithout at h
  refine lv_lconst (v := 1) hx hb dX2_spreadWithout_0 (by decide) ?_
  refine lv_lstore_n (lv' := [(3, .long (1 : Int64)), (0, .ref o), (1, .int a0), (2, .int a1)]) hx hb dX2_spreadWithout_1 rfl hl (by decide) rfl (fun ls hl => ?_)
  refine lv_iconst (v := 0) hx hb dX2_spreadWithout_2 (by decide) ?_
  refine lv_istore (lv' := [(5, .int (0 : Int32)), (3, .long (1 : Int64)), (0, .ref o), (1, .int a0), (2, .int a1)]) hx hb dX2_spreadWithout_3 hl (by decide) rfl (fun ls hl => ?_)
  obtain ⟨y3_3, hlp, h⟩ := z_bd_some h
  refine z_lp_ind (P := fun x => ∀ (H : Heap) (locs : List Loc) (ls : Array Slot), g_P D cs A S H → va_S A s.heap H locs → lv_has ls 7 [(0, .ref o), (1, .int a0), (2, .int a1), (3, .long x.1), (5, .int x.2)] → W p l e (z_rmA 0 0 0 0) s m args below meth c H locs (0) (0) Q (F0 m 5 ls [])) (Qe := fun y => ∀ (H : Heap) (locs : List Loc) (ls : Array Slot), g_P D cs A S H → va_S A s.heap H locs → lv_has ls 7 [(3, .long y)] → W p l e (z_rmA 0 0 0 0) s m args below meth c H locs (0) (0) Q (F0 m 87 ls [])) ?_ hlp ?_ H locs ls hP hS (lv_sub hl [2, 3, 4, 1, 0] rfl)
  · clear h hlp hP hS hl
    rintro ⟨x3_1, x5_2⟩ oo h K_5 H locs ls hP hS hl
    have hP : g_P D cs A S H := hP
    have hl : lv_has ls 7 [(0, .ref o), (1, .int a0), (2, .int a1), (3, .long x3_1), (5, .int x5_2)] := hl
    have h : f_X2_spreadWithout_L5 S a0 a1 o x3_1 x5_2 = some oo := h
    unfold f_X2_spreadWithout_L5 at h
    refine lv_iload hx hb dX2_spreadWithout_5 (lv_at hl 4 rfl) ?_
    refine lv_iload_n hx hb dX2_spreadWithout_7 rfl (lv_at hl 2 rfl) ?_
    refine lv_icmp_ge (tgt := 87) hx hb dX2_spreadWithout_8 (by decide) (fun c_8 => ?_) (fun c_8 => ?_)
    · replace h := z_ip_ c_8 h
      cases h
      exact K_5 H locs ls hP hS (lv_sub hl [3] rfl)
    · replace h := z_in_ c_8 h
      refine lv_iload hx hb dX2_spreadWithout_11 (lv_at hl 4 rfl) ?_
      refine lv_iconst (v := 4) hx hb dX2_spreadWithout_13 (by decide) ?_
      refine lv_icmp_ge (tgt := 87) hx hb dX2_spreadWithout_14 (by decide) (fun c_14 => ?_) (fun c_14 => ?_)
      · replace h := z_ip_ c_14 h
        cases h
        exact K_5 H locs ls hP hS (lv_sub hl [3] rfl)
      · replace h := z_in_ c_14 h
        refine lv_iload hx hb dX2_spreadWithout_17 (lv_at hl 4 rfl) ?_
        refine lv_iconst (v := 1) hx hb dX2_spreadWithout_19 (by decide) ?_
        refine lv_iadd hx hb dX2_spreadWithout_20 ?_
        refine lv_istore (lv' := [(6, .int (x5_2 + (1 : Int32))), (0, .ref o), (1, .int a0), (2, .int a1), (3, .long x3_1), (5, .int x5_2)]) hx hb dX2_spreadWithout_21 hl (by decide) rfl (fun ls hl => ?_)
        obtain ⟨y3_6, hlp, h⟩ := z_bd_some h
        refine z_lp_ind (P := fun x => ∀ (H : Heap) (locs : List Loc) (ls : Array Slot), g_P D cs A S H → va_S A s.heap H locs → lv_has ls 7 [(0, .ref o), (1, .int a0), (2, .int a1), (3, .long x.1), (5, .int x5_2), (6, .int x.2)] → W p l e (z_rmA 0 0 0 0) s m args below meth c H locs (0) (0) Q (F0 m 23 ls [])) (Qe := fun y => ∀ (H : Heap) (locs : List Loc) (ls : Array Slot), g_P D cs A S H → va_S A s.heap H locs → lv_has ls 7 [(0, .ref o), (1, .int a0), (2, .int a1), (3, .long y), (5, .int x5_2)] → W p l e (z_rmA 0 0 0 0) s m args below meth c H locs (0) (0) Q (F0 m 81 ls [])) ?_ hlp ?_ H locs ls hP hS (lv_sub hl [1, 2, 3, 4, 5, 0] rfl)
        · clear h hlp hP hS hl
          rintro ⟨x3_4, x6_5⟩ oo h K_23 H locs ls hP hS hl
          have hP : g_P D cs A S H := hP
          have hl : lv_has ls 7 [(0, .ref o), (1, .int a0), (2, .int a1), (3, .long x3_4), (5, .int x5_2), (6, .int x6_5)] := hl
          have h : f_X2_spreadWithout_L23 S a0 a1 o x5_2 x3_4 x6_5 = some oo := h
          unfold f_X2_spreadWithout_L23 at h
          refine lv_iload hx hb dX2_spreadWithout_23 (lv_at hl 5 rfl) ?_
          refine lv_iload_n hx hb dX2_spreadWithout_25 rfl (lv_at hl 2 rfl) ?_
          refine lv_icmp_ge (tgt := 81) hx hb dX2_spreadWithout_26 (by decide) (fun c_26 => ?_) (fun c_26 => ?_)
          · replace h := z_ip_ c_26 h
            cases h
            exact K_23 H locs ls hP hS (lv_sub hl [0, 1, 2, 3, 4] rfl)
          · replace h := z_in_ c_26 h
            refine lv_iload hx hb dX2_spreadWithout_29 (lv_at hl 5 rfl) ?_
            refine lv_iconst (v := 4) hx hb dX2_spreadWithout_31 (by decide) ?_
            refine lv_icmp_ge (tgt := 81) hx hb dX2_spreadWithout_32 (by decide) (fun c_32 => ?_) (fun c_32 => ?_)
            · replace h := z_ip_ c_32 h
              cases h
              exact K_23 H locs ls hP hS (lv_sub hl [0, 1, 2, 3, 4] rfl)
            · replace h := z_in_ c_32 h
              refine lv_iload hx hb dX2_spreadWithout_35 (lv_at hl 4 rfl) ?_
              refine lv_iload_n hx hb dX2_spreadWithout_37 rfl (lv_at hl 1 rfl) ?_
              refine lv_icmp_eq (tgt := 75) hx hb dX2_spreadWithout_38 (by decide) (fun c_38 => ?_) (fun c_38 => ?_)
              · replace h := z_ip_ c_38 h
                refine lv_iinc (v := (x6_5 + 1)) (lv' := [(6, .int (x6_5 + 1)), (0, .ref o), (1, .int a0), (2, .int a1), (3, .long x3_4), (5, .int x5_2)]) hx hb dX2_spreadWithout_75 hl (k := 5) rfl rfl (by decide) rfl (fun ls hl => ?_)
                refine lv_goto (tgt := 23) hx hb dX2_spreadWithout_78 (by decide) ?_
                cases h
                exact K_23 H locs ls hP hS (lv_sub hl [1, 2, 3, 4, 5, 0] rfl)
              · replace h := z_in_ c_38 h
                refine lv_iload hx hb dX2_spreadWithout_41 (lv_at hl 5 rfl) ?_
                refine lv_iload_n hx hb dX2_spreadWithout_43 rfl (lv_at hl 1 rfl) ?_
                refine lv_icmp_eq (tgt := 75) hx hb dX2_spreadWithout_44 (by decide) (fun c_44 => ?_) (fun c_44 => ?_)
                · replace h := z_ip_ c_44 h
                  refine lv_iinc (v := (x6_5 + 1)) (lv' := [(6, .int (x6_5 + 1)), (0, .ref o), (1, .int a0), (2, .int a1), (3, .long x3_4), (5, .int x5_2)]) hx hb dX2_spreadWithout_75 hl (k := 5) rfl rfl (by decide) rfl (fun ls hl => ?_)
                  refine lv_goto (tgt := 23) hx hb dX2_spreadWithout_78 (by decide) ?_
                  cases h
                  exact K_23 H locs ls hP hS (lv_sub hl [1, 2, 3, 4, 5, 0] rfl)
                · replace h := z_in_ c_44 h
                  refine lv_lload_n hx hb dX2_spreadWithout_47 rfl (lv_at hl 3 rfl) ?_
                  refine lv_aload_n hx hb dX2_spreadWithout_48 rfl (lv_at hl 0 rfl) ?_
                  obtain ⟨f_7, ef_7, h⟩ := z_bd_some h
                  refine g_get (ci := 2) (k := 0) (v := .ref f_7) hc hP rfl z_inX2 (by decide) wF_X2_9 (g_r_v ef_7) dX2_spreadWithout_49 ?_
                  refine lv_aload_n hx hb dX2_spreadWithout_52 rfl (lv_at hl 0 rfl) ?_
                  obtain ⟨f_8, ef_8, h⟩ := z_bd_some h
                  refine g_get (ci := 2) (k := 3) (v := .ref f_8) hc hP rfl z_inX2 (by decide) wF_X2_21 (g_r_v ef_8) dX2_spreadWithout_53 ?_
                  refine lv_iload hx hb dX2_spreadWithout_56 (lv_at hl 5 rfl) ?_
                  obtain ⟨v_9, ev_9, h⟩ := z_bd_some h
                  refine g_iald hc hP ev_9 dX2_spreadWithout_58 ?_
                  obtain ⟨v_10, ev_10, h⟩ := z_bd_some h
                  refine g_lald hc hP ev_10 dX2_spreadWithout_59 ?_
                  refine lv_aload_n hx hb dX2_spreadWithout_60 rfl (lv_at hl 0 rfl) ?_
                  obtain ⟨f_11, ef_11, h⟩ := z_bd_some h
                  refine g_get (ci := 2) (k := 0) (v := .ref f_11) hc hP rfl z_inX2 (by decide) wF_X2_9 (g_r_v ef_11) dX2_spreadWithout_61 ?_
                  refine lv_aload_n hx hb dX2_spreadWithout_64 rfl (lv_at hl 0 rfl) ?_
                  obtain ⟨f_12, ef_12, h⟩ := z_bd_some h
                  refine g_get (ci := 2) (k := 3) (v := .ref f_12) hc hP rfl z_inX2 (by decide) wF_X2_21 (g_r_v ef_12) dX2_spreadWithout_65 ?_
                  refine lv_iload hx hb dX2_spreadWithout_68 (lv_at hl 4 rfl) ?_
                  obtain ⟨v_13, ev_13, h⟩ := z_bd_some h
                  refine g_iald hc hP ev_13 dX2_spreadWithout_70 ?_
                  obtain ⟨v_14, ev_14, h⟩ := z_bd_some h
                  refine g_lald hc hP ev_14 dX2_spreadWithout_71 ?_
                  refine lv_lsub hx hb dX2_spreadWithout_72 ?_
                  refine lv_lmul hx hb dX2_spreadWithout_73 ?_
                  refine lv_lstore_n (lv' := [(3, .long (x3_4 * (v_10 - v_14))), (0, .ref o), (1, .int a0), (2, .int a1), (5, .int x5_2), (6, .int x6_5)]) hx hb dX2_spreadWithout_74 rfl hl (by decide) rfl (fun ls hl => ?_)
                  refine lv_iinc (v := (x6_5 + 1)) (lv' := [(6, .int (x6_5 + 1)), (3, .long (x3_4 * (v_10 - v_14))), (0, .ref o), (1, .int a0), (2, .int a1), (5, .int x5_2)]) hx hb dX2_spreadWithout_75 hl (k := 5) rfl rfl (by decide) rfl (fun ls hl => ?_)
                  refine lv_goto (tgt := 23) hx hb dX2_spreadWithout_78 (by decide) ?_
                  cases h
                  exact K_23 H locs ls hP hS (lv_sub hl [2, 3, 4, 1, 5, 0] rfl)
        · clear hlp hP hS hl
          intro H locs ls hP hS hl
          have hP : g_P D cs A S H := hP
          have hl : lv_has ls 7 [(0, .ref o), (1, .int a0), (2, .int a1), (3, .long y3_6), (5, .int x5_2)] := hl
          refine lv_iinc (v := (x5_2 + 1)) (lv' := [(5, .int (x5_2 + 1)), (0, .ref o), (1, .int a0), (2, .int a1), (3, .long y3_6)]) hx hb dX2_spreadWithout_81 hl (k := 4) rfl rfl (by decide) rfl (fun ls hl => ?_)
          refine lv_goto (tgt := 5) hx hb dX2_spreadWithout_84 (by decide) ?_
          cases h
          exact K_5 H locs ls hP hS (lv_sub hl [1, 2, 3, 4, 0] rfl)
  · clear hlp hP hS hl
    intro H locs ls hP hS hl
    have hP : g_P D cs A S H := hP
    have hl : lv_has ls 7 [(3, .long y3_3)] := hl
    refine lv_lload_n hx hb dX2_spreadWithout_87 rfl (lv_at hl 0 rfl) ?_
    cases h
    rw [hQ]
    exact g_retl hc hr hlocks hP hS dX2_spreadWithout_88
theorem md_X2_spreadWithout : yX2_spreadWithout.cls ≠ "java/lang/invoke/MethodHandle" ∧ yX2_spreadWithout.cls ≠ "java/lang/invoke/VarHandle" ∧ (parseMethodDescriptor yX2_spreadWithout.desc).map (fun d => d.parameters.length) = some 2 := by decide +kernel
noncomputable def f_X2_sign (a0 : Int32) : Option (Int32) :=
  if (a0 - a0 / (2 : Int32) * (2 : Int32)) = 0 then some (1 : Int32) else some (-1 : Int32)
set_option maxHeartbeats 4000000 in
set_option maxRecDepth 100000 in
theorem mt_X2_sign (l : Launch) (a0 : Int32) {r_ : Int32} (h : f_X2_sign a0 = some r_) : Met l yX2_sign (z_wd yX2_sign cX2_sign 1 (some .int)) (z_rm 0 0) (va_Pc [.int a0] (fun _ => True)) (vp_Si (fun r1 : Int32 => r1 = r_)) 0 0 (fun _ => False) := by
  refine Met.ofW (cc := cX2_sign) (maxL := 1) (ret := (some .int)) (by decide) rfl ?_
  intro p e s m args below meth c s₁ B hml hv
  obtain ⟨hav, -⟩ := hv
  have hx := B.exec
  have hb := B.bytes
  have hr := B.returns
  have hts := atoms_spec (ws := z_wd yX2_sign cX2_sign 1 (some .int)) B.pre
  have hown : s.vm.findClass RX2 = some m.cls := findClass_of_methodNamed B.named
  have hlocks := B.notSynchronized
  have hc : s_X p s m args c cX2_sign 1 RX2 := ⟨hx, hb, hml, fun w hw => hts w (List.mem_cons_of_mem _ hw), hown⟩
  have hl := lv_entry ([.int a0]) (n := 1) (Nat.le_of_ble_eq_true rfl)
  have hE : entryFrame m args 1 = F0 m 0 ((lg_sl ([.int a0]) ++ List.replicate (1 - (lg_sl ([.int a0])).length) Slot.unset).toArray) [] := by rw [hav]; exact lg_entry_eq m _ _
  rw [hE]
  clear hE hav
  generalize (lg_sl ([.int a0]) ++ List.replicate (1 - (lg_sl ([.int a0])).length) Slot.unset).toArray = ls at hl ⊢
  have hl : lv_has ls 1 [(0, .int a0)] := hl
  obtain ⟨Q, hQ⟩ : ∃ Q, Q = MQ below (vp_Si (fun r1 : Int32 => r1 = r_)) args s 0 0 (fun _ => False) := ⟨_, rfl⟩
  rw [← hQ]
  show W p l e (z_rm 0 0) s m args below meth c s.heap [] 0 0 Q (F0 m 0 ls [])
  unfold f_X2_sign at h
  refine lv_iload_n hx hb dX2_sign_0 rfl (lv_at hl 0 rfl) ?_
  refine lv_iconst (v := 2) hx hb dX2_sign_1 (by decide) ?_
  refine lv_irem hx hb dX2_sign_2 (by decide) ?_
  refine lv_if_ne (tgt := 10) hx hb dX2_sign_3 (by decide) (fun c_3 => ?_) (fun c_3 => ?_)
  · replace h := z_in_ c_3 h
    refine lv_iconst (v := -1) hx hb dX2_sign_10 (by decide) ?_
    cases h
    rw [hQ]
    exact s_reti hc hr hlocks dX2_sign_11
  · replace h := z_ip_ c_3 h
    refine lv_iconst (v := 1) hx hb dX2_sign_6 (by decide) ?_
    refine lv_goto (tgt := 11) hx hb dX2_sign_7 (by decide) ?_
    cases h
    rw [hQ]
    exact s_reti hc hr hlocks dX2_sign_11
theorem md_X2_sign : yX2_sign.cls ≠ "java/lang/invoke/MethodHandle" ∧ yX2_sign.cls ≠ "java/lang/invoke/VarHandle" ∧ (parseMethodDescriptor yX2_sign.desc).map (fun d => d.parameters.length) = some 1 := by decide +kernel
noncomputable def f_X2_weightShare (S : GS) (o : Nat) (a0 : Int32) : Option (Int64) :=
  z_bd (g_r S 2 2 o) fun f_1 => z_bd (g_rJ S f_1 a0) fun v_2 => if (lg_cmp v_2 (0 : Int64)) ≤ 0 then some (12 : Int64) else z_bd (g_r S 2 2 o) fun f_3 => z_bd (g_rJ S f_3 a0) fun v_4 => z_chk (¬ v_4 = 0) (some ((12 : Int64) / v_4))
set_option maxHeartbeats 4000000 in
set_option maxRecDepth 100000 in
theorem mt_X2_weightShare (l : Launch) (D : va_G) (cs : Nat → ClassId) (A : Nat → Prop) (S : GS) (o : Nat) (a0 : Int32) {r_ : Int64} (h : f_X2_weightShare S o a0 = some r_) : Met l yX2_weightShare (z_wd yX2_weightShare cX2_weightShare 2 (some .long)) (z_rmA 0 0 0 0) (va_Pc [.ref o, .int a0] (g_C D cs A S)) (g_Q (some (.long r_)) S D cs A) 0 0 A := by
  refine Met.ofW (cc := cX2_weightShare) (maxL := 2) (ret := (some .long)) (by decide) rfl ?_
  intro p e s m args below meth c s₁ B hml hv
  obtain ⟨hav, hP0, hK, hN, hSt, hAn⟩ := hv
  have hx := B.exec
  have hb := B.bytes
  have hr := B.returns
  have hts := atoms_spec (ws := z_wd yX2_weightShare cX2_weightShare 2 (some .long)) B.pre
  have hown : s.vm.findClass RX2 = some m.cls := findClass_of_methodNamed B.named
  have hlocks := B.notSynchronized
  have hc : g_X p s m args c cX2_weightShare 2 RX2 D cs A := ⟨⟨hx, hb, hml, fun w hw => hts w (List.mem_cons_of_mem _ hw), hown⟩, hK, hN, hSt, hAn⟩
  have hl := lv_entry ([.ref o, .int a0]) (n := 2) (Nat.le_of_ble_eq_true rfl)
  have hE : entryFrame m args 2 = F0 m 0 ((lg_sl ([.ref o, .int a0]) ++ List.replicate (2 - (lg_sl ([.ref o, .int a0])).length) Slot.unset).toArray) [] := by rw [hav]; exact lg_entry_eq m _ _
  rw [hE]
  clear hE hav
  generalize (lg_sl ([.ref o, .int a0]) ++ List.replicate (2 - (lg_sl ([.ref o, .int a0])).length) Slot.unset).toArray = ls at hl ⊢
  have hl : lv_has ls 2 [(0, .ref o), (1, .int a0)] := hl
  obtain ⟨Q, hQ⟩ : ∃ Q, Q = MQ below (g_Q (some (.long r_)) S D cs A) args s 0 0 A := ⟨_, rfl⟩
  rw [← hQ]
  suffices hmain : ∀ (H : Heap) (locs : List Loc), g_P D cs A S H → va_S A s.heap H locs → W p l e (z_rmA 0 0 0 0) s m args below meth c H locs 0 0 Q (F0 m 0 ls []) from hmain s.heap [] hP0 va_S.rf
  clear hP0
  intro H locs hP hS
  unfold f_X2_weightShare at h
  refine lv_aload_n hx hb dX2_weightShare_0 rfl (lv_at hl 0 rfl) ?_
  obtain ⟨f_1, ef_1, h⟩ := z_bd_some h
  refine g_get (ci := 2) (k := 2) (v := .ref f_1) hc hP rfl z_inX2 (by decide) wF_X2_18 (g_r_v ef_1) dX2_weightShare_1 ?_
  refine lv_iload_n hx hb dX2_weightShare_4 rfl (lv_at hl 1 rfl) ?_
  obtain ⟨v_2, ev_2, h⟩ := z_bd_some h
  refine g_lald hc hP ev_2 dX2_weightShare_5 ?_
  refine lv_lconst (v := 0) hx hb dX2_weightShare_6 (by decide) ?_
  refine W.lcmp hx hb dX2_weightShare_7 ?_
  refine lv_if_le (tgt := 24) hx hb dX2_weightShare_8 (by decide) (fun c_8 => ?_) (fun c_8 => ?_)
  · replace h := z_ip_ c_8 h
    refine lv_ldc2 (v := 12) hx hb hc.1.2.2.2.2 (hc.1.2.2.2.1 _ wL_X2_159) dX2_weightShare_24 ?_
    cases h
    rw [hQ]
    exact g_retl hc hr hlocks hP hS dX2_weightShare_27
  · replace h := z_in_ c_8 h
    refine lv_ldc2 (v := 12) hx hb hc.1.2.2.2.2 (hc.1.2.2.2.1 _ wL_X2_159) dX2_weightShare_11 ?_
    refine lv_aload_n hx hb dX2_weightShare_14 rfl (lv_at hl 0 rfl) ?_
    obtain ⟨f_3, ef_3, h⟩ := z_bd_some h
    refine g_get (ci := 2) (k := 2) (v := .ref f_3) hc hP rfl z_inX2 (by decide) wF_X2_18 (g_r_v ef_3) dX2_weightShare_15 ?_
    refine lv_iload_n hx hb dX2_weightShare_18 rfl (lv_at hl 1 rfl) ?_
    obtain ⟨v_4, ev_4, h⟩ := z_bd_some h
    refine g_lald hc hP ev_4 dX2_weightShare_19 ?_
    obtain ⟨c_20, h⟩ := z_chk_some h
    refine lv_ldiv hx hb dX2_weightShare_20 c_20 ?_
    refine lv_goto (tgt := 27) hx hb dX2_weightShare_21 (by decide) ?_
    cases h
    rw [hQ]
    exact g_retl hc hr hlocks hP hS dX2_weightShare_27
theorem md_X2_weightShare : yX2_weightShare.cls ≠ "java/lang/invoke/MethodHandle" ∧ yX2_weightShare.cls ≠ "java/lang/invoke/VarHandle" ∧ (parseMethodDescriptor yX2_weightShare.desc).map (fun d => d.parameters.length) = some 1 := by decide +kernel
noncomputable def f_X2_makeBasis_L23 (a0 : Int32) (a1 : Int32) (o : Nat) (x3_7 : Int32) (S_8 : GS) : Option ((GS) ⊕ (Int32 × GS)) :=
  if a1 ≤ x3_7 then some (.inl (S_8)) else if (4 : Int32) ≤ x3_7 then some (.inl (S_8)) else if x3_7 = a0 then some (.inr ((x3_7 + 1), S_8)) else z_bd (g_r S_8 2 0 o) fun f_10 => z_bd (g_r S_8 2 3 o) fun f_11 => z_bd (g_rI S_8 f_11 x3_7) fun v_12 => z_bd (g_rJ S_8 f_10 v_12) fun v_13 => z_bd (g_r S_8 2 5 o) fun f_14 => z_bd (g_r S_8 2 5 o) fun f_15 => z_bd (g_rJ S_8 f_15 (1 : Int32)) fun v_16 => z_bd (g_r S_8 2 5 o) fun f_17 => z_bd (g_rJ S_8 f_17 (2 : Int32)) fun v_18 => z_bd (g_wJ S_8 f_14 (2 : Int32) (v_16 - (v_13 * v_18))) fun S_19 => z_bd (g_r S_19 2 5 o) fun f_20 => z_bd (g_r S_19 2 5 o) fun f_21 => z_bd (g_rJ S_19 f_21 (0 : Int32)) fun v_22 => z_bd (g_r S_19 2 5 o) fun f_23 => z_bd (g_rJ S_19 f_23 (1 : Int32)) fun v_24 => z_bd (g_wJ S_19 f_20 (1 : Int32) (v_22 - (v_13 * v_24))) fun S_25 => z_bd (g_r S_25 2 5 o) fun f_26 => z_bd (g_r S_25 2 5 o) fun f_27 => z_bd (g_rJ S_25 f_27 (0 : Int32)) fun v_28 => z_bd (g_wJ S_25 f_26 (0 : Int32) ((-v_13) * v_28)) fun S_29 => some (.inr ((x3_7 + 1), S_29))
noncomputable def f_X2_makeBasis (S : GS) (o : Nat) (a0 : Int32) (a1 : Int32) : Option (GS) :=
  z_bd (g_r S 2 5 o) fun f_1 => z_bd (g_wJ S f_1 (0 : Int32) (1 : Int64)) fun S_2 => z_bd (g_r S_2 2 5 o) fun f_3 => z_bd (g_wJ S_2 f_3 (1 : Int32) (0 : Int64)) fun S_4 => z_bd (g_r S_4 2 5 o) fun f_5 => z_bd (g_wJ S_4 f_5 (2 : Int32) (0 : Int64)) fun S_6 => z_bd (z_lp (fun x => f_X2_makeBasis_L23 a0 a1 o x.1 x.2) ((0 : Int32), S_6)) fun S_9 => some S_9
set_option maxHeartbeats 4000000 in
set_option maxRecDepth 100000 in
theorem mt_X2_makeBasis (l : Launch) (D : va_G) (cs : Nat → ClassId) (A : Nat → Prop) (S : GS) (o : Nat) (a0 : Int32) (a1 : Int32) {N_ : GS} (h : f_X2_makeBasis S o a0 a1 = some N_) : Met l yX2_makeBasis (z_wd yX2_makeBasis cX2_makeBasis 6 none) (z_rmA 0 0 0 0) (va_Pc [.ref o, .int a0, .int a1] (g_C D cs A S)) (g_Q none N_ D cs A) 0 0 A := by
  refine Met.ofW (cc := cX2_makeBasis) (maxL := 6) (ret := none) (by decide) rfl ?_
  intro p e s m args below meth c s₁ B hml hv
  obtain ⟨hav, hP0, hK, hN, hSt, hAn⟩ := hv
  have hx := B.exec
  have hb := B.bytes
  have hr := B.returns
  have hts := atoms_spec (ws := z_wd yX2_makeBasis cX2_makeBasis 6 none) B.pre
  have hown : s.vm.findClass RX2 = some m.cls := findClass_of_methodNamed B.named
  have hlocks := B.notSynchronized
  have hc : g_X p s m args c cX2_makeBasis 6 RX2 D cs A := ⟨⟨hx, hb, hml, fun w hw => hts w (List.mem_cons_of_mem _ hw), hown⟩, hK, hN, hSt, hAn⟩
  have hl := lv_entry ([.ref o, .int a0, .int a1]) (n := 6) (Nat.le_of_ble_eq_true rfl)
  have hE : entryFrame m args 6 = F0 m 0 ((lg_sl ([.ref o, .int a0, .int a1]) ++ List.replicate (6 - (lg_sl ([.ref o, .int a0, .int a1])).length) Slot.unset).toArray) [] := by rw [hav]; exact lg_entry_eq m _ _
  rw [hE]
  clear hE hav
  generalize (lg_sl ([.ref o, .int a0, .int a1]) ++ List.replicate (6 - (lg_sl ([.ref o, .int a0, .int a1])).length) Slot.unset).toArray = ls at hl ⊢
  have hl : lv_has ls 6 [(0, .ref o), (1, .int a0), (2, .int a1)] := hl
  obtain ⟨Q, hQ⟩ : ∃ Q, Q = MQ below (g_Q none N_ D cs A) args s 0 0 A := ⟨_, rfl⟩
  rw [← hQ]
  suffices hmain : ∀ (H : Heap) (locs : List Loc), g_P D cs A S H → va_S A s.heap H locs → W p l e (z_rmA 0 0 0 0) s m args below meth c H locs 0 0 Q (F0 m 0 ls []) from hmain s.heap [] hP0 va_S.rf
  clear hP0
  intro H locs hP hS
  unfold f_X2_makeBasis at h
  refine lv_aload_n hx hb dX2_makeBasis_0 rfl (lv_at hl 0 rfl) ?_
  obtain ⟨f_1, ef_1, h⟩ := z_bd_some h
  refine g_get (ci := 2) (k := 5) (v := .ref f_1) hc hP rfl z_inX2 (by decide) wF_X2_28 (g_r_v ef_1) dX2_makeBasis_1 ?_
  refine lv_iconst (v := 0) hx hb dX2_makeBasis_4 (by decide) ?_
  refine lv_lconst (v := 1) hx hb dX2_makeBasis_5 (by decide) ?_
  obtain ⟨S_2, eS_2, h⟩ := z_bd_some h
  refine g_last hc hP hS eS_2 dX2_makeBasis_6 (fun H locs hP hS => ?_)
  refine lv_aload_n hx hb dX2_makeBasis_7 rfl (lv_at hl 0 rfl) ?_
  obtain ⟨f_3, ef_3, h⟩ := z_bd_some h
  refine g_get (ci := 2) (k := 5) (v := .ref f_3) hc hP rfl z_inX2 (by decide) wF_X2_28 (g_r_v ef_3) dX2_makeBasis_8 ?_
  refine lv_iconst (v := 1) hx hb dX2_makeBasis_11 (by decide) ?_
  refine lv_lconst (v := 0) hx hb dX2_makeBasis_12 (by decide) ?_
  obtain ⟨S_4, eS_4, h⟩ := z_bd_some h
  refine g_last hc hP hS eS_4 dX2_makeBasis_13 (fun H locs hP hS => ?_)
  refine lv_aload_n hx hb dX2_makeBasis_14 rfl (lv_at hl 0 rfl) ?_
  obtain ⟨f_5, ef_5, h⟩ := z_bd_some h
  refine g_get (ci := 2) (k := 5) (v := .ref f_5) hc hP rfl z_inX2 (by decide) wF_X2_28 (g_r_v ef_5) dX2_makeBasis_15 ?_
  refine lv_iconst (v := 2) hx hb dX2_makeBasis_18 (by decide) ?_
  refine lv_lconst (v := 0) hx hb dX2_makeBasis_19 (by decide) ?_
  obtain ⟨S_6, eS_6, h⟩ := z_bd_some h
  refine g_last hc hP hS eS_6 dX2_makeBasis_20 (fun H locs hP hS => ?_)
  refine lv_iconst (v := 0) hx hb dX2_makeBasis_21 (by decide) ?_
  refine lv_istore_n (lv' := [(3, .int (0 : Int32)), (0, .ref o), (1, .int a0), (2, .int a1)]) hx hb dX2_makeBasis_22 rfl hl (by decide) rfl (fun ls hl => ?_)
  obtain ⟨S_9, hlp, h⟩ := z_bd_some h
  refine z_lp_ind (P := fun x => ∀ (H : Heap) (locs : List Loc) (ls : Array Slot), g_P D cs A x.2 H → va_S A s.heap H locs → lv_has ls 6 [(0, .ref o), (1, .int a0), (2, .int a1), (3, .int x.1)] → W p l e (z_rmA 0 0 0 0) s m args below meth c H locs (0) (0) Q (F0 m 23 ls [])) (Qe := fun y => ∀ (H : Heap) (locs : List Loc) (ls : Array Slot), g_P D cs A y H → va_S A s.heap H locs → lv_has ls 6 [] → W p l e (z_rmA 0 0 0 0) s m args below meth c H locs (0) (0) Q (F0 m 117 ls [])) ?_ hlp ?_ H locs ls hP hS (lv_sub hl [1, 2, 3, 0] rfl)
  · clear h hlp hP hS hl
    rintro ⟨x3_7, S_8⟩ oo h K_23 H locs ls hP hS hl
    have hP : g_P D cs A S_8 H := hP
    have hl : lv_has ls 6 [(0, .ref o), (1, .int a0), (2, .int a1), (3, .int x3_7)] := hl
    have h : f_X2_makeBasis_L23 a0 a1 o x3_7 S_8 = some oo := h
    unfold f_X2_makeBasis_L23 at h
    refine lv_iload_n hx hb dX2_makeBasis_23 rfl (lv_at hl 3 rfl) ?_
    refine lv_iload_n hx hb dX2_makeBasis_24 rfl (lv_at hl 2 rfl) ?_
    refine lv_icmp_ge (tgt := 117) hx hb dX2_makeBasis_25 (by decide) (fun c_25 => ?_) (fun c_25 => ?_)
    · replace h := z_ip_ c_25 h
      cases h
      exact K_23 H locs ls hP hS (lv_sub hl [] rfl)
    · replace h := z_in_ c_25 h
      refine lv_iload_n hx hb dX2_makeBasis_28 rfl (lv_at hl 3 rfl) ?_
      refine lv_iconst (v := 4) hx hb dX2_makeBasis_29 (by decide) ?_
      refine lv_icmp_ge (tgt := 117) hx hb dX2_makeBasis_30 (by decide) (fun c_30 => ?_) (fun c_30 => ?_)
      · replace h := z_ip_ c_30 h
        cases h
        exact K_23 H locs ls hP hS (lv_sub hl [] rfl)
      · replace h := z_in_ c_30 h
        refine lv_iload_n hx hb dX2_makeBasis_33 rfl (lv_at hl 3 rfl) ?_
        refine lv_iload_n hx hb dX2_makeBasis_34 rfl (lv_at hl 1 rfl) ?_
        refine lv_icmp_eq (tgt := 111) hx hb dX2_makeBasis_35 (by decide) (fun c_35 => ?_) (fun c_35 => ?_)
        · replace h := z_ip_ c_35 h
          refine lv_iinc (v := (x3_7 + 1)) (lv' := [(3, .int (x3_7 + 1)), (0, .ref o), (1, .int a0), (2, .int a1)]) hx hb dX2_makeBasis_111 hl (k := 3) rfl rfl (by decide) rfl (fun ls hl => ?_)
          refine lv_goto (tgt := 23) hx hb dX2_makeBasis_114 (by decide) ?_
          cases h
          exact K_23 H locs ls hP hS (lv_sub hl [1, 2, 3, 0] rfl)
        · replace h := z_in_ c_35 h
          refine lv_aload_n hx hb dX2_makeBasis_38 rfl (lv_at hl 0 rfl) ?_
          obtain ⟨f_10, ef_10, h⟩ := z_bd_some h
          refine g_get (ci := 2) (k := 0) (v := .ref f_10) hc hP rfl z_inX2 (by decide) wF_X2_9 (g_r_v ef_10) dX2_makeBasis_39 ?_
          refine lv_aload_n hx hb dX2_makeBasis_42 rfl (lv_at hl 0 rfl) ?_
          obtain ⟨f_11, ef_11, h⟩ := z_bd_some h
          refine g_get (ci := 2) (k := 3) (v := .ref f_11) hc hP rfl z_inX2 (by decide) wF_X2_21 (g_r_v ef_11) dX2_makeBasis_43 ?_
          refine lv_iload_n hx hb dX2_makeBasis_46 rfl (lv_at hl 3 rfl) ?_
          obtain ⟨v_12, ev_12, h⟩ := z_bd_some h
          refine g_iald hc hP ev_12 dX2_makeBasis_47 ?_
          obtain ⟨v_13, ev_13, h⟩ := z_bd_some h
          refine g_lald hc hP ev_13 dX2_makeBasis_48 ?_
          refine lv_lstore (lv' := [(4, .long v_13), (0, .ref o), (1, .int a0), (2, .int a1), (3, .int x3_7)]) hx hb dX2_makeBasis_49 hl (by decide) rfl (fun ls hl => ?_)
          refine lv_aload_n hx hb dX2_makeBasis_51 rfl (lv_at hl 1 rfl) ?_
          obtain ⟨f_14, ef_14, h⟩ := z_bd_some h
          refine g_get (ci := 2) (k := 5) (v := .ref f_14) hc hP rfl z_inX2 (by decide) wF_X2_28 (g_r_v ef_14) dX2_makeBasis_52 ?_
          refine lv_iconst (v := 2) hx hb dX2_makeBasis_55 (by decide) ?_
          refine lv_aload_n hx hb dX2_makeBasis_56 rfl (lv_at hl 1 rfl) ?_
          obtain ⟨f_15, ef_15, h⟩ := z_bd_some h
          refine g_get (ci := 2) (k := 5) (v := .ref f_15) hc hP rfl z_inX2 (by decide) wF_X2_28 (g_r_v ef_15) dX2_makeBasis_57 ?_
          refine lv_iconst (v := 1) hx hb dX2_makeBasis_60 (by decide) ?_
          obtain ⟨v_16, ev_16, h⟩ := z_bd_some h
          refine g_lald hc hP ev_16 dX2_makeBasis_61 ?_
          refine lv_lload hx hb dX2_makeBasis_62 (lv_at hl 0 rfl) ?_
          refine lv_aload_n hx hb dX2_makeBasis_64 rfl (lv_at hl 1 rfl) ?_
          obtain ⟨f_17, ef_17, h⟩ := z_bd_some h
          refine g_get (ci := 2) (k := 5) (v := .ref f_17) hc hP rfl z_inX2 (by decide) wF_X2_28 (g_r_v ef_17) dX2_makeBasis_65 ?_
          refine lv_iconst (v := 2) hx hb dX2_makeBasis_68 (by decide) ?_
          obtain ⟨v_18, ev_18, h⟩ := z_bd_some h
          refine g_lald hc hP ev_18 dX2_makeBasis_69 ?_
          refine lv_lmul hx hb dX2_makeBasis_70 ?_
          refine lv_lsub hx hb dX2_makeBasis_71 ?_
          obtain ⟨S_19, eS_19, h⟩ := z_bd_some h
          refine g_last hc hP hS eS_19 dX2_makeBasis_72 (fun H locs hP hS => ?_)
          refine lv_aload_n hx hb dX2_makeBasis_73 rfl (lv_at hl 1 rfl) ?_
          obtain ⟨f_20, ef_20, h⟩ := z_bd_some h
          refine g_get (ci := 2) (k := 5) (v := .ref f_20) hc hP rfl z_inX2 (by decide) wF_X2_28 (g_r_v ef_20) dX2_makeBasis_74 ?_
          refine lv_iconst (v := 1) hx hb dX2_makeBasis_77 (by decide) ?_
          refine lv_aload_n hx hb dX2_makeBasis_78 rfl (lv_at hl 1 rfl) ?_
          obtain ⟨f_21, ef_21, h⟩ := z_bd_some h
          refine g_get (ci := 2) (k := 5) (v := .ref f_21) hc hP rfl z_inX2 (by decide) wF_X2_28 (g_r_v ef_21) dX2_makeBasis_79 ?_
          refine lv_iconst (v := 0) hx hb dX2_makeBasis_82 (by decide) ?_
          obtain ⟨v_22, ev_22, h⟩ := z_bd_some h
          refine g_lald hc hP ev_22 dX2_makeBasis_83 ?_
          refine lv_lload hx hb dX2_makeBasis_84 (lv_at hl 0 rfl) ?_
          refine lv_aload_n hx hb dX2_makeBasis_86 rfl (lv_at hl 1 rfl) ?_
          obtain ⟨f_23, ef_23, h⟩ := z_bd_some h
          refine g_get (ci := 2) (k := 5) (v := .ref f_23) hc hP rfl z_inX2 (by decide) wF_X2_28 (g_r_v ef_23) dX2_makeBasis_87 ?_
          refine lv_iconst (v := 1) hx hb dX2_makeBasis_90 (by decide) ?_
          obtain ⟨v_24, ev_24, h⟩ := z_bd_some h
          refine g_lald hc hP ev_24 dX2_makeBasis_91 ?_
          refine lv_lmul hx hb dX2_makeBasis_92 ?_
          refine lv_lsub hx hb dX2_makeBasis_93 ?_
          obtain ⟨S_25, eS_25, h⟩ := z_bd_some h
          refine g_last hc hP hS eS_25 dX2_makeBasis_94 (fun H locs hP hS => ?_)
          refine lv_aload_n hx hb dX2_makeBasis_95 rfl (lv_at hl 1 rfl) ?_
          obtain ⟨f_26, ef_26, h⟩ := z_bd_some h
          refine g_get (ci := 2) (k := 5) (v := .ref f_26) hc hP rfl z_inX2 (by decide) wF_X2_28 (g_r_v ef_26) dX2_makeBasis_96 ?_
          refine lv_iconst (v := 0) hx hb dX2_makeBasis_99 (by decide) ?_
          refine lv_lload hx hb dX2_makeBasis_100 (lv_at hl 0 rfl) ?_
          refine lv_lneg hx hb dX2_makeBasis_102 ?_
          refine lv_aload_n hx hb dX2_makeBasis_103 rfl (lv_at hl 1 rfl) ?_
          obtain ⟨f_27, ef_27, h⟩ := z_bd_some h
          refine g_get (ci := 2) (k := 5) (v := .ref f_27) hc hP rfl z_inX2 (by decide) wF_X2_28 (g_r_v ef_27) dX2_makeBasis_104 ?_
          refine lv_iconst (v := 0) hx hb dX2_makeBasis_107 (by decide) ?_
          obtain ⟨v_28, ev_28, h⟩ := z_bd_some h
          refine g_lald hc hP ev_28 dX2_makeBasis_108 ?_
          refine lv_lmul hx hb dX2_makeBasis_109 ?_
          obtain ⟨S_29, eS_29, h⟩ := z_bd_some h
          refine g_last hc hP hS eS_29 dX2_makeBasis_110 (fun H locs hP hS => ?_)
          refine lv_iinc (v := (x3_7 + 1)) (lv' := [(3, .int (x3_7 + 1)), (4, .long v_13), (0, .ref o), (1, .int a0), (2, .int a1)]) hx hb dX2_makeBasis_111 hl (k := 4) rfl rfl (by decide) rfl (fun ls hl => ?_)
          refine lv_goto (tgt := 23) hx hb dX2_makeBasis_114 (by decide) ?_
          cases h
          exact K_23 H locs ls hP hS (lv_sub hl [2, 3, 4, 0] rfl)
  · clear hlp hP hS hl
    intro H locs ls hP hS hl
    have hP : g_P D cs A S_9 H := hP
    have hl : lv_has ls 6 [] := hl
    cases h
    rw [hQ]
    exact g_retv hc hr hlocks hP hS dX2_makeBasis_117
theorem md_X2_makeBasis : yX2_makeBasis.cls ≠ "java/lang/invoke/MethodHandle" ∧ yX2_makeBasis.cls ≠ "java/lang/invoke/VarHandle" ∧ (parseMethodDescriptor yX2_makeBasis.desc).map (fun d => d.parameters.length) = some 2 := by decide +kernel
noncomputable def f_X7_commonDivisor_L31  (x4_3 : Int64) (x6_4 : Int64) (x8_5 : Int32) : Option ((Int64) ⊕ (Int64 × Int64 × Int32)) :=
  if (200 : Int32) ≤ x8_5 then some (.inl (x4_3)) else if (lg_cmp x6_4 (0 : Int64)) = 0 then some (.inl (x4_3)) else z_chk (¬ x6_4 = 0) (some (.inr (x6_4, (x4_3 - x4_3 / x6_4 * x6_4), (x8_5 + 1))))
noncomputable def f_X7_commonDivisor (a0 : Int64) (a1 : Int64) : Option (Int64) :=
  z_bd (if 0 ≤ (lg_cmp a0 (0 : Int64)) then some (a0) else some ((-a0))) fun v_1 => z_bd (if 0 ≤ (lg_cmp a1 (0 : Int64)) then some (a1) else some ((-a1))) fun v_2 => z_bd (z_lp (fun x => f_X7_commonDivisor_L31  x.1 x.2.1 x.2.2) (v_1, v_2, (0 : Int32))) fun y4_6 => some y4_6
set_option maxHeartbeats 4000000 in
set_option maxRecDepth 100000 in
theorem mt_X7_commonDivisor (l : Launch) (a0 : Int64) (a1 : Int64) {r_ : Int64} (h : f_X7_commonDivisor a0 a1 = some r_) : Met l yX7_commonDivisor (z_wd yX7_commonDivisor cX7_commonDivisor 11 (some .long)) (z_rm 0 0) (va_Pc [.long a0, .long a1] (fun _ => True)) (vp_Sl (fun r1 : Int64 => r1 = r_)) 0 0 (fun _ => False) := by
  refine Met.ofW (cc := cX7_commonDivisor) (maxL := 11) (ret := (some .long)) (by decide) rfl ?_
  intro p e s m args below meth c s₁ B hml hv
  obtain ⟨hav, -⟩ := hv
  have hx := B.exec
  have hb := B.bytes
  have hr := B.returns
  have hts := atoms_spec (ws := z_wd yX7_commonDivisor cX7_commonDivisor 11 (some .long)) B.pre
  have hown : s.vm.findClass RX7 = some m.cls := findClass_of_methodNamed B.named
  have hlocks := B.notSynchronized
  have hc : s_X p s m args c cX7_commonDivisor 11 RX7 := ⟨hx, hb, hml, fun w hw => hts w (List.mem_cons_of_mem _ hw), hown⟩
  have hl := lv_entry ([.long a0, .long a1]) (n := 11) (Nat.le_of_ble_eq_true rfl)
  have hE : entryFrame m args 11 = F0 m 0 ((lg_sl ([.long a0, .long a1]) ++ List.replicate (11 - (lg_sl ([.long a0, .long a1])).length) Slot.unset).toArray) [] := by rw [hav]; exact lg_entry_eq m _ _
  rw [hE]
  clear hE hav
  generalize (lg_sl ([.long a0, .long a1]) ++ List.replicate (11 - (lg_sl ([.long a0, .long a1])).length) Slot.unset).toArray = ls at hl ⊢
  have hl : lv_has ls 11 [(0, .long a0), (2, .long a1)] := hl
  obtain ⟨Q, hQ⟩ : ∃ Q, Q = MQ below (vp_Sl (fun r1 : Int64 => r1 = r_)) args s 0 0 (fun _ => False) := ⟨_, rfl⟩
  rw [← hQ]
  show W p l e (z_rm 0 0) s m args below meth c s.heap [] 0 0 Q (F0 m 0 ls [])
  unfold f_X7_commonDivisor at h
  refine lv_lload_n hx hb dX7_commonDivisor_0 rfl (lv_at hl 0 rfl) ?_
  refine lv_lconst (v := 0) hx hb dX7_commonDivisor_1 (by decide) ?_
  refine W.lcmp hx hb dX7_commonDivisor_2 ?_
  obtain ⟨v_1, hJ, h⟩ := z_bd_some h
  have J_12 : ∀ (ls : Array Slot), lv_has ls 11 [(2, .long a1)] → W p l e (z_rm 0 0) s m args below meth c s.heap [] 0 0 Q (F0 m 12 ls [.long v_1]) := by
    intro ls hl
    refine lv_lstore (lv' := [(4, .long v_1), (2, .long a1)]) hx hb dX7_commonDivisor_12 hl (by decide) rfl (fun ls hl => ?_)
    refine lv_lload_n hx hb dX7_commonDivisor_14 rfl (lv_at hl 1 rfl) ?_
    refine lv_lconst (v := 0) hx hb dX7_commonDivisor_15 (by decide) ?_
    refine W.lcmp hx hb dX7_commonDivisor_16 ?_
    obtain ⟨v_2, hJ, h⟩ := z_bd_some h
    have J_26 : ∀ (ls : Array Slot), lv_has ls 11 [(4, .long v_1)] → W p l e (z_rm 0 0) s m args below meth c s.heap [] 0 0 Q (F0 m 26 ls [.long v_2]) := by
      intro ls hl
      refine lv_lstore (lv' := [(6, .long v_2), (4, .long v_1)]) hx hb dX7_commonDivisor_26 hl (by decide) rfl (fun ls hl => ?_)
      refine lv_iconst (v := 0) hx hb dX7_commonDivisor_28 (by decide) ?_
      refine lv_istore (lv' := [(8, .int (0 : Int32)), (6, .long v_2), (4, .long v_1)]) hx hb dX7_commonDivisor_29 hl (by decide) rfl (fun ls hl => ?_)
      obtain ⟨y4_6, hlp, h⟩ := z_bd_some h
      refine z_lp_ind (P := fun x => ∀ (ls : Array Slot), lv_has ls 11 [(4, .long x.1), (6, .long x.2.1), (8, .int x.2.2)] → W p l e (z_rm 0 0) s m args below meth c s.heap [] 0 0 Q (F0 m 31 ls [])) (Qe := fun y => ∀ (ls : Array Slot), lv_has ls 11 [(4, .long y)] → W p l e (z_rm 0 0) s m args below meth c s.heap [] 0 0 Q (F0 m 67 ls [])) ?_ hlp ?_ ls (lv_sub hl [2, 1, 0] rfl)
      · clear h hlp hl
        rintro ⟨x4_3, x6_4, x8_5⟩ oo h K_31 ls hl
        have hl : lv_has ls 11 [(4, .long x4_3), (6, .long x6_4), (8, .int x8_5)] := hl
        have h : f_X7_commonDivisor_L31  x4_3 x6_4 x8_5 = some oo := h
        unfold f_X7_commonDivisor_L31 at h
        refine lv_iload hx hb dX7_commonDivisor_31 (lv_at hl 2 rfl) ?_
        refine lv_sipush (v := 200) hx hb dX7_commonDivisor_33 (by decide) ?_
        refine lv_icmp_ge (tgt := 67) hx hb dX7_commonDivisor_36 (by decide) (fun c_36 => ?_) (fun c_36 => ?_)
        · replace h := z_ip_ c_36 h
          cases h
          exact K_31 ls (lv_sub hl [0] rfl)
        · replace h := z_in_ c_36 h
          refine lv_lload hx hb dX7_commonDivisor_39 (lv_at hl 1 rfl) ?_
          refine lv_lconst (v := 0) hx hb dX7_commonDivisor_41 (by decide) ?_
          refine W.lcmp hx hb dX7_commonDivisor_42 ?_
          refine lv_if_eq (tgt := 67) hx hb dX7_commonDivisor_43 (by decide) (fun c_43 => ?_) (fun c_43 => ?_)
          · replace h := z_ip_ c_43 h
            cases h
            exact K_31 ls (lv_sub hl [0] rfl)
          · replace h := z_in_ c_43 h
            refine lv_lload hx hb dX7_commonDivisor_46 (lv_at hl 0 rfl) ?_
            refine lv_lload hx hb dX7_commonDivisor_48 (lv_at hl 1 rfl) ?_
            obtain ⟨c_50, h⟩ := z_chk_some h
            refine lv_lrem hx hb dX7_commonDivisor_50 c_50 ?_
            refine lv_lstore (lv' := [(9, .long (x4_3 - x4_3 / x6_4 * x6_4)), (4, .long x4_3), (6, .long x6_4), (8, .int x8_5)]) hx hb dX7_commonDivisor_51 hl (by decide) rfl (fun ls hl => ?_)
            refine lv_lload hx hb dX7_commonDivisor_53 (lv_at hl 2 rfl) ?_
            refine lv_lstore (lv' := [(4, .long x6_4), (9, .long (x4_3 - x4_3 / x6_4 * x6_4)), (6, .long x6_4), (8, .int x8_5)]) hx hb dX7_commonDivisor_55 hl (by decide) rfl (fun ls hl => ?_)
            refine lv_lload hx hb dX7_commonDivisor_57 (lv_at hl 1 rfl) ?_
            refine lv_lstore (lv' := [(6, .long (x4_3 - x4_3 / x6_4 * x6_4)), (4, .long x6_4), (9, .long (x4_3 - x4_3 / x6_4 * x6_4)), (8, .int x8_5)]) hx hb dX7_commonDivisor_59 hl (by decide) rfl (fun ls hl => ?_)
            refine lv_iinc (v := (x8_5 + 1)) (lv' := [(8, .int (x8_5 + 1)), (6, .long (x4_3 - x4_3 / x6_4 * x6_4)), (4, .long x6_4), (9, .long (x4_3 - x4_3 / x6_4 * x6_4))]) hx hb dX7_commonDivisor_61 hl (k := 3) rfl rfl (by decide) rfl (fun ls hl => ?_)
            refine lv_goto (tgt := 31) hx hb dX7_commonDivisor_64 (by decide) ?_
            cases h
            exact K_31 ls (lv_sub hl [2, 1, 0] rfl)
      · clear hlp hl
        intro ls hl
        have hl : lv_has ls 11 [(4, .long y4_6)] := hl
        refine lv_lload hx hb dX7_commonDivisor_67 (lv_at hl 0 rfl) ?_
        cases h
        rw [hQ]
        exact s_retl hc hr hlocks dX7_commonDivisor_69
    clear h
    have h := hJ
    clear hJ
    refine lv_if_ge (tgt := 25) hx hb dX7_commonDivisor_17 (by decide) (fun c_17 => ?_) (fun c_17 => ?_)
    · replace h := z_ip_ c_17 h
      refine lv_lload_n hx hb dX7_commonDivisor_25 rfl (lv_at hl 1 rfl) ?_
      cases h
      exact J_26 ls (lv_sub hl [0] rfl)
    · replace h := z_in_ c_17 h
      refine lv_lload_n hx hb dX7_commonDivisor_20 rfl (lv_at hl 1 rfl) ?_
      refine lv_lneg hx hb dX7_commonDivisor_21 ?_
      refine lv_goto (tgt := 26) hx hb dX7_commonDivisor_22 (by decide) ?_
      cases h
      exact J_26 ls (lv_sub hl [0] rfl)
  clear h
  have h := hJ
  clear hJ
  refine lv_if_ge (tgt := 11) hx hb dX7_commonDivisor_3 (by decide) (fun c_3 => ?_) (fun c_3 => ?_)
  · replace h := z_ip_ c_3 h
    refine lv_lload_n hx hb dX7_commonDivisor_11 rfl (lv_at hl 0 rfl) ?_
    cases h
    exact J_12 ls (lv_sub hl [1] rfl)
  · replace h := z_in_ c_3 h
    refine lv_lload_n hx hb dX7_commonDivisor_6 rfl (lv_at hl 0 rfl) ?_
    refine lv_lneg hx hb dX7_commonDivisor_7 ?_
    refine lv_goto (tgt := 12) hx hb dX7_commonDivisor_8 (by decide) ?_
    cases h
    exact J_12 ls (lv_sub hl [1] rfl)
theorem md_X7_commonDivisor : yX7_commonDivisor.cls ≠ "java/lang/invoke/MethodHandle" ∧ yX7_commonDivisor.cls ≠ "java/lang/invoke/VarHandle" ∧ (parseMethodDescriptor yX7_commonDivisor.desc).map (fun d => d.parameters.length) = some 2 := by decide +kernel
noncomputable def f_X4_become (S : GS) (o : Nat) (a0 : Int64) (a1 : Int64) (a2 : Int64) (a3 : Int64) : Option (GS) :=
  z_bd (g_put S 4 0 o (.long a0)) fun S_1 => z_bd (g_put S_1 4 1 o (.long a1)) fun S_2 => z_bd (g_put S_2 4 2 o (.long a2)) fun S_3 => z_bd (g_put S_3 4 3 o (.long a3)) fun S_4 => z_bd (g_l S_4 4 0 o) fun f_5 => z_bd (g_l S_4 4 1 o) fun f_6 => z_bd (f_X7_commonDivisor f_5 f_6) fun r_7 => z_bd (g_l S_4 4 2 o) fun f_8 => z_bd (g_l S_4 4 3 o) fun f_9 => z_bd (f_X7_commonDivisor f_8 f_9) fun r_10 => z_bd (f_X7_commonDivisor r_7 r_10) fun r_11 => if (lg_cmp r_11 (1 : Int64)) ≤ 0 then some S_4 else z_bd (g_l S_4 4 0 o) fun f_12 => z_chk (¬ r_11 = 0) (z_bd (g_put S_4 4 0 o (.long (f_12 / r_11))) fun S_13 => z_bd (g_l S_13 4 1 o) fun f_14 => z_chk (¬ r_11 = 0) (z_bd (g_put S_13 4 1 o (.long (f_14 / r_11))) fun S_15 => z_bd (g_l S_15 4 2 o) fun f_16 => z_chk (¬ r_11 = 0) (z_bd (g_put S_15 4 2 o (.long (f_16 / r_11))) fun S_17 => z_bd (g_l S_17 4 3 o) fun f_18 => z_chk (¬ r_11 = 0) (z_bd (g_put S_17 4 3 o (.long (f_18 / r_11))) fun S_19 => some S_19))))
set_option maxHeartbeats 4000000 in
set_option maxRecDepth 100000 in
theorem mt_X4_become (l : Launch) (D : va_G) (cs : Nat → ClassId) (A : Nat → Prop) (S : GS) (o : Nat) (a0 : Int64) (a1 : Int64) (a2 : Int64) (a3 : Int64) {N_ : GS} (h : f_X4_become S o a0 a1 a2 a3 = some N_) : Met l yX4_become (z_wd yX4_become cX4_become 11 none) (z_rmA 1 46 0 0) (va_Pc [.ref o, .long a0, .long a1, .long a2, .long a3] (g_C D cs A S)) (g_Q none N_ D cs A) 0 0 A := by
  refine Met.ofW (cc := cX4_become) (maxL := 11) (ret := none) (by decide) rfl ?_
  intro p e s m args below meth c s₁ B hml hv
  obtain ⟨hav, hP0, hK, hN, hSt, hAn⟩ := hv
  have hx := B.exec
  have hb := B.bytes
  have hr := B.returns
  have hts := atoms_spec (ws := z_wd yX4_become cX4_become 11 none) B.pre
  have hown : s.vm.findClass RX4 = some m.cls := findClass_of_methodNamed B.named
  have hlocks := B.notSynchronized
  have hc : g_X p s m args c cX4_become 11 RX4 D cs A := ⟨⟨hx, hb, hml, fun w hw => hts w (List.mem_cons_of_mem _ hw), hown⟩, hK, hN, hSt, hAn⟩
  have hl := lv_entry ([.ref o, .long a0, .long a1, .long a2, .long a3]) (n := 11) (Nat.le_of_ble_eq_true rfl)
  have hE : entryFrame m args 11 = F0 m 0 ((lg_sl ([.ref o, .long a0, .long a1, .long a2, .long a3]) ++ List.replicate (11 - (lg_sl ([.ref o, .long a0, .long a1, .long a2, .long a3])).length) Slot.unset).toArray) [] := by rw [hav]; exact lg_entry_eq m _ _
  rw [hE]
  clear hE hav
  generalize (lg_sl ([.ref o, .long a0, .long a1, .long a2, .long a3]) ++ List.replicate (11 - (lg_sl ([.ref o, .long a0, .long a1, .long a2, .long a3])).length) Slot.unset).toArray = ls at hl ⊢
  have hl : lv_has ls 11 [(0, .ref o), (1, .long a0), (3, .long a1), (5, .long a2), (7, .long a3)] := hl
  obtain ⟨Q, hQ⟩ : ∃ Q, Q = MQ below (g_Q none N_ D cs A) args s 0 0 A := ⟨_, rfl⟩
  rw [← hQ]
  suffices hmain : ∀ (H : Heap) (locs : List Loc), g_P D cs A S H → va_S A s.heap H locs → W p l e (z_rmA 1 46 0 0) s m args below meth c H locs 0 0 Q (F0 m 0 ls []) from hmain s.heap [] hP0 va_S.rf
  clear hP0
  intro H locs hP hS
  unfold f_X4_become at h
  refine lv_aload_n hx hb dX4_become_0 rfl (lv_at hl 0 rfl) ?_
  refine lv_lload_n hx hb dX4_become_1 rfl (lv_at hl 1 rfl) ?_
  obtain ⟨S_1, eS_1, h⟩ := z_bd_some h
  refine g_putf (ci := 4) (k := 0) (ty := .long) tyX4 hc hP hS rfl z_inX4 tyX4_ok nmX4 (by decide) wF_X4_7 rfl (by decide +kernel) rfl rfl eS_1 dX4_become_2 (fun H locs hP hS => ?_)
  refine lv_aload_n hx hb dX4_become_5 rfl (lv_at hl 0 rfl) ?_
  refine lv_lload_n hx hb dX4_become_6 rfl (lv_at hl 2 rfl) ?_
  obtain ⟨S_2, eS_2, h⟩ := z_bd_some h
  refine g_putf (ci := 4) (k := 1) (ty := .long) tyX4 hc hP hS rfl z_inX4 tyX4_ok nmX4 (by decide) wF_X4_13 rfl (by decide +kernel) rfl rfl eS_2 dX4_become_7 (fun H locs hP hS => ?_)
  refine lv_aload_n hx hb dX4_become_10 rfl (lv_at hl 0 rfl) ?_
  refine lv_lload hx hb dX4_become_11 (lv_at hl 3 rfl) ?_
  obtain ⟨S_3, eS_3, h⟩ := z_bd_some h
  refine g_putf (ci := 4) (k := 2) (ty := .long) tyX4 hc hP hS rfl z_inX4 tyX4_ok nmX4 (by decide) wF_X4_16 rfl (by decide +kernel) rfl rfl eS_3 dX4_become_13 (fun H locs hP hS => ?_)
  refine lv_aload_n hx hb dX4_become_16 rfl (lv_at hl 0 rfl) ?_
  refine lv_lload hx hb dX4_become_17 (lv_at hl 4 rfl) ?_
  obtain ⟨S_4, eS_4, h⟩ := z_bd_some h
  refine g_putf (ci := 4) (k := 3) (ty := .long) tyX4 hc hP hS rfl z_inX4 tyX4_ok nmX4 (by decide) wF_X4_19 rfl (by decide +kernel) rfl rfl eS_4 dX4_become_19 (fun H locs hP hS => ?_)
  refine lv_aload_n hx hb dX4_become_22 rfl (lv_at hl 0 rfl) ?_
  obtain ⟨f_5, ef_5, h⟩ := z_bd_some h
  refine g_get (ci := 4) (k := 0) (v := .long f_5) hc hP rfl z_inX4 (by decide) wF_X4_7 (g_l_v ef_5) dX4_become_23 ?_
  refine lv_aload_n hx hb dX4_become_26 rfl (lv_at hl 0 rfl) ?_
  obtain ⟨f_6, ef_6, h⟩ := z_bd_some h
  refine g_get (ci := 4) (k := 1) (v := .long f_6) hc hP rfl z_inX4 (by decide) wF_X4_13 (g_l_v ef_6) dX4_become_27 ?_
  obtain ⟨r_7, er_7, h⟩ := z_bd_some h
  refine g_callSNl (As := [.long f_5, .long f_6]) (r := r_7) (n := 2) hc (mt_X7_commonDivisor l f_5 f_6 er_7) wH_X4_22 wT_X7_commonDivisor wZ_X7 wC_X7_commonDivisor md_X7_commonDivisor ⟨rfl, rfl, Nat.le_of_ble_eq_true rfl, Nat.le_of_ble_eq_true rfl⟩ rfl hl.1 rfl (Nat.le_of_ble_eq_true rfl) dX4_become_30 ⟨Nat.le_of_ble_eq_true rfl, Nat.le_of_ble_eq_true rfl⟩ ?_
  refine lv_aload_n hx hb dX4_become_33 rfl (lv_at hl 0 rfl) ?_
  obtain ⟨f_8, ef_8, h⟩ := z_bd_some h
  refine g_get (ci := 4) (k := 2) (v := .long f_8) hc hP rfl z_inX4 (by decide) wF_X4_16 (g_l_v ef_8) dX4_become_34 ?_
  refine lv_aload_n hx hb dX4_become_37 rfl (lv_at hl 0 rfl) ?_
  obtain ⟨f_9, ef_9, h⟩ := z_bd_some h
  refine g_get (ci := 4) (k := 3) (v := .long f_9) hc hP rfl z_inX4 (by decide) wF_X4_19 (g_l_v ef_9) dX4_become_38 ?_
  obtain ⟨r_10, er_10, h⟩ := z_bd_some h
  refine g_callSNl (As := [.long f_8, .long f_9]) (r := r_10) (n := 2) hc (mt_X7_commonDivisor l f_8 f_9 er_10) wH_X4_22 wT_X7_commonDivisor wZ_X7 wC_X7_commonDivisor md_X7_commonDivisor ⟨rfl, rfl, Nat.le_of_ble_eq_true rfl, Nat.le_of_ble_eq_true rfl⟩ rfl hl.1 rfl (Nat.le_of_ble_eq_true rfl) dX4_become_41 ⟨Nat.le_of_ble_eq_true rfl, Nat.le_of_ble_eq_true rfl⟩ ?_
  obtain ⟨r_11, er_11, h⟩ := z_bd_some h
  refine g_callSNl (As := [.long r_7, .long r_10]) (r := r_11) (n := 2) hc (mt_X7_commonDivisor l r_7 r_10 er_11) wH_X4_22 wT_X7_commonDivisor wZ_X7 wC_X7_commonDivisor md_X7_commonDivisor ⟨rfl, rfl, Nat.le_of_ble_eq_true rfl, Nat.le_of_ble_eq_true rfl⟩ rfl hl.1 rfl (Nat.le_of_ble_eq_true rfl) dX4_become_44 ⟨Nat.le_of_ble_eq_true rfl, Nat.le_of_ble_eq_true rfl⟩ ?_
  refine lv_lstore (lv' := [(9, .long r_11), (0, .ref o), (1, .long a0), (3, .long a1), (5, .long a2), (7, .long a3)]) hx hb dX4_become_47 hl (by decide) rfl (fun ls hl => ?_)
  refine lv_lload hx hb dX4_become_49 (lv_at hl 0 rfl) ?_
  refine lv_lconst (v := 1) hx hb dX4_become_51 (by decide) ?_
  refine W.lcmp hx hb dX4_become_52 ?_
  refine lv_if_le (tgt := 100) hx hb dX4_become_53 (by decide) (fun c_53 => ?_) (fun c_53 => ?_)
  · replace h := z_ip_ c_53 h
    cases h
    rw [hQ]
    exact g_retv hc hr hlocks hP hS dX4_become_100
  · replace h := z_in_ c_53 h
    refine lv_aload_n hx hb dX4_become_56 rfl (lv_at hl 1 rfl) ?_
    refine lv_dup hx hb dX4_become_57 rfl ?_
    obtain ⟨f_12, ef_12, h⟩ := z_bd_some h
    refine g_get (ci := 4) (k := 0) (v := .long f_12) hc hP rfl z_inX4 (by decide) wF_X4_7 (g_l_v ef_12) dX4_become_58 ?_
    refine lv_lload hx hb dX4_become_61 (lv_at hl 0 rfl) ?_
    obtain ⟨c_63, h⟩ := z_chk_some h
    refine lv_ldiv hx hb dX4_become_63 c_63 ?_
    obtain ⟨S_13, eS_13, h⟩ := z_bd_some h
    refine g_putf (ci := 4) (k := 0) (ty := .long) tyX4 hc hP hS rfl z_inX4 tyX4_ok nmX4 (by decide) wF_X4_7 rfl (by decide +kernel) rfl rfl eS_13 dX4_become_64 (fun H locs hP hS => ?_)
    refine lv_aload_n hx hb dX4_become_67 rfl (lv_at hl 1 rfl) ?_
    refine lv_dup hx hb dX4_become_68 rfl ?_
    obtain ⟨f_14, ef_14, h⟩ := z_bd_some h
    refine g_get (ci := 4) (k := 1) (v := .long f_14) hc hP rfl z_inX4 (by decide) wF_X4_13 (g_l_v ef_14) dX4_become_69 ?_
    refine lv_lload hx hb dX4_become_72 (lv_at hl 0 rfl) ?_
    obtain ⟨c_74, h⟩ := z_chk_some h
    refine lv_ldiv hx hb dX4_become_74 c_74 ?_
    obtain ⟨S_15, eS_15, h⟩ := z_bd_some h
    refine g_putf (ci := 4) (k := 1) (ty := .long) tyX4 hc hP hS rfl z_inX4 tyX4_ok nmX4 (by decide) wF_X4_13 rfl (by decide +kernel) rfl rfl eS_15 dX4_become_75 (fun H locs hP hS => ?_)
    refine lv_aload_n hx hb dX4_become_78 rfl (lv_at hl 1 rfl) ?_
    refine lv_dup hx hb dX4_become_79 rfl ?_
    obtain ⟨f_16, ef_16, h⟩ := z_bd_some h
    refine g_get (ci := 4) (k := 2) (v := .long f_16) hc hP rfl z_inX4 (by decide) wF_X4_16 (g_l_v ef_16) dX4_become_80 ?_
    refine lv_lload hx hb dX4_become_83 (lv_at hl 0 rfl) ?_
    obtain ⟨c_85, h⟩ := z_chk_some h
    refine lv_ldiv hx hb dX4_become_85 c_85 ?_
    obtain ⟨S_17, eS_17, h⟩ := z_bd_some h
    refine g_putf (ci := 4) (k := 2) (ty := .long) tyX4 hc hP hS rfl z_inX4 tyX4_ok nmX4 (by decide) wF_X4_16 rfl (by decide +kernel) rfl rfl eS_17 dX4_become_86 (fun H locs hP hS => ?_)
    refine lv_aload_n hx hb dX4_become_89 rfl (lv_at hl 1 rfl) ?_
    refine lv_dup hx hb dX4_become_90 rfl ?_
    obtain ⟨f_18, ef_18, h⟩ := z_bd_some h
    refine g_get (ci := 4) (k := 3) (v := .long f_18) hc hP rfl z_inX4 (by decide) wF_X4_19 (g_l_v ef_18) dX4_become_91 ?_
    refine lv_lload hx hb dX4_become_94 (lv_at hl 0 rfl) ?_
    obtain ⟨c_96, h⟩ := z_chk_some h
    refine lv_ldiv hx hb dX4_become_96 c_96 ?_
    obtain ⟨S_19, eS_19, h⟩ := z_bd_some h
    refine g_putf (ci := 4) (k := 3) (ty := .long) tyX4 hc hP hS rfl z_inX4 tyX4_ok nmX4 (by decide) wF_X4_19 rfl (by decide +kernel) rfl rfl eS_19 dX4_become_97 (fun H locs hP hS => ?_)
    cases h
    rw [hQ]
    exact g_retv hc hr hlocks hP hS dX4_become_100
theorem md_X4_become : yX4_become.cls ≠ "java/lang/invoke/MethodHandle" ∧ yX4_become.cls ≠ "java/lang/invoke/VarHandle" ∧ (parseMethodDescriptor yX4_become.desc).map (fun d => d.parameters.length) = some 4 := by decide +kernel
