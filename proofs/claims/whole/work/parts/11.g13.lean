noncomputable def f_X7_line (S : GS) (o : Nat) (a0 : Int32) (a1 : Int32) : Option ((Int32) × GS) :=
  z_chk (g_is S 7 o) (z_bd (f_X7_setAt S o a0) fun q_1 => z_mt q_1 (z_chk (g_is S 7 o) (z_bd2 (f_X7_refuse S o (1 : Int32)) fun r_4 S_3 => some (r_4, S_3))) fun a_2 => z_bd (f_X7_isWithin a1 (0 : Int32) (2 : Int32)) fun r_5 => if r_5 = 0 then z_chk (g_is S 7 o) (z_bd2 (f_X7_refuse S o (1 : Int32)) fun r_15 S_14 => some (r_15, S_14)) else z_bd (g_i S 7 6 o) fun f_6 => if f_6 < (10 : Int32) then z_chk (g_is S 7 o) (z_bd2 (f_X7_levelledFit S o (1 : Int32) a1 a_2) fun q_8 S_7 => z_bd q_8 fun a_9 => z_chk (g_is S_7 7 o) (z_bd2 (f_X7_keepFit S_7 o a_9) fun r_11 S_10 => some (r_11, S_10))) else z_chk (g_is S 7 o) (z_bd2 (f_X7_refuse S o (2 : Int32)) fun r_13 S_12 => some (r_13, S_12)))
set_option maxHeartbeats 4000000 in
set_option maxRecDepth 100000 in
theorem mt_X7_line (l : Launch) (D : va_G) (cs : Nat → ClassId) (A : Nat → Prop) (S : GS) (o : Nat) (a0 : Int32) (a1 : Int32) {r_ : Int32} {N_ : GS} (h : f_X7_line S o a0 a1 = some (r_, N_)) : Met l yX7_line (z_wd yX7_line cX7_line 4 (some .int)) (z_rmA 8 332 8 75) (va_Pc [.ref o, .int a0, .int a1] (g_C D cs A S)) (g_Q (some (.int r_)) N_ D cs A) 8 75 A := by
  refine Met.ofW (cc := cX7_line) (maxL := 4) (ret := (some .int)) (by decide) rfl ?_
  intro p e s m args below meth c s₁ B hml hv
  obtain ⟨hav, hP0, hK, hN, hSt, hAn⟩ := hv
  have hx := B.exec
  have hb := B.bytes
  have hr := B.returns
  have hts := atoms_spec (ws := z_wd yX7_line cX7_line 4 (some .int)) B.pre
  have hown : s.vm.findClass RX7 = some m.cls := findClass_of_methodNamed B.named
  have hlocks := B.notSynchronized
  have hc : g_X p s m args c cX7_line 4 RX7 D cs A := ⟨⟨hx, hb, hml, fun w hw => hts w (List.mem_cons_of_mem _ hw), hown⟩, hK, hN, hSt, hAn⟩
  have hl := lv_entry ([.ref o, .int a0, .int a1]) (n := 4) (Nat.le_of_ble_eq_true rfl)
  have hE : entryFrame m args 4 = F0 m 0 ((lg_sl ([.ref o, .int a0, .int a1]) ++ List.replicate (4 - (lg_sl ([.ref o, .int a0, .int a1])).length) Slot.unset).toArray) [] := by rw [hav]; exact lg_entry_eq m _ _
  rw [hE]
  clear hE hav
  generalize (lg_sl ([.ref o, .int a0, .int a1]) ++ List.replicate (4 - (lg_sl ([.ref o, .int a0, .int a1])).length) Slot.unset).toArray = ls at hl ⊢
  have hl : lv_has ls 4 [(0, .ref o), (1, .int a0), (2, .int a1)] := hl
  obtain ⟨Q, hQ⟩ : ∃ Q, Q = MQ below (g_Q (some (.int r_)) N_ D cs A) args s 8 75 A := ⟨_, rfl⟩
  rw [← hQ]
  suffices hmain : ∀ (H : Heap) (locs : List Loc), g_P D cs A S H → va_S A s.heap H locs → W p l e (z_rmA 8 332 8 75) s m args below meth c H locs 0 0 Q (F0 m 0 ls []) from hmain s.heap [] hP0 va_S.rf
  clear hP0
  intro H locs hP hS
  unfold f_X7_line at h
  refine lv_aload_n hx hb dX7_line_0 rfl (lv_at hl 0 rfl) ?_
  refine lv_iload_n hx hb dX7_line_1 rfl (lv_at hl 1 rfl) ?_
  obtain ⟨ho_2, h⟩ := z_chk_some h
  obtain ⟨vs_, ho_2⟩ := Option.isSome_iff_exists.mp ho_2
  obtain ⟨q_1, e_2, h⟩ := z_bd_some h
  refine g_callV (ci := 7) (As := [.int a0]) (rv := (some (va_rf q_1))) (n := 1) hc hP hS rfl ho_2 (mt_X7_setAt l D cs A S o a0 e_2) wM_X7_56 wI_X7_setAt wS_X7_setAt wZ_X7 wC_X7_setAt md_X7_setAt ⟨rfl, rfl, Nat.le_of_ble_eq_true rfl, Nat.le_of_ble_eq_true rfl⟩ rfl hl.1 rfl (Nat.le_of_ble_eq_true rfl) dX7_line_2 ⟨Nat.le_of_ble_eq_true rfl, Nat.le_of_ble_eq_true rfl⟩ (fun H locs hP hS => ?_)
  show W p l e (z_rmA 8 332 8 75) s m args below meth c H locs (0) (0) Q (F0 m 5 ls [va_rf q_1])
  refine q_astore_n (lv' := [(3, va_rf q_1), (0, .ref o), (1, .int a0), (2, .int a1)]) hx hb dX7_line_5 rfl hl (by decide) rfl (fun ls hl => ?_)
  refine q_aload_n hx hb dX7_line_6 rfl (lv_at hl 0 rfl) ?_
  rcases q_1 with _ | a_2
  · replace h := z_mt_n h
    refine lv_ifnullN (tgt := 19) hx hb dX7_line_7 (by decide) ?_
    refine lv_aload_n hx hb dX7_line_19 rfl (lv_at hl 1 rfl) ?_
    refine lv_iconst (v := 1) hx hb dX7_line_20 (by decide) ?_
    obtain ⟨ho_21, h⟩ := z_chk_some h
    obtain ⟨vs_, ho_21⟩ := Option.isSome_iff_exists.mp ho_21
    obtain ⟨r_4, S_3, e_21, h⟩ := z_bd2_some h
    refine g_callV (ci := 7) (As := [.int (1 : Int32)]) (rv := (some (.int r_4))) (n := 1) hc hP hS rfl ho_21 (mt_X7_refuse l D cs A S o (1 : Int32) e_21) wM_X7_64 wI_X7_refuse wS_X7_refuse wZ_X7 wC_X7_refuse md_X7_refuse ⟨rfl, rfl, Nat.le_of_ble_eq_true rfl, Nat.le_of_ble_eq_true rfl⟩ rfl hl.1 rfl (Nat.le_of_ble_eq_true rfl) dX7_line_21 ⟨Nat.le_of_ble_eq_true rfl, Nat.le_of_ble_eq_true rfl⟩ (fun H locs hP hS => ?_)
    show W p l e (z_rmA 8 332 8 75) s m args below meth c H locs (0) (0) Q (F0 m 24 ls [.int r_4])
    cases h
    rw [hQ]
    refine W.widen (k := 8) (n := 75) (Nat.le_of_ble_eq_true rfl) (Nat.le_of_ble_eq_true rfl) ?_
    exact g_reti hc hr hlocks hP hS dX7_line_24
  · replace h := z_mt_s h
    refine lv_ifnull hx hb dX7_line_7 ?_
    refine lv_iload_n hx hb dX7_line_10 rfl (lv_at hl 3 rfl) ?_
    refine lv_iconst (v := 0) hx hb dX7_line_11 (by decide) ?_
    refine lv_iconst (v := 2) hx hb dX7_line_12 (by decide) ?_
    obtain ⟨r_5, er_5, h⟩ := z_bd_some h
    refine s_calli (As := [.int a1, .int (0 : Int32), .int (2 : Int32)]) (r := r_5) (n := 3) hc.1 (mt_X7_isWithin l a1 (0 : Int32) (2 : Int32) er_5) wM_X7_101 wT_X7_isWithin wZ_X7 wC_X7_isWithin md_X7_isWithin ⟨rfl, rfl, Nat.le_of_ble_eq_true rfl, Nat.le_of_ble_eq_true rfl⟩ rfl hl.1 rfl (Nat.le_of_ble_eq_true rfl) dX7_line_13 ⟨Nat.le_of_ble_eq_true rfl, Nat.le_of_ble_eq_true rfl⟩ ?_
    refine lv_if_ne (tgt := 25) hx hb dX7_line_16 (by decide) (fun c_16 => ?_) (fun c_16 => ?_)
    · replace h := z_in_ c_16 h
      refine lv_aload_n hx hb dX7_line_25 rfl (lv_at hl 1 rfl) ?_
      obtain ⟨f_6, ef_6, h⟩ := z_bd_some h
      refine g_get (ci := 7) (k := 6) (v := .int f_6) hc hP rfl z_inX7 (by decide) wF_X7_48 (g_i_v ef_6) dX7_line_26 ?_
      refine lv_bipush (v := 10) hx hb dX7_line_29 (by decide) ?_
      refine lv_icmp_lt (tgt := 40) hx hb dX7_line_31 (by decide) (fun c_31 => ?_) (fun c_31 => ?_)
      · replace h := z_ip_ c_31 h
        refine lv_aload_n hx hb dX7_line_40 rfl (lv_at hl 1 rfl) ?_
        refine lv_aload_n hx hb dX7_line_41 rfl (lv_at hl 1 rfl) ?_
        refine lv_iconst (v := 1) hx hb dX7_line_42 (by decide) ?_
        refine lv_iload_n hx hb dX7_line_43 rfl (lv_at hl 3 rfl) ?_
        refine lv_aload_n hx hb dX7_line_44 rfl (lv_at hl 0 rfl) ?_
        obtain ⟨ho_45, h⟩ := z_chk_some h
        obtain ⟨vs_, ho_45⟩ := Option.isSome_iff_exists.mp ho_45
        obtain ⟨q_8, S_7, e_45, h⟩ := z_bd2_some h
        refine g_callV (ci := 7) (As := [.int (1 : Int32), .int a1, .ref a_2]) (rv := (some (va_rf q_8))) (n := 3) hc hP hS rfl ho_45 (mt_X7_levelledFit l D cs A S o (1 : Int32) a1 a_2 e_45) wM_X7_125 wI_X7_levelledFit wS_X7_levelledFit wZ_X7 wC_X7_levelledFit md_X7_levelledFit ⟨rfl, rfl, Nat.le_of_ble_eq_true rfl, Nat.le_of_ble_eq_true rfl⟩ rfl hl.1 rfl (Nat.le_of_ble_eq_true rfl) dX7_line_45 ⟨Nat.le_of_ble_eq_true rfl, Nat.le_of_ble_eq_true rfl⟩ (fun H locs hP hS => ?_)
        show W p l e (z_rmA 8 332 8 75) s m args below meth c H locs (8) (75) Q (F0 m 48 ls [va_rf q_8, .ref o])
        obtain ⟨a_9, ea_9, hu⟩ := z_bd_some h
        clear h
        subst ea_9
        have h := hu
        clear hu
        obtain ⟨ho_48, h⟩ := z_chk_some h
        obtain ⟨vs_, ho_48⟩ := Option.isSome_iff_exists.mp ho_48
        obtain ⟨r_11, S_10, e_48, h⟩ := z_bd2_some h
        refine g_callV (ci := 7) (As := [.ref a_9]) (rv := (some (.int r_11))) (n := 1) hc hP hS rfl ho_48 (mt_X7_keepFit l D cs A S_7 o a_9 e_48) wM_X7_121 wI_X7_keepFit wS_X7_keepFit wZ_X7 wC_X7_keepFit md_X7_keepFit ⟨rfl, rfl, Nat.le_of_ble_eq_true rfl, Nat.le_of_ble_eq_true rfl⟩ rfl hl.1 rfl (Nat.le_of_ble_eq_true rfl) dX7_line_48 ⟨Nat.le_of_ble_eq_true rfl, Nat.le_of_ble_eq_true rfl⟩ (fun H locs hP hS => ?_)
        show W p l e (z_rmA 8 332 8 75) s m args below meth c H locs (8) (75) Q (F0 m 51 ls [.int r_11])
        cases h
        rw [hQ]
        exact g_reti hc hr hlocks hP hS dX7_line_51
      · replace h := z_in_ c_31 h
        refine lv_aload_n hx hb dX7_line_34 rfl (lv_at hl 1 rfl) ?_
        refine lv_iconst (v := 2) hx hb dX7_line_35 (by decide) ?_
        obtain ⟨ho_36, h⟩ := z_chk_some h
        obtain ⟨vs_, ho_36⟩ := Option.isSome_iff_exists.mp ho_36
        obtain ⟨r_13, S_12, e_36, h⟩ := z_bd2_some h
        refine g_callV (ci := 7) (As := [.int (2 : Int32)]) (rv := (some (.int r_13))) (n := 1) hc hP hS rfl ho_36 (mt_X7_refuse l D cs A S o (2 : Int32) e_36) wM_X7_64 wI_X7_refuse wS_X7_refuse wZ_X7 wC_X7_refuse md_X7_refuse ⟨rfl, rfl, Nat.le_of_ble_eq_true rfl, Nat.le_of_ble_eq_true rfl⟩ rfl hl.1 rfl (Nat.le_of_ble_eq_true rfl) dX7_line_36 ⟨Nat.le_of_ble_eq_true rfl, Nat.le_of_ble_eq_true rfl⟩ (fun H locs hP hS => ?_)
        show W p l e (z_rmA 8 332 8 75) s m args below meth c H locs (0) (0) Q (F0 m 39 ls [.int r_13])
        cases h
        rw [hQ]
        refine W.widen (k := 8) (n := 75) (Nat.le_of_ble_eq_true rfl) (Nat.le_of_ble_eq_true rfl) ?_
        exact g_reti hc hr hlocks hP hS dX7_line_39
    · replace h := z_ip_ c_16 h
      refine lv_aload_n hx hb dX7_line_19 rfl (lv_at hl 1 rfl) ?_
      refine lv_iconst (v := 1) hx hb dX7_line_20 (by decide) ?_
      obtain ⟨ho_21, h⟩ := z_chk_some h
      obtain ⟨vs_, ho_21⟩ := Option.isSome_iff_exists.mp ho_21
      obtain ⟨r_15, S_14, e_21, h⟩ := z_bd2_some h
      refine g_callV (ci := 7) (As := [.int (1 : Int32)]) (rv := (some (.int r_15))) (n := 1) hc hP hS rfl ho_21 (mt_X7_refuse l D cs A S o (1 : Int32) e_21) wM_X7_64 wI_X7_refuse wS_X7_refuse wZ_X7 wC_X7_refuse md_X7_refuse ⟨rfl, rfl, Nat.le_of_ble_eq_true rfl, Nat.le_of_ble_eq_true rfl⟩ rfl hl.1 rfl (Nat.le_of_ble_eq_true rfl) dX7_line_21 ⟨Nat.le_of_ble_eq_true rfl, Nat.le_of_ble_eq_true rfl⟩ (fun H locs hP hS => ?_)
      show W p l e (z_rmA 8 332 8 75) s m args below meth c H locs (0) (0) Q (F0 m 24 ls [.int r_15])
      cases h
      rw [hQ]
      refine W.widen (k := 8) (n := 75) (Nat.le_of_ble_eq_true rfl) (Nat.le_of_ble_eq_true rfl) ?_
      exact g_reti hc hr hlocks hP hS dX7_line_24
theorem md_X7_line : yX7_line.cls ≠ "java/lang/invoke/MethodHandle" ∧ yX7_line.cls ≠ "java/lang/invoke/VarHandle" ∧ (parseMethodDescriptor yX7_line.desc).map (fun d => d.parameters.length) = some 2 := by decide +kernel
noncomputable def f_X7_even (S : GS) (o : Nat) (a0 : Int32) : Option ((Int32) × GS) :=
  z_chk (g_is S 7 o) (z_bd (f_X7_setAt S o a0) fun q_1 => z_mt q_1 (z_chk (g_is S 7 o) (z_bd2 (f_X7_refuse S o (1 : Int32)) fun r_4 S_3 => some (r_4, S_3))) fun a_2 => z_bd (g_i S 7 6 o) fun f_5 => if f_5 < (10 : Int32) then z_bd (g_i S 3 3 a_2) fun f_6 => if f_6 ≤ 0 then z_chk (g_is S 7 o) (z_bd2 (f_X7_levelledFit S o (2 : Int32) (2 : Int32) a_2) fun q_8 S_7 => z_bd q_8 fun a_9 => z_chk (g_is S_7 7 o) (z_bd2 (f_X7_keepFit S_7 o a_9) fun r_11 S_10 => some (r_11, S_10))) else z_bd (g_r S 3 0 a_2) fun f_12 => z_bd (g_rI S f_12 (0 : Int32)) fun v_13 => if 0 ≤ v_13 then z_chk (g_is S 7 o) (z_bd2 (f_X7_levelledFit S o (2 : Int32) (2 : Int32) a_2) fun q_15 S_14 => z_bd q_15 fun a_16 => z_chk (g_is S_14 7 o) (z_bd2 (f_X7_keepFit S_14 o a_16) fun r_18 S_17 => some (r_18, S_17))) else z_chk (g_is S 7 o) (z_bd2 (f_X7_refuse S o (3 : Int32)) fun r_20 S_19 => some (r_20, S_19)) else z_chk (g_is S 7 o) (z_bd2 (f_X7_refuse S o (2 : Int32)) fun r_22 S_21 => some (r_22, S_21)))
set_option maxHeartbeats 4000000 in
set_option maxRecDepth 100000 in
theorem mt_X7_even (l : Launch) (D : va_G) (cs : Nat → ClassId) (A : Nat → Prop) (S : GS) (o : Nat) (a0 : Int32) {r_ : Int32} {N_ : GS} (h : f_X7_even S o a0 = some (r_, N_)) : Met l yX7_even (z_wd yX7_even cX7_even 3 (some .int)) (z_rmA 8 332 8 75) (va_Pc [.ref o, .int a0] (g_C D cs A S)) (g_Q (some (.int r_)) N_ D cs A) 8 75 A := by
  refine Met.ofW (cc := cX7_even) (maxL := 3) (ret := (some .int)) (by decide) rfl ?_
  intro p e s m args below meth c s₁ B hml hv
  obtain ⟨hav, hP0, hK, hN, hSt, hAn⟩ := hv
  have hx := B.exec
  have hb := B.bytes
  have hr := B.returns
  have hts := atoms_spec (ws := z_wd yX7_even cX7_even 3 (some .int)) B.pre
  have hown : s.vm.findClass RX7 = some m.cls := findClass_of_methodNamed B.named
  have hlocks := B.notSynchronized
  have hc : g_X p s m args c cX7_even 3 RX7 D cs A := ⟨⟨hx, hb, hml, fun w hw => hts w (List.mem_cons_of_mem _ hw), hown⟩, hK, hN, hSt, hAn⟩
  have hl := lv_entry ([.ref o, .int a0]) (n := 3) (Nat.le_of_ble_eq_true rfl)
  have hE : entryFrame m args 3 = F0 m 0 ((lg_sl ([.ref o, .int a0]) ++ List.replicate (3 - (lg_sl ([.ref o, .int a0])).length) Slot.unset).toArray) [] := by rw [hav]; exact lg_entry_eq m _ _
  rw [hE]
  clear hE hav
  generalize (lg_sl ([.ref o, .int a0]) ++ List.replicate (3 - (lg_sl ([.ref o, .int a0])).length) Slot.unset).toArray = ls at hl ⊢
  have hl : lv_has ls 3 [(0, .ref o), (1, .int a0)] := hl
  obtain ⟨Q, hQ⟩ : ∃ Q, Q = MQ below (g_Q (some (.int r_)) N_ D cs A) args s 8 75 A := ⟨_, rfl⟩
  rw [← hQ]
  suffices hmain : ∀ (H : Heap) (locs : List Loc), g_P D cs A S H → va_S A s.heap H locs → W p l e (z_rmA 8 332 8 75) s m args below meth c H locs 0 0 Q (F0 m 0 ls []) from hmain s.heap [] hP0 va_S.rf
  clear hP0
  intro H locs hP hS
  unfold f_X7_even at h
  refine lv_aload_n hx hb dX7_even_0 rfl (lv_at hl 0 rfl) ?_
  refine lv_iload_n hx hb dX7_even_1 rfl (lv_at hl 1 rfl) ?_
  obtain ⟨ho_2, h⟩ := z_chk_some h
  obtain ⟨vs_, ho_2⟩ := Option.isSome_iff_exists.mp ho_2
  obtain ⟨q_1, e_2, h⟩ := z_bd_some h
  refine g_callV (ci := 7) (As := [.int a0]) (rv := (some (va_rf q_1))) (n := 1) hc hP hS rfl ho_2 (mt_X7_setAt l D cs A S o a0 e_2) wM_X7_56 wI_X7_setAt wS_X7_setAt wZ_X7 wC_X7_setAt md_X7_setAt ⟨rfl, rfl, Nat.le_of_ble_eq_true rfl, Nat.le_of_ble_eq_true rfl⟩ rfl hl.1 rfl (Nat.le_of_ble_eq_true rfl) dX7_even_2 ⟨Nat.le_of_ble_eq_true rfl, Nat.le_of_ble_eq_true rfl⟩ (fun H locs hP hS => ?_)
  show W p l e (z_rmA 8 332 8 75) s m args below meth c H locs (0) (0) Q (F0 m 5 ls [va_rf q_1])
  refine q_astore_n (lv' := [(2, va_rf q_1), (0, .ref o), (1, .int a0)]) hx hb dX7_even_5 rfl hl (by decide) rfl (fun ls hl => ?_)
  refine q_aload_n hx hb dX7_even_6 rfl (lv_at hl 0 rfl) ?_
  rcases q_1 with _ | a_2
  · replace h := z_mt_n h
    refine lv_ifnonnullN hx hb dX7_even_7 ?_
    refine lv_aload_n hx hb dX7_even_10 rfl (lv_at hl 1 rfl) ?_
    refine lv_iconst (v := 1) hx hb dX7_even_11 (by decide) ?_
    obtain ⟨ho_12, h⟩ := z_chk_some h
    obtain ⟨vs_, ho_12⟩ := Option.isSome_iff_exists.mp ho_12
    obtain ⟨r_4, S_3, e_12, h⟩ := z_bd2_some h
    refine g_callV (ci := 7) (As := [.int (1 : Int32)]) (rv := (some (.int r_4))) (n := 1) hc hP hS rfl ho_12 (mt_X7_refuse l D cs A S o (1 : Int32) e_12) wM_X7_64 wI_X7_refuse wS_X7_refuse wZ_X7 wC_X7_refuse md_X7_refuse ⟨rfl, rfl, Nat.le_of_ble_eq_true rfl, Nat.le_of_ble_eq_true rfl⟩ rfl hl.1 rfl (Nat.le_of_ble_eq_true rfl) dX7_even_12 ⟨Nat.le_of_ble_eq_true rfl, Nat.le_of_ble_eq_true rfl⟩ (fun H locs hP hS => ?_)
    show W p l e (z_rmA 8 332 8 75) s m args below meth c H locs (0) (0) Q (F0 m 15 ls [.int r_4])
    cases h
    rw [hQ]
    refine W.widen (k := 8) (n := 75) (Nat.le_of_ble_eq_true rfl) (Nat.le_of_ble_eq_true rfl) ?_
    exact g_reti hc hr hlocks hP hS dX7_even_15
  · replace h := z_mt_s h
    refine lv_ifnonnull (tgt := 16) hx hb dX7_even_7 (by decide) ?_
    refine lv_aload_n hx hb dX7_even_16 rfl (lv_at hl 1 rfl) ?_
    obtain ⟨f_5, ef_5, h⟩ := z_bd_some h
    refine g_get (ci := 7) (k := 6) (v := .int f_5) hc hP rfl z_inX7 (by decide) wF_X7_48 (g_i_v ef_5) dX7_even_17 ?_
    refine lv_bipush (v := 10) hx hb dX7_even_20 (by decide) ?_
    refine lv_icmp_lt (tgt := 31) hx hb dX7_even_22 (by decide) (fun c_22 => ?_) (fun c_22 => ?_)
    · replace h := z_ip_ c_22 h
      refine lv_aload_n hx hb dX7_even_31 rfl (lv_at hl 0 rfl) ?_
      obtain ⟨f_6, ef_6, h⟩ := z_bd_some h
      refine g_getN (ci := 3) (k := 3) (v := .int f_6) hc hP rfl z_inX3 (by decide) wG_X7_129 (g_i_v ef_6) dX7_even_32 ?_
      refine lv_if_le (tgt := 53) hx hb dX7_even_35 (by decide) (fun c_35 => ?_) (fun c_35 => ?_)
      · replace h := z_ip_ c_35 h
        refine lv_aload_n hx hb dX7_even_53 rfl (lv_at hl 1 rfl) ?_
        refine lv_aload_n hx hb dX7_even_54 rfl (lv_at hl 1 rfl) ?_
        refine lv_iconst (v := 2) hx hb dX7_even_55 (by decide) ?_
        refine lv_iconst (v := 2) hx hb dX7_even_56 (by decide) ?_
        refine lv_aload_n hx hb dX7_even_57 rfl (lv_at hl 0 rfl) ?_
        obtain ⟨ho_58, h⟩ := z_chk_some h
        obtain ⟨vs_, ho_58⟩ := Option.isSome_iff_exists.mp ho_58
        obtain ⟨q_8, S_7, e_58, h⟩ := z_bd2_some h
        refine g_callV (ci := 7) (As := [.int (2 : Int32), .int (2 : Int32), .ref a_2]) (rv := (some (va_rf q_8))) (n := 3) hc hP hS rfl ho_58 (mt_X7_levelledFit l D cs A S o (2 : Int32) (2 : Int32) a_2 e_58) wM_X7_125 wI_X7_levelledFit wS_X7_levelledFit wZ_X7 wC_X7_levelledFit md_X7_levelledFit ⟨rfl, rfl, Nat.le_of_ble_eq_true rfl, Nat.le_of_ble_eq_true rfl⟩ rfl hl.1 rfl (Nat.le_of_ble_eq_true rfl) dX7_even_58 ⟨Nat.le_of_ble_eq_true rfl, Nat.le_of_ble_eq_true rfl⟩ (fun H locs hP hS => ?_)
        show W p l e (z_rmA 8 332 8 75) s m args below meth c H locs (8) (75) Q (F0 m 61 ls [va_rf q_8, .ref o])
        obtain ⟨a_9, ea_9, hu⟩ := z_bd_some h
        clear h
        subst ea_9
        have h := hu
        clear hu
        obtain ⟨ho_61, h⟩ := z_chk_some h
        obtain ⟨vs_, ho_61⟩ := Option.isSome_iff_exists.mp ho_61
        obtain ⟨r_11, S_10, e_61, h⟩ := z_bd2_some h
        refine g_callV (ci := 7) (As := [.ref a_9]) (rv := (some (.int r_11))) (n := 1) hc hP hS rfl ho_61 (mt_X7_keepFit l D cs A S_7 o a_9 e_61) wM_X7_121 wI_X7_keepFit wS_X7_keepFit wZ_X7 wC_X7_keepFit md_X7_keepFit ⟨rfl, rfl, Nat.le_of_ble_eq_true rfl, Nat.le_of_ble_eq_true rfl⟩ rfl hl.1 rfl (Nat.le_of_ble_eq_true rfl) dX7_even_61 ⟨Nat.le_of_ble_eq_true rfl, Nat.le_of_ble_eq_true rfl⟩ (fun H locs hP hS => ?_)
        show W p l e (z_rmA 8 332 8 75) s m args below meth c H locs (8) (75) Q (F0 m 64 ls [.int r_11])
        cases h
        rw [hQ]
        exact g_reti hc hr hlocks hP hS dX7_even_64
      · replace h := z_in_ c_35 h
        refine lv_aload_n hx hb dX7_even_38 rfl (lv_at hl 0 rfl) ?_
        obtain ⟨f_12, ef_12, h⟩ := z_bd_some h
        refine g_getN (ci := 3) (k := 0) (v := .ref f_12) hc hP rfl z_inX3 (by decide) wG_X7_91 (g_r_v ef_12) dX7_even_39 ?_
        refine lv_iconst (v := 0) hx hb dX7_even_42 (by decide) ?_
        obtain ⟨v_13, ev_13, h⟩ := z_bd_some h
        refine g_iald hc hP ev_13 dX7_even_43 ?_
        refine lv_if_ge (tgt := 53) hx hb dX7_even_44 (by decide) (fun c_44 => ?_) (fun c_44 => ?_)
        · replace h := z_ip_ c_44 h
          refine lv_aload_n hx hb dX7_even_53 rfl (lv_at hl 1 rfl) ?_
          refine lv_aload_n hx hb dX7_even_54 rfl (lv_at hl 1 rfl) ?_
          refine lv_iconst (v := 2) hx hb dX7_even_55 (by decide) ?_
          refine lv_iconst (v := 2) hx hb dX7_even_56 (by decide) ?_
          refine lv_aload_n hx hb dX7_even_57 rfl (lv_at hl 0 rfl) ?_
          obtain ⟨ho_58, h⟩ := z_chk_some h
          obtain ⟨vs_, ho_58⟩ := Option.isSome_iff_exists.mp ho_58
          obtain ⟨q_15, S_14, e_58, h⟩ := z_bd2_some h
          refine g_callV (ci := 7) (As := [.int (2 : Int32), .int (2 : Int32), .ref a_2]) (rv := (some (va_rf q_15))) (n := 3) hc hP hS rfl ho_58 (mt_X7_levelledFit l D cs A S o (2 : Int32) (2 : Int32) a_2 e_58) wM_X7_125 wI_X7_levelledFit wS_X7_levelledFit wZ_X7 wC_X7_levelledFit md_X7_levelledFit ⟨rfl, rfl, Nat.le_of_ble_eq_true rfl, Nat.le_of_ble_eq_true rfl⟩ rfl hl.1 rfl (Nat.le_of_ble_eq_true rfl) dX7_even_58 ⟨Nat.le_of_ble_eq_true rfl, Nat.le_of_ble_eq_true rfl⟩ (fun H locs hP hS => ?_)
          show W p l e (z_rmA 8 332 8 75) s m args below meth c H locs (8) (75) Q (F0 m 61 ls [va_rf q_15, .ref o])
          obtain ⟨a_16, ea_16, hu⟩ := z_bd_some h
          clear h
          subst ea_16
          have h := hu
          clear hu
          obtain ⟨ho_61, h⟩ := z_chk_some h
          obtain ⟨vs_, ho_61⟩ := Option.isSome_iff_exists.mp ho_61
          obtain ⟨r_18, S_17, e_61, h⟩ := z_bd2_some h
          refine g_callV (ci := 7) (As := [.ref a_16]) (rv := (some (.int r_18))) (n := 1) hc hP hS rfl ho_61 (mt_X7_keepFit l D cs A S_14 o a_16 e_61) wM_X7_121 wI_X7_keepFit wS_X7_keepFit wZ_X7 wC_X7_keepFit md_X7_keepFit ⟨rfl, rfl, Nat.le_of_ble_eq_true rfl, Nat.le_of_ble_eq_true rfl⟩ rfl hl.1 rfl (Nat.le_of_ble_eq_true rfl) dX7_even_61 ⟨Nat.le_of_ble_eq_true rfl, Nat.le_of_ble_eq_true rfl⟩ (fun H locs hP hS => ?_)
          show W p l e (z_rmA 8 332 8 75) s m args below meth c H locs (8) (75) Q (F0 m 64 ls [.int r_18])
          cases h
          rw [hQ]
          exact g_reti hc hr hlocks hP hS dX7_even_64
        · replace h := z_in_ c_44 h
          refine lv_aload_n hx hb dX7_even_47 rfl (lv_at hl 1 rfl) ?_
          refine lv_iconst (v := 3) hx hb dX7_even_48 (by decide) ?_
          obtain ⟨ho_49, h⟩ := z_chk_some h
          obtain ⟨vs_, ho_49⟩ := Option.isSome_iff_exists.mp ho_49
          obtain ⟨r_20, S_19, e_49, h⟩ := z_bd2_some h
          refine g_callV (ci := 7) (As := [.int (3 : Int32)]) (rv := (some (.int r_20))) (n := 1) hc hP hS rfl ho_49 (mt_X7_refuse l D cs A S o (3 : Int32) e_49) wM_X7_64 wI_X7_refuse wS_X7_refuse wZ_X7 wC_X7_refuse md_X7_refuse ⟨rfl, rfl, Nat.le_of_ble_eq_true rfl, Nat.le_of_ble_eq_true rfl⟩ rfl hl.1 rfl (Nat.le_of_ble_eq_true rfl) dX7_even_49 ⟨Nat.le_of_ble_eq_true rfl, Nat.le_of_ble_eq_true rfl⟩ (fun H locs hP hS => ?_)
          show W p l e (z_rmA 8 332 8 75) s m args below meth c H locs (0) (0) Q (F0 m 52 ls [.int r_20])
          cases h
          rw [hQ]
          refine W.widen (k := 8) (n := 75) (Nat.le_of_ble_eq_true rfl) (Nat.le_of_ble_eq_true rfl) ?_
          exact g_reti hc hr hlocks hP hS dX7_even_52
    · replace h := z_in_ c_22 h
      refine lv_aload_n hx hb dX7_even_25 rfl (lv_at hl 1 rfl) ?_
      refine lv_iconst (v := 2) hx hb dX7_even_26 (by decide) ?_
      obtain ⟨ho_27, h⟩ := z_chk_some h
      obtain ⟨vs_, ho_27⟩ := Option.isSome_iff_exists.mp ho_27
      obtain ⟨r_22, S_21, e_27, h⟩ := z_bd2_some h
      refine g_callV (ci := 7) (As := [.int (2 : Int32)]) (rv := (some (.int r_22))) (n := 1) hc hP hS rfl ho_27 (mt_X7_refuse l D cs A S o (2 : Int32) e_27) wM_X7_64 wI_X7_refuse wS_X7_refuse wZ_X7 wC_X7_refuse md_X7_refuse ⟨rfl, rfl, Nat.le_of_ble_eq_true rfl, Nat.le_of_ble_eq_true rfl⟩ rfl hl.1 rfl (Nat.le_of_ble_eq_true rfl) dX7_even_27 ⟨Nat.le_of_ble_eq_true rfl, Nat.le_of_ble_eq_true rfl⟩ (fun H locs hP hS => ?_)
      show W p l e (z_rmA 8 332 8 75) s m args below meth c H locs (0) (0) Q (F0 m 30 ls [.int r_22])
      cases h
      rw [hQ]
      refine W.widen (k := 8) (n := 75) (Nat.le_of_ble_eq_true rfl) (Nat.le_of_ble_eq_true rfl) ?_
      exact g_reti hc hr hlocks hP hS dX7_even_30
theorem md_X7_even : yX7_even.cls ≠ "java/lang/invoke/MethodHandle" ∧ yX7_even.cls ≠ "java/lang/invoke/VarHandle" ∧ (parseMethodDescriptor yX7_even.desc).map (fun d => d.parameters.length) = some 1 := by decide +kernel
noncomputable def f_X7_shorts (S : GS) (o : Nat) (a0 : Int32) (a1 : Int32) (a2 : Int32) : Option ((Int32) × GS) :=
  z_chk (g_is S 7 o) (z_bd (f_X7_setAt S o a0) fun q_1 => z_mt q_1 (z_chk (g_is S 7 o) (z_bd2 (f_X7_refuse S o (1 : Int32)) fun r_4 S_3 => some (r_4, S_3))) fun a_2 => z_bd (f_X7_isWithin a1 (0 : Int32) (1 : Int32)) fun r_5 => if r_5 = 0 then z_chk (g_is S 7 o) (z_bd2 (f_X7_refuse S o (1 : Int32)) fun r_7 S_6 => some (r_7, S_6)) else z_bd (f_X7_isWithin a2 (0 : Int32) (2 : Int32)) fun r_8 => if r_8 = 0 then z_chk (g_is S 7 o) (z_bd2 (f_X7_refuse S o (1 : Int32)) fun r_31 S_30 => some (r_31, S_30)) else z_bd (g_i S 7 6 o) fun f_9 => if f_9 < (10 : Int32) then z_lt (g_nw S (.inr (.inr (.inr (1, [.int 0, .int 0, .int 0, .null, .null, .null, .int 0]))))) fun S_10 => z_bd (g_i S_10 7 6 o) fun f_11 => z_chk (g_is S_10 3 a_2) (z_bd2 (f_X3_copy S_10 a_2 ) fun q_13 S_12 => z_bd q_13 fun a_14 => z_bd (f_X1_init S_12 S.2 f_11 (3 : Int32) a1 a_14) fun S_15 => z_bd (g_r S_15 7 4 o) fun f_16 => z_bd (g_r S_15 1 3 S.2) fun f_17 => z_chk (g_is S_15 6 f_16) (z_bd (f_X6_search S_15 f_16 f_17 a1 a2) fun S_18 => z_chk (g_is S_18 1 S.2) (z_bd (f_X1_firstPart S_18 S.2 ) fun q_19 => z_bd (g_r S_18 7 4 o) fun f_20 => z_bd (g_i S_18 6 1 f_20) fun f_21 => z_bd (g_r S_18 7 4 o) fun f_22 => z_bd (g_i S_18 6 2 f_22) fun f_23 => z_bd q_19 fun a_24 => z_chk (g_is S_18 4 a_24) (z_bd (f_X4_become S_18 a_24 f_21.toInt64 f_23.toInt64 (0 : Int64) ((1 : Int64) <<< (a2.toInt64 &&& 63))) fun S_25 => z_chk (g_is S_25 7 o) (z_bd2 (f_X7_keepFit S_25 o S.2) fun r_27 S_26 => some (r_27, S_26)))))) else z_chk (g_is S 7 o) (z_bd2 (f_X7_refuse S o (2 : Int32)) fun r_29 S_28 => some (r_29, S_28)))
set_option maxHeartbeats 4000000 in
set_option maxRecDepth 100000 in
theorem mt_X7_shorts (l : Launch) (D : va_G) (cs : Nat → ClassId) (A : Nat → Prop) (S : GS) (o : Nat) (a0 : Int32) (a1 : Int32) (a2 : Int32) {r_ : Int32} {N_ : GS} (h : f_X7_shorts S o a0 a1 a2 = some (r_, N_)) : Met l yX7_shorts (z_wd yX7_shorts cX7_shorts 6 (some .int)) (z_rmA 4 164 8 75) (va_Pc [.ref o, .int a0, .int a1, .int a2] (g_C D cs A S)) (g_Q (some (.int r_)) N_ D cs A) 8 75 A := by
  refine Met.ofW (cc := cX7_shorts) (maxL := 6) (ret := (some .int)) (by decide) rfl ?_
  intro p e s m args below meth c s₁ B hml hv
  obtain ⟨hav, hP0, hK, hN, hSt, hAn⟩ := hv
  have hx := B.exec
  have hb := B.bytes
  have hr := B.returns
  have hts := atoms_spec (ws := z_wd yX7_shorts cX7_shorts 6 (some .int)) B.pre
  have hown : s.vm.findClass RX7 = some m.cls := findClass_of_methodNamed B.named
  have hlocks := B.notSynchronized
  have hc : g_X p s m args c cX7_shorts 6 RX7 D cs A := ⟨⟨hx, hb, hml, fun w hw => hts w (List.mem_cons_of_mem _ hw), hown⟩, hK, hN, hSt, hAn⟩
  have hl := lv_entry ([.ref o, .int a0, .int a1, .int a2]) (n := 6) (Nat.le_of_ble_eq_true rfl)
  have hE : entryFrame m args 6 = F0 m 0 ((lg_sl ([.ref o, .int a0, .int a1, .int a2]) ++ List.replicate (6 - (lg_sl ([.ref o, .int a0, .int a1, .int a2])).length) Slot.unset).toArray) [] := by rw [hav]; exact lg_entry_eq m _ _
  rw [hE]
  clear hE hav
  generalize (lg_sl ([.ref o, .int a0, .int a1, .int a2]) ++ List.replicate (6 - (lg_sl ([.ref o, .int a0, .int a1, .int a2])).length) Slot.unset).toArray = ls at hl ⊢
  have hl : lv_has ls 6 [(0, .ref o), (1, .int a0), (2, .int a1), (3, .int a2)] := hl
  obtain ⟨Q, hQ⟩ : ∃ Q, Q = MQ below (g_Q (some (.int r_)) N_ D cs A) args s 8 75 A := ⟨_, rfl⟩
  rw [← hQ]
  suffices hmain : ∀ (H : Heap) (locs : List Loc), g_P D cs A S H → va_S A s.heap H locs → W p l e (z_rmA 4 164 8 75) s m args below meth c H locs 0 0 Q (F0 m 0 ls []) from hmain s.heap [] hP0 va_S.rf
  clear hP0
  intro H locs hP hS
  unfold f_X7_shorts at h
  refine lv_aload_n hx hb dX7_shorts_0 rfl (lv_at hl 0 rfl) ?_
  refine lv_iload_n hx hb dX7_shorts_1 rfl (lv_at hl 1 rfl) ?_
  obtain ⟨ho_2, h⟩ := z_chk_some h
  obtain ⟨vs_, ho_2⟩ := Option.isSome_iff_exists.mp ho_2
  obtain ⟨q_1, e_2, h⟩ := z_bd_some h
  refine g_callV (ci := 7) (As := [.int a0]) (rv := (some (va_rf q_1))) (n := 1) hc hP hS rfl ho_2 (mt_X7_setAt l D cs A S o a0 e_2) wM_X7_56 wI_X7_setAt wS_X7_setAt wZ_X7 wC_X7_setAt md_X7_setAt ⟨rfl, rfl, Nat.le_of_ble_eq_true rfl, Nat.le_of_ble_eq_true rfl⟩ rfl hl.1 rfl (Nat.le_of_ble_eq_true rfl) dX7_shorts_2 ⟨Nat.le_of_ble_eq_true rfl, Nat.le_of_ble_eq_true rfl⟩ (fun H locs hP hS => ?_)
  show W p l e (z_rmA 4 164 8 75) s m args below meth c H locs (0) (0) Q (F0 m 5 ls [va_rf q_1])
  refine q_astore (lv' := [(4, va_rf q_1), (0, .ref o), (1, .int a0), (2, .int a1), (3, .int a2)]) hx hb dX7_shorts_5 hl (by decide) rfl (fun ls hl => ?_)
  refine q_aload hx hb dX7_shorts_7 (lv_at hl 0 rfl) ?_
  rcases q_1 with _ | a_2
  · replace h := z_mt_n h
    refine lv_ifnullN (tgt := 30) hx hb dX7_shorts_9 (by decide) ?_
    refine lv_aload_n hx hb dX7_shorts_30 rfl (lv_at hl 1 rfl) ?_
    refine lv_iconst (v := 1) hx hb dX7_shorts_31 (by decide) ?_
    obtain ⟨ho_32, h⟩ := z_chk_some h
    obtain ⟨vs_, ho_32⟩ := Option.isSome_iff_exists.mp ho_32
    obtain ⟨r_4, S_3, e_32, h⟩ := z_bd2_some h
    refine g_callV (ci := 7) (As := [.int (1 : Int32)]) (rv := (some (.int r_4))) (n := 1) hc hP hS rfl ho_32 (mt_X7_refuse l D cs A S o (1 : Int32) e_32) wM_X7_64 wI_X7_refuse wS_X7_refuse wZ_X7 wC_X7_refuse md_X7_refuse ⟨rfl, rfl, Nat.le_of_ble_eq_true rfl, Nat.le_of_ble_eq_true rfl⟩ rfl hl.1 rfl (Nat.le_of_ble_eq_true rfl) dX7_shorts_32 ⟨Nat.le_of_ble_eq_true rfl, Nat.le_of_ble_eq_true rfl⟩ (fun H locs hP hS => ?_)
    show W p l e (z_rmA 4 164 8 75) s m args below meth c H locs (0) (0) Q (F0 m 35 ls [.int r_4])
    cases h
    rw [hQ]
    refine W.widen (k := 8) (n := 75) (Nat.le_of_ble_eq_true rfl) (Nat.le_of_ble_eq_true rfl) ?_
    exact g_reti hc hr hlocks hP hS dX7_shorts_35
  · replace h := z_mt_s h
    refine lv_ifnull hx hb dX7_shorts_9 ?_
    refine lv_iload_n hx hb dX7_shorts_12 rfl (lv_at hl 3 rfl) ?_
    refine lv_iconst (v := 0) hx hb dX7_shorts_13 (by decide) ?_
    refine lv_iconst (v := 1) hx hb dX7_shorts_14 (by decide) ?_
    obtain ⟨r_5, er_5, h⟩ := z_bd_some h
    refine s_calli (As := [.int a1, .int (0 : Int32), .int (1 : Int32)]) (r := r_5) (n := 3) hc.1 (mt_X7_isWithin l a1 (0 : Int32) (1 : Int32) er_5) wM_X7_101 wT_X7_isWithin wZ_X7 wC_X7_isWithin md_X7_isWithin ⟨rfl, rfl, Nat.le_of_ble_eq_true rfl, Nat.le_of_ble_eq_true rfl⟩ rfl hl.1 rfl (Nat.le_of_ble_eq_true rfl) dX7_shorts_15 ⟨Nat.le_of_ble_eq_true rfl, Nat.le_of_ble_eq_true rfl⟩ ?_
    refine lv_if_eq (tgt := 30) hx hb dX7_shorts_18 (by decide) (fun c_18 => ?_) (fun c_18 => ?_)
    · replace h := z_ip_ c_18 h
      refine lv_aload_n hx hb dX7_shorts_30 rfl (lv_at hl 1 rfl) ?_
      refine lv_iconst (v := 1) hx hb dX7_shorts_31 (by decide) ?_
      obtain ⟨ho_32, h⟩ := z_chk_some h
      obtain ⟨vs_, ho_32⟩ := Option.isSome_iff_exists.mp ho_32
      obtain ⟨r_7, S_6, e_32, h⟩ := z_bd2_some h
      refine g_callV (ci := 7) (As := [.int (1 : Int32)]) (rv := (some (.int r_7))) (n := 1) hc hP hS rfl ho_32 (mt_X7_refuse l D cs A S o (1 : Int32) e_32) wM_X7_64 wI_X7_refuse wS_X7_refuse wZ_X7 wC_X7_refuse md_X7_refuse ⟨rfl, rfl, Nat.le_of_ble_eq_true rfl, Nat.le_of_ble_eq_true rfl⟩ rfl hl.1 rfl (Nat.le_of_ble_eq_true rfl) dX7_shorts_32 ⟨Nat.le_of_ble_eq_true rfl, Nat.le_of_ble_eq_true rfl⟩ (fun H locs hP hS => ?_)
      show W p l e (z_rmA 4 164 8 75) s m args below meth c H locs (0) (0) Q (F0 m 35 ls [.int r_7])
      cases h
      rw [hQ]
      refine W.widen (k := 8) (n := 75) (Nat.le_of_ble_eq_true rfl) (Nat.le_of_ble_eq_true rfl) ?_
      exact g_reti hc hr hlocks hP hS dX7_shorts_35
    · replace h := z_in_ c_18 h
      refine lv_iload_n hx hb dX7_shorts_21 rfl (lv_at hl 4 rfl) ?_
      refine lv_iconst (v := 0) hx hb dX7_shorts_22 (by decide) ?_
      refine lv_iconst (v := 2) hx hb dX7_shorts_23 (by decide) ?_
      obtain ⟨r_8, er_8, h⟩ := z_bd_some h
      refine s_calli (As := [.int a2, .int (0 : Int32), .int (2 : Int32)]) (r := r_8) (n := 3) hc.1 (mt_X7_isWithin l a2 (0 : Int32) (2 : Int32) er_8) wM_X7_101 wT_X7_isWithin wZ_X7 wC_X7_isWithin md_X7_isWithin ⟨rfl, rfl, Nat.le_of_ble_eq_true rfl, Nat.le_of_ble_eq_true rfl⟩ rfl hl.1 rfl (Nat.le_of_ble_eq_true rfl) dX7_shorts_24 ⟨Nat.le_of_ble_eq_true rfl, Nat.le_of_ble_eq_true rfl⟩ ?_
      refine lv_if_ne (tgt := 36) hx hb dX7_shorts_27 (by decide) (fun c_27 => ?_) (fun c_27 => ?_)
      · replace h := z_in_ c_27 h
        refine lv_aload_n hx hb dX7_shorts_36 rfl (lv_at hl 1 rfl) ?_
        obtain ⟨f_9, ef_9, h⟩ := z_bd_some h
        refine g_get (ci := 7) (k := 6) (v := .int f_9) hc hP rfl z_inX7 (by decide) wF_X7_48 (g_i_v ef_9) dX7_shorts_37 ?_
        refine lv_bipush (v := 10) hx hb dX7_shorts_40 (by decide) ?_
        refine lv_icmp_lt (tgt := 51) hx hb dX7_shorts_42 (by decide) (fun c_42 => ?_) (fun c_42 => ?_)
        · replace h := z_ip_ c_42 h
          obtain ⟨S_10, eS_10, h⟩ := z_lt_some h
          refine g_new (ci := 1) tyX1 hc hP hS rfl z_inX1 tyX1_ok wK_X7_15 wN_X1 wZ_X1 gd_1 (Nat.le_of_ble_eq_true rfl) (Nat.le_of_ble_eq_true rfl) eS_10 dX7_shorts_51 (fun H hP hS => ?_)
          show W p l e (z_rmA 4 164 8 75) s m args below meth c H locs (1) (7) Q (F0 m 54 ls [.ref S.2])
          refine lv_dup hx hb dX7_shorts_54 rfl ?_
          refine lv_aload_n hx hb dX7_shorts_55 rfl (lv_at hl 1 rfl) ?_
          obtain ⟨f_11, ef_11, h⟩ := z_bd_some h
          refine g_get (ci := 7) (k := 6) (v := .int f_11) hc hP rfl z_inX7 (by decide) wF_X7_48 (g_i_v ef_11) dX7_shorts_56 ?_
          refine lv_iconst (v := 3) hx hb dX7_shorts_59 (by decide) ?_
          refine lv_iload_n hx hb dX7_shorts_60 rfl (lv_at hl 3 rfl) ?_
          refine lv_aload hx hb dX7_shorts_61 (lv_at hl 0 rfl) ?_
          obtain ⟨ho_63, h⟩ := z_chk_some h
          obtain ⟨vs_, ho_63⟩ := Option.isSome_iff_exists.mp ho_63
          obtain ⟨q_13, S_12, e_63, h⟩ := z_bd2_some h
          refine g_callV (ci := 3) (As := []) (rv := (some (va_rf q_13))) (n := 0) hc hP hS rfl ho_63 (mt_X3_copy l D cs A S_10 a_2  e_63) wM_X7_104 wI_X3_copy wS_X3_copy wZ_X3 wC_X3_copy md_X3_copy ⟨rfl, rfl, Nat.le_of_ble_eq_true rfl, Nat.le_of_ble_eq_true rfl⟩ rfl hl.1 rfl (Nat.le_of_ble_eq_true rfl) dX7_shorts_63 ⟨Nat.le_of_ble_eq_true rfl, Nat.le_of_ble_eq_true rfl⟩ (fun H locs hP hS => ?_)
          show W p l e (z_rmA 4 164 8 75) s m args below meth c H locs (5) (47) Q (F0 m 66 ls [va_rf q_13, .int a1, .int (3 : Int32), .int f_11, .ref S.2, .ref S.2])
          obtain ⟨a_14, ea_14, hu⟩ := z_bd_some h
          clear h
          subst ea_14
          have h := hu
          clear hu
          obtain ⟨S_15, e_66, h⟩ := z_bd_some h
          refine g_callI (As := [.int f_11, .int (3 : Int32), .int a1, .ref a_14]) (rv := none) (n := 4) hc hP hS (mt_X1_init l D cs A S_12 S.2 f_11 (3 : Int32) a1 a_14 e_66) wM_X7_108 wI_X1_init rfl wZ_X1 wC_X1_init md_X1_init ⟨rfl, rfl, Nat.le_of_ble_eq_true rfl, Nat.le_of_ble_eq_true rfl⟩ rfl hl.1 rfl (Nat.le_of_ble_eq_true rfl) dX7_shorts_66 ⟨Nat.le_of_ble_eq_true rfl, Nat.le_of_ble_eq_true rfl⟩ (fun H locs hP hS => ?_)
          show W p l e (z_rmA 4 164 8 75) s m args below meth c H locs (8) (75) Q (F0 m 69 ls [.ref S.2])
          refine lv_astore (lv' := [(5, .ref S.2), (4, .ref a_2), (0, .ref o), (1, .int a0), (2, .int a1), (3, .int a2)]) hx hb dX7_shorts_69 hl (by decide) rfl (fun ls hl => ?_)
          refine lv_aload_n hx hb dX7_shorts_71 rfl (lv_at hl 2 rfl) ?_
          obtain ⟨f_16, ef_16, h⟩ := z_bd_some h
          refine g_get (ci := 7) (k := 4) (v := .ref f_16) hc hP rfl z_inX7 (by decide) wF_X7_37 (g_r_v ef_16) dX7_shorts_72 ?_
          refine lv_aload hx hb dX7_shorts_75 (lv_at hl 0 rfl) ?_
          obtain ⟨f_17, ef_17, h⟩ := z_bd_some h
          refine g_getN (ci := 1) (k := 3) (v := .ref f_17) hc hP rfl z_inX1 (by decide) wG_X7_132 (g_r_v ef_17) dX7_shorts_77 ?_
          refine lv_iload_n hx hb dX7_shorts_80 rfl (lv_at hl 4 rfl) ?_
          refine lv_iload_n hx hb dX7_shorts_81 rfl (lv_at hl 5 rfl) ?_
          obtain ⟨ho_82, h⟩ := z_chk_some h
          obtain ⟨vs_, ho_82⟩ := Option.isSome_iff_exists.mp ho_82
          obtain ⟨S_18, e_82, h⟩ := z_bd_some h
          refine g_callV (ci := 6) (As := [.ref f_17, .int a1, .int a2]) (rv := none) (n := 3) hc hP hS rfl ho_82 (mt_X6_search l D cs A S_15 f_16 f_17 a1 a2 e_82) wM_X7_136 wI_X6_search wS_X6_search wZ_X6 wC_X6_search md_X6_search ⟨rfl, rfl, Nat.le_of_ble_eq_true rfl, Nat.le_of_ble_eq_true rfl⟩ rfl hl.1 rfl (Nat.le_of_ble_eq_true rfl) dX7_shorts_82 ⟨Nat.le_of_ble_eq_true rfl, Nat.le_of_ble_eq_true rfl⟩ (fun H locs hP hS => ?_)
          show W p l e (z_rmA 4 164 8 75) s m args below meth c H locs (8) (75) Q (F0 m 85 ls [])
          refine lv_aload hx hb dX7_shorts_85 (lv_at hl 0 rfl) ?_
          obtain ⟨ho_87, h⟩ := z_chk_some h
          obtain ⟨vs_, ho_87⟩ := Option.isSome_iff_exists.mp ho_87
          obtain ⟨q_19, e_87, h⟩ := z_bd_some h
          refine g_callV (ci := 1) (As := []) (rv := (some (va_rf q_19))) (n := 0) hc hP hS rfl ho_87 (mt_X1_firstPart l D cs A S_18 S.2  e_87) wM_X7_111 wI_X1_firstPart wS_X1_firstPart wZ_X1 wC_X1_firstPart md_X1_firstPart ⟨rfl, rfl, Nat.le_of_ble_eq_true rfl, Nat.le_of_ble_eq_true rfl⟩ rfl hl.1 rfl (Nat.le_of_ble_eq_true rfl) dX7_shorts_87 ⟨Nat.le_of_ble_eq_true rfl, Nat.le_of_ble_eq_true rfl⟩ (fun H locs hP hS => ?_)
          show W p l e (z_rmA 4 164 8 75) s m args below meth c H locs (8) (75) Q (F0 m 90 ls [va_rf q_19])
          refine lv_aload_n hx hb dX7_shorts_90 rfl (lv_at hl 2 rfl) ?_
          obtain ⟨f_20, ef_20, h⟩ := z_bd_some h
          refine g_get (ci := 7) (k := 4) (v := .ref f_20) hc hP rfl z_inX7 (by decide) wF_X7_37 (g_r_v ef_20) dX7_shorts_91 ?_
          obtain ⟨f_21, ef_21, h⟩ := z_bd_some h
          refine g_getN (ci := 6) (k := 1) (v := .int f_21) hc hP rfl z_inX6 (by decide) wG_X7_140 (g_i_v ef_21) dX7_shorts_94 ?_
          refine lv_i2l (v := f_21.toInt64) hx hb dX7_shorts_97 rfl ?_
          refine lv_aload_n hx hb dX7_shorts_98 rfl (lv_at hl 2 rfl) ?_
          obtain ⟨f_22, ef_22, h⟩ := z_bd_some h
          refine g_get (ci := 7) (k := 4) (v := .ref f_22) hc hP rfl z_inX7 (by decide) wF_X7_37 (g_r_v ef_22) dX7_shorts_99 ?_
          obtain ⟨f_23, ef_23, h⟩ := z_bd_some h
          refine g_getN (ci := 6) (k := 2) (v := .int f_23) hc hP rfl z_inX6 (by decide) wG_X7_143 (g_i_v ef_23) dX7_shorts_102 ?_
          refine lv_i2l (v := f_23.toInt64) hx hb dX7_shorts_105 rfl ?_
          refine lv_lconst (v := 0) hx hb dX7_shorts_106 (by decide) ?_
          refine lv_lconst (v := 1) hx hb dX7_shorts_107 (by decide) ?_
          refine lv_iload_n hx hb dX7_shorts_108 rfl (lv_at hl 5 rfl) ?_
          refine lv_lshl (v := ((1 : Int64) <<< (a2.toInt64 &&& 63))) hx hb dX7_shorts_109 rfl ?_
          obtain ⟨a_24, ea_24, hu⟩ := z_bd_some h
          clear h
          subst ea_24
          have h := hu
          clear hu
          obtain ⟨ho_110, h⟩ := z_chk_some h
          obtain ⟨vs_, ho_110⟩ := Option.isSome_iff_exists.mp ho_110
          obtain ⟨S_25, e_110, h⟩ := z_bd_some h
          refine g_callV (ci := 4) (As := [.long f_21.toInt64, .long f_23.toInt64, .long (0 : Int64), .long ((1 : Int64) <<< (a2.toInt64 &&& 63))]) (rv := none) (n := 4) hc hP hS rfl ho_110 (mt_X4_become l D cs A S_18 a_24 f_21.toInt64 f_23.toInt64 (0 : Int64) ((1 : Int64) <<< (a2.toInt64 &&& 63)) e_110) wM_X7_115 wI_X4_become wS_X4_become wZ_X4 wC_X4_become md_X4_become ⟨rfl, rfl, Nat.le_of_ble_eq_true rfl, Nat.le_of_ble_eq_true rfl⟩ rfl hl.1 rfl (Nat.le_of_ble_eq_true rfl) dX7_shorts_110 ⟨Nat.le_of_ble_eq_true rfl, Nat.le_of_ble_eq_true rfl⟩ (fun H locs hP hS => ?_)
          show W p l e (z_rmA 4 164 8 75) s m args below meth c H locs (8) (75) Q (F0 m 113 ls [])
          refine lv_aload_n hx hb dX7_shorts_113 rfl (lv_at hl 2 rfl) ?_
          refine lv_aload hx hb dX7_shorts_114 (lv_at hl 0 rfl) ?_
          obtain ⟨ho_116, h⟩ := z_chk_some h
          obtain ⟨vs_, ho_116⟩ := Option.isSome_iff_exists.mp ho_116
          obtain ⟨r_27, S_26, e_116, h⟩ := z_bd2_some h
          refine g_callV (ci := 7) (As := [.ref S.2]) (rv := (some (.int r_27))) (n := 1) hc hP hS rfl ho_116 (mt_X7_keepFit l D cs A S_25 o S.2 e_116) wM_X7_121 wI_X7_keepFit wS_X7_keepFit wZ_X7 wC_X7_keepFit md_X7_keepFit ⟨rfl, rfl, Nat.le_of_ble_eq_true rfl, Nat.le_of_ble_eq_true rfl⟩ rfl hl.1 rfl (Nat.le_of_ble_eq_true rfl) dX7_shorts_116 ⟨Nat.le_of_ble_eq_true rfl, Nat.le_of_ble_eq_true rfl⟩ (fun H locs hP hS => ?_)
          show W p l e (z_rmA 4 164 8 75) s m args below meth c H locs (8) (75) Q (F0 m 119 ls [.int r_27])
          cases h
          rw [hQ]
          exact g_reti hc hr hlocks hP hS dX7_shorts_119
        · replace h := z_in_ c_42 h
          refine lv_aload_n hx hb dX7_shorts_45 rfl (lv_at hl 1 rfl) ?_
          refine lv_iconst (v := 2) hx hb dX7_shorts_46 (by decide) ?_
          obtain ⟨ho_47, h⟩ := z_chk_some h
          obtain ⟨vs_, ho_47⟩ := Option.isSome_iff_exists.mp ho_47
          obtain ⟨r_29, S_28, e_47, h⟩ := z_bd2_some h
          refine g_callV (ci := 7) (As := [.int (2 : Int32)]) (rv := (some (.int r_29))) (n := 1) hc hP hS rfl ho_47 (mt_X7_refuse l D cs A S o (2 : Int32) e_47) wM_X7_64 wI_X7_refuse wS_X7_refuse wZ_X7 wC_X7_refuse md_X7_refuse ⟨rfl, rfl, Nat.le_of_ble_eq_true rfl, Nat.le_of_ble_eq_true rfl⟩ rfl hl.1 rfl (Nat.le_of_ble_eq_true rfl) dX7_shorts_47 ⟨Nat.le_of_ble_eq_true rfl, Nat.le_of_ble_eq_true rfl⟩ (fun H locs hP hS => ?_)
          show W p l e (z_rmA 4 164 8 75) s m args below meth c H locs (0) (0) Q (F0 m 50 ls [.int r_29])
          cases h
          rw [hQ]
          refine W.widen (k := 8) (n := 75) (Nat.le_of_ble_eq_true rfl) (Nat.le_of_ble_eq_true rfl) ?_
          exact g_reti hc hr hlocks hP hS dX7_shorts_50
      · replace h := z_ip_ c_27 h
        refine lv_aload_n hx hb dX7_shorts_30 rfl (lv_at hl 1 rfl) ?_
        refine lv_iconst (v := 1) hx hb dX7_shorts_31 (by decide) ?_
        obtain ⟨ho_32, h⟩ := z_chk_some h
        obtain ⟨vs_, ho_32⟩ := Option.isSome_iff_exists.mp ho_32
        obtain ⟨r_31, S_30, e_32, h⟩ := z_bd2_some h
        refine g_callV (ci := 7) (As := [.int (1 : Int32)]) (rv := (some (.int r_31))) (n := 1) hc hP hS rfl ho_32 (mt_X7_refuse l D cs A S o (1 : Int32) e_32) wM_X7_64 wI_X7_refuse wS_X7_refuse wZ_X7 wC_X7_refuse md_X7_refuse ⟨rfl, rfl, Nat.le_of_ble_eq_true rfl, Nat.le_of_ble_eq_true rfl⟩ rfl hl.1 rfl (Nat.le_of_ble_eq_true rfl) dX7_shorts_32 ⟨Nat.le_of_ble_eq_true rfl, Nat.le_of_ble_eq_true rfl⟩ (fun H locs hP hS => ?_)
        show W p l e (z_rmA 4 164 8 75) s m args below meth c H locs (0) (0) Q (F0 m 35 ls [.int r_31])
        cases h
        rw [hQ]
        refine W.widen (k := 8) (n := 75) (Nat.le_of_ble_eq_true rfl) (Nat.le_of_ble_eq_true rfl) ?_
        exact g_reti hc hr hlocks hP hS dX7_shorts_35
theorem md_X7_shorts : yX7_shorts.cls ≠ "java/lang/invoke/MethodHandle" ∧ yX7_shorts.cls ≠ "java/lang/invoke/VarHandle" ∧ (parseMethodDescriptor yX7_shorts.desc).map (fun d => d.parameters.length) = some 3 := by decide +kernel
noncomputable def f_X7_drop (S : GS) (o : Nat) : Option ((Int32) × GS) :=
  z_bd (g_i S 7 6 o) fun f_1 => if 0 < f_1 then z_bd (g_i S 7 6 o) fun f_2 => z_bd (g_put S 7 6 o (.int (f_2 - (1 : Int32)))) fun S_3 => z_bd (g_r S_3 7 1 o) fun f_4 => z_bd (g_i S_3 7 6 o) fun f_5 => z_bd (g_wQ S_3 1 f_4 f_5 none) fun S_6 => z_bd (g_i S_6 7 6 o) fun f_7 => z_chk (g_is S_6 7 o) (z_bd2 (f_X7_done S_6 o f_7) fun r_9 S_8 => some (r_9, S_8)) else z_chk (g_is S 7 o) (z_bd2 (f_X7_refuse S o (3 : Int32)) fun r_11 S_10 => some (r_11, S_10))
set_option maxHeartbeats 4000000 in
set_option maxRecDepth 100000 in
theorem mt_X7_drop (l : Launch) (D : va_G) (cs : Nat → ClassId) (A : Nat → Prop) (S : GS) (o : Nat) {r_ : Int32} {N_ : GS} (h : f_X7_drop S o = some (r_, N_)) : Met l yX7_drop (z_wd yX7_drop cX7_drop 1 (some .int)) (z_rmA 1 37 0 0) (va_Pc [.ref o] (g_C D cs A S)) (g_Q (some (.int r_)) N_ D cs A) 0 0 A := by
  refine Met.ofW (cc := cX7_drop) (maxL := 1) (ret := (some .int)) (by decide) rfl ?_
  intro p e s m args below meth c s₁ B hml hv
  obtain ⟨hav, hP0, hK, hN, hSt, hAn⟩ := hv
  have hx := B.exec
  have hb := B.bytes
  have hr := B.returns
  have hts := atoms_spec (ws := z_wd yX7_drop cX7_drop 1 (some .int)) B.pre
  have hown : s.vm.findClass RX7 = some m.cls := findClass_of_methodNamed B.named
  have hlocks := B.notSynchronized
  have hc : g_X p s m args c cX7_drop 1 RX7 D cs A := ⟨⟨hx, hb, hml, fun w hw => hts w (List.mem_cons_of_mem _ hw), hown⟩, hK, hN, hSt, hAn⟩
  have hl := lv_entry ([.ref o]) (n := 1) (Nat.le_of_ble_eq_true rfl)
  have hE : entryFrame m args 1 = F0 m 0 ((lg_sl ([.ref o]) ++ List.replicate (1 - (lg_sl ([.ref o])).length) Slot.unset).toArray) [] := by rw [hav]; exact lg_entry_eq m _ _
  rw [hE]
  clear hE hav
  generalize (lg_sl ([.ref o]) ++ List.replicate (1 - (lg_sl ([.ref o])).length) Slot.unset).toArray = ls at hl ⊢
  have hl : lv_has ls 1 [(0, .ref o)] := hl
  obtain ⟨Q, hQ⟩ : ∃ Q, Q = MQ below (g_Q (some (.int r_)) N_ D cs A) args s 0 0 A := ⟨_, rfl⟩
  rw [← hQ]
  suffices hmain : ∀ (H : Heap) (locs : List Loc), g_P D cs A S H → va_S A s.heap H locs → W p l e (z_rmA 1 37 0 0) s m args below meth c H locs 0 0 Q (F0 m 0 ls []) from hmain s.heap [] hP0 va_S.rf
  clear hP0
  intro H locs hP hS
  unfold f_X7_drop at h
  refine lv_aload_n hx hb dX7_drop_0 rfl (lv_at hl 0 rfl) ?_
  obtain ⟨f_1, ef_1, h⟩ := z_bd_some h
  refine g_get (ci := 7) (k := 6) (v := .int f_1) hc hP rfl z_inX7 (by decide) wF_X7_48 (g_i_v ef_1) dX7_drop_1 ?_
  refine lv_if_gt (tgt := 13) hx hb dX7_drop_4 (by decide) (fun c_4 => ?_) (fun c_4 => ?_)
  · replace h := z_ip_ c_4 h
    refine lv_aload_n hx hb dX7_drop_13 rfl (lv_at hl 0 rfl) ?_
    refine lv_dup hx hb dX7_drop_14 rfl ?_
    obtain ⟨f_2, ef_2, h⟩ := z_bd_some h
    refine g_get (ci := 7) (k := 6) (v := .int f_2) hc hP rfl z_inX7 (by decide) wF_X7_48 (g_i_v ef_2) dX7_drop_15 ?_
    refine lv_iconst (v := 1) hx hb dX7_drop_18 (by decide) ?_
    refine lv_isub hx hb dX7_drop_19 ?_
    obtain ⟨S_3, eS_3, h⟩ := z_bd_some h
    refine g_putf (ci := 7) (k := 6) (ty := .int) tyX7 hc hP hS rfl z_inX7 tyX7_ok nmX7 (by decide) wF_X7_48 rfl (by decide +kernel) rfl rfl eS_3 dX7_drop_20 (fun H locs hP hS => ?_)
    refine lv_aload_n hx hb dX7_drop_23 rfl (lv_at hl 0 rfl) ?_
    obtain ⟨f_4, ef_4, h⟩ := z_bd_some h
    refine g_get (ci := 7) (k := 1) (v := .ref f_4) hc hP rfl z_inX7 (by decide) wF_X7_17 (g_r_v ef_4) dX7_drop_24 ?_
    refine lv_aload_n hx hb dX7_drop_27 rfl (lv_at hl 0 rfl) ?_
    obtain ⟨f_5, ef_5, h⟩ := z_bd_some h
    refine g_get (ci := 7) (k := 6) (v := .int f_5) hc hP rfl z_inX7 (by decide) wF_X7_48 (g_i_v ef_5) dX7_drop_28 ?_
    refine lv_null hx hb dX7_drop_31 ?_
    obtain ⟨S_6, eS_6, h⟩ := z_bd_some h
    refine g_aastN (t := 1) hc hP hS rfl eS_6 dX7_drop_32 (fun H locs hP hS => ?_)
    refine lv_aload_n hx hb dX7_drop_33 rfl (lv_at hl 0 rfl) ?_
    refine lv_aload_n hx hb dX7_drop_34 rfl (lv_at hl 0 rfl) ?_
    obtain ⟨f_7, ef_7, h⟩ := z_bd_some h
    refine g_get (ci := 7) (k := 6) (v := .int f_7) hc hP rfl z_inX7 (by decide) wF_X7_48 (g_i_v ef_7) dX7_drop_35 ?_
    obtain ⟨ho_38, h⟩ := z_chk_some h
    obtain ⟨vs_, ho_38⟩ := Option.isSome_iff_exists.mp ho_38
    obtain ⟨r_9, S_8, e_38, h⟩ := z_bd2_some h
    refine g_callV (ci := 7) (As := [.int f_7]) (rv := (some (.int r_9))) (n := 1) hc hP hS rfl ho_38 (mt_X7_done l D cs A S_6 o f_7 e_38) wM_X7_80 wI_X7_done wS_X7_done wZ_X7 wC_X7_done md_X7_done ⟨rfl, rfl, Nat.le_of_ble_eq_true rfl, Nat.le_of_ble_eq_true rfl⟩ rfl hl.1 rfl (Nat.le_of_ble_eq_true rfl) dX7_drop_38 ⟨Nat.le_of_ble_eq_true rfl, Nat.le_of_ble_eq_true rfl⟩ (fun H locs hP hS => ?_)
    show W p l e (z_rmA 1 37 0 0) s m args below meth c H locs (0) (0) Q (F0 m 41 ls [.int r_9])
    cases h
    rw [hQ]
    exact g_reti hc hr hlocks hP hS dX7_drop_41
  · replace h := z_in_ c_4 h
    refine lv_aload_n hx hb dX7_drop_7 rfl (lv_at hl 0 rfl) ?_
    refine lv_iconst (v := 3) hx hb dX7_drop_8 (by decide) ?_
    obtain ⟨ho_9, h⟩ := z_chk_some h
    obtain ⟨vs_, ho_9⟩ := Option.isSome_iff_exists.mp ho_9
    obtain ⟨r_11, S_10, e_9, h⟩ := z_bd2_some h
    refine g_callV (ci := 7) (As := [.int (3 : Int32)]) (rv := (some (.int r_11))) (n := 1) hc hP hS rfl ho_9 (mt_X7_refuse l D cs A S o (3 : Int32) e_9) wM_X7_64 wI_X7_refuse wS_X7_refuse wZ_X7 wC_X7_refuse md_X7_refuse ⟨rfl, rfl, Nat.le_of_ble_eq_true rfl, Nat.le_of_ble_eq_true rfl⟩ rfl hl.1 rfl (Nat.le_of_ble_eq_true rfl) dX7_drop_9 ⟨Nat.le_of_ble_eq_true rfl, Nat.le_of_ble_eq_true rfl⟩ (fun H locs hP hS => ?_)
    show W p l e (z_rmA 1 37 0 0) s m args below meth c H locs (0) (0) Q (F0 m 12 ls [.int r_11])
    cases h
    rw [hQ]
    exact g_reti hc hr hlocks hP hS dX7_drop_12
theorem md_X7_drop : yX7_drop.cls ≠ "java/lang/invoke/MethodHandle" ∧ yX7_drop.cls ≠ "java/lang/invoke/VarHandle" ∧ (parseMethodDescriptor yX7_drop.desc).map (fun d => d.parameters.length) = some 0 := by decide +kernel
noncomputable def f_X7_count (S : GS) (o : Nat) (a0 : Int32) : Option (Int32) :=
  if a0 = 0 then z_bd (g_i S 7 6 o) fun f_7 => some f_7 else if a0 = (1 : Int32) then z_bd (g_r S 7 5 o) fun f_5 => z_bd (g_i S 0 1 f_5) fun f_6 => some f_6 else z_bd (if (2 : Int32) ≤ a0 then z_chk (g_is S 7 o) (z_bd (f_X7_setAt S o (a0 - (2 : Int32))) fun q_2 => some (q_2)) else some (none)) fun v_1 => z_mt v_1 (some (-1 : Int32)) fun a_3 => z_bd (g_i S 3 3 a_3) fun f_4 => some f_4
set_option maxHeartbeats 4000000 in
set_option maxRecDepth 100000 in
theorem mt_X7_count (l : Launch) (D : va_G) (cs : Nat → ClassId) (A : Nat → Prop) (S : GS) (o : Nat) (a0 : Int32) {r_ : Int32} (h : f_X7_count S o a0 = some r_) : Met l yX7_count (z_wd yX7_count cX7_count 3 (some .int)) (z_rmA 1 37 0 0) (va_Pc [.ref o, .int a0] (g_C D cs A S)) (g_Q (some (.int r_)) S D cs A) 0 0 A := by
  refine Met.ofW (cc := cX7_count) (maxL := 3) (ret := (some .int)) (by decide) rfl ?_
  intro p e s m args below meth c s₁ B hml hv
  obtain ⟨hav, hP0, hK, hN, hSt, hAn⟩ := hv
  have hx := B.exec
  have hb := B.bytes
  have hr := B.returns
  have hts := atoms_spec (ws := z_wd yX7_count cX7_count 3 (some .int)) B.pre
  have hown : s.vm.findClass RX7 = some m.cls := findClass_of_methodNamed B.named
  have hlocks := B.notSynchronized
  have hc : g_X p s m args c cX7_count 3 RX7 D cs A := ⟨⟨hx, hb, hml, fun w hw => hts w (List.mem_cons_of_mem _ hw), hown⟩, hK, hN, hSt, hAn⟩
  have hl := lv_entry ([.ref o, .int a0]) (n := 3) (Nat.le_of_ble_eq_true rfl)
  have hE : entryFrame m args 3 = F0 m 0 ((lg_sl ([.ref o, .int a0]) ++ List.replicate (3 - (lg_sl ([.ref o, .int a0])).length) Slot.unset).toArray) [] := by rw [hav]; exact lg_entry_eq m _ _
  rw [hE]
  clear hE hav
  generalize (lg_sl ([.ref o, .int a0]) ++ List.replicate (3 - (lg_sl ([.ref o, .int a0])).length) Slot.unset).toArray = ls at hl ⊢
  have hl : lv_has ls 3 [(0, .ref o), (1, .int a0)] := hl
  obtain ⟨Q, hQ⟩ : ∃ Q, Q = MQ below (g_Q (some (.int r_)) S D cs A) args s 0 0 A := ⟨_, rfl⟩
  rw [← hQ]
  suffices hmain : ∀ (H : Heap) (locs : List Loc), g_P D cs A S H → va_S A s.heap H locs → W p l e (z_rmA 1 37 0 0) s m args below meth c H locs 0 0 Q (F0 m 0 ls []) from hmain s.heap [] hP0 va_S.rf
  clear hP0
  intro H locs hP hS
  unfold f_X7_count at h
  refine lv_iload_n hx hb dX7_count_0 rfl (lv_at hl 1 rfl) ?_
  refine lv_if_ne (tgt := 9) hx hb dX7_count_1 (by decide) (fun c_1 => ?_) (fun c_1 => ?_)
  · replace h := z_in_ c_1 h
    refine lv_iload_n hx hb dX7_count_9 rfl (lv_at hl 1 rfl) ?_
    refine lv_iconst (v := 1) hx hb dX7_count_10 (by decide) ?_
    refine lv_icmp_ne (tgt := 22) hx hb dX7_count_11 (by decide) (fun c_11 => ?_) (fun c_11 => ?_)
    · replace h := z_in_ c_11 h
      refine lv_iload_n hx hb dX7_count_22 rfl (lv_at hl 1 rfl) ?_
      refine lv_iconst (v := 2) hx hb dX7_count_23 (by decide) ?_
      obtain ⟨v_1, hJ, h⟩ := z_bd_some h
      have J_38 : ∀ (H : Heap) (locs : List Loc) (ls : Array Slot), g_P D cs A S H → va_S A s.heap H locs → lv_has ls 3 [] → W p l e (z_rmA 1 37 0 0) s m args below meth c H locs (0) (0) Q (F0 m 38 ls [va_rf v_1]) := by
        intro H locs ls hP hS hl
        refine q_astore_n (lv' := [(2, va_rf v_1)]) hx hb dX7_count_38 rfl hl (by decide) rfl (fun ls hl => ?_)
        refine q_aload_n hx hb dX7_count_39 rfl (lv_at hl 0 rfl) ?_
        rcases v_1 with _ | a_3
        · replace h := z_mt_n h
          refine lv_ifnonnullN hx hb dX7_count_40 ?_
          refine lv_iconst (v := -1) hx hb dX7_count_43 (by decide) ?_
          refine lv_goto (tgt := 51) hx hb dX7_count_44 (by decide) ?_
          cases h
          rw [hQ]
          exact g_reti hc hr hlocks hP hS dX7_count_51
        · replace h := z_mt_s h
          refine lv_ifnonnull (tgt := 47) hx hb dX7_count_40 (by decide) ?_
          refine lv_aload_n hx hb dX7_count_47 rfl (lv_at hl 0 rfl) ?_
          obtain ⟨f_4, ef_4, h⟩ := z_bd_some h
          refine g_getN (ci := 3) (k := 3) (v := .int f_4) hc hP rfl z_inX3 (by decide) wG_X7_129 (g_i_v ef_4) dX7_count_48 ?_
          cases h
          rw [hQ]
          exact g_reti hc hr hlocks hP hS dX7_count_51
      clear h
      have h := hJ
      clear hJ
      refine lv_icmp_ge (tgt := 31) hx hb dX7_count_24 (by decide) (fun c_24 => ?_) (fun c_24 => ?_)
      · replace h := z_ip_ c_24 h
        refine lv_aload_n hx hb dX7_count_31 rfl (lv_at hl 0 rfl) ?_
        refine lv_iload_n hx hb dX7_count_32 rfl (lv_at hl 1 rfl) ?_
        refine lv_iconst (v := 2) hx hb dX7_count_33 (by decide) ?_
        refine lv_isub hx hb dX7_count_34 ?_
        obtain ⟨ho_35, h⟩ := z_chk_some h
        obtain ⟨vs_, ho_35⟩ := Option.isSome_iff_exists.mp ho_35
        obtain ⟨q_2, e_35, h⟩ := z_bd_some h
        refine g_callV (ci := 7) (As := [.int (a0 - (2 : Int32))]) (rv := (some (va_rf q_2))) (n := 1) hc hP hS rfl ho_35 (mt_X7_setAt l D cs A S o (a0 - (2 : Int32)) e_35) wM_X7_56 wI_X7_setAt wS_X7_setAt wZ_X7 wC_X7_setAt md_X7_setAt ⟨rfl, rfl, Nat.le_of_ble_eq_true rfl, Nat.le_of_ble_eq_true rfl⟩ rfl hl.1 rfl (Nat.le_of_ble_eq_true rfl) dX7_count_35 ⟨Nat.le_of_ble_eq_true rfl, Nat.le_of_ble_eq_true rfl⟩ (fun H locs hP hS => ?_)
        show W p l e (z_rmA 1 37 0 0) s m args below meth c H locs (0) (0) Q (F0 m 38 ls [va_rf q_2])
        cases h
        exact J_38 H locs ls hP hS (lv_sub hl [] rfl)
      · replace h := z_in_ c_24 h
        refine lv_null hx hb dX7_count_27 ?_
        refine lv_goto (tgt := 38) hx hb dX7_count_28 (by decide) ?_
        cases h
        exact J_38 H locs ls hP hS (lv_sub hl [] rfl)
    · replace h := z_ip_ c_11 h
      refine lv_aload_n hx hb dX7_count_14 rfl (lv_at hl 0 rfl) ?_
      obtain ⟨f_5, ef_5, h⟩ := z_bd_some h
      refine g_get (ci := 7) (k := 5) (v := .ref f_5) hc hP rfl z_inX7 (by decide) wF_X7_44 (g_r_v ef_5) dX7_count_15 ?_
      obtain ⟨f_6, ef_6, h⟩ := z_bd_some h
      refine g_getN (ci := 0) (k := 1) (v := .int f_6) hc hP rfl z_inX0 (by decide) wG_X7_169 (g_i_v ef_6) dX7_count_18 ?_
      cases h
      rw [hQ]
      exact g_reti hc hr hlocks hP hS dX7_count_21
  · replace h := z_ip_ c_1 h
    refine lv_aload_n hx hb dX7_count_4 rfl (lv_at hl 0 rfl) ?_
    obtain ⟨f_7, ef_7, h⟩ := z_bd_some h
    refine g_get (ci := 7) (k := 6) (v := .int f_7) hc hP rfl z_inX7 (by decide) wF_X7_48 (g_i_v ef_7) dX7_count_5 ?_
    cases h
    rw [hQ]
    exact g_reti hc hr hlocks hP hS dX7_count_8
theorem md_X7_count : yX7_count.cls ≠ "java/lang/invoke/MethodHandle" ∧ yX7_count.cls ≠ "java/lang/invoke/VarHandle" ∧ (parseMethodDescriptor yX7_count.desc).map (fun d => d.parameters.length) = some 1 := by decide +kernel
noncomputable def f_X7_fitAt (S : GS) (o : Nat) (a0 : Int32) : Option (Option Nat) :=
  if a0 < 0 then some none else if (10 : Int32) ≤ a0 then some none else z_bd (g_r S 7 1 o) fun f_1 => z_bd (g_rQ S 1 f_1 a0) fun q_2 => some q_2
set_option maxHeartbeats 4000000 in
set_option maxRecDepth 100000 in
theorem mt_X7_fitAt (l : Launch) (D : va_G) (cs : Nat → ClassId) (A : Nat → Prop) (S : GS) (o : Nat) (a0 : Int32) {r_ : Option Nat} (h : f_X7_fitAt S o a0 = some r_) : Met l yX7_fitAt (z_wd yX7_fitAt cX7_fitAt 2 (some (.object "LevelFits$Fit"))) (z_rmA 0 0 0 0) (va_Pc [.ref o, .int a0] (g_C D cs A S)) (g_Q (some (va_rf r_)) S D cs A) 0 0 A := by
  refine Met.ofW (cc := cX7_fitAt) (maxL := 2) (ret := (some (.object "LevelFits$Fit"))) (by decide) rfl ?_
  intro p e s m args below meth c s₁ B hml hv
  obtain ⟨hav, hP0, hK, hN, hSt, hAn⟩ := hv
  have hx := B.exec
  have hb := B.bytes
  have hr := B.returns
  have hts := atoms_spec (ws := z_wd yX7_fitAt cX7_fitAt 2 (some (.object "LevelFits$Fit"))) B.pre
  have hown : s.vm.findClass RX7 = some m.cls := findClass_of_methodNamed B.named
  have hlocks := B.notSynchronized
  have hc : g_X p s m args c cX7_fitAt 2 RX7 D cs A := ⟨⟨hx, hb, hml, fun w hw => hts w (List.mem_cons_of_mem _ hw), hown⟩, hK, hN, hSt, hAn⟩
  have hl := lv_entry ([.ref o, .int a0]) (n := 2) (Nat.le_of_ble_eq_true rfl)
  have hE : entryFrame m args 2 = F0 m 0 ((lg_sl ([.ref o, .int a0]) ++ List.replicate (2 - (lg_sl ([.ref o, .int a0])).length) Slot.unset).toArray) [] := by rw [hav]; exact lg_entry_eq m _ _
  rw [hE]
  clear hE hav
  generalize (lg_sl ([.ref o, .int a0]) ++ List.replicate (2 - (lg_sl ([.ref o, .int a0])).length) Slot.unset).toArray = ls at hl ⊢
  have hl : lv_has ls 2 [(0, .ref o), (1, .int a0)] := hl
  obtain ⟨Q, hQ⟩ : ∃ Q, Q = MQ below (g_Q (some (va_rf r_)) S D cs A) args s 0 0 A := ⟨_, rfl⟩
  rw [← hQ]
  suffices hmain : ∀ (H : Heap) (locs : List Loc), g_P D cs A S H → va_S A s.heap H locs → W p l e (z_rmA 0 0 0 0) s m args below meth c H locs 0 0 Q (F0 m 0 ls []) from hmain s.heap [] hP0 va_S.rf
  clear hP0
  intro H locs hP hS
  unfold f_X7_fitAt at h
  refine lv_iload_n hx hb dX7_fitAt_0 rfl (lv_at hl 1 rfl) ?_
  refine lv_if_lt (tgt := 19) hx hb dX7_fitAt_1 (by decide) (fun c_1 => ?_) (fun c_1 => ?_)
  · replace h := z_ip_ c_1 h
    refine lv_null hx hb dX7_fitAt_19 ?_
    cases h
    rw [hQ]
    exact g_retq (r := none) hc hr hlocks hP hS dX7_fitAt_20
  · replace h := z_in_ c_1 h
    refine lv_iload_n hx hb dX7_fitAt_4 rfl (lv_at hl 1 rfl) ?_
    refine lv_bipush (v := 10) hx hb dX7_fitAt_5 (by decide) ?_
    refine lv_icmp_ge (tgt := 19) hx hb dX7_fitAt_7 (by decide) (fun c_7 => ?_) (fun c_7 => ?_)
    · replace h := z_ip_ c_7 h
      refine lv_null hx hb dX7_fitAt_19 ?_
      cases h
      rw [hQ]
      exact g_retq (r := none) hc hr hlocks hP hS dX7_fitAt_20
    · replace h := z_in_ c_7 h
      refine lv_aload_n hx hb dX7_fitAt_10 rfl (lv_at hl 0 rfl) ?_
      obtain ⟨f_1, ef_1, h⟩ := z_bd_some h
      refine g_get (ci := 7) (k := 1) (v := .ref f_1) hc hP rfl z_inX7 (by decide) wF_X7_17 (g_r_v ef_1) dX7_fitAt_11 ?_
      refine lv_iload_n hx hb dX7_fitAt_14 rfl (lv_at hl 1 rfl) ?_
      obtain ⟨q_2, eq_2, h⟩ := z_bd_some h
      refine g_aald (t := 1) hc hP rfl eq_2 dX7_fitAt_15 ?_
      refine lv_goto (tgt := 20) hx hb dX7_fitAt_16 (by decide) ?_
      cases h
      rw [hQ]
      exact g_retq hc hr hlocks hP hS dX7_fitAt_20
theorem md_X7_fitAt : yX7_fitAt.cls ≠ "java/lang/invoke/MethodHandle" ∧ yX7_fitAt.cls ≠ "java/lang/invoke/VarHandle" ∧ (parseMethodDescriptor yX7_fitAt.desc).map (fun d => d.parameters.length) = some 1 := by decide +kernel
