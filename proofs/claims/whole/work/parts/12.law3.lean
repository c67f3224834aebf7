theorem z_nF_in : ∀ q ∈ z_nF, Cond.fieldLinkNest q.1 q.2.1 q.2.2.1 q.2.2.2.1 q.2.2.2.2.1 q.2.2.2.2.2 ∈ lw_tbl := by decide +kernel
theorem z_nM_in : ∀ q ∈ z_nM, Cond.methodLinkNest q.1 q.2.1 q.2.2.1 q.2.2.2 ∈ lw_tbl := by decide +kernel
theorem z_nA_in : ∀ q ∈ z_nA, Cond.arrayOver (.object q) ∈ lw_tbl := by decide +kernel
theorem z_nC_in : Cond.castable "[I" "java/lang/Cloneable" ∈ lw_tbl := by decide +kernel
theorem z_ls1 : Cond.laysStatic "LevelFits" "KIND_ABOVE" "[I" ∈ lw_tbl := by decide +kernel
theorem z_ls2 : Cond.laysStatic "LevelFits" "BODIES" "[I" ∈ lw_tbl := by decide +kernel
theorem l_N {args : Array Value} {s : State} (hts : ∀ w ∈ lw_tbl, w.before args s = true) : g_N s := ⟨fun q hq => va_Nw.of rfl (hts _ (z_nF_in q hq)), fun q hq => va_Nw.of rfl (hts _ (z_nM_in q hq)), fun q hq => va_AO.of (hts _ (z_nA_in q hq)), va_Nw.of rfl (hts _ z_nC_in)⟩
theorem l_K {args : Array Value} {s : State} (hts : ∀ w ∈ lw_tbl, w.before args s = true) : ∃ (D : va_G) (cs : Nat → ClassId), va_K D z_cls (g_T cs) s := by
  obtain ⟨c0, i0, hK0⟩ := u_known (C := RX0) (T := TX0) (N := 2) (n := 2) hts z_inT0 (hts _ (z_big_tbl wN_X0))
  obtain ⟨c1, i1, hK1⟩ := u_known (C := RX1) (T := TX1) (N := 7) (n := 7) hts z_inT1 (hts _ (z_big_tbl wN_X1))
  obtain ⟨c2, i2, hK2⟩ := u_known (C := RX2) (T := TX2) (N := 11) (n := 11) hts z_inT2 (hts _ (z_big_tbl wN_X2))
  obtain ⟨c3, i3, hK3⟩ := u_known (C := RX3) (T := TX3) (N := 4) (n := 4) hts z_inT3 (hts _ (z_big_tbl wN_X3))
  obtain ⟨c4, i4, hK4⟩ := u_known (C := RX4) (T := TX4) (N := 4) (n := 4) hts z_inT4 (hts _ (z_big_tbl wN_X4))
  obtain ⟨c5, i5, hK5⟩ := u_known (C := RX5) (T := TX5) (N := 2) (n := 2) hts z_inT5 (hts _ (z_big_tbl wN_X5))
  obtain ⟨c6, i6, hK6⟩ := u_known (C := RX6) (T := TX6) (N := 3) (n := 3) hts z_inT6 (hts _ (z_big_tbl wN_X6))
  obtain ⟨c7, i7, hK7⟩ := u_known (C := RX7) (T := TX7) (N := 8) (n := 8) hts z_inT7 (hts _ (z_big_tbl wN_X7))
  obtain ⟨c8, i8, hK8⟩ := u_known (C := RX8) (T := TX8) (N := 35) (n := 35) hts z_inT8 (hts _ (z_big_tbl wN_X8))
  obtain ⟨cI, kI, coI, a1, a2, a3⟩ := Cond.arrayClass_spec (hts _ (z_big_tbl wY_int))
  obtain ⟨cJ, kJ, coJ, b1, b2, b3⟩ := Cond.arrayClass_spec (hts _ (z_big_tbl wY_long))
  obtain ⟨mP, cP, kP, p1, p2, p3, p4, p5⟩ := Cond.arrayOver_spec (hts _ (z_nA_in _ wA_Points))
  obtain ⟨mF, cF, kF, f1, f2, f3, f4, f5⟩ := Cond.arrayOver_spec (hts _ (z_nA_in _ wA_Fit))
  obtain ⟨mS, cS, kS, s1, s2, s3, s4, s5⟩ := Cond.arrayOver_spec (hts _ (z_nA_in _ wA_Sheet))
  obtain ⟨mO, cO, kO, o1, o2, o3, o4, o5⟩ := Cond.arrayOver_spec (hts _ (z_nA_in _ wA_Polynomial))
  refine ⟨(fun k => [c0, c1, c2, c3, c4, c5, c6, c7, c8].getD k c0, fun k => [i0, i1, i2, i3, i4, i5, i6, i7, i8].getD k i0), fun k => [cI, cJ, cP, cF, cS, cO].getD k cI, ?_, ?_⟩
  · intro k q hq
    match k, hq with
    | 0, hq => cases hq; exact hK0
    | 1, hq => cases hq; exact hK1
    | 2, hq => cases hq; exact hK2
    | 3, hq => cases hq; exact hK3
    | 4, hq => cases hq; exact hK4
    | 5, hq => cases hq; exact hK5
    | 6, hq => cases hq; exact hK6
    | 7, hq => cases hq; exact hK7
    | 8, hq => cases hq; exact hK8
    | k + 9, hq => simp [z_cls] at hq
  · intro k q hq
    match k, hq with
    | 0, hq => cases hq; exact ⟨fun n z => ⟨(fun k h => by cases h), kI, a2, coI, a3⟩, a1⟩
    | 1, hq => cases hq; exact ⟨fun n z => ⟨(fun k h => by cases h), kJ, b2, coJ, b3⟩, b1⟩
    | 2, hq => cases hq; exact ⟨fun n z => ⟨(fun k h => by cases h), kP, p3, mP, p4⟩, kP, mP, p3, p4, p1, p5⟩
    | 3, hq => cases hq; exact ⟨fun n z => ⟨(fun k h => by cases h), kF, f3, mF, f4⟩, kF, mF, f3, f4, f1, f5⟩
    | 4, hq => cases hq; exact ⟨fun n z => ⟨(fun k h => by cases h), kS, s3, mS, s4⟩, kS, mS, s3, s4, s1, s5⟩
    | 5, hq => cases hq; exact ⟨fun n z => ⟨(fun k h => by cases h), kO, o3, mO, o4⟩, kO, mO, o3, o4, o1, o5⟩
    | k + 6, hq => simp [g_T] at hq
theorem l_St {args : Array Value} {s : State} (hts : ∀ w ∈ lw_tbl, w.before args s = true) (hgv : (Jvm.Cond.and given_1 narrow_1).before args s = true) : g_St (l_A0 s) s s.heap := by
  have hs := flat_of_before _ hgv
  have hA : ∀ a : Nat, a < s.heap.size → ¬ l_A0 s a := fun a ha => Nat.not_le.mpr ha
  obtain ⟨t_KIND_ABOVE, e_KIND_ABOVE, T_KIND_ABOVE⟩ := va_Tof (args := args) (s := s) (tm := .static "LevelFits" "KIND_ABOVE" "[I") (ty := .int) (N := 5) (f := fun j => .int (z_ka j)) (A := l_A0 s) (by decide) (hs _ (by decide +kernel)) (va_eqt (z := 5) (hs _ (by decide +kernel))) (fun j hj => by
    rcases (show j = 0 ∨ j = 1 ∨ j = 2 ∨ j = 3 ∨ j = 4 by omega) with rfl | rfl | rfl | rfl | rfl
    · exact va_eqt (z := -1) (hs (.eq (.elem (.static "LevelFits" "KIND_ABOVE" "[I") (.int 0)) (.int (-1))) (by decide +kernel))
    · exact va_eqt (z := 0) (hs (.eq (.elem (.static "LevelFits" "KIND_ABOVE" "[I") (.int 1)) (.int 0)) (by decide +kernel))
    · exact va_eqt (z := 1) (hs (.eq (.elem (.static "LevelFits" "KIND_ABOVE" "[I") (.int 2)) (.int 1)) (by decide +kernel))
    · exact va_eqt (z := 0) (hs (.eq (.elem (.static "LevelFits" "KIND_ABOVE" "[I") (.int 3)) (.int 0)) (by decide +kernel))
    · exact va_eqt (z := 1) (hs (.eq (.elem (.static "LevelFits" "KIND_ABOVE" "[I") (.int 4)) (.int 1)) (by decide +kernel))) hA
  obtain ⟨t_BODIES, e_BODIES, T_BODIES⟩ := va_Tof (args := args) (s := s) (tm := .static "LevelFits" "BODIES" "[I") (ty := .int) (N := 20) (f := fun j => .int (z_bo j)) (A := l_A0 s) (by decide) (hs _ (by decide +kernel)) (va_eqt (z := 20) (hs _ (by decide +kernel))) (fun j hj => by
    rcases (show j = 0 ∨ j = 1 ∨ j = 2 ∨ j = 3 ∨ j = 4 ∨ j = 5 ∨ j = 6 ∨ j = 7 ∨ j = 8 ∨ j = 9 ∨ j = 10 ∨ j = 11 ∨ j = 12 ∨ j = 13 ∨ j = 14 ∨ j = 15 ∨ j = 16 ∨ j = 17 ∨ j = 18 ∨ j = 19 by omega) with rfl | rfl | rfl | rfl | rfl | rfl | rfl | rfl | rfl | rfl | rfl | rfl | rfl | rfl | rfl | rfl | rfl | rfl | rfl | rfl
    · exact va_eqt (z := 10) (hs (.eq (.elem (.static "LevelFits" "BODIES" "[I") (.int 0)) (.int 10)) (by decide +kernel))
    · exact va_eqt (z := 11) (hs (.eq (.elem (.static "LevelFits" "BODIES" "[I") (.int 1)) (.int 11)) (by decide +kernel))
    · exact va_eqt (z := 12) (hs (.eq (.elem (.static "LevelFits" "BODIES" "[I") (.int 2)) (.int 12)) (by decide +kernel))
    · exact va_eqt (z := 13) (hs (.eq (.elem (.static "LevelFits" "BODIES" "[I") (.int 3)) (.int 13)) (by decide +kernel))
    · exact va_eqt (z := 20) (hs (.eq (.elem (.static "LevelFits" "BODIES" "[I") (.int 4)) (.int 20)) (by decide +kernel))
    · exact va_eqt (z := 0) (hs (.eq (.elem (.static "LevelFits" "BODIES" "[I") (.int 5)) (.int 0)) (by decide +kernel))
    · exact va_eqt (z := 21) (hs (.eq (.elem (.static "LevelFits" "BODIES" "[I") (.int 6)) (.int 21)) (by decide +kernel))
    · exact va_eqt (z := 0) (hs (.eq (.elem (.static "LevelFits" "BODIES" "[I") (.int 7)) (.int 0)) (by decide +kernel))
    · exact va_eqt (z := 0) (hs (.eq (.elem (.static "LevelFits" "BODIES" "[I") (.int 8)) (.int 0)) (by decide +kernel))
    · exact va_eqt (z := 30) (hs (.eq (.elem (.static "LevelFits" "BODIES" "[I") (.int 9)) (.int 30)) (by decide +kernel))
    · exact va_eqt (z := 0) (hs (.eq (.elem (.static "LevelFits" "BODIES" "[I") (.int 10)) (.int 0)) (by decide +kernel))
    · exact va_eqt (z := 31) (hs (.eq (.elem (.static "LevelFits" "BODIES" "[I") (.int 11)) (.int 31)) (by decide +kernel))
    · exact va_eqt (z := 0) (hs (.eq (.elem (.static "LevelFits" "BODIES" "[I") (.int 12)) (.int 0)) (by decide +kernel))
    · exact va_eqt (z := 0) (hs (.eq (.elem (.static "LevelFits" "BODIES" "[I") (.int 13)) (.int 0)) (by decide +kernel))
    · exact va_eqt (z := 40) (hs (.eq (.elem (.static "LevelFits" "BODIES" "[I") (.int 14)) (.int 40)) (by decide +kernel))
    · exact va_eqt (z := 0) (hs (.eq (.elem (.static "LevelFits" "BODIES" "[I") (.int 15)) (.int 0)) (by decide +kernel))
    · exact va_eqt (z := 50) (hs (.eq (.elem (.static "LevelFits" "BODIES" "[I") (.int 16)) (.int 50)) (by decide +kernel))
    · exact va_eqt (z := 51) (hs (.eq (.elem (.static "LevelFits" "BODIES" "[I") (.int 17)) (.int 51)) (by decide +kernel))
    · exact va_eqt (z := 0) (hs (.eq (.elem (.static "LevelFits" "BODIES" "[I") (.int 18)) (.int 0)) (by decide +kernel))
    · exact va_eqt (z := 0) (hs (.eq (.elem (.static "LevelFits" "BODIES" "[I") (.int 19)) (.int 0)) (by decide +kernel))) hA
  exact ⟨⟨t_KIND_ABOVE, va_Zof (hts _ z_ls1) (hts _ (z_big_tbl wZ_X7)) e_KIND_ABOVE hA, T_KIND_ABOVE⟩, ⟨t_BODIES, va_Zof (hts _ z_ls2) (hts _ (z_big_tbl wZ_X7)) e_BODIES hA, T_BODIES⟩⟩
set_option maxHeartbeats 4000000 in
set_option maxRecDepth 100000 in
/-- the law from its entry, out of what is said of the pure functions alone -/
theorem whole_open (hGI : ∀ base : Nat, ∃ Inv : GS → MS → Prop, z_Good Inv base ∧ z_Init Inv base) {p : Program} {e : Env} {s : State} {m : MethodId} {below : List Frame} {meth : Method} {c : Code} (l : Launch) {b L : Nat} {xs : Nat → Int32} (hL : L ≤ 3072) (C0 : lw_At p s m meth c b L xs) : W p l e room_1 s m #[Value.ref b] below meth c s.heap [] 0 0 (lw_Z below #[Value.ref b] s) (entryFrame m ([Value.ref b] : List Value).toArray 4) := by
  obtain ⟨hx, hb, hr, hml, hown, hts, hX, hbl, hlocks, hgv⟩ := id C0
  obtain ⟨D, cs, hK⟩ := l_K hts
  have hN := l_N hts
  have hSt := l_St hts hgv
  have hsx : s_X p s m #[Value.ref b] c code 4 RL := ⟨hx, hb, hml, fun w hw => hts w (z_big_tbl hw), hown⟩
  have hcx : g_X p s m #[Value.ref b] c code 4 RL D cs (l_A0 s) := ⟨hsx, hK, hN, hSt, fun q h => h⟩
  have hc : l_X p s m meth c b L xs D cs := ⟨hsx, hK, hN, hSt, hX, hbl, hr, hlocks⟩
  obtain ⟨Inv, hGood, S2, S4, M0, h7, h8, hle, hcells, hInv⟩ := hGI s.heap.size
  have hP : g_P D cs (l_A0 s) (fun _ => none, s.heap.size) s.heap := ⟨rfl, fun a x h => by cases h⟩
  have hS : va_S (l_A0 s) s.heap s.heap [] := va_S.rf
  have hl := lv_entry ([.ref b]) (n := 4) (Nat.le_of_ble_eq_true rfl)
  rw [lg_entry_eq]
  generalize (lg_sl ([.ref b]) ++ List.replicate (4 - (lg_sl ([.ref b])).length) Slot.unset).toArray = ls at hl ⊢
  have hl : lv_has ls 4 [(0, .ref b)] := hl
  refine g_new (ci := 7) tyX7 hcx hP hS rfl z_inX7 tyX7_ok wK_L_7 wN_X7 wZ_X7 gd_7 (Nat.le_of_ble_eq_true rfl) (Nat.le_of_ble_eq_true rfl) rfl dL_law_0 (fun H hP hS => ?_)
  show W p l e room_1 s m #[Value.ref b] below meth c H [] 1 8 (lw_Z below #[Value.ref b] s) (F0 m 3 ls [.ref s.heap.size])
  refine lv_dup hx hb dL_law_3 rfl ?_
  refine g_callI (As := []) (rv := none) (n := 0) hcx hP hS (mt_X7_init l D cs (l_A0 s) _ s.heap.size h7) wM_L_9 wI_X7_init rfl wZ_X7 wC_X7_init md_X7_init ⟨rfl, rfl, Nat.le_of_ble_eq_true rfl, Nat.le_of_ble_eq_true rfl⟩ rfl hl.1 rfl (Nat.le_of_ble_eq_true rfl) dL_law_4 ⟨Nat.le_of_ble_eq_true rfl, Nat.le_of_ble_eq_true rfl⟩ (fun H locs hP hS => ?_)
  show W p l e room_1 s m #[Value.ref b] below meth c H locs 41 400 (lw_Z below #[Value.ref b] s) (F0 m 7 ls [.ref s.heap.size])
  refine lv_astore_n (lv' := [(1, .ref s.heap.size), (0, .ref b)]) hx hb dL_law_7 rfl hl (by decide) rfl (fun ls hl => ?_)
  refine g_new (ci := 8) tyX8 hcx hP hS rfl z_inX8 tyX8_ok wK_L_10 wN_X8 wZ_X8 gd_8 (Nat.le_of_ble_eq_true rfl) (Nat.le_of_ble_eq_true rfl) rfl dL_law_8 (fun H hP hS => ?_)
  show W p l e room_1 s m #[Value.ref b] below meth c H locs 42 435 (lw_Z below #[Value.ref b] s) (F0 m 11 ls [.ref S2.2])
  refine lv_dup hx hb dL_law_11 rfl ?_
  refine g_callI (As := []) (rv := none) (n := 0) hcx hP hS (mt_X8_init l D cs (l_A0 s) _ S2.2 h8) wM_L_12 wI_X8_init rfl wZ_X8 wC_X8_init md_X8_init ⟨rfl, rfl, Nat.le_of_ble_eq_true rfl, Nat.le_of_ble_eq_true rfl⟩ rfl hl.1 rfl (Nat.le_of_ble_eq_true rfl) dL_law_12 ⟨Nat.le_of_ble_eq_true rfl, Nat.le_of_ble_eq_true rfl⟩ (fun H locs hP hS => ?_)
  show W p l e room_1 s m #[Value.ref b] below meth c H locs 68 2175 (lw_Z below #[Value.ref b] s) (F0 m 15 ls [.ref S2.2])
  refine lv_astore_n (lv' := [(2, .ref S2.2), (1, .ref s.heap.size), (0, .ref b)]) hx hb dL_law_15 rfl hl (by decide) rfl (fun ls hl => ?_)
  refine lv_iconst (v := 0) hx hb dL_law_16 (by decide) ?_
  refine lv_istore_n (lv' := [(3, .int 0), (2, .ref S2.2), (1, .ref s.heap.size), (0, .ref b)]) hx hb dL_law_17 rfl hl (by decide) rfl (fun ls hl => ?_)
  have hw : l_W D cs s S2.2 (fun a => if S2.2 ≤ a ∧ a < S2.2 + 27 then none else S4.1 a, S4.2) M0 H locs := by
    refine ⟨⟨hP.1, fun a x ha => ?_⟩, m_PE_P hP hcells, hS, hle⟩
    have ha : (if S2.2 ≤ a ∧ a < S2.2 + 27 then none else S4.1 a) = some x := ha
    by_cases hq : S2.2 ≤ a ∧ a < S2.2 + 27
    · rw [if_pos hq] at ha; cases ha
    · rw [if_neg hq] at ha
      exact ⟨(hP.2 a x ha).1, (hP.2 a x ha).2, hq⟩
  exact l_loop hc hL hGood 513 0 0 _ M0 nI_0.symm (by omega) (by omega) hInv H locs ls hw (lv_sub hl [3, 2, 1, 0] rfl)
