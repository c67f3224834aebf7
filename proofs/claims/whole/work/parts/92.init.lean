/-! the constructors -/
theorem n_one {S1 : GS} {c : Nat} {x : PE} (hc : S1.2 = c + 1) (h0 : S1.1 c = some x) : New S1 c [x] S1 := ⟨hc, fun j y hj => by
  match j, hj with
  | 0, hj => cases hj; exact h0, fun _ _ => rfl⟩
theorem New.app {S S1 S2 : GS} {a : Nat} {L L' : List PE} {x : PE} (h : New S a (L ++ [x]) S1) (h' : New S1 (a + L.length) L' S2) : New S a (L ++ L') S2 := by
  refine ⟨by rw [h'.1, List.length_append]; omega, fun j y hj => ?_, fun b hb => (h'.2.2 b (by omega)).trans (h.2.2 b hb)⟩
  by_cases z : j < L.length
  · rw [List.getElem?_append_left z] at hj
    rw [h'.2.2 _ (by omega)]
    refine h.at j y ?_
    rw [List.getElem?_append_left z]
    exact hj
  · rw [List.getElem?_append_right (by omega)] at hj
    have := h'.at _ y hj
    rwa [show a + L.length + (j - L.length) = a + j by omega] at this
section IN
variable {S T : GS} {c ci : Nat} {fs : List Value} {A : List PE}
theorem n_fld (h : New S c (e_o ci fs :: A) T) (k : Nat) (v : Value) (fs' : List Value) (hk : k < fs.length) (hf : fs.set k v = fs') : ∃ T', g_put T ci k c v = some T' ∧ New S c (e_o ci fs' :: A) T' := by
  subst hf
  exact ⟨_, g_put_e v (h.at 0 _ rfl) hk, h.up 0 _⟩
theorem n_pair (h : New S c (e_o ci fs :: A) T) (k i : Nat) (x : PE) (fs' : List Value) (A' : List PE) (hi : A.length + 1 = i) (hk : k < fs.length) (hf : fs.set k (.ref (c + i)) = fs') (hA : A ++ [x] = A') : ∃ T', T.2 = c + i ∧ g_put (g_nw T x) ci k c (.ref (c + i)) = some T' ∧ New S c (e_o ci fs' :: A') T' := by
  subst hf; subst hA; subst hi
  have h1 : New S c (e_o ci fs :: (A ++ [x])) (g_nw T x) := h.nw x
  exact ⟨_, h.1, g_put_e _ (h1.at 0 _ rfl) hk, h1.up 0 _⟩
theorem n_obj (h : New S c (e_o ci fs :: A) T) (i : Nat) (x : PE) (hi : A.length + 1 = i) : ∃ T', g_nw T x = T' ∧ T.2 = c + i ∧ New S c (e_o ci fs :: (A ++ [x])) T' ∧ T'.2 = c + i + 1 ∧ T'.1 (c + i) = some x := by
  subst hi
  refine ⟨_, rfl, h.1, h.nw x, by show T.2 + 1 = _; rw [h.1]; rfl, ?_⟩
  rw [show c + (A.length + 1) = T.2 from h.1.symm]
  exact g_nw_s _ _
theorem n_app {T2 : GS} {x : PE} {L' : List PE} (h : New S c (e_o ci fs :: (A ++ [x])) T) (i : Nat) (hi : A.length + 1 = i) (h' : New T (c + i) L' T2) (A' : List PE) (hA : A ++ L' = A') : New S c (e_o ci fs :: A') T2 := by
  subst hA; subst hi
  exact New.app (L := e_o ci fs :: A) h h'
end IN
abbrev zI (n : Nat) : PE := .inl (n, fun _ => 0)
abbrev zJ (n : Nat) : PE := .inr (.inl (n, fun _ => 0))
theorem i_pol {S1 : GS} {c : Nat} (hc : S1.2 = c + 1) (h0 : S1.1 c = some (e_o 4 [.long 0, .long 0, .long 0, .long 0])) : ∃ S2, f_X4_init S1 c = some S2 ∧ New S1 c [lvP 0 0 0 1] S2 := by
  have m0 := n_one hc h0
  obtain ⟨T1, e1, m1⟩ := n_fld m0 0 (.long 0) [.long 0, .long 0, .long 0, .long 0] (Nat.le_of_ble_eq_true rfl) rfl
  obtain ⟨T2, e2, m2⟩ := n_fld m1 1 (.long 0) [.long 0, .long 0, .long 0, .long 0] (Nat.le_of_ble_eq_true rfl) rfl
  obtain ⟨T3, e3, m3⟩ := n_fld m2 2 (.long 0) [.long 0, .long 0, .long 0, .long 0] (Nat.le_of_ble_eq_true rfl) rfl
  obtain ⟨T4, e4, m4⟩ := n_fld m3 3 (.long 1) [.long 0, .long 0, .long 0, .long 1] (Nat.le_of_ble_eq_true rfl) rfl
  refine ⟨T4, ?_, m4⟩
  unfold f_X4_init
  rw [e1, z_bd_s, e2, z_bd_s, e3, z_bd_s, e4, z_bd_s]
theorem i_lev {S1 : GS} {c : Nat} (hc : S1.2 = c + 1) (h0 : S1.1 c = some (e_o 2 [.null, .null, .null, .null, .null, .null, .null, .null, .int 0, .int 0, .int 0])) : ∃ S2, f_X2_init S1 c = some S2 ∧ New S1 c [lvO c 0 1 0, zJ 12, zJ 12, zJ 12, zI 4, zJ 4, zJ 3, zJ 3, lvP 0 0 0 1] S2 := by
  have m0 := n_one hc h0
  obtain ⟨T1, s1, e1, m1⟩ := n_pair m0 0 1 (zJ 12) [.ref (c + 1), .null, .null, .null, .null, .null, .null, .null, .int 0, .int 0, .int 0] [zJ 12] rfl (Nat.le_of_ble_eq_true rfl) rfl rfl
  obtain ⟨T2, s2, e2, m2⟩ := n_pair m1 1 2 (zJ 12) [.ref (c + 1), .ref (c + 2), .null, .null, .null, .null, .null, .null, .int 0, .int 0, .int 0] [zJ 12, zJ 12] rfl (Nat.le_of_ble_eq_true rfl) rfl rfl
  obtain ⟨T3, s3, e3, m3⟩ := n_pair m2 2 3 (zJ 12) [.ref (c + 1), .ref (c + 2), .ref (c + 3), .null, .null, .null, .null, .null, .int 0, .int 0, .int 0] [zJ 12, zJ 12, zJ 12] rfl (Nat.le_of_ble_eq_true rfl) rfl rfl
  obtain ⟨T4, s4, e4, m4⟩ := n_pair m3 3 4 (zI 4) [.ref (c + 1), .ref (c + 2), .ref (c + 3), .ref (c + 4), .null, .null, .null, .null, .int 0, .int 0, .int 0] [zJ 12, zJ 12, zJ 12, zI 4] rfl (Nat.le_of_ble_eq_true rfl) rfl rfl
  obtain ⟨T5, s5, e5, m5⟩ := n_pair m4 4 5 (zJ 4) [.ref (c + 1), .ref (c + 2), .ref (c + 3), .ref (c + 4), .ref (c + 5), .null, .null, .null, .int 0, .int 0, .int 0] [zJ 12, zJ 12, zJ 12, zI 4, zJ 4] rfl (Nat.le_of_ble_eq_true rfl) rfl rfl
  obtain ⟨T6, s6, e6, m6⟩ := n_pair m5 5 6 (zJ 3) [.ref (c + 1), .ref (c + 2), .ref (c + 3), .ref (c + 4), .ref (c + 5), .ref (c + 6), .null, .null, .int 0, .int 0, .int 0] [zJ 12, zJ 12, zJ 12, zI 4, zJ 4, zJ 3] rfl (Nat.le_of_ble_eq_true rfl) rfl rfl
  obtain ⟨T7, s7, e7, m7⟩ := n_pair m6 6 7 (zJ 3) [.ref (c + 1), .ref (c + 2), .ref (c + 3), .ref (c + 4), .ref (c + 5), .ref (c + 6), .ref (c + 7), .null, .int 0, .int 0, .int 0] [zJ 12, zJ 12, zJ 12, zI 4, zJ 4, zJ 3, zJ 3] rfl (Nat.le_of_ble_eq_true rfl) rfl rfl
  obtain ⟨T8, e8, s8, m8, p8, q8⟩ := n_obj m7 8 (.inr (.inr (.inr (4, [.long 0, .long 0, .long 0, .long 0])))) rfl
  obtain ⟨T9, e9, n9⟩ := i_pol p8 q8
  have m9 := n_app m8 8 rfl n9 [zJ 12, zJ 12, zJ 12, zI 4, zJ 4, zJ 3, zJ 3, lvP 0 0 0 1] rfl
  obtain ⟨T10, e10, m10⟩ := n_fld m9 7 (.ref (c + 8)) [.ref (c + 1), .ref (c + 2), .ref (c + 3), .ref (c + 4), .ref (c + 5), .ref (c + 6), .ref (c + 7), .ref (c + 8), .int 0, .int 0, .int 0] (Nat.le_of_ble_eq_true rfl) rfl
  obtain ⟨T11, e11, m11⟩ := n_fld m10 8 (.int 0) [.ref (c + 1), .ref (c + 2), .ref (c + 3), .ref (c + 4), .ref (c + 5), .ref (c + 6), .ref (c + 7), .ref (c + 8), .int 0, .int 0, .int 0] (Nat.le_of_ble_eq_true rfl) rfl
  obtain ⟨T12, e12, m12⟩ := n_fld m11 9 (.int 1) [.ref (c + 1), .ref (c + 2), .ref (c + 3), .ref (c + 4), .ref (c + 5), .ref (c + 6), .ref (c + 7), .ref (c + 8), .int 0, .int 1, .int 0] (Nat.le_of_ble_eq_true rfl) rfl
  obtain ⟨T13, e13, m13⟩ := n_fld m12 10 (.int 0) [.ref (c + 1), .ref (c + 2), .ref (c + 3), .ref (c + 4), .ref (c + 5), .ref (c + 6), .ref (c + 7), .ref (c + 8), .int 0, .int 1, .int 0] (Nat.le_of_ble_eq_true rfl) rfl
  refine ⟨T13, ?_, m13⟩
  unfold f_X2_init
  rw [z_lt_e, s1, e1, z_bd_s, z_lt_e, s2, e2, z_bd_s, z_lt_e, s3, e3, z_bd_s, z_lt_e, s4, e4, z_bd_s, z_lt_e, s5, e5, z_bd_s, z_lt_e, s6, e6, z_bd_s, z_lt_e, s7, e7, z_bd_s, z_lt_e, e8, s8, e9, z_bd_s, e10, z_bd_s, e11, z_bd_s, e12, z_bd_s, e13, z_bd_s]
theorem i_ss {S1 : GS} {c : Nat} (hc : S1.2 = c + 1) (h0 : S1.1 c = some (e_o 6 [.null, .int 0, .int 0])) : ∃ S2, f_X6_init S1 c = some S2 ∧ New S1 c [e_o 6 [.ref (c + 1), .int 0, .int 0], zI 12] S2 := by
  have m0 := n_one hc h0
  obtain ⟨T1, s1, e1, m1⟩ := n_pair m0 0 1 (zI 12) [.ref (c + 1), .int 0, .int 0] [zI 12] rfl (Nat.le_of_ble_eq_true rfl) rfl rfl
  obtain ⟨T2, e2, m2⟩ := n_fld m1 1 (.int 0) [.ref (c + 1), .int 0, .int 0] (Nat.le_of_ble_eq_true rfl) rfl
  obtain ⟨T3, e3, m3⟩ := n_fld m2 2 (.int 0) [.ref (c + 1), .int 0, .int 0] (Nat.le_of_ble_eq_true rfl) rfl
  refine ⟨T3, ?_, m3⟩
  unfold f_X6_init
  rw [z_lt_e, s1, e1, z_bd_s, e2, z_bd_s, e3, z_bd_s]
theorem i_act {S1 : GS} {c : Nat} (hc : S1.2 = c + 1) (h0 : S1.1 c = some (e_o 0 [.null, .int 0])) : ∃ S2, f_X0_init S1 c = some S2 ∧ New S1 c [e_o 0 [.ref (c + 1), .int 0], zI 50] S2 := by
  have m0 := n_one hc h0
  obtain ⟨T1, s1, e1, m1⟩ := n_pair m0 0 1 (zI 50) [.ref (c + 1), .int 0] [zI 50] rfl (Nat.le_of_ble_eq_true rfl) rfl rfl
  obtain ⟨T2, e2, m2⟩ := n_fld m1 1 (.int 0) [.ref (c + 1), .int 0] (Nat.le_of_ble_eq_true rfl) rfl
  refine ⟨T2, ?_, m2⟩
  unfold f_X0_init
  rw [z_lt_e, s1, e1, z_bd_s, e2, z_bd_s]
theorem i_pts {S1 : GS} {c : Nat} (hc : S1.2 = c + 1) (h0 : S1.1 c = some (e_o 3 [.null, .null, .null, .int 0])) : ∃ S2, f_X3_init S1 c = some S2 ∧ New S1 c [poL c 0, zI 12, zI 12, zI 12] S2 := by
  have m0 := n_one hc h0
  obtain ⟨T1, s1, e1, m1⟩ := n_pair m0 0 1 (zI 12) [.ref (c + 1), .null, .null, .int 0] [zI 12] rfl (Nat.le_of_ble_eq_true rfl) rfl rfl
  obtain ⟨T2, s2, e2, m2⟩ := n_pair m1 1 2 (zI 12) [.ref (c + 1), .ref (c + 2), .null, .int 0] [zI 12, zI 12] rfl (Nat.le_of_ble_eq_true rfl) rfl rfl
  obtain ⟨T3, s3, e3, m3⟩ := n_pair m2 2 3 (zI 12) [.ref (c + 1), .ref (c + 2), .ref (c + 3), .int 0] [zI 12, zI 12, zI 12] rfl (Nat.le_of_ble_eq_true rfl) rfl rfl
  obtain ⟨T4, e4, m4⟩ := n_fld m3 3 (.int 0) [.ref (c + 1), .ref (c + 2), .ref (c + 3), .int 0] (Nat.le_of_ble_eq_true rfl) rfl
  refine ⟨T4, ?_, m4⟩
  unfold f_X3_init
  rw [z_lt_e, s1, e1, z_bd_s, z_lt_e, s2, e2, z_bd_s, z_lt_e, s3, e3, z_bd_s, e4, z_bd_s]
theorem i_loop {o : Nat} : ∀ (j k : Nat) (T : GS) (f : Nat → Option Nat), k + j = 6 → TopAt T o 0 0 → T.1 (o + 1) = some (e_q 0 6 f) → (∀ s, s < k → f s = some (o + 17 + 4 * s)) → (∀ s, s < k → PtsAt T (o + 17 + 4 * s) 0 (fun _ => 0) (fun _ => 0) (fun _ => 0)) → T.2 = o + 17 + 4 * k → ∃ T' f', z_lp (fun x => f_X7_init_L75 o x.1 x.2) (nI k, T) = some T' ∧ T'.2 = o + 41 ∧ T'.1 (o + 1) = some (e_q 0 6 f') ∧ (∀ s, s < 6 → f' s = some (o + 17 + 4 * s)) ∧ (∀ s, s < 6 → PtsAt T' (o + 17 + 4 * s) 0 (fun _ => 0) (fun _ => 0) (fun _ => 0)) ∧ ∀ b, b ≠ o + 1 → b < o + 17 → T'.1 b = T.1 b := by
  intro j
  induction j with
  | zero =>
    intro k T f h1 h2 h3 h4 h5 h6
    have e : k = 6 := by omega
    subst e
    refine ⟨T, f, z_lp_x ?_, by omega, h3, h4, h5, fun _ _ _ => rfl⟩
    show f_X7_init_L75 o (nI 6) T = _
    unfold f_X7_init_L75
    rw [if_pos (by decide)]
  | succ j ih =>
    intro k T f h1 h2 h3 h4 h5 h6
    obtain ⟨T1, hT1⟩ : ∃ z, z = g_nw T (.inr (.inr (.inr (3, [.null, .null, .null, .int 0])))) := ⟨_, rfl⟩
    have a1 : T1.2 = T.2 + 1 := by rw [hT1]; rfl
    have a2 : T1.1 T.2 = some (e_o 3 [.null, .null, .null, .int 0]) := by rw [hT1]; exact g_nw_s _ _
    have a3 : ∀ b, b < T.2 → T1.1 b = T.1 b := fun b hb => by rw [hT1]; exact g_nw_n _ (by omega)
    obtain ⟨T2, b1, b2⟩ := i_pts a1 a2
    have b3 : T2.2 = T.2 + 4 := b2.1
    have b4 : ∀ b, b < T.2 → T2.1 b = T.1 b := fun b hb => (b2.2.2 b hb).trans (a3 b hb)
    have q0 : T2.1 (o + 1) = some (e_q 0 6 f) := (b4 _ (by omega)).trans h3
    have q6 : z_in (nI k) 6 := by rw [n_in (by omega)]; omega
    have e3 : g_wQ T2 0 (o + 1) (nI k) (some T.2) = some (g_up T2 (o + 1) (e_q 0 6 (va_up f k (some T.2)))) := by rw [g_wQ_e _ q0 q6, n_cl (by omega)]
    obtain ⟨T3, hT3⟩ : ∃ z, z = g_up T2 (o + 1) (e_q 0 6 (va_up f k (some T.2))) := ⟨_, rfl⟩
    rw [← hT3] at e3
    have c1 : ∀ b, b ≠ o + 1 → T3.1 b = T2.1 b := fun b hb => by rw [hT3, g_up_n _ hb]
    have hd : f_X7_init_L75 o (nI k) T = some (.inr (nI (k + 1), T3)) := by
      unfold f_X7_init_L75
      rw [show (6 : Int32) = nI 6 from rfl, if_neg (by rw [n_le (by omega) (by omega)]; omega), g_r_e (k := 0) h2 rfl, z_bd_s, z_lt_e, ← hT1, b1, z_bd_s, z_chk_t (show g_is T2 3 T.2 from g_is_e (b2.at 0 _ rfl)), e3, z_bd_s, show nI k + 1 = nI (k + 1) from n_add k 1]
    obtain ⟨T', f', r1, r2, r3, r4, r5, r6⟩ := ih (k + 1) T3 (va_up f k (some T.2)) (by omega) ((c1 o (by omega)).trans ((b4 o (by omega)).trans h2)) (by rw [hT3, g_up_s]) (fun s hs => by
      by_cases z : s = k
      · rw [z, va_up_s, h6]
      · rw [va_up_n _ z]; exact h4 s (by omega)) (fun s hs => by
      by_cases z : s = k
      · rw [z, ← h6]
        exact ⟨(c1 _ (by omega)).trans (b2.at 0 _ rfl), (c1 _ (by omega)).trans (b2.at 1 _ rfl), (c1 _ (by omega)).trans (b2.at 2 _ rfl), (c1 _ (by omega)).trans (b2.at 3 _ rfl)⟩
      · obtain ⟨p1, p2, p3, p4⟩ := h5 s (by omega)
        have c2 : ∀ b, o + 17 ≤ b → b < T.2 → T3.1 b = T.1 b := fun b x1 x2 => (c1 b (by omega)).trans (b4 b x2)
        exact ⟨(c2 _ (by omega) (by omega)).trans p1, (c2 _ (by omega) (by omega)).trans p2, (c2 _ (by omega) (by omega)).trans p3, (c2 _ (by omega) (by omega)).trans p4⟩) (by rw [hT3]; show T2.2 = _; omega)
    refine ⟨T', f', ?_, r2, r3, r4, r5, fun b x1 x2 => (r6 b x1 x2).trans ((c1 b x1).trans (b4 b (by omega)))⟩
    rw [← r1]
    exact z_lp_n (y := (nI (k + 1), T3)) hd
theorem i_top (o : Nat) : ∃ S2 f, f_X7_init (g_nw (fun _ => none, o) (.inr (.inr (.inr (7, [.null, .null, .null, .null, .null, .null, .int 0, .int 0]))) : PE)) o = some S2 ∧ S2.2 = o + 41 ∧ TopAt S2 o 0 0 ∧ S2.1 (o + 1) = some (e_q 0 6 f) ∧ (∀ s, s < 6 → f s = some (o + 17 + 4 * s)) ∧ (∀ s, s < 6 → PtsAt S2 (o + 17 + 4 * s) 0 (fun _ => 0) (fun _ => 0) (fun _ => 0)) ∧ S2.1 (o + 2) = some (e_q 1 10 (fun _ => none)) ∧ S2.1 (o + 3) = some (e_q 2 4 (fun _ => none)) ∧ LvAt S2 (o + 4) (fun _ => 0) (fun _ => 0) (fun _ => 0) (fun _ => 0) (fun _ => 0) (fun _ => 0) (fun _ => 0) 0 1 0 0 0 0 1 ∧ S2.1 (o + 13) = some (e_o 6 [.ref (o + 14), .int 0, .int 0]) ∧ S2.1 (o + 14) = some (e_i 12 (fun _ => 0)) ∧ S2.1 (o + 15) = some (e_o 0 [.ref (o + 16), .int 0]) ∧ S2.1 (o + 16) = some (e_i 50 (fun _ => 0)) := by
  obtain ⟨T0, hT0⟩ : ∃ z : GS, z = g_nw (fun _ => none, o) (.inr (.inr (.inr (7, [.null, .null, .null, .null, .null, .null, .int 0, .int 0]))) : PE) := ⟨_, rfl⟩
  rw [← hT0]
  have m0 : New T0 o [e_o 7 [.null, .null, .null, .null, .null, .null, .int 0, .int 0]] T0 := n_one (by rw [hT0]; rfl) (by rw [hT0]; exact g_nw_s _ _)
  obtain ⟨T1, s1, e1, m1⟩ := n_pair m0 0 1 (.inr (.inr (.inl (0, 6, fun _ => none)))) [.ref (o + 1), .null, .null, .null, .null, .null, .int 0, .int 0] [.inr (.inr (.inl (0, 6, fun _ => none)))] rfl (Nat.le_of_ble_eq_true rfl) rfl rfl
  obtain ⟨T2, s2, e2, m2⟩ := n_pair m1 1 2 (.inr (.inr (.inl (1, 10, fun _ => none)))) [.ref (o + 1), .ref (o + 2), .null, .null, .null, .null, .int 0, .int 0] [.inr (.inr (.inl (0, 6, fun _ => none))), .inr (.inr (.inl (1, 10, fun _ => none)))] rfl (Nat.le_of_ble_eq_true rfl) rfl rfl
  obtain ⟨T3, s3, e3, m3⟩ := n_pair m2 2 3 (.inr (.inr (.inl (2, 4, fun _ => none)))) [.ref (o + 1), .ref (o + 2), .ref (o + 3), .null, .null, .null, .int 0, .int 0] [.inr (.inr (.inl (0, 6, fun _ => none))), .inr (.inr (.inl (1, 10, fun _ => none))), .inr (.inr (.inl (2, 4, fun _ => none)))] rfl (Nat.le_of_ble_eq_true rfl) rfl rfl
  obtain ⟨T4, e4, s4, m4, p4, q4⟩ := n_obj m3 4 (.inr (.inr (.inr (2, [.null, .null, .null, .null, .null, .null, .null, .null, .int 0, .int 0, .int 0])))) rfl
  obtain ⟨T5, e5, n5⟩ := i_lev p4 q4
  have m5 := n_app m4 4 rfl n5 [.inr (.inr (.inl (0, 6, fun _ => none))), .inr (.inr (.inl (1, 10, fun _ => none))), .inr (.inr (.inl (2, 4, fun _ => none))), lvO (o + 4) 0 1 0, zJ 12, zJ 12, zJ 12, zI 4, zJ 4, zJ 3, zJ 3, lvP 0 0 0 1] rfl
  obtain ⟨T6, e6, m6⟩ := n_fld m5 3 (.ref (o + 4)) [.ref (o + 1), .ref (o + 2), .ref (o + 3), .ref (o + 4), .null, .null, .int 0, .int 0] (Nat.le_of_ble_eq_true rfl) rfl
  obtain ⟨T7, e7, s7, m7, p7, q7⟩ := n_obj m6 13 (.inr (.inr (.inr (6, [.null, .int 0, .int 0])))) rfl
  obtain ⟨T8, e8, n8⟩ := i_ss p7 q7
  have m8 := n_app m7 13 rfl n8 [.inr (.inr (.inl (0, 6, fun _ => none))), .inr (.inr (.inl (1, 10, fun _ => none))), .inr (.inr (.inl (2, 4, fun _ => none))), lvO (o + 4) 0 1 0, zJ 12, zJ 12, zJ 12, zI 4, zJ 4, zJ 3, zJ 3, lvP 0 0 0 1, e_o 6 [.ref (o + 13 + 1), .int 0, .int 0], zI 12] rfl
  obtain ⟨T9, e9, m9⟩ := n_fld m8 4 (.ref (o + 13)) [.ref (o + 1), .ref (o + 2), .ref (o + 3), .ref (o + 4), .ref (o + 13), .null, .int 0, .int 0] (Nat.le_of_ble_eq_true rfl) rfl
  obtain ⟨T10, e10, s10, m10, p10, q10⟩ := n_obj m9 15 (.inr (.inr (.inr (0, [.null, .int 0])))) rfl
  obtain ⟨T11, e11, n11⟩ := i_act p10 q10
  have m11 := n_app m10 15 rfl n11 [.inr (.inr (.inl (0, 6, fun _ => none))), .inr (.inr (.inl (1, 10, fun _ => none))), .inr (.inr (.inl (2, 4, fun _ => none))), lvO (o + 4) 0 1 0, zJ 12, zJ 12, zJ 12, zI 4, zJ 4, zJ 3, zJ 3, lvP 0 0 0 1, e_o 6 [.ref (o + 13 + 1), .int 0, .int 0], zI 12, e_o 0 [.ref (o + 15 + 1), .int 0], zI 50] rfl
  obtain ⟨T12, e12, m12⟩ := n_fld m11 5 (.ref (o + 15)) [.ref (o + 1), .ref (o + 2), .ref (o + 3), .ref (o + 4), .ref (o + 13), .ref (o + 15), .int 0, .int 0] (Nat.le_of_ble_eq_true rfl) rfl
  obtain ⟨T13, e13, m13⟩ := n_fld m12 6 (.int 0) [.ref (o + 1), .ref (o + 2), .ref (o + 3), .ref (o + 4), .ref (o + 13), .ref (o + 15), .int 0, .int 0] (Nat.le_of_ble_eq_true rfl) rfl
  obtain ⟨T14, e14, m14⟩ := n_fld m13 7 (.int 0) [.ref (o + 1), .ref (o + 2), .ref (o + 3), .ref (o + 4), .ref (o + 13), .ref (o + 15), .int 0, .int 0] (Nat.le_of_ble_eq_true rfl) rfl
  have hT : TopAt T14 o 0 0 := m14.at 0 _ rfl
  obtain ⟨TZ, f, r1, r2, r3, r4, r5, r6⟩ := i_loop 6 0 T14 (fun _ => none) rfl hT (m14.at 1 _ rfl) (fun s hs => by omega) (fun s hs => by omega) m14.1
  refine ⟨TZ, f, ?_, r2, (r6 o (by omega) (by omega)).trans hT, r3, r4, r5, (r6 _ (by omega) (by omega)).trans (m14.at 2 _ rfl), (r6 _ (by omega) (by omega)).trans (m14.at 3 _ rfl), fun j x hj => ?_, (r6 _ (by omega) (by omega)).trans (m14.at 13 _ rfl), (r6 _ (by omega) (by omega)).trans (m14.at 14 _ rfl), (r6 _ (by omega) (by omega)).trans (m14.at 15 _ rfl), (r6 _ (by omega) (by omega)).trans (m14.at 16 _ rfl)⟩
  · unfold f_X7_init
    rw [z_lt_e, s1, e1, z_bd_s, z_lt_e, s2, e2, z_bd_s, z_lt_e, s3, e3, z_bd_s, z_lt_e, e4, s4, e5, z_bd_s, e6, z_bd_s, z_lt_e, e7, s7, e8, z_bd_s, e9, z_bd_s, z_lt_e, e10, s10, e11, z_bd_s, e12, z_bd_s, e13, z_bd_s, e14, z_bd_s, show (0 : Int32) = nI 0 from rfl, r1, z_bd_s]
  · have hl : j < 9 := (List.getElem?_eq_some_iff.mp hj).1
    rw [r6 _ (by omega) (by omega)]
    match j, hl, hj with
    | 0, _, hj => cases hj; exact m14.at 4 _ rfl
    | 1, _, hj => cases hj; exact m14.at 5 _ rfl
    | 2, _, hj => cases hj; exact m14.at 6 _ rfl
    | 3, _, hj => cases hj; exact m14.at 7 _ rfl
    | 4, _, hj => cases hj; exact m14.at 8 _ rfl
    | 5, _, hj => cases hj; exact m14.at 9 _ rfl
    | 6, _, hj => cases hj; exact m14.at 10 _ rfl
    | 7, _, hj => cases hj; exact m14.at 11 _ rfl
    | 8, _, hj => cases hj; exact m14.at 12 _ rfl
def mB : MS := (fun _ _ => 0, fun k _ => if k = 22 then 1 else 0)
def mA (F : Nat → Int32) : MS := (fun k => if k = 15 then F else fun _ => 0, fun k _ => if k = 22 then 1 else 0)
theorem i_arr {S1 T : GS} {c k : Nat} {F : Nat → Int32} (h : New S1 c (m_PE c (mA F)) T) (hk : k < 4) : ∃ T', f_X8_init_L216 c (nI k) T = some (.inr (nI (k + 1), T')) ∧ New S1 c (m_PE c (mA (upd F k (-1)))) T' := by
  have q4 : z_in (nI k) 4 := by rw [n_in (by omega)]; exact hk
  refine ⟨_, ?_, h.up 15 (e_i 4 (upd F k (-1)))⟩
  unfold f_X8_init_L216
  rw [show (4 : Int32) = nI 4 from rfl, if_neg (by rw [n_le (by omega) (by omega)]; omega), g_r_e (k := 15) (show T.1 c = some (e_o 8 (m_F c (mA F))) from h.at 0 _ rfl) rfl, z_bd_s, g_wI_e _ (show T.1 (c + 15) = some (e_i 4 F) from h.at 15 _ rfl) q4, z_bd_s, n_cl (by omega), show nI k + 1 = nI (k + 1) from n_add k 1]
def mZ : MS := mA (upd (upd (upd (upd (fun _ => 0) 0 (-1)) 1 (-1)) 2 (-1)) 3 (-1))
theorem i_ref {S1 : GS} {c : Nat} (hc : S1.2 = c + 1) (h0 : S1.1 c = some (e_o 8 [.null, .null, .null, .null, .int 0, .null, .null, .null, .null, .null, .null, .null, .null, .null, .null, .null, .null, .null, .int 0, .null, .int 0, .long 0, .long 0, .null, .null, .null, .long 0, .long 0, .null, .null, .null, .null, .null, .long 0, .long 0])) : ∃ S4, f_X8_init S1 c = some S4 ∧ New S1 c (m_PE c mZ) S4 := by
  have m0 := n_one hc h0
  obtain ⟨T1, s1, e1, m1⟩ := n_pair m0 0 1 (zI 6) [.ref (c + 1), .null, .null, .null, .int 0, .null, .null, .null, .null, .null, .null, .null, .null, .null, .null, .null, .null, .null, .int 0, .null, .int 0, .long 0, .long 0, .null, .null, .null, .long 0, .long 0, .null, .null, .null, .null, .null, .long 0, .long 0] [zI 6] rfl (Nat.le_of_ble_eq_true rfl) rfl rfl
  obtain ⟨T2, s2, e2, m2⟩ := n_pair m1 1 2 (zI 72) [.ref (c + 1), .ref (c + 2), .null, .null, .int 0, .null, .null, .null, .null, .null, .null, .null, .null, .null, .null, .null, .null, .null, .int 0, .null, .int 0, .long 0, .long 0, .null, .null, .null, .long 0, .long 0, .null, .null, .null, .null, .null, .long 0, .long 0] [zI 6, zI 72] rfl (Nat.le_of_ble_eq_true rfl) rfl rfl
  obtain ⟨T3, s3, e3, m3⟩ := n_pair m2 2 3 (zI 72) [.ref (c + 1), .ref (c + 2), .ref (c + 3), .null, .int 0, .null, .null, .null, .null, .null, .null, .null, .null, .null, .null, .null, .null, .null, .int 0, .null, .int 0, .long 0, .long 0, .null, .null, .null, .long 0, .long 0, .null, .null, .null, .null, .null, .long 0, .long 0] [zI 6, zI 72, zI 72] rfl (Nat.le_of_ble_eq_true rfl) rfl rfl
  obtain ⟨T4, s4, e4, m4⟩ := n_pair m3 3 4 (zI 72) [.ref (c + 1), .ref (c + 2), .ref (c + 3), .ref (c + 4), .int 0, .null, .null, .null, .null, .null, .null, .null, .null, .null, .null, .null, .null, .null, .int 0, .null, .int 0, .long 0, .long 0, .null, .null, .null, .long 0, .long 0, .null, .null, .null, .null, .null, .long 0, .long 0] [zI 6, zI 72, zI 72, zI 72] rfl (Nat.le_of_ble_eq_true rfl) rfl rfl
  obtain ⟨T5, s5, e5, m5⟩ := n_pair m4 5 5 (zI 10) [.ref (c + 1), .ref (c + 2), .ref (c + 3), .ref (c + 4), .int 0, .ref (c + 5), .null, .null, .null, .null, .null, .null, .null, .null, .null, .null, .null, .null, .int 0, .null, .int 0, .long 0, .long 0, .null, .null, .null, .long 0, .long 0, .null, .null, .null, .null, .null, .long 0, .long 0] [zI 6, zI 72, zI 72, zI 72, zI 10] rfl (Nat.le_of_ble_eq_true rfl) rfl rfl
  obtain ⟨T6, s6, e6, m6⟩ := n_pair m5 6 6 (zI 10) [.ref (c + 1), .ref (c + 2), .ref (c + 3), .ref (c + 4), .int 0, .ref (c + 5), .ref (c + 6), .null, .null, .null, .null, .null, .null, .null, .null, .null, .null, .null, .int 0, .null, .int 0, .long 0, .long 0, .null, .null, .null, .long 0, .long 0, .null, .null, .null, .null, .null, .long 0, .long 0] [zI 6, zI 72, zI 72, zI 72, zI 10, zI 10] rfl (Nat.le_of_ble_eq_true rfl) rfl rfl
  obtain ⟨T7, s7, e7, m7⟩ := n_pair m6 7 7 (zI 10) [.ref (c + 1), .ref (c + 2), .ref (c + 3), .ref (c + 4), .int 0, .ref (c + 5), .ref (c + 6), .ref (c + 7), .null, .null, .null, .null, .null, .null, .null, .null, .null, .null, .int 0, .null, .int 0, .long 0, .long 0, .null, .null, .null, .long 0, .long 0, .null, .null, .null, .null, .null, .long 0, .long 0] [zI 6, zI 72, zI 72, zI 72, zI 10, zI 10, zI 10] rfl (Nat.le_of_ble_eq_true rfl) rfl rfl
  obtain ⟨T8, s8, e8, m8⟩ := n_pair m7 8 8 (zI 120) [.ref (c + 1), .ref (c + 2), .ref (c + 3), .ref (c + 4), .int 0, .ref (c + 5), .ref (c + 6), .ref (c + 7), .ref (c + 8), .null, .null, .null, .null, .null, .null, .null, .null, .null, .int 0, .null, .int 0, .long 0, .long 0, .null, .null, .null, .long 0, .long 0, .null, .null, .null, .null, .null, .long 0, .long 0] [zI 6, zI 72, zI 72, zI 72, zI 10, zI 10, zI 10, zI 120] rfl (Nat.le_of_ble_eq_true rfl) rfl rfl
  obtain ⟨T9, s9, e9, m9⟩ := n_pair m8 9 9 (zI 120) [.ref (c + 1), .ref (c + 2), .ref (c + 3), .ref (c + 4), .int 0, .ref (c + 5), .ref (c + 6), .ref (c + 7), .ref (c + 8), .ref (c + 9), .null, .null, .null, .null, .null, .null, .null, .null, .int 0, .null, .int 0, .long 0, .long 0, .null, .null, .null, .long 0, .long 0, .null, .null, .null, .null, .null, .long 0, .long 0] [zI 6, zI 72, zI 72, zI 72, zI 10, zI 10, zI 10, zI 120, zI 120] rfl (Nat.le_of_ble_eq_true rfl) rfl rfl
  obtain ⟨T10, s10, e10, m10⟩ := n_pair m9 10 10 (zI 120) [.ref (c + 1), .ref (c + 2), .ref (c + 3), .ref (c + 4), .int 0, .ref (c + 5), .ref (c + 6), .ref (c + 7), .ref (c + 8), .ref (c + 9), .ref (c + 10), .null, .null, .null, .null, .null, .null, .null, .int 0, .null, .int 0, .long 0, .long 0, .null, .null, .null, .long 0, .long 0, .null, .null, .null, .null, .null, .long 0, .long 0] [zI 6, zI 72, zI 72, zI 72, zI 10, zI 10, zI 10, zI 120, zI 120, zI 120] rfl (Nat.le_of_ble_eq_true rfl) rfl rfl
  obtain ⟨T11, s11, e11, m11⟩ := n_pair m10 11 11 (zI 10) [.ref (c + 1), .ref (c + 2), .ref (c + 3), .ref (c + 4), .int 0, .ref (c + 5), .ref (c + 6), .ref (c + 7), .ref (c + 8), .ref (c + 9), .ref (c + 10), .ref (c + 11), .null, .null, .null, .null, .null, .null, .int 0, .null, .int 0, .long 0, .long 0, .null, .null, .null, .long 0, .long 0, .null, .null, .null, .null, .null, .long 0, .long 0] [zI 6, zI 72, zI 72, zI 72, zI 10, zI 10, zI 10, zI 120, zI 120, zI 120, zI 10] rfl (Nat.le_of_ble_eq_true rfl) rfl rfl
  obtain ⟨T12, s12, e12, m12⟩ := n_pair m11 12 12 (zI 120) [.ref (c + 1), .ref (c + 2), .ref (c + 3), .ref (c + 4), .int 0, .ref (c + 5), .ref (c + 6), .ref (c + 7), .ref (c + 8), .ref (c + 9), .ref (c + 10), .ref (c + 11), .ref (c + 12), .null, .null, .null, .null, .null, .int 0, .null, .int 0, .long 0, .long 0, .null, .null, .null, .long 0, .long 0, .null, .null, .null, .null, .null, .long 0, .long 0] [zI 6, zI 72, zI 72, zI 72, zI 10, zI 10, zI 10, zI 120, zI 120, zI 120, zI 10, zI 120] rfl (Nat.le_of_ble_eq_true rfl) rfl rfl
  obtain ⟨T13, s13, e13, m13⟩ := n_pair m12 13 13 (zJ 360) [.ref (c + 1), .ref (c + 2), .ref (c + 3), .ref (c + 4), .int 0, .ref (c + 5), .ref (c + 6), .ref (c + 7), .ref (c + 8), .ref (c + 9), .ref (c + 10), .ref (c + 11), .ref (c + 12), .ref (c + 13), .null, .null, .null, .null, .int 0, .null, .int 0, .long 0, .long 0, .null, .null, .null, .long 0, .long 0, .null, .null, .null, .null, .null, .long 0, .long 0] [zI 6, zI 72, zI 72, zI 72, zI 10, zI 10, zI 10, zI 120, zI 120, zI 120, zI 10, zI 120, zJ 360] rfl (Nat.le_of_ble_eq_true rfl) rfl rfl
  obtain ⟨T14, s14, e14, m14⟩ := n_pair m13 14 14 (zJ 360) [.ref (c + 1), .ref (c + 2), .ref (c + 3), .ref (c + 4), .int 0, .ref (c + 5), .ref (c + 6), .ref (c + 7), .ref (c + 8), .ref (c + 9), .ref (c + 10), .ref (c + 11), .ref (c + 12), .ref (c + 13), .ref (c + 14), .null, .null, .null, .int 0, .null, .int 0, .long 0, .long 0, .null, .null, .null, .long 0, .long 0, .null, .null, .null, .null, .null, .long 0, .long 0] [zI 6, zI 72, zI 72, zI 72, zI 10, zI 10, zI 10, zI 120, zI 120, zI 120, zI 10, zI 120, zJ 360, zJ 360] rfl (Nat.le_of_ble_eq_true rfl) rfl rfl
  obtain ⟨T15, s15, e15, m15⟩ := n_pair m14 15 15 (zI 4) [.ref (c + 1), .ref (c + 2), .ref (c + 3), .ref (c + 4), .int 0, .ref (c + 5), .ref (c + 6), .ref (c + 7), .ref (c + 8), .ref (c + 9), .ref (c + 10), .ref (c + 11), .ref (c + 12), .ref (c + 13), .ref (c + 14), .ref (c + 15), .null, .null, .int 0, .null, .int 0, .long 0, .long 0, .null, .null, .null, .long 0, .long 0, .null, .null, .null, .null, .null, .long 0, .long 0] [zI 6, zI 72, zI 72, zI 72, zI 10, zI 10, zI 10, zI 120, zI 120, zI 120, zI 10, zI 120, zJ 360, zJ 360, zI 4] rfl (Nat.le_of_ble_eq_true rfl) rfl rfl
  obtain ⟨T16, s16, e16, m16⟩ := n_pair m15 16 16 (zI 4) [.ref (c + 1), .ref (c + 2), .ref (c + 3), .ref (c + 4), .int 0, .ref (c + 5), .ref (c + 6), .ref (c + 7), .ref (c + 8), .ref (c + 9), .ref (c + 10), .ref (c + 11), .ref (c + 12), .ref (c + 13), .ref (c + 14), .ref (c + 15), .ref (c + 16), .null, .int 0, .null, .int 0, .long 0, .long 0, .null, .null, .null, .long 0, .long 0, .null, .null, .null, .null, .null, .long 0, .long 0] [zI 6, zI 72, zI 72, zI 72, zI 10, zI 10, zI 10, zI 120, zI 120, zI 120, zI 10, zI 120, zJ 360, zJ 360, zI 4, zI 4] rfl (Nat.le_of_ble_eq_true rfl) rfl rfl
  obtain ⟨T17, s17, e17, m17⟩ := n_pair m16 17 17 (zI 160) [.ref (c + 1), .ref (c + 2), .ref (c + 3), .ref (c + 4), .int 0, .ref (c + 5), .ref (c + 6), .ref (c + 7), .ref (c + 8), .ref (c + 9), .ref (c + 10), .ref (c + 11), .ref (c + 12), .ref (c + 13), .ref (c + 14), .ref (c + 15), .ref (c + 16), .ref (c + 17), .int 0, .null, .int 0, .long 0, .long 0, .null, .null, .null, .long 0, .long 0, .null, .null, .null, .null, .null, .long 0, .long 0] [zI 6, zI 72, zI 72, zI 72, zI 10, zI 10, zI 10, zI 120, zI 120, zI 120, zI 10, zI 120, zJ 360, zJ 360, zI 4, zI 4, zI 160] rfl (Nat.le_of_ble_eq_true rfl) rfl rfl
  obtain ⟨T18, s18, e18, m18⟩ := n_pair m17 19 18 (zI 50) [.ref (c + 1), .ref (c + 2), .ref (c + 3), .ref (c + 4), .int 0, .ref (c + 5), .ref (c + 6), .ref (c + 7), .ref (c + 8), .ref (c + 9), .ref (c + 10), .ref (c + 11), .ref (c + 12), .ref (c + 13), .ref (c + 14), .ref (c + 15), .ref (c + 16), .ref (c + 17), .int 0, .ref (c + 18), .int 0, .long 0, .long 0, .null, .null, .null, .long 0, .long 0, .null, .null, .null, .null, .null, .long 0, .long 0] [zI 6, zI 72, zI 72, zI 72, zI 10, zI 10, zI 10, zI 120, zI 120, zI 120, zI 10, zI 120, zJ 360, zJ 360, zI 4, zI 4, zI 160, zI 50] rfl (Nat.le_of_ble_eq_true rfl) rfl rfl
  obtain ⟨T19, e19, m19⟩ := n_fld m18 22 (.long 1) [.ref (c + 1), .ref (c + 2), .ref (c + 3), .ref (c + 4), .int 0, .ref (c + 5), .ref (c + 6), .ref (c + 7), .ref (c + 8), .ref (c + 9), .ref (c + 10), .ref (c + 11), .ref (c + 12), .ref (c + 13), .ref (c + 14), .ref (c + 15), .ref (c + 16), .ref (c + 17), .int 0, .ref (c + 18), .int 0, .long 0, .long 1, .null, .null, .null, .long 0, .long 0, .null, .null, .null, .null, .null, .long 0, .long 0] (Nat.le_of_ble_eq_true rfl) rfl
  obtain ⟨T20, s20, e20, m20⟩ := n_pair m19 23 19 (zI 12) [.ref (c + 1), .ref (c + 2), .ref (c + 3), .ref (c + 4), .int 0, .ref (c + 5), .ref (c + 6), .ref (c + 7), .ref (c + 8), .ref (c + 9), .ref (c + 10), .ref (c + 11), .ref (c + 12), .ref (c + 13), .ref (c + 14), .ref (c + 15), .ref (c + 16), .ref (c + 17), .int 0, .ref (c + 18), .int 0, .long 0, .long 1, .ref (c + 19), .null, .null, .long 0, .long 0, .null, .null, .null, .null, .null, .long 0, .long 0] [zI 6, zI 72, zI 72, zI 72, zI 10, zI 10, zI 10, zI 120, zI 120, zI 120, zI 10, zI 120, zJ 360, zJ 360, zI 4, zI 4, zI 160, zI 50, zI 12] rfl (Nat.le_of_ble_eq_true rfl) rfl rfl
  obtain ⟨T21, s21, e21, m21⟩ := n_pair m20 24 20 (zJ 3) [.ref (c + 1), .ref (c + 2), .ref (c + 3), .ref (c + 4), .int 0, .ref (c + 5), .ref (c + 6), .ref (c + 7), .ref (c + 8), .ref (c + 9), .ref (c + 10), .ref (c + 11), .ref (c + 12), .ref (c + 13), .ref (c + 14), .ref (c + 15), .ref (c + 16), .ref (c + 17), .int 0, .ref (c + 18), .int 0, .long 0, .long 1, .ref (c + 19), .ref (c + 20), .null, .long 0, .long 0, .null, .null, .null, .null, .null, .long 0, .long 0] [zI 6, zI 72, zI 72, zI 72, zI 10, zI 10, zI 10, zI 120, zI 120, zI 120, zI 10, zI 120, zJ 360, zJ 360, zI 4, zI 4, zI 160, zI 50, zI 12, zJ 3] rfl (Nat.le_of_ble_eq_true rfl) rfl rfl
  obtain ⟨T22, s22, e22, m22⟩ := n_pair m21 25 21 (zJ 3) [.ref (c + 1), .ref (c + 2), .ref (c + 3), .ref (c + 4), .int 0, .ref (c + 5), .ref (c + 6), .ref (c + 7), .ref (c + 8), .ref (c + 9), .ref (c + 10), .ref (c + 11), .ref (c + 12), .ref (c + 13), .ref (c + 14), .ref (c + 15), .ref (c + 16), .ref (c + 17), .int 0, .ref (c + 18), .int 0, .long 0, .long 1, .ref (c + 19), .ref (c + 20), .ref (c + 21), .long 0, .long 0, .null, .null, .null, .null, .null, .long 0, .long 0] [zI 6, zI 72, zI 72, zI 72, zI 10, zI 10, zI 10, zI 120, zI 120, zI 120, zI 10, zI 120, zJ 360, zJ 360, zI 4, zI 4, zI 160, zI 50, zI 12, zJ 3, zJ 3] rfl (Nat.le_of_ble_eq_true rfl) rfl rfl
  obtain ⟨T23, s23, e23, m23⟩ := n_pair m22 28 22 (zJ 3) [.ref (c + 1), .ref (c + 2), .ref (c + 3), .ref (c + 4), .int 0, .ref (c + 5), .ref (c + 6), .ref (c + 7), .ref (c + 8), .ref (c + 9), .ref (c + 10), .ref (c + 11), .ref (c + 12), .ref (c + 13), .ref (c + 14), .ref (c + 15), .ref (c + 16), .ref (c + 17), .int 0, .ref (c + 18), .int 0, .long 0, .long 1, .ref (c + 19), .ref (c + 20), .ref (c + 21), .long 0, .long 0, .ref (c + 22), .null, .null, .null, .null, .long 0, .long 0] [zI 6, zI 72, zI 72, zI 72, zI 10, zI 10, zI 10, zI 120, zI 120, zI 120, zI 10, zI 120, zJ 360, zJ 360, zI 4, zI 4, zI 160, zI 50, zI 12, zJ 3, zJ 3, zJ 3] rfl (Nat.le_of_ble_eq_true rfl) rfl rfl
  obtain ⟨T24, s24, e24, m24⟩ := n_pair m23 29 23 (zJ 3) [.ref (c + 1), .ref (c + 2), .ref (c + 3), .ref (c + 4), .int 0, .ref (c + 5), .ref (c + 6), .ref (c + 7), .ref (c + 8), .ref (c + 9), .ref (c + 10), .ref (c + 11), .ref (c + 12), .ref (c + 13), .ref (c + 14), .ref (c + 15), .ref (c + 16), .ref (c + 17), .int 0, .ref (c + 18), .int 0, .long 0, .long 1, .ref (c + 19), .ref (c + 20), .ref (c + 21), .long 0, .long 0, .ref (c + 22), .ref (c + 23), .null, .null, .null, .long 0, .long 0] [zI 6, zI 72, zI 72, zI 72, zI 10, zI 10, zI 10, zI 120, zI 120, zI 120, zI 10, zI 120, zJ 360, zJ 360, zI 4, zI 4, zI 160, zI 50, zI 12, zJ 3, zJ 3, zJ 3, zJ 3] rfl (Nat.le_of_ble_eq_true rfl) rfl rfl
  obtain ⟨T25, s25, e25, m25⟩ := n_pair m24 30 24 (zI 12) [.ref (c + 1), .ref (c + 2), .ref (c + 3), .ref (c + 4), .int 0, .ref (c + 5), .ref (c + 6), .ref (c + 7), .ref (c + 8), .ref (c + 9), .ref (c + 10), .ref (c + 11), .ref (c + 12), .ref (c + 13), .ref (c + 14), .ref (c + 15), .ref (c + 16), .ref (c + 17), .int 0, .ref (c + 18), .int 0, .long 0, .long 1, .ref (c + 19), .ref (c + 20), .ref (c + 21), .long 0, .long 0, .ref (c + 22), .ref (c + 23), .ref (c + 24), .null, .null, .long 0, .long 0] [zI 6, zI 72, zI 72, zI 72, zI 10, zI 10, zI 10, zI 120, zI 120, zI 120, zI 10, zI 120, zJ 360, zJ 360, zI 4, zI 4, zI 160, zI 50, zI 12, zJ 3, zJ 3, zJ 3, zJ 3, zI 12] rfl (Nat.le_of_ble_eq_true rfl) rfl rfl
  obtain ⟨T26, s26, e26, m26⟩ := n_pair m25 31 25 (zI 12) [.ref (c + 1), .ref (c + 2), .ref (c + 3), .ref (c + 4), .int 0, .ref (c + 5), .ref (c + 6), .ref (c + 7), .ref (c + 8), .ref (c + 9), .ref (c + 10), .ref (c + 11), .ref (c + 12), .ref (c + 13), .ref (c + 14), .ref (c + 15), .ref (c + 16), .ref (c + 17), .int 0, .ref (c + 18), .int 0, .long 0, .long 1, .ref (c + 19), .ref (c + 20), .ref (c + 21), .long 0, .long 0, .ref (c + 22), .ref (c + 23), .ref (c + 24), .ref (c + 25), .null, .long 0, .long 0] [zI 6, zI 72, zI 72, zI 72, zI 10, zI 10, zI 10, zI 120, zI 120, zI 120, zI 10, zI 120, zJ 360, zJ 360, zI 4, zI 4, zI 160, zI 50, zI 12, zJ 3, zJ 3, zJ 3, zJ 3, zI 12, zI 12] rfl (Nat.le_of_ble_eq_true rfl) rfl rfl
  obtain ⟨T27, s27, e27, m27⟩ := n_pair m26 32 26 (zI 12) [.ref (c + 1), .ref (c + 2), .ref (c + 3), .ref (c + 4), .int 0, .ref (c + 5), .ref (c + 6), .ref (c + 7), .ref (c + 8), .ref (c + 9), .ref (c + 10), .ref (c + 11), .ref (c + 12), .ref (c + 13), .ref (c + 14), .ref (c + 15), .ref (c + 16), .ref (c + 17), .int 0, .ref (c + 18), .int 0, .long 0, .long 1, .ref (c + 19), .ref (c + 20), .ref (c + 21), .long 0, .long 0, .ref (c + 22), .ref (c + 23), .ref (c + 24), .ref (c + 25), .ref (c + 26), .long 0, .long 0] [zI 6, zI 72, zI 72, zI 72, zI 10, zI 10, zI 10, zI 120, zI 120, zI 120, zI 10, zI 120, zJ 360, zJ 360, zI 4, zI 4, zI 160, zI 50, zI 12, zJ 3, zJ 3, zJ 3, zJ 3, zI 12, zI 12, zI 12] rfl (Nat.le_of_ble_eq_true rfl) rfl rfl
  have mm : New S1 c (m_PE c (mA (fun _ => 0))) T27 := m27
  obtain ⟨U1, u1, v1⟩ := i_arr (k := 0) mm (by omega)
  obtain ⟨U2, u2, v2⟩ := i_arr (k := 1) v1 (by omega)
  obtain ⟨U3, u3, v3⟩ := i_arr (k := 2) v2 (by omega)
  obtain ⟨U4, u4, v4⟩ := i_arr (k := 3) v3 (by omega)
  refine ⟨U4, ?_, v4⟩
  have lp : z_lp (fun x => f_X8_init_L216 c x.1 x.2) (nI 0, T27) = some U4 := by
    rw [z_lp_n (y := (nI 1, U1)) u1, z_lp_n (y := (nI 2, U2)) u2, z_lp_n (y := (nI 3, U3)) u3, z_lp_n (y := (nI 4, U4)) u4]
    refine z_lp_x ?_
    show f_X8_init_L216 c (nI 4) U4 = _
    unfold f_X8_init_L216
    rw [if_pos (by decide)]
  unfold f_X8_init
  rw [z_lt_e, s1, e1, z_bd_s, z_lt_e, s2, e2, z_bd_s, z_lt_e, s3, e3, z_bd_s, z_lt_e, s4, e4, z_bd_s, z_lt_e, s5, e5, z_bd_s, z_lt_e, s6, e6, z_bd_s, z_lt_e, s7, e7, z_bd_s, z_lt_e, s8, e8, z_bd_s, z_lt_e, s9, e9, z_bd_s, z_lt_e, s10, e10, z_bd_s, z_lt_e, s11, e11, z_bd_s, z_lt_e, s12, e12, z_bd_s, z_lt_e, s13, e13, z_bd_s, z_lt_e, s14, e14, z_bd_s, z_lt_e, s15, e15, z_bd_s, z_lt_e, s16, e16, z_bd_s, z_lt_e, s17, e17, z_bd_s, z_lt_e, s18, e18, z_bd_s, e19, z_bd_s, z_lt_e, s20, e20, z_bd_s, z_lt_e, s21, e21, z_bd_s, z_lt_e, s22, e22, z_bd_s, z_lt_e, s23, e23, z_bd_s, z_lt_e, s24, e24, z_bd_s, z_lt_e, s25, e25, z_bd_s, z_lt_e, s26, e26, z_bd_s, z_lt_e, s27, e27, z_bd_s, show (0 : Int32) = nI 0 from rfl, lp, z_bd_s]
theorem z_init (o : Nat) : z_Init (Inv o) o := by
  obtain ⟨S2, f, e1, s2, t1, t2, t3, t4, t5, t6, t7, t8, t9, t10, t11⟩ := i_top o
  obtain ⟨S3, hS3⟩ : ∃ z, z = g_nw S2 (.inr (.inr (.inr (8, [.null, .null, .null, .null, .int 0, .null, .null, .null, .null, .null, .null, .null, .null, .null, .null, .null, .null, .null, .int 0, .null, .int 0, .long 0, .long 0, .null, .null, .null, .long 0, .long 0, .null, .null, .null, .null, .null, .long 0, .long 0]))) : PE) := ⟨_, rfl⟩
  obtain ⟨S4, e2, n4⟩ := i_ref (S1 := S3) (c := S2.2) (by rw [hS3]; rfl) (by rw [hS3]; exact g_nw_s _ _)
  refine ⟨S2, S4, mZ, e1, by rw [← e2, hS3], by omega, fun j x hj => n4.at j x hj, ?_⟩
  have s4 : S4.2 = S2.2 + 27 := n4.1
  obtain ⟨S5, hS5⟩ : ∃ z : GS, z = (fun a => if S2.2 ≤ a ∧ a < S2.2 + 27 then none else S4.1 a, S4.2) := ⟨_, rfl⟩
  rw [← hS5]
  have c5 : ∀ b, b < o + 41 → S5.1 b = S2.1 b := fun b hb => by
    rw [hS5]
    show (if S2.2 ≤ b ∧ b < S2.2 + 27 then none else S4.1 b) = _
    rw [if_neg (by omega), n4.2.2 b (by omega), hS3]
    exact g_nw_n _ (by omega)
  have hLv2 : LvOk S2 o := ⟨_, _, _, _, _, _, _, _, _, _, _, _, _, _, t7⟩
  have s5 : S5.2 = o + 68 := by rw [hS5]; show S4.2 = _; omega
  refine ⟨0, 0, fun _ => none, fun _ => 0, fun _ => none, (c5 _ (by omega)).trans t1, rfl, ⟨f, (c5 _ (by omega)).trans t2, t3⟩, fun s hs => ?_, ⟨(c5 _ (by omega)).trans t6, fun s hs => Or.inl ⟨rfl, ?_⟩, fun s t a b _ _ _ h => by cases h⟩, ⟨(c5 _ (by omega)).trans t5, rfl, by omega, fun f hf => by omega, fun _ _ _ => rfl⟩, (hLv2.kp (fun b _ _ => c5 b (by omega))), ⟨_, _, _, (c5 _ (by omega)).trans t8, (c5 _ (by omega)).trans t9⟩, ⟨[], by decide, ⟨fun _ => 0, (c5 _ (by omega)).trans t10, (c5 _ (by omega)).trans t11, fun i x hx => by cases hx⟩, rfl, fun i x hx => by cases hx⟩, by omega, fun s x f a _ h => by cases h⟩
  · obtain ⟨p1, p2, p3, p4⟩ := t4 s hs
    exact ⟨0, fun _ => 0, fun _ => 0, fun _ => 0, ⟨(c5 _ (by omega)).trans p1, (c5 _ (by omega)).trans p2, (c5 _ (by omega)).trans p3, (c5 _ (by omega)).trans p4⟩, ⟨by omega, fun i hi => by omega, fun i j _ hj => by omega⟩, rfl, fun i hi => by omega⟩
  · rcases (show s = 0 ∨ s = 1 ∨ s = 2 ∨ s = 3 by omega) with rfl | rfl | rfl | rfl <;> rfl
theorem z_main : ∀ base : Nat, ∃ Inv : GS → MS → Prop, z_Good Inv base ∧ z_Init Inv base := fun base => ⟨Inv base, z_good base, z_init base⟩
