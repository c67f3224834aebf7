/-! the SETS: class and reference side by side -/
theorem m_comes {M : MS} {s n : Nat} (hs : s < 6) (hn : n < 12) (h0 : M.1 0 s = nI n) (x v w : Int32) : ∃ t, t ≤ n ∧ (∀ i, t ≤ i → i < n → ¬ M.1 1 (12 * s + i) ≤ x) ∧ (t = 0 ∨ ∃ u, t = u + 1 ∧ M.1 1 (12 * s + u) ≤ x) ∧ f_X8_comes M (nI s) x v w = some (nI (n + 1), sI (mUp (sI M 0 s (nI (n + 1))) (insU (M.1 1) (12 * s + t) (12 * s + n) x) (insU (M.1 2) (12 * s + t) (12 * s + n) v) (insU (M.1 3) (12 * s + t) (12 * s + n) w)) 18 0 0) := by
  obtain ⟨t, t1, t2, t3, t4⟩ := m_ins_lp (M := sI M 0 s (nI (n + 1))) (F := M.1 1) (G := M.1 2) (K := M.1 3) hs hn x n (Nat.le_refl _)
  refine ⟨t, t1, t2, t3, ?_⟩
  rw [shU_0, shU_0, shU_0] at t4
  have e1 : mUp (sI M 0 s (nI (n + 1))) (M.1 1) (M.1 2) (M.1 3) = sI M 0 s (nI (n + 1)) := mUp_self (sI M 0 s (nI (n + 1)))
  rw [e1] at t4
  have q1 : z_in (nI s) 6 := by rw [n_in (by omega)]; exact hs
  have q2 : z_in (nI (12 * s + t)) 72 := by rw [n_in (by omega)]; omega
  unfold f_X8_comes
  simp only [z_chk_t q1]
  rw [z_lt_e, n_cl (by omega), h0, show (1 : Int32) = nI 1 from rfl, n_add, show (12 : Int32) = nI 12 from rfl, n_mul, n_add, t4, z_bd2_s, z_chk_t q2, z_lt_e, z_chk_t q2, z_lt_e, z_chk_t q2, z_lt_e, n_cl (by omega), mUp_w1, mUp_w2, mUp_w3, insU_up, insU_up, insU_up]
  rw [mUp_n (by omega) (by omega) (by omega), sI_s, upd_s]
  rfl
theorem m_has_1 {M : MS} {s n k : Nat} (hs : s < 6) (hn : n ≤ 12) (h0 : M.1 0 s = nI n) (hk : k < n) (x f : Int32) : f_X8_hasPlace_L5 M (nI s) x f (nI k) = some (.inr (if f = 0 then (if M.1 1 (12 * s + k) = x then 1 else 0) else 1, nI (k + 1))) := by
  unfold f_X8_hasPlace_L5
  rw [z_chk_t (by rw [n_in (by omega)]; exact hs), n_cl (by omega), h0, if_neg (by rw [n_le (by omega) (by omega)]; omega), show (12 : Int32) = nI 12 from rfl, n_mul, n_add, z_chk_t (by rw [n_in (by omega)]; omega), n_cl (by omega)]
  rw [show nI k + 1 = nI (k + 1) from n_add k 1]
  by_cases q : f = 0
  · rw [if_pos q, if_pos q]
    by_cases q2 : M.1 1 (12 * s + k) = x
    · rw [if_pos q2, if_pos q2]
    · rw [if_neg q2, if_neg q2]
  · rw [if_neg q, if_neg q]
theorem m_has_2 {M : MS} {s n : Nat} (hs : s < 6) (hn : n ≤ 12) (h0 : M.1 0 s = nI n) (x f : Int32) : f_X8_hasPlace_L5 M (nI s) x f (nI n) = some (.inl f) := by
  unfold f_X8_hasPlace_L5
  rw [z_chk_t (by rw [n_in (by omega)]; exact hs), n_cl (by omega), h0, if_pos (by rw [n_le (by omega) (by omega)]; omega)]
theorem m_has_lp {M : MS} {s n : Nat} (hs : s < 6) (hn : n ≤ 12) (h0 : M.1 0 s = nI n) (x : Int32) : ∀ (d k : Nat) (f : Int32), k + d = n → f = 0 ∨ f = 1 → (f = 1 ∨ ∃ i, k ≤ i ∧ i < n ∧ M.1 1 (12 * s + i) = x) ∧ z_lp (fun y => f_X8_hasPlace_L5 M (nI s) x y.1 y.2) (f, nI k) = some 1 ∨ (¬ (f = 1 ∨ ∃ i, k ≤ i ∧ i < n ∧ M.1 1 (12 * s + i) = x)) ∧ z_lp (fun y => f_X8_hasPlace_L5 M (nI s) x y.1 y.2) (f, nI k) = some 0 := by
  intro d
  induction d with
  | zero =>
    intro k f hk hf
    rw [show k = n by omega]
    have e : z_lp (fun y => f_X8_hasPlace_L5 M (nI s) x y.1 y.2) (f, nI n) = some f := z_lp_x (m_has_2 hs hn h0 x f)
    rcases hf with rfl | rfl
    · refine Or.inr ⟨?_, e⟩
      rintro (h | ⟨i, h1, h2, -⟩)
      · exact absurd h (by decide)
      · omega
    · exact Or.inl ⟨Or.inl rfl, e⟩
  | succ d ih =>
    intro k f hk hf
    have e : z_lp (fun y => f_X8_hasPlace_L5 M (nI s) x y.1 y.2) (f, nI k) = z_lp (fun y => f_X8_hasPlace_L5 M (nI s) x y.1 y.2) (if f = 0 then (if M.1 1 (12 * s + k) = x then 1 else 0) else 1, nI (k + 1)) := z_lp_n (m_has_1 hs hn h0 (by omega) x f)
    rw [e]
    have hf2 : (if f = 0 then (if M.1 1 (12 * s + k) = x then (1 : Int32) else 0) else 1) = 0 ∨ (if f = 0 then (if M.1 1 (12 * s + k) = x then (1 : Int32) else 0) else 1) = 1 := by
      by_cases q : f = 0
      · rw [if_pos q]
        by_cases q2 : M.1 1 (12 * s + k) = x
        · rw [if_pos q2]; exact Or.inr rfl
        · rw [if_neg q2]; exact Or.inl rfl
      · rw [if_neg q]; exact Or.inr rfl
    have key : ((if f = 0 then (if M.1 1 (12 * s + k) = x then (1 : Int32) else 0) else 1) = 1 ∨ ∃ i, k + 1 ≤ i ∧ i < n ∧ M.1 1 (12 * s + i) = x) ↔ (f = 1 ∨ ∃ i, k ≤ i ∧ i < n ∧ M.1 1 (12 * s + i) = x) := by
      constructor
      · rintro (h | ⟨i, h1, h2, h3⟩)
        · by_cases q : f = 0
          · rw [if_pos q] at h
            by_cases q2 : M.1 1 (12 * s + k) = x
            · exact Or.inr ⟨k, Nat.le_refl _, by omega, q2⟩
            · rw [if_neg q2] at h; exact absurd h (by decide)
          · rcases hf with q2 | q2
            · exact absurd q2 q
            · exact Or.inl q2
        · exact Or.inr ⟨i, by omega, h2, h3⟩
      · rintro (h | ⟨i, h1, h2, h3⟩)
        · rw [h, if_neg (by decide)]; exact Or.inl rfl
        · rcases Nat.lt_or_ge k i with q | q
          · exact Or.inr ⟨i, q, h2, h3⟩
          · rw [show i = k by omega] at h3
            left
            rw [if_pos h3]
            by_cases q3 : f = 0
            · rw [if_pos q3]
            · rw [if_neg q3]
    rcases ih (k + 1) _ (by omega) hf2 with ⟨h1, h2⟩ | ⟨h1, h2⟩
    · exact Or.inl ⟨key.mp h1, h2⟩
    · exact Or.inr ⟨fun h => h1 (key.mpr h), h2⟩
theorem m_has {M : MS} {s n : Nat} (hs : s < 6) (hn : n ≤ 12) (h0 : M.1 0 s = nI n) (x : Int32) : (∃ i, i < n ∧ M.1 1 (12 * s + i) = x) ∧ f_X8_hasPlace M (nI s) x = some 1 ∨ (¬ ∃ i, i < n ∧ M.1 1 (12 * s + i) = x) ∧ f_X8_hasPlace M (nI s) x = some 0 := by
  unfold f_X8_hasPlace
  rcases m_has_lp hs hn h0 x n 0 0 (by omega) (Or.inl rfl) with ⟨h1, h2⟩ | ⟨h1, h2⟩
  · refine Or.inl ⟨?_, ?_⟩
    · rcases h1 with h | ⟨i, -, a2, a3⟩
      · exact absurd h (by decide)
      · exact ⟨i, a2, a3⟩
    · rw [show ((0 : Int32), (0 : Int32)) = ((0 : Int32), nI 0) from rfl, h2, z_bd_s, z_chk_t (by decide)]
  · refine Or.inr ⟨fun ⟨i, a1, a2⟩ => h1 (Or.inr ⟨i, Nat.zero_le _, a1, a2⟩), ?_⟩
    rw [show ((0 : Int32), (0 : Int32)) = ((0 : Int32), nI 0) from rfl, h2, z_bd_s, z_chk_t (by decide)]
theorem m_take_lp {M : MS} {s n i : Nat} {F G K : Nat → Int32} (hs : s < 6) (hn : n < 12) (h0 : M.1 0 s = nI n) : ∀ d k, k + d = n → i ≤ k → z_lp (fun y => f_X8_take_L48 (nI s) y.1 y.2) (nI (12 * s + k), mUp M (shD F (12 * s + i) (12 * s + (k + 1))) (shD G (12 * s + i) (12 * s + (k + 1))) (shD K (12 * s + i) (12 * s + (k + 1)))) = some (mUp M (shD F (12 * s + i) (12 * s + (n + 1))) (shD G (12 * s + i) (12 * s + (n + 1))) (shD K (12 * s + i) (12 * s + (n + 1)))) := by
  intro d
  induction d with
  | zero =>
    intro k hk hi
    rw [show k = n by omega]
    apply z_lp_x
    show f_X8_take_L48 (nI s) (nI (12 * s + n)) _ = _
    unfold f_X8_take_L48
    rw [z_chk_t (by rw [n_in (by omega)]; exact hs), n_cl (by omega), mUp_n (by omega) (by omega) (by omega), h0, show (12 : Int32) = nI 12 from rfl, n_mul, n_add, if_pos (by rw [n_le (by omega) (by omega)]; omega)]
  | succ d ih =>
    intro k hk hi
    rw [← ih (k + 1) (by omega) (by omega)]
    apply z_lp_n
    show f_X8_take_L48 (nI s) (nI (12 * s + k)) _ = _
    unfold f_X8_take_L48
    have q1 : z_in (nI (12 * s + k + 1)) 72 := by rw [n_in (by omega)]; omega
    have q2 : z_in (nI (12 * s + k)) 72 := by rw [n_in (by omega)]; omega
    rw [z_chk_t (by rw [n_in (by omega)]; exact hs), n_cl (by omega), mUp_n (by omega) (by omega) (by omega), h0, show (12 : Int32) = nI 12 from rfl, n_mul, n_add, if_neg (by rw [n_le (by omega) (by omega)]; omega), show (1 : Int32) = nI 1 from rfl, n_add, z_chk_t q1, z_chk_t q2, z_lt_e, z_chk_t q1, z_chk_t q2, z_lt_e, z_chk_t q1, z_chk_t q2, z_lt_e, n_cl (by omega), n_cl (by omega), mUp_1, mUp_w1, mUp_2, mUp_w2, mUp_3, mUp_w3]
    have e := fun f : Nat → Int32 => shD_up f (i := 12 * s + i) (k := 12 * s + k + 1) (by omega)
    rw [show 12 * s + k + 1 - 1 = 12 * s + k by omega] at e
    rw [show 12 * s + (k + 1) = 12 * s + k + 1 by omega, show 12 * s + (k + 1 + 1) = 12 * s + k + 1 + 1 by omega, e, e, e]
theorem m_take {M : MS} {s n i : Nat} (hs : s < 6) (hn : n ≤ 12) (hi : i < n) (h0 : M.1 0 s = nI n) : f_X8_take M (nI s) (nI i) = some (nI (n - 1), sI (mUp (sI M 0 s (nI (n - 1))) (shD (M.1 1) (12 * s + i) (12 * s + n)) (shD (M.1 2) (12 * s + i) (12 * s + n)) (shD (M.1 3) (12 * s + i) (12 * s + n))) 18 0 0) := by
  have hin : f_X8_in (nI s) 0 5 = some 1 := by
    unfold f_X8_in
    rw [show (0 : Int32) = nI 0 from rfl, show (5 : Int32) = nI 5 from rfl, if_neg (by rw [n_lt (by omega) (by omega)]; omega), if_neg (by rw [n_lt (by omega) (by omega)]; omega)]
  have hin2 : f_X8_in (nI i) 0 (nI (n - 1)) = some 1 := by
    unfold f_X8_in
    rw [show (0 : Int32) = nI 0 from rfl, if_neg (by rw [n_lt (by omega) (by omega)]; omega), if_neg (by rw [n_lt (by omega) (by omega)]; omega)]
  have hlp := m_take_lp (M := sI M 0 s (nI (n - 1))) (s := s) (n := n - 1) (i := i) (F := M.1 1) (G := M.1 2) (K := M.1 3) hs (by omega) (by rw [sI_s, upd_s]) (n - 1 - i) i (by omega) (Nat.le_refl _)
  rw [show 12 * s + (i + 1) = 12 * s + i + 1 by omega, shD_0, shD_0, shD_0, show n - 1 + 1 = n by omega] at hlp
  have e1 : mUp (sI M 0 s (nI (n - 1))) (M.1 1) (M.1 2) (M.1 3) = sI M 0 s (nI (n - 1)) := mUp_self (sI M 0 s (nI (n - 1)))
  rw [e1] at hlp
  have q1 : z_in (nI s) 6 := by rw [n_in (by omega)]; exact hs
  unfold f_X8_take
  simp only [z_chk_t q1]
  rw [hin, z_bd_s, if_neg (by decide), n_cl (by omega), h0, show (1 : Int32) = nI 1 from rfl, n_sub (by omega), hin2, z_bd_s, if_neg (by decide), z_lt_e, show (12 : Int32) = nI 12 from rfl, n_mul, n_add, hlp, z_bd_s, mUp_n (by omega) (by omega) (by omega), sI_s, upd_s]
  rfl
