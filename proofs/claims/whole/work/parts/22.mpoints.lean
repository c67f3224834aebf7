/-! Points go; the reference's points come and go -/
def shD (f : Nat → Int32) (i k : Nat) : Nat → Int32 := fun j => if i ≤ j ∧ j + 1 < k then f (j + 1) else f j
theorem shD_0 (f : Nat → Int32) (i : Nat) : shD f i (i + 1) = f := by
  funext j
  unfold shD
  rw [if_neg (by omega)]
theorem shD_up (f : Nat → Int32) {i k : Nat} (h : i < k) : upd (shD f i k) (k - 1) (shD f i k k) = shD f i (k + 1) := by
  funext j
  unfold shD upd
  by_cases q : j = k - 1
  · rw [if_pos q, if_neg (by omega), if_pos (by omega)]
    congr 1
    omega
  · rw [if_neg q]
    dsimp only
    by_cases q2 : i ≤ j ∧ j + 1 < k
    · rw [if_pos q2, if_pos (by omega)]
    · rw [if_neg q2, if_neg (by omega)]
theorem p_rem_lp {a n i : Nat} {P V Z : Nat → Int32} (hn : n ≤ 12) : ∀ (d k : Nat) (S : GS), k + d = n → i < k → PtsAt S a n (shD P i k) (shD V i k) (shD Z i k) → ∃ S', z_lp (fun y => f_X3_remove_L17 a y.1 y.2) (nI k, S) = some S' ∧ PtsAt S' a n (shD P i n) (shD V i n) (shD Z i n) ∧ Same S S' a 4 := by
  intro d
  induction d with
  | zero =>
    intro k S hk hi h
    rw [show k = n by omega] at h ⊢
    refine ⟨S, z_lp_x ?_, h, Same.rf⟩
    show f_X3_remove_L17 a (nI n) S = _
    unfold f_X3_remove_L17
    rw [h.sz, z_bd_s, if_pos (by rw [n_le (by omega) (by omega)]; omega)]
  | succ d ih =>
    intro k S hk hi h
    obtain ⟨S1, e1, h1, s1⟩ := p_move h (i := k) (j := k - 1) (by omega) (by omega)
    rw [shD_up P hi, shD_up V hi, shD_up Z hi] at h1
    obtain ⟨S', t1, t2, t3⟩ := ih (k + 1) S1 (by omega) (by omega) h1
    refine ⟨S', ?_, t2, s1.tr t3⟩
    rw [z_lp_n (y := (nI (k + 1), S1))]
    · exact t1
    · show f_X3_remove_L17 a (nI k) S = _
      unfold f_X3_remove_L17
      rw [h.sz, z_bd_s, if_neg (by rw [n_le (by omega) (by omega)]; omega), z_chk_t h.is, show (1 : Int32) = nI 1 from rfl, n_sub (by omega), e1, z_bd_s, n_add]
theorem p_remove {S : GS} {a n i : Nat} {P V Z : Nat → Int32} (h : PtsAt S a n P V Z) (hn : n ≤ 12) (hi : i < n) : ∃ S', f_X3_remove S a (nI i) = some (nI (n - 1), S') ∧ PtsAt S' a (n - 1) (shD P i n) (shD V i n) (shD Z i n) ∧ Same S S' a 4 := by
  have h0 : PtsAt S a n (shD P i (i + 1)) (shD V i (i + 1)) (shD Z i (i + 1)) := by rw [shD_0, shD_0, shD_0]; exact h
  obtain ⟨S1, t1, t2, t3⟩ := p_rem_lp hn (n - (i + 1)) (i + 1) S (by omega) (by omega) h0
  obtain ⟨S2, e2, h2, s2⟩ := t2.ws (n - 1)
  refine ⟨S2, ?_, h2, t3.tr s2⟩
  have hh : f_X3_has S a (nI i) = some 1 := by rw [p_hasN h hn (by omega), if_pos hi]
  unfold f_X3_remove
  rw [z_chk_t h.is, hh, z_bd_s, if_neg (by decide), show (1 : Int32) = nI 1 from rfl, n_add, t1, z_bd_s, t2.sz, z_bd_s, n_sub (by omega), e2, z_bd_s, h2.sz, z_bd_s]
/-- the reference with its rows 1, 2, 3 told -/
def mUp (M : MS) (f1 f2 f3 : Nat → Int32) : MS := (fun q => if q = 1 then f1 else if q = 2 then f2 else if q = 3 then f3 else M.1 q, M.2)
theorem mUp_1 (M : MS) (f1 f2 f3 : Nat → Int32) : (mUp M f1 f2 f3).1 1 = f1 := rfl
theorem mUp_2 (M : MS) (f1 f2 f3 : Nat → Int32) : (mUp M f1 f2 f3).1 2 = f2 := rfl
theorem mUp_3 (M : MS) (f1 f2 f3 : Nat → Int32) : (mUp M f1 f2 f3).1 3 = f3 := rfl
theorem mUp_n {M : MS} {f1 f2 f3 : Nat → Int32} {q : Nat} (h1 : q ≠ 1) (h2 : q ≠ 2) (h3 : q ≠ 3) : (mUp M f1 f2 f3).1 q = M.1 q := by
  show (if q = 1 then f1 else if q = 2 then f2 else if q = 3 then f3 else M.1 q) = _
  rw [if_neg h1, if_neg h2, if_neg h3]
theorem mUp_self (M : MS) : mUp M (M.1 1) (M.1 2) (M.1 3) = M := by
  refine Prod.ext ?_ rfl
  funext q
  show (if q = 1 then M.1 1 else if q = 2 then M.1 2 else if q = 3 then M.1 3 else M.1 q) = _
  by_cases h1 : q = 1
  · rw [if_pos h1, h1]
  · rw [if_neg h1]
    by_cases h2 : q = 2
    · rw [if_pos h2, h2]
    · rw [if_neg h2]
      by_cases h3 : q = 3
      · rw [if_pos h3, h3]
      · rw [if_neg h3]
theorem mUp_w1 (M : MS) (f1 f2 f3 : Nat → Int32) (i : Nat) (v : Int32) : sI (mUp M f1 f2 f3) 1 i v = mUp M (upd f1 i v) f2 f3 := by
  refine Prod.ext ?_ rfl
  funext q
  show (if q = 1 then upd f1 i v else (mUp M f1 f2 f3).1 q) = (if q = 1 then upd f1 i v else if q = 2 then f2 else if q = 3 then f3 else M.1 q)
  by_cases h : q = 1
  · rw [if_pos h, if_pos h]
  · rw [if_neg h, if_neg h]
    show (if q = 1 then f1 else if q = 2 then f2 else if q = 3 then f3 else M.1 q) = _
    rw [if_neg h]
theorem mUp_w2 (M : MS) (f1 f2 f3 : Nat → Int32) (i : Nat) (v : Int32) : sI (mUp M f1 f2 f3) 2 i v = mUp M f1 (upd f2 i v) f3 := by
  refine Prod.ext ?_ rfl
  funext q
  show (if q = 2 then upd f2 i v else if q = 1 then f1 else if q = 2 then f2 else if q = 3 then f3 else M.1 q) = (if q = 1 then f1 else if q = 2 then upd f2 i v else if q = 3 then f3 else M.1 q)
  by_cases h : q = 2
  · rw [if_pos h, if_neg (by omega), if_pos h]
  · rw [if_neg h, if_neg h, if_neg h]
theorem mUp_w3 (M : MS) (f1 f2 f3 : Nat → Int32) (i : Nat) (v : Int32) : sI (mUp M f1 f2 f3) 3 i v = mUp M f1 f2 (upd f3 i v) := by
  refine Prod.ext ?_ rfl
  funext q
  show (if q = 3 then upd f3 i v else if q = 1 then f1 else if q = 2 then f2 else if q = 3 then f3 else M.1 q) = (if q = 1 then f1 else if q = 2 then f2 else if q = 3 then upd f3 i v else M.1 q)
  by_cases h : q = 3
  · rw [if_pos h, if_neg (by omega), if_neg (by omega), if_pos h]
  · rw [if_neg h, if_neg h, if_neg h]
theorem m_ins_lp {M : MS} {s n : Nat} {F G K : Nat → Int32} (hs : s < 6) (hn : n < 12) (x : Int32) : ∀ k : Nat, k ≤ n → ∃ t, t ≤ k ∧ (∀ i, t ≤ i → i < k → ¬ F (12 * s + i) ≤ x) ∧ (t = 0 ∨ ∃ u, t = u + 1 ∧ F (12 * s + u) ≤ x) ∧ z_lp (fun y => f_X8_comes_L23 (nI s) x y.1 y.2) (nI (12 * s + k), mUp M (shU F (12 * s + k) (12 * s + n)) (shU G (12 * s + k) (12 * s + n)) (shU K (12 * s + k) (12 * s + n))) = some (nI (12 * s + t), mUp M (shU F (12 * s + t) (12 * s + n)) (shU G (12 * s + t) (12 * s + n)) (shU K (12 * s + t) (12 * s + n))) := by
  intro k
  induction k with
  | zero =>
    intro hk
    refine ⟨0, Nat.le_refl _, fun i h1 h2 => by omega, Or.inl rfl, z_lp_x ?_⟩
    show f_X8_comes_L23 (nI s) x (nI (12 * s + 0)) _ = _
    unfold f_X8_comes_L23
    rw [show (12 : Int32) = nI 12 from rfl, n_mul, if_pos (by rw [n_le (by omega) (by omega)]; omega)]
  | succ k ih =>
    intro hk
    have hg : f_X8_comes_L23 (nI s) x (nI (12 * s + (k + 1))) (mUp M (shU F (12 * s + (k + 1)) (12 * s + n)) (shU G (12 * s + (k + 1)) (12 * s + n)) (shU K (12 * s + (k + 1)) (12 * s + n))) = (if F (12 * s + k) ≤ x then some (.inl (nI (12 * s + (k + 1)), (mUp M (shU F (12 * s + (k + 1)) (12 * s + n)) (shU G (12 * s + (k + 1)) (12 * s + n)) (shU K (12 * s + (k + 1)) (12 * s + n))))) else some (.inr (nI (12 * s + k), mUp M (shU F (12 * s + k) (12 * s + n)) (shU G (12 * s + k) (12 * s + n)) (shU K (12 * s + k) (12 * s + n))))) := by
      unfold f_X8_comes_L23
      have q1 : z_in (nI (12 * s + k)) 72 := by rw [n_in (by omega)]; omega
      have q2 : z_in (nI (12 * s + (k + 1))) 72 := by rw [n_in (by omega)]; omega
      rw [show (12 : Int32) = nI 12 from rfl, n_mul, if_neg (by rw [n_le (by omega) (by omega)]; omega), show (1 : Int32) = nI 1 from rfl, n_sub (by omega), show 12 * s + (k + 1) - 1 = 12 * s + k by omega, z_chk_t q1, z_chk_t q1, z_chk_t q2, z_lt_e, z_chk_t q1, z_chk_t q2, z_lt_e, z_chk_t q1, z_chk_t q2, z_lt_e, n_cl (by omega), n_cl (by omega), mUp_1, mUp_w1, mUp_2, mUp_w2, mUp_3, mUp_w3]
      rw [show 12 * s + (k + 1) = (12 * s + k) + 1 by omega, shU_up F (by omega), shU_up G (by omega), shU_up K (by omega), n_dec]
      rw [show shU F (12 * s + k + 1) (12 * s + n) (12 * s + k) = F (12 * s + k) by unfold shU; rw [if_neg (by omega)]]
    by_cases q : F (12 * s + k) ≤ x
    · refine ⟨k + 1, Nat.le_refl _, fun i h1 h2 => by omega, Or.inr ⟨k, rfl, q⟩, z_lp_x ?_⟩
      show f_X8_comes_L23 (nI s) x (nI (12 * s + (k + 1))) _ = _
      rw [hg, if_pos q]
    · obtain ⟨t, t1, t2, t3, t4⟩ := ih (by omega)
      refine ⟨t, by omega, fun i h2 h3 => ?_, t3, ?_⟩
      · rcases Nat.lt_or_ge i k with q2 | q2
        · exact t2 i h2 q2
        · rw [show i = k by omega]; exact q
      · rw [← t4]
        apply z_lp_n
        show f_X8_comes_L23 (nI s) x (nI (12 * s + (k + 1))) _ = _
        rw [hg, if_neg q]
