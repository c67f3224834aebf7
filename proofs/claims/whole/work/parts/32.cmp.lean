/-! compare of the reference: two fractions by their continued fractions -/
def sg (s : Int32) (p q r t : Nat) : Int32 := if p * t < r * q then -s else if p * t = r * q then 0 else s
theorem sg_step {s : Int32} {p q r t : Nat} (hq : 0 < q) (ht : 0 < t) (h : p / q = r / t) : sg (-s) q (p % q) t (r % t) = sg s p q r t := by
  have e1 : p * t = q * (r / t) * t + p % q * t := by
    have := Nat.div_add_mod p q
    rw [h] at this
    calc p * t = (q * (r / t) + p % q) * t := by rw [this]
      _ = _ := by rw [Nat.add_mul]
  have e2 : r * q = q * (r / t) * t + r % t * q := by
    have := Nat.div_add_mod r t
    calc r * q = (t * (r / t) + r % t) * q := by rw [this]
      _ = t * (r / t) * q + r % t * q := by rw [Nat.add_mul]
      _ = _ := by
        congr 1
        rw [Nat.mul_comm (t * (r / t)) q, Nat.mul_comm t (r / t), ← Nat.mul_assoc]
  unfold sg
  rw [e1, e2, Nat.mul_comm q (r % t), Nat.mul_comm t (p % q)]
  generalize q * (r / t) * t = Z
  generalize p % q * t = A
  generalize r % t * q = B
  rw [Int32.neg_neg]
  by_cases c1 : A < B
  · rw [if_neg (show ¬ B < A by omega), if_neg (show ¬ B = A by omega), if_pos (show Z + A < Z + B by omega)]
  · by_cases c2 : A = B
    · rw [if_neg (show ¬ B < A by omega), if_pos (show B = A by omega), if_neg (show ¬ Z + A < Z + B by omega), if_pos (show Z + A = Z + B by omega)]
    · rw [if_pos (show B < A by omega), if_neg (show ¬ Z + A < Z + B by omega), if_neg (show ¬ Z + A = Z + B by omega)]
theorem sg_lt {s : Int32} {p q r t : Nat} (hq : 0 < q) (ht : 0 < t) (h : p / q < r / t) : sg s p q r t = -s := by
  unfold sg
  rw [if_pos]
  have h1 : p < q * (p / q + 1) := Nat.lt_mul_div_succ p hq
  have h2 : t * (r / t) ≤ r := Nat.mul_div_le r t
  have h3 : q * (p / q + 1) ≤ q * (r / t) := Nat.mul_le_mul_left q h
  calc p * t < q * (r / t) * t := Nat.mul_lt_mul_of_pos_right (by omega) ht
    _ = t * (r / t) * q := by rw [Nat.mul_comm (q * (r / t)) t, Nat.mul_comm q (r / t), ← Nat.mul_assoc]
    _ ≤ r * q := Nat.mul_le_mul_right q h2
theorem sg_gt {s : Int32} {p q r t : Nat} (hq : 0 < q) (ht : 0 < t) (h : r / t < p / q) : sg s p q r t = s := by
  have h1 : r * q < p * t := by
    have h1 : r < t * (r / t + 1) := Nat.lt_mul_div_succ r ht
    have h2 : q * (p / q) ≤ p := Nat.mul_div_le p q
    have h3 : t * (r / t + 1) ≤ t * (p / q) := Nat.mul_le_mul_left t h
    calc r * q < t * (p / q) * q := Nat.mul_lt_mul_of_pos_right (by omega) hq
      _ = q * (p / q) * t := by rw [Nat.mul_comm (t * (p / q)) q, Nat.mul_comm t (p / q), ← Nat.mul_assoc]
      _ ≤ p * t := Nat.mul_le_mul_right t h2
  unfold sg
  rw [if_neg (by omega), if_neg (by omega)]
theorem j_ndiv {p q : Nat} (hp : (p : Int) < 9223372036854775808) (hq : (q : Int) < 9223372036854775808) : jI (p : Int) / jI (q : Int) = jI ((p / q : Nat) : Int) := by
  rw [j_div (by omega) hp (by omega) hq, Int.tdiv_eq_ediv_of_nonneg (by omega), Int.natCast_ediv]
theorem m_cmp_1 {p q r t : Nat} {s : Int32} (hq : q ≠ 0) (ht : t ≠ 0) (b1 : (p : Int) < 9223372036854775808) (b2 : (q : Int) < 9223372036854775808) (b3 : (r : Int) < 9223372036854775808) (b4 : (t : Int) < 9223372036854775808) : f_X8_compare_L17 (jI (p : Int)) (jI (q : Int)) (jI (r : Int)) (jI (t : Int)) s = if p / q = r / t then (if p % q = 0 then (if p % q = r % t then some (.inl (.inl 0)) else some (.inl (.inl (-s)))) else if r % t = 0 then some (.inl (.inl s)) else some (.inr (jI (q : Int), jI ((p % q : Nat) : Int), jI (t : Int), jI ((r % t : Nat) : Int), -s))) else some (.inl (.inr (jI (p : Int), jI (q : Int), jI (r : Int), jI (t : Int), s))) := by
  have d1 := Nat.div_le_self p q
  have d2 := Nat.div_le_self r t
  have dn1 : (0 : Int) ≤ (p : Int) / (q : Int) := Int.ediv_nonneg (by omega) (by omega)
  have dn2 : (0 : Int) ≤ (r : Int) / (t : Int) := Int.ediv_nonneg (by omega) (by omega)
  have dm1 : (0 : Int) ≤ (p : Int) % (q : Int) := Int.emod_nonneg _ (by omega)
  have dm2 : (0 : Int) ≤ (r : Int) % (t : Int) := Int.emod_nonneg _ (by omega)
  have d3 := Nat.mod_le p q
  have d4 := Nat.mod_le r t
  have q1 : ¬ jI (q : Int) = 0 := by rw [show (0 : Int64) = jI 0 from rfl, j_eq (by omega) (by omega) (by omega) (by omega)]; omega
  have q2 : ¬ jI (t : Int) = 0 := by rw [show (0 : Int64) = jI 0 from rfl, j_eq (by omega) (by omega) (by omega) (by omega)]; omega
  unfold f_X8_compare_L17
  simp only [z_chk_t q1, z_chk_t q2]
  rw [j_mod b1 b2 hq, j_mod b3 b4 ht, j_ndiv b1 b2, j_ndiv b3 b4, show (0 : Int64) = jI 0 from rfl]
  simp only [show (lg_cmp (jI ((p / q : Nat) : Int)) (jI ((r / t : Nat) : Int)) = 0) = (p / q = r / t) by rw [j_cmp0 (by omega) (by omega) (by omega) (by omega)]; apply propext; omega]
  simp only [show (lg_cmp (jI ((p % q : Nat) : Int)) (jI 0) = 0) = (p % q = 0) by rw [j_cmp0 (by omega) (by omega) (by omega) (by omega)]; apply propext; omega]
  simp only [show (lg_cmp (jI ((r % t : Nat) : Int)) (jI 0) = 0) = (r % t = 0) by rw [j_cmp0 (by omega) (by omega) (by omega) (by omega)]; apply propext; omega]
  simp only [show (lg_cmp (jI ((p % q : Nat) : Int)) (jI ((r % t : Nat) : Int)) = 0) = (p % q = r % t) by rw [j_cmp0 (by omega) (by omega) (by omega) (by omega)]; apply propext; omega]
  by_cases c1 : p / q = r / t
  · rw [if_pos c1, if_pos c1]
    by_cases c2 : p % q = 0
    · rw [if_pos c2, if_pos c2, if_pos c2]
    · rw [if_neg c2, if_neg c2]
      by_cases c3 : r % t = 0
      · rw [if_pos c3, if_pos c3, if_neg (by omega), if_neg c2]
      · simp only [if_neg c3, if_neg c2]
  · rw [if_neg c1, if_neg c1]
theorem m_compare : ∀ (q p r t : Nat) (s : Int32), q ≠ 0 → t ≠ 0 → (p : Int) < 9223372036854775808 → (q : Int) < 9223372036854775808 → (r : Int) < 9223372036854775808 → (t : Int) < 9223372036854775808 → z_bs (z_lp (fun x => f_X8_compare_L17 x.1 x.2.1 x.2.2.1 x.2.2.2.1 x.2.2.2.2) (jI (p : Int), jI (q : Int), jI (r : Int), jI (t : Int), s)) (fun y => z_chk (¬ y.2.1 = 0) (z_chk (¬ y.2.2.2.1 = 0) (if 0 ≤ (lg_cmp (y.1 / y.2.1) (y.2.2.1 / y.2.2.2.1)) then some y.2.2.2.2 else some (-y.2.2.2.2)))) = some (sg s p q r t) := by
  intro q
  induction q using Nat.strongRecOn with
  | _ q ih =>
    intro p r t s hq ht b1 b2 b3 b4
    have d1 := Nat.div_le_self p q
    have d2 := Nat.div_le_self r t
    have dn1 : (0 : Int) ≤ (p : Int) / (q : Int) := Int.ediv_nonneg (by omega) (by omega)
    have dn2 : (0 : Int) ≤ (r : Int) / (t : Int) := Int.ediv_nonneg (by omega) (by omega)
    have key := m_cmp_1 (s := s) hq ht b1 b2 b3 b4
    by_cases c1 : p / q = r / t
    · rw [if_pos c1] at key
      by_cases c2 : p % q = 0
      · rw [if_pos c2] at key
        by_cases c3 : p % q = r % t
        · rw [if_pos c3] at key
          rw [z_lp_x (e := .inl 0) (by exact key), z_bs_l, ← sg_step (by omega) (by omega) c1, ← c3, c2]
          unfold sg
          rw [Nat.mul_zero, Nat.mul_zero, if_neg (by omega), if_pos rfl]
        · rw [if_neg c3] at key
          rw [z_lp_x (e := .inl (-s)) (by exact key), z_bs_l, ← sg_step (by omega) (by omega) c1, c2]
          have c4 : 0 < r % t := by omega
          have c5 : 0 < q * (r % t) := Nat.mul_pos (by omega) c4
          unfold sg
          rw [Nat.mul_zero, if_neg (by omega), if_neg (by omega)]
      · rw [if_neg c2] at key
        by_cases c3 : r % t = 0
        · rw [if_pos c3] at key
          rw [z_lp_x (e := .inl s) (by exact key), z_bs_l, ← sg_step (by omega) (by omega) c1, c3]
          have c5 : 0 < t * (p % q) := Nat.mul_pos (by omega) (by omega)
          unfold sg
          rw [Nat.mul_zero, if_pos c5, Int32.neg_neg]
        · rw [if_neg c3] at key
          have l1 := Nat.mod_lt p (show 0 < q by omega)
          have l2 := Nat.mod_lt r (show 0 < t by omega)
          rw [z_lp_n (y := (jI (q : Int), jI ((p % q : Nat) : Int), jI (t : Int), jI ((r % t : Nat) : Int), -s)) (by exact key), ih (p % q) l1 q t (r % t) (-s) c2 c3 b2 (by omega) b4 (by omega), sg_step (by omega) (by omega) c1]
    · rw [if_neg c1] at key
      rw [z_lp_x (e := .inr (jI (p : Int), jI (q : Int), jI (r : Int), jI (t : Int), s)) (by exact key), z_bs_r]
      have q1 : ¬ jI (q : Int) = 0 := by rw [show (0 : Int64) = jI 0 from rfl, j_eq (by omega) (by omega) (by omega) (by omega)]; omega
      have q2 : ¬ jI (t : Int) = 0 := by rw [show (0 : Int64) = jI 0 from rfl, j_eq (by omega) (by omega) (by omega) (by omega)]; omega
      dsimp only
      rw [z_chk_t q1, z_chk_t q2, j_ndiv b1 b2, j_ndiv b3 b4]
      rcases Nat.lt_or_ge (p / q) (r / t) with c2 | c2
      · rw [if_neg (by rw [j_cmpge (by omega) (by omega) (by omega) (by omega)]; omega), sg_lt (by omega) (by omega) c2]
      · rw [if_pos (by rw [j_cmpge (by omega) (by omega) (by omega) (by omega)]; omega), sg_gt (by omega) (by omega) (by omega)]
theorem m_cmp {p q r t : Nat} (hq : q ≠ 0) (ht : t ≠ 0) (b1 : (p : Int) < 9223372036854775808) (b2 : (q : Int) < 9223372036854775808) (b3 : (r : Int) < 9223372036854775808) (b4 : (t : Int) < 9223372036854775808) : f_X8_compare (jI (p : Int)) (jI (q : Int)) (jI (r : Int)) (jI (t : Int)) = some (sg 1 p q r t) := m_compare q p r t 1 hq ht b1 b2 b3 b4
