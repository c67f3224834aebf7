/-! longs as whole numbers; the two greatest common divisors -/
def jI (z : Int) : Int64 := Int64.ofInt z
theorem j_of (x : Int64) : x = jI x.toInt := (Int64.ofInt_toInt x).symm
theorem j_to {z : Int} (h1 : -9223372036854775808 ≤ z) (h2 : z < 9223372036854775808) : (jI z).toInt = z := Int64.toInt_ofInt_of_le (by omega) (by omega)
theorem j_add (a b : Int) : jI a + jI b = jI (a + b) := (Int64.ofInt_add a b).symm
theorem j_mul (a b : Int) : jI a * jI b = jI (a * b) := (Int64.ofInt_mul a b).symm
theorem j_neg (a : Int) : -jI a = jI (-a) := (Int64.ofInt_neg a).symm
theorem j_sub (a b : Int) : jI a - jI b = jI (a - b) := by
  rw [Int64.sub_eq_add_neg, j_neg, j_add]
  rfl
theorem j_eq {a b : Int} (h1 : -9223372036854775808 ≤ a) (h2 : a < 9223372036854775808) (h3 : -9223372036854775808 ≤ b) (h4 : b < 9223372036854775808) : (jI a = jI b) = (a = b) := by
  apply propext
  constructor
  · intro h
    have h5 := congrArg Int64.toInt h
    rwa [j_to h1 h2, j_to h3 h4] at h5
  · intro h; rw [h]
theorem j_lt {a b : Int} (h1 : -9223372036854775808 ≤ a) (h2 : a < 9223372036854775808) (h3 : -9223372036854775808 ≤ b) (h4 : b < 9223372036854775808) : (jI a < jI b) = (a < b) := by
  apply propext
  rw [Int64.lt_iff_toInt_lt, j_to h1 h2, j_to h3 h4]
theorem j_div {a b : Int} (h1 : -9223372036854775808 < a) (h2 : a < 9223372036854775808) (h3 : -9223372036854775808 ≤ b) (h4 : b < 9223372036854775808) : jI a / jI b = jI (a.tdiv b) := by
  apply Int64.toInt_inj.mp
  rw [Int64.toInt_div_of_ne_left, j_to (by omega) h2, j_to h3 h4, j_to]
  · have h := Int.natAbs_tdiv_le_natAbs a b
    omega
  · have h := Int.natAbs_tdiv_le_natAbs a b
    omega
  · intro e
    have h := congrArg Int64.toInt e
    rw [j_to (by omega) h2] at h
    have h5 : Int64.minValue.toInt = -9223372036854775808 := by decide
    omega
theorem j_cmp {a b : Int} (h1 : -9223372036854775808 ≤ a) (h2 : a < 9223372036854775808) (h3 : -9223372036854775808 ≤ b) (h4 : b < 9223372036854775808) : lg_cmp (jI a) (jI b) = if b < a then 1 else if a = b then 0 else -1 := by
  unfold lg_cmp
  show (if jI b < jI a then (1 : Int32) else if jI a = jI b then 0 else -1) = _
  simp only [j_lt h3 h4 h1 h2, j_eq h1 h2 h3 h4]
theorem j_cmp0 {a b : Int} (h1 : -9223372036854775808 ≤ a) (h2 : a < 9223372036854775808) (h3 : -9223372036854775808 ≤ b) (h4 : b < 9223372036854775808) : (lg_cmp (jI a) (jI b) = 0) = (a = b) := by
  apply propext
  rw [j_cmp h1 h2 h3 h4]
  by_cases q : b < a
  · rw [if_pos q]; constructor
    · intro h; exact absurd h (by decide)
    · intro h; omega
  · rw [if_neg q]
    by_cases q2 : a = b
    · rw [if_pos q2]; exact ⟨fun _ => q2, fun _ => rfl⟩
    · rw [if_neg q2]; constructor
      · intro h; exact absurd h (by decide)
      · intro h; exact absurd h q2
theorem j_cmpge {a b : Int} (h1 : -9223372036854775808 ≤ a) (h2 : a < 9223372036854775808) (h3 : -9223372036854775808 ≤ b) (h4 : b < 9223372036854775808) : (0 ≤ lg_cmp (jI a) (jI b)) = (b ≤ a) := by
  apply propext
  rw [j_cmp h1 h2 h3 h4]
  by_cases q : b < a
  · rw [if_pos q]; exact ⟨fun _ => by omega, fun _ => by decide⟩
  · rw [if_neg q]
    by_cases q2 : a = b
    · rw [if_pos q2]; exact ⟨fun _ => by omega, fun _ => by decide⟩
    · rw [if_neg q2]; constructor
      · intro h; exact absurd h (by decide)
      · intro h; omega
theorem j_cmple {a b : Int} (h1 : -9223372036854775808 ≤ a) (h2 : a < 9223372036854775808) (h3 : -9223372036854775808 ≤ b) (h4 : b < 9223372036854775808) : (lg_cmp (jI a) (jI b) ≤ 0) = (a ≤ b) := by
  apply propext
  rw [j_cmp h1 h2 h3 h4]
  by_cases q : b < a
  · rw [if_pos q]; constructor
    · intro h; exact absurd h (by decide)
    · intro h; omega
  · rw [if_neg q]
    by_cases q2 : a = b
    · rw [if_pos q2]; exact ⟨fun _ => by omega, fun _ => by decide⟩
    · rw [if_neg q2]; exact ⟨fun _ => by omega, fun _ => by decide⟩
/-- one step of Euclid's, of numbers not below 0 -/
theorem j_mod {p q : Nat} (hp : (p : Int) < 9223372036854775808) (hq : (q : Int) < 9223372036854775808) (h0 : q ≠ 0) : jI (p : Int) - jI (p : Int) / jI (q : Int) * jI (q : Int) = jI ((p % q : Nat) : Int) := by
  rw [j_div (by omega) hp (by omega) hq, j_mul, j_sub]
  congr 1
  rw [Int.tdiv_eq_ediv_of_nonneg (by omega)]
  have h1 := Int.mul_ediv_add_emod (p : Int) (q : Int)
  have h2 : ((p % q : Nat) : Int) = (p : Int) % (q : Int) := Int.natCast_emod p q
  rw [h2]
  have h3 : (q : Int) * ((p : Int) / (q : Int)) = (p : Int) / (q : Int) * (q : Int) := Int.mul_comm _ _
  omega
theorem m_div_lp : ∀ (q p : Nat), (p : Int) < 9223372036854775808 → (q : Int) < 9223372036854775808 → z_lp (fun x => f_X8_divisor_L28 x.1 x.2) (jI (p : Int), jI (q : Int)) = some (jI ((Nat.gcd p q : Nat) : Int)) := by
  intro q
  induction q using Nat.strongRecOn with
  | _ q ih =>
    intro p hp hq
    by_cases h0 : q = 0
    · subst h0
      apply z_lp_x
      show f_X8_divisor_L28 (jI (p : Int)) (jI ((0 : Nat) : Int)) = _
      unfold f_X8_divisor_L28
      rw [show (0 : Int64) = jI 0 from rfl, if_pos (by rw [j_cmp0 (by omega) (by omega) (by omega) (by omega)]; rfl), Nat.gcd_zero_right]
    · have hlt : p % q < q := Nat.mod_lt _ (by omega)
      rw [z_lp_n (y := (jI (q : Int), jI ((p % q : Nat) : Int)))]
      · rw [ih (p % q) hlt q hq (by omega), Nat.gcd_comm q (p % q), ← Nat.gcd_rec, Nat.gcd_comm]
      · show f_X8_divisor_L28 (jI (p : Int)) (jI (q : Int)) = _
        unfold f_X8_divisor_L28
        rw [show (0 : Int64) = jI 0 from rfl, if_neg (by rw [j_cmp0 (by omega) (by omega) (by omega) (by omega)]; omega), z_chk_t (by rw [j_eq (by omega) (by omega) (by omega) (by omega)]; omega), j_mod hp hq h0]
theorem j_abs {a : Int} (h1 : -9223372036854775808 < a) (h2 : a < 9223372036854775808) : (if 0 ≤ lg_cmp (jI a) (0 : Int64) then some (jI a) else some (-jI a)) = some (jI (a.natAbs : Int)) := by
  rw [show (0 : Int64) = jI 0 from rfl]
  by_cases q : 0 ≤ a
  · rw [if_pos (by rw [j_cmpge (by omega) (by omega) (by omega) (by omega)]; exact q)]
    congr 2
    omega
  · rw [if_neg (by rw [j_cmpge (by omega) (by omega) (by omega) (by omega)]; exact q), j_neg]
    congr 2
    omega
theorem m_divisor {a b : Int} (h1 : -9223372036854775808 < a) (h2 : a < 9223372036854775808) (h3 : -9223372036854775808 < b) (h4 : b < 9223372036854775808) : f_X8_divisor (jI a) (jI b) = some (jI ((Int.gcd a b : Nat) : Int)) := by
  unfold f_X8_divisor
  rw [j_abs h1 h2, z_bd_s, j_abs h3 h4, z_bd_s, m_div_lp _ _ (by omega) (by omega), z_bd_s]
  rfl
theorem p_gcd_lp : ∀ (k q p c : Nat), q < 2 ^ k → c + 2 * k + 1 ≤ 200 → (p : Int) < 9223372036854775808 → (q : Int) < 9223372036854775808 → z_lp (fun x => f_X7_commonDivisor_L31 x.1 x.2.1 x.2.2) (jI (p : Int), jI (q : Int), nI c) = some (jI ((Nat.gcd p q : Nat) : Int)) := by
  have e0 : ∀ (p c : Nat), c < 200 → z_lp (fun x => f_X7_commonDivisor_L31 x.1 x.2.1 x.2.2) (jI (p : Int), jI ((0 : Nat) : Int), nI c) = some (jI ((Nat.gcd p 0 : Nat) : Int)) := by
    intro p c hc
    apply z_lp_x
    show f_X7_commonDivisor_L31 (jI (p : Int)) (jI ((0 : Nat) : Int)) (nI c) = _
    unfold f_X7_commonDivisor_L31
    rw [show (200 : Int32) = nI 200 from rfl, if_neg (by rw [n_le (by omega) (by omega)]; omega), show (0 : Int64) = jI 0 from rfl, if_pos (by rw [j_cmp0 (by omega) (by omega) (by omega) (by omega)]; rfl), Nat.gcd_zero_right]
  have e1 : ∀ (p q c : Nat), c < 200 → q ≠ 0 → (p : Int) < 9223372036854775808 → (q : Int) < 9223372036854775808 → z_lp (fun x => f_X7_commonDivisor_L31 x.1 x.2.1 x.2.2) (jI (p : Int), jI (q : Int), nI c) = z_lp (fun x => f_X7_commonDivisor_L31 x.1 x.2.1 x.2.2) (jI (q : Int), jI ((p % q : Nat) : Int), nI (c + 1)) := by
    intro p q c hc h0 hp hq
    apply z_lp_n
    show f_X7_commonDivisor_L31 (jI (p : Int)) (jI (q : Int)) (nI c) = _
    unfold f_X7_commonDivisor_L31
    rw [show (200 : Int32) = nI 200 from rfl, if_neg (by rw [n_le (by omega) (by omega)]; omega), show (0 : Int64) = jI 0 from rfl, if_neg (by rw [j_cmp0 (by omega) (by omega) (by omega) (by omega)]; omega), z_chk_t (by rw [j_eq (by omega) (by omega) (by omega) (by omega)]; omega), j_mod hp hq h0, show nI c + 1 = nI (c + 1) from n_add c 1]
  intro k
  induction k with
  | zero =>
    intro q p c hq hc hp _
    rw [show q = 0 by omega]
    exact e0 p c (by omega)
  | succ k ih =>
    intro q p c hq hc hp hqb
    by_cases h0 : q = 0
    · subst h0
      exact e0 p c (by omega)
    · have hlt : p % q < q := Nat.mod_lt _ (by omega)
      rw [e1 p q c (by omega) h0 hp hqb]
      have g1 : Nat.gcd p q = Nat.gcd q (p % q) := by rw [Nat.gcd_comm q (p % q), ← Nat.gcd_rec, Nat.gcd_comm]
      rw [g1]
      by_cases h1 : p % q = 0
      · rw [h1]
        exact e0 q (c + 1) (by omega)
      · have hlt2 : q % (p % q) < p % q := Nat.mod_lt _ (by omega)
        have hle : q % (p % q) + p % q ≤ q := by
          have h2 := Nat.div_add_mod q (p % q)
          have h3 : 1 ≤ q / (p % q) := Nat.div_pos (by omega) (by omega)
          have h4 : (p % q) * 1 ≤ (p % q) * (q / (p % q)) := Nat.mul_le_mul_left _ h3
          omega
        rw [e1 q (p % q) (c + 1) (by omega) h1 hqb (by omega)]
        have g2 : Nat.gcd q (p % q) = Nat.gcd (p % q) (q % (p % q)) := by rw [Nat.gcd_comm (p % q) (q % (p % q)), ← Nat.gcd_rec, Nat.gcd_comm]
        rw [g2]
        exact ih _ _ _ (by rw [Nat.pow_succ] at hq; omega) (by omega) (by omega) (by omega)
theorem p_gcd {a b : Int} (h1 : -9223372036854775808 < a) (h2 : a < 9223372036854775808) (h3 : -9223372036854775808 < b) (h4 : b < 9223372036854775808) : f_X7_commonDivisor (jI a) (jI b) = some (jI ((Int.gcd a b : Nat) : Int)) := by
  unfold f_X7_commonDivisor
  rw [j_abs h1 h2, z_bd_s, j_abs h3 h4, z_bd_s, show (0 : Int32) = nI 0 from rfl, p_gcd_lp 63 _ _ 0 (by omega) (by omega) (by omega) (by omega), z_bd_s]
  rfl
