/-! numbers over one line with no divisor in common -/
theorem gc4_one {c0 c1 c2 d : Int} (hd : 0 < d) : gc4 (c0.tdiv (gc4 c0 c1 c2 d)) (c1.tdiv (gc4 c0 c1 c2 d)) (c2.tdiv (gc4 c0 c1 c2 d)) (d.tdiv (gc4 c0 c1 c2 d)) = 1 := by
  have hg : 0 < gc4 c0 c1 c2 d := by
    rcases Nat.eq_zero_or_pos (gc4 c0 c1 c2 d) with q | q
    · have h1 := (Nat.gcd_eq_zero_iff.mp q).2
      have h2 := (Int.gcd_eq_zero_iff.mp h1).2
      omega
    · exact q
  have g01 : gc4 c0 c1 c2 d ∣ Nat.gcd c0.natAbs c1.natAbs := Nat.gcd_dvd_left _ _
  have g23 : gc4 c0 c1 c2 d ∣ Nat.gcd c2.natAbs d.natAbs := Nat.gcd_dvd_right _ _
  have g0 := Nat.dvd_trans g01 (Nat.gcd_dvd_left _ _)
  have g1 := Nat.dvd_trans g01 (Nat.gcd_dvd_right _ _)
  have g2 := Nat.dvd_trans g23 (Nat.gcd_dvd_left _ _)
  have g3 := Nat.dvd_trans g23 (Nat.gcd_dvd_right _ _)
  have e : ∀ x y z u : Int, gc4 x y z u = Nat.gcd (Nat.gcd x.natAbs y.natAbs) (Nat.gcd z.natAbs u.natAbs) := fun _ _ _ _ => rfl
  rw [e (c0.tdiv _), Int.natAbs_tdiv, Int.natAbs_tdiv, Int.natAbs_tdiv, Int.natAbs_tdiv, Int.natAbs_natCast]
  show Nat.gcd (Nat.gcd (c0.natAbs / gc4 c0 c1 c2 d) (c1.natAbs / gc4 c0 c1 c2 d)) (Nat.gcd (c2.natAbs / gc4 c0 c1 c2 d) (d.natAbs / gc4 c0 c1 c2 d)) = 1
  rw [Nat.gcd_div g0 g1, Nat.gcd_div g2 g3, Nat.gcd_div g01 g23]
  exact Nat.div_self hg
theorem red {c0 c1 c2 d N0 N1 N2 D : Int} (g : gc4 c0 c1 c2 d = 1) (hd : 0 < d) (hD : 0 < D) (h0 : c0 * D = N0 * d) (h1 : c1 * D = N1 * d) (h2 : c2 * D = N2 * d) : d ≤ D ∧ c0.natAbs ≤ N0.natAbs ∧ c1.natAbs ≤ N1.natAbs ∧ c2.natAbs ≤ N2.natAbs := by
  have dv : ∀ {c N : Int}, c * D = N * d → d.natAbs ∣ c.natAbs * D.natAbs := by
    intro c N h
    rw [← Int.natAbs_mul, h, Int.natAbs_mul]
    exact Nat.dvd_mul_left _ _
  have k0 := dv h0
  have k1 := dv h1
  have k2 := dv h2
  have k3 : d.natAbs ∣ d.natAbs * D.natAbs := Nat.dvd_mul_right _ _
  have l01 := Nat.dvd_gcd k0 k1
  have l23 := Nat.dvd_gcd k2 k3
  rw [Nat.gcd_mul_right] at l01 l23
  have l := Nat.dvd_gcd l01 l23
  rw [Nat.gcd_mul_right] at l
  have g' : Nat.gcd (Nat.gcd c0.natAbs c1.natAbs) (Nat.gcd c2.natAbs d.natAbs) = 1 := g
  rw [g', Nat.one_mul] at l
  have hle := Nat.le_of_dvd (by omega) l
  have fin : ∀ {c N : Int}, c * D = N * d → c.natAbs ≤ N.natAbs := by
    intro c N h
    have h' : c.natAbs * D.natAbs = N.natAbs * d.natAbs := by rw [← Int.natAbs_mul, h, Int.natAbs_mul]
    have : c.natAbs * D.natAbs ≤ N.natAbs * D.natAbs := by
      rw [h']
      exact Nat.mul_le_mul_left _ hle
    exact Nat.le_of_mul_le_mul_right this (by omega)
  exact ⟨by omega, fin h0, fin h1, fin h2⟩
theorem dI_eq {a b c d : Int} (hb : 0 < b) (hd : 0 < d) (h : a * d = c * b) : Rat.divInt a b = Rat.divInt c d := by
  have h1 : (b : Rat) ≠ 0 := d_ne (by omega)
  have h2 : (d : Rat) ≠ 0 := d_ne (by omega)
  have h3 : (a : Rat) * (d : Rat) = (c : Rat) * (b : Rat) := by
    rw [← Rat.intCast_mul, ← Rat.intCast_mul, h]
  rw [Rat.divInt_eq_div, Rat.divInt_eq_div]
  generalize (a : Rat) = A at *
  generalize (b : Rat) = B at *
  generalize (c : Rat) = C at *
  generalize (d : Rat) = E at *
  grind
/-- a Polynomial becomes what is told by N over D -/
theorem p_become2 {S : GS} {a : Nat} {u0 u1 u2 u3 c0 c1 c2 d N0 N1 N2 D : Int} (h : PolAt S a u0 u1 u2 u3) (hd : 0 < d) (b0 : c0.natAbs < 9223372036854775808) (b1 : c1.natAbs < 9223372036854775808) (b2 : c2.natAbs < 9223372036854775808) (b3 : d < 9223372036854775808) (hp : PolOk N0 N1 N2 D) (e0 : c0 * D = N0 * d) (e1 : c1 * D = N1 * d) (e2 : c2 * D = N2 * d) : ∃ (S' : GS) (x0 x1 x2 y : Int), f_X4_become S a (jI c0) (jI c1) (jI c2) (jI d) = some S' ∧ PolAt S' a x0 x1 x2 y ∧ Same S S' a 1 ∧ PolOk x0 x1 x2 y ∧ gc4 x0 x1 x2 y = 1 ∧ Rat.divInt x0 y = Rat.divInt N0 D ∧ Rat.divInt x1 y = Rat.divInt N1 D ∧ Rat.divInt x2 y = Rat.divInt N2 D := by
  obtain ⟨S', r1, r2, r3⟩ := p_become h hd b0 b1 b2 b3
  have g1 := gc4_one (c0 := c0) (c1 := c1) (c2 := c2) hd
  have gd : ((gc4 c0 c1 c2 d : Nat) : Int) ∣ d := by
    have := Nat.dvd_trans (Nat.gcd_dvd_right (Int.gcd c0 c1) (Int.gcd c2 d)) (Nat.gcd_dvd_right c2.natAbs d.natAbs)
    exact Int.ofNat_dvd_left.mpr this
  have g0 : ((gc4 c0 c1 c2 d : Nat) : Int) ∣ c0 := by
    have := Nat.dvd_trans (Nat.gcd_dvd_left (Int.gcd c0 c1) (Int.gcd c2 d)) (Nat.gcd_dvd_left c0.natAbs c1.natAbs)
    exact Int.ofNat_dvd_left.mpr this
  have gg1 : ((gc4 c0 c1 c2 d : Nat) : Int) ∣ c1 := by
    have := Nat.dvd_trans (Nat.gcd_dvd_left (Int.gcd c0 c1) (Int.gcd c2 d)) (Nat.gcd_dvd_right c0.natAbs c1.natAbs)
    exact Int.ofNat_dvd_left.mpr this
  have g2 : ((gc4 c0 c1 c2 d : Nat) : Int) ∣ c2 := by
    have := Nat.dvd_trans (Nat.gcd_dvd_right (Int.gcd c0 c1) (Int.gcd c2 d)) (Nat.gcd_dvd_left c2.natAbs d.natAbs)
    exact Int.ofNat_dvd_left.mpr this
  have hGn : (0 : Int) ≤ ((gc4 c0 c1 c2 d : Nat) : Int) := by omega
  generalize ((gc4 c0 c1 c2 d : Nat) : Int) = G at *
  obtain ⟨y, hy⟩ := gd
  obtain ⟨x0, hx0⟩ := g0
  obtain ⟨x1, hx1⟩ := gg1
  obtain ⟨x2, hx2⟩ := g2
  have hG : G ≠ 0 := by
    intro q
    rw [q, Int.zero_mul] at hy
    omega
  have t0 : c0.tdiv G = x0 := by rw [hx0]; exact Int.mul_tdiv_cancel_left _ hG
  have t1 : c1.tdiv G = x1 := by rw [hx1]; exact Int.mul_tdiv_cancel_left _ hG
  have t2 : c2.tdiv G = x2 := by rw [hx2]; exact Int.mul_tdiv_cancel_left _ hG
  have t3 : d.tdiv G = y := by rw [hy]; exact Int.mul_tdiv_cancel_left _ hG
  rw [t0, t1, t2, t3] at r2 g1
  have hyp : 0 < y := by
    rcases Int.lt_trichotomy y 0 with q | q | q
    · have := Int.mul_nonpos_of_nonneg_of_nonpos hGn (Int.le_of_lt q)
      omega
    · rw [q, Int.mul_zero] at hy
      omega
    · exact q
  have cn : ∀ {c x N : Int}, c = G * x → c * D = N * d → x * D = N * y := by
    intro c x N h1 h2
    rw [h1, hy] at h2
    have : G * (x * D) = G * (N * y) := by
      rw [← Int.mul_assoc, h2, ← Int.mul_assoc, ← Int.mul_assoc, Int.mul_comm G N]
    exact Int.eq_of_mul_eq_mul_left hG this
  have f0 := cn hx0 e0
  have f1 := cn hx1 e1
  have f2 := cn hx2 e2
  obtain ⟨p1, p2, p3, p4, p5⟩ := hp
  obtain ⟨q1, q2, q3, q4⟩ := red g1 hyp p1 f0 f1 f2
  exact ⟨S', x0, x1, x2, y, r1, r2, r3, ⟨hyp, by omega, by omega, by omega, by omega⟩, g1, dI_eq hyp p1 f0, dI_eq hyp p1 f1, dI_eq hyp p1 f2⟩
