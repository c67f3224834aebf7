/-! the reference's fractions -/
def setQ (M : MS) (r : Rat) : MS := sJ (sJ M 21 0 (jI r.num)) 22 0 (jI (r.den : Int))
theorem b_mul {x y : Int} {B C : Nat} (hx : x.natAbs ≤ B) (hy : y.natAbs ≤ C) : (x * y).natAbs ≤ B * C := by
  rw [Int.natAbs_mul]
  exact Nat.mul_le_mul hx hy
theorem m_is (M : MS) {a b : Int} (hb : b ≠ 0) (h1 : a.natAbs < 9223372036854775808) (h2 : b.natAbs < 9223372036854775808) : f_X8_is M (jI a) (jI b) = some (setQ M (Rat.divInt a b)) := by
  have hg : Int.gcd a b ≠ 0 := by
    intro e
    have := (Int.gcd_eq_zero_iff.mp e).2
    exact hb this
  have hga : Int.gcd a b ≤ b.natAbs := Nat.le_of_dvd (by omega) (Nat.gcd_dvd_right _ _)
  have hda : ((Int.gcd a b : Nat) : Int) ∣ a := Int.gcd_dvd_left a b
  have hdb : ((Int.gcd a b : Nat) : Int) ∣ b := Int.gcd_dvd_right a b
  obtain ⟨x, hx⟩ := hda
  obtain ⟨y, hy⟩ := hdb
  have hg0 : ((Int.gcd a b : Nat) : Int) ≠ 0 := by omega
  have hnum : (Rat.divInt a b).num = b.sign * x := by
    rw [Rat.num_divInt, Int.gcd_comm]
    have e : b.sign * a = (b.sign * x) * ((Int.gcd a b : Nat) : Int) := by
      rw [show b.sign * a = b.sign * (((Int.gcd a b : Nat) : Int) * x) by rw [← hx]]
      grind
    rw [e]
    exact Int.mul_ediv_cancel _ hg0
  have hden : ((Rat.divInt a b).den : Int) = b.sign * y := by
    rw [Rat.den_divInt, if_neg hb, Int.gcd_comm]
    have e : (b.natAbs : Int) = (b.sign * y) * ((Int.gcd a b : Nat) : Int) := by
      have e1 : (b.natAbs : Int) = b.sign * b := by
        rcases Int.lt_or_gt_of_ne hb with q | q
        · rw [Int.sign_eq_neg_one_of_neg q]; omega
        · rw [Int.sign_eq_one_of_pos q]; omega
      rw [e1, show b.sign * b = b.sign * (((Int.gcd a b : Nat) : Int) * y) by rw [← hy]]
      grind
    rw [Int.natCast_ediv, e]
    exact Int.mul_ediv_cancel _ hg0
  unfold f_X8_is
  rw [m_divisor (by omega) (by omega) (by omega) (by omega), z_bd_s, show (0 : Int64) = jI 0 from rfl]
  have fin : ∀ g' : Int, g' ≠ 0 → g'.natAbs = Int.gcd a b → a.tdiv g' = b.sign * x → b.tdiv g' = b.sign * y → z_bd (some (jI g')) (fun v_2 => z_chk (¬ v_2 = jI 0) (z_lt (sJ M 21 0 (jI a / v_2)) fun M_3 => z_chk (¬ v_2 = jI 0) (z_lt (sJ M_3 22 0 (jI b / v_2)) fun M_4 => some M_4))) = some (setQ M (Rat.divInt a b)) := by
    intro g' n1 n2 n3 n4
    have q : ¬ jI g' = jI 0 := by rw [j_eq (by omega) (by omega) (by omega) (by omega)]; exact n1
    rw [z_bd_s, z_chk_t q, z_lt_e, z_chk_t q, z_lt_e, j_div (by omega) (by omega) (by omega) (by omega), j_div (by omega) (by omega) (by omega) (by omega), n3, n4]
    unfold setQ
    rw [hnum, hden]
  by_cases q : 0 ≤ b
  · rw [if_pos (by rw [j_cmpge (by omega) (by omega) (by omega) (by omega)]; exact q)]
    have hs : b.sign = 1 := Int.sign_eq_one_of_pos (by omega)
    refine fin _ hg0 (by omega) ?_ ?_
    · rw [hs, Int.one_mul]
      have h := Int.mul_tdiv_cancel_left x hg0
      rw [← hx] at h
      exact h
    · rw [hs, Int.one_mul]
      have h := Int.mul_tdiv_cancel_left y hg0
      rw [← hy] at h
      exact h
  · rw [if_neg (by rw [j_cmpge (by omega) (by omega) (by omega) (by omega)]; exact q), j_neg]
    have hs : b.sign = -1 := Int.sign_eq_neg_one_of_neg (by omega)
    refine fin _ (by omega) (by omega) ?_ ?_
    · rw [hs, Int.tdiv_neg]
      have h := Int.mul_tdiv_cancel_left x hg0
      rw [← hx] at h
      rw [h]
      omega
    · rw [hs, Int.tdiv_neg]
      have h := Int.mul_tdiv_cancel_left y hg0
      rw [← hy] at h
      rw [h]
      omega
theorem rt_plus {A B C E X Y g : Rat} (e1 : B ≠ 0) (e2 : E ≠ 0) (e3 : X ≠ 0) (e4 : g ≠ 0) (e7 : Y ≠ 0) (e5 : B = g * X) (e6 : E = g * Y) : (A * Y + C * X) / (X * E) = A / B + C / E := by grind
theorem rt_times {A B C E X Y U V g h : Rat} (e1 : B ≠ 0) (e2 : E ≠ 0) (e3 : V ≠ 0) (e4 : Y ≠ 0) (e5 : g ≠ 0) (e6 : h ≠ 0) (f1 : A = g * X) (f2 : E = g * Y) (f3 : C = h * U) (f4 : B = h * V) : X * U / (V * Y) = A / B * (C / E) := by
  rw [f1, f2, f3, f4]
  grind
theorem d_ne {b : Int} (h : b ≠ 0) : (b : Rat) ≠ 0 := by
  intro e
  have : b = 0 := by exact_mod_cast e
  exact h this
theorem m_plus (M : MS) {a b c e : Int} (hb : b ≠ 0) (he : e ≠ 0) (ha1 : a.natAbs ≤ 2147483647) (hb1 : b.natAbs ≤ 2147483647) (hc1 : c.natAbs ≤ 2147483647) (he1 : e.natAbs ≤ 2147483647) : f_X8_plus M (jI a) (jI b) (jI c) (jI e) = some (setQ M (Rat.divInt a b + Rat.divInt c e)) := by
  have hg : Int.gcd b e ≠ 0 := by
    intro q
    exact hb (Int.gcd_eq_zero_iff.mp q).1
  have hg0 : ((Int.gcd b e : Nat) : Int) ≠ 0 := by omega
  have hgb : Int.gcd b e ≤ b.natAbs := Nat.le_of_dvd (by omega) (Nat.gcd_dvd_left _ _)
  obtain ⟨x, hx⟩ : ((Int.gcd b e : Nat) : Int) ∣ b := Int.gcd_dvd_left b e
  obtain ⟨y, hy⟩ : ((Int.gcd b e : Nat) : Int) ∣ e := Int.gcd_dvd_right b e
  have tb : b.tdiv ((Int.gcd b e : Nat) : Int) = x := by
    have h := Int.mul_tdiv_cancel_left x hg0
    rw [← hx] at h
    exact h
  have te : e.tdiv ((Int.gcd b e : Nat) : Int) = y := by
    have h := Int.mul_tdiv_cancel_left y hg0
    rw [← hy] at h
    exact h
  have hx1 : x.natAbs ≤ 2147483647 := by
    have := Int.natAbs_tdiv_le_natAbs b ((Int.gcd b e : Nat) : Int)
    rw [tb] at this
    omega
  have hy1 : y.natAbs ≤ 2147483647 := by
    have := Int.natAbs_tdiv_le_natAbs e ((Int.gcd b e : Nat) : Int)
    rw [te] at this
    omega
  have hx0 : x ≠ 0 := by intro q; rw [q, Int.mul_zero] at hx; exact hb hx
  have k1 := b_mul ha1 hy1
  have k2 := b_mul hc1 hx1
  have k3 := b_mul hx1 he1
  unfold f_X8_plus
  have q : ¬ jI ((Int.gcd b e : Nat) : Int) = 0 := by rw [show (0 : Int64) = jI 0 from rfl, j_eq (by omega) (by omega) (by omega) (by omega)]; exact hg0
  rw [m_divisor (by omega) (by omega) (by omega) (by omega), z_bd_s, z_chk_t q, z_chk_t q, z_chk_t q, j_div (by omega) (by omega) (by omega) (by omega), j_div (by omega) (by omega) (by omega) (by omega), tb, te, j_mul, j_mul, j_add, j_mul, m_is M (Int.mul_ne_zero hx0 he) (by omega) (by omega), z_bd_s]
  congr 2
  rw [Rat.divInt_eq_div, Rat.divInt_eq_div, Rat.divInt_eq_div]
  have e1 := d_ne hb
  have e2 := d_ne he
  have e3 := d_ne hx0
  have e4 := d_ne hg0
  have e5 : (b : Rat) = (((Int.gcd b e : Nat) : Int) : Rat) * (x : Rat) := by rw [← Rat.intCast_mul, ← hx]
  have e6 : (e : Rat) = (((Int.gcd b e : Nat) : Int) : Rat) * (y : Rat) := by rw [← Rat.intCast_mul, ← hy]
  rw [Rat.intCast_add, Rat.intCast_mul, Rat.intCast_mul, Rat.intCast_mul]
  have e7 : (y : Rat) ≠ 0 := by
    intro z
    rw [z, Rat.mul_zero] at e6
    exact e2 e6
  exact rt_plus e1 e2 e3 e4 e7 e5 e6
theorem m_times (M : MS) {a b c e : Int} (hb : b ≠ 0) (he : e ≠ 0) (ha1 : a.natAbs ≤ 2147483647) (hb1 : b.natAbs ≤ 2147483647) (hc1 : c.natAbs ≤ 2147483647) (he1 : e.natAbs ≤ 2147483647) : f_X8_times M (jI a) (jI b) (jI c) (jI e) = some (setQ M (Rat.divInt a b * Rat.divInt c e)) := by
  have hg : Int.gcd a e ≠ 0 := by
    intro q
    exact he (Int.gcd_eq_zero_iff.mp q).2
  have hh : Int.gcd c b ≠ 0 := by
    intro q
    exact hb (Int.gcd_eq_zero_iff.mp q).2
  have hg0 : ((Int.gcd a e : Nat) : Int) ≠ 0 := by omega
  have hh0 : ((Int.gcd c b : Nat) : Int) ≠ 0 := by omega
  have hge : Int.gcd a e ≤ e.natAbs := Nat.le_of_dvd (by omega) (Nat.gcd_dvd_right _ _)
  have hhb : Int.gcd c b ≤ b.natAbs := Nat.le_of_dvd (by omega) (Nat.gcd_dvd_right _ _)
  obtain ⟨x, hx⟩ : ((Int.gcd a e : Nat) : Int) ∣ a := Int.gcd_dvd_left a e
  obtain ⟨y, hy⟩ : ((Int.gcd a e : Nat) : Int) ∣ e := Int.gcd_dvd_right a e
  obtain ⟨u, hu⟩ : ((Int.gcd c b : Nat) : Int) ∣ c := Int.gcd_dvd_left c b
  obtain ⟨v, hv⟩ : ((Int.gcd c b : Nat) : Int) ∣ b := Int.gcd_dvd_right c b
  have tq : ∀ {z g w : Int}, g ≠ 0 → z = g * w → z.tdiv g = w := by
    intro z g w h1 h2
    rw [h2]
    exact Int.mul_tdiv_cancel_left w h1
  have ta := tq hg0 hx
  have te := tq hg0 hy
  have tc := tq hh0 hu
  have tb := tq hh0 hv
  have bd : ∀ {z g w : Int}, z.tdiv g = w → z.natAbs ≤ 2147483647 → w.natAbs ≤ 2147483647 := by
    intro z g w h1 h2
    have := Int.natAbs_tdiv_le_natAbs z g
    rw [h1] at this
    omega
  have k1 := b_mul (bd ta ha1) (bd tc hc1)
  have k2 := b_mul (bd tb hb1) (bd te he1)
  have hv0 : v ≠ 0 := by intro q; rw [q, Int.mul_zero] at hv; exact hb hv
  have hy0 : y ≠ 0 := by intro q; rw [q, Int.mul_zero] at hy; exact he hy
  have n1 : ¬ lg_cmp (jI ((Int.gcd a e : Nat) : Int)) 0 = 0 := by rw [show (0 : Int64) = jI 0 from rfl, j_cmp0 (by omega) (by omega) (by omega) (by omega)]; exact hg0
  have n2 : ¬ lg_cmp (jI ((Int.gcd c b : Nat) : Int)) 0 = 0 := by rw [show (0 : Int64) = jI 0 from rfl, j_cmp0 (by omega) (by omega) (by omega) (by omega)]; exact hh0
  have q1 : ¬ jI ((Int.gcd a e : Nat) : Int) = 0 := by rw [show (0 : Int64) = jI 0 from rfl, j_eq (by omega) (by omega) (by omega) (by omega)]; exact hg0
  have q2 : ¬ jI ((Int.gcd c b : Nat) : Int) = 0 := by rw [show (0 : Int64) = jI 0 from rfl, j_eq (by omega) (by omega) (by omega) (by omega)]; exact hh0
  unfold f_X8_times
  rw [m_divisor (by omega) (by omega) (by omega) (by omega), z_bd_s, m_divisor (by omega) (by omega) (by omega) (by omega), z_bd_s, if_neg n1, z_bd_s, if_neg n2, z_bd_s, z_chk_t q1, z_chk_t q2, z_chk_t q2, z_chk_t q1, j_div (by omega) (by omega) (by omega) (by omega), j_div (by omega) (by omega) (by omega) (by omega), j_div (by omega) (by omega) (by omega) (by omega), j_div (by omega) (by omega) (by omega) (by omega), ta, te, tc, tb, j_mul, j_mul, m_is M (Int.mul_ne_zero hv0 hy0) (by omega) (by omega), z_bd_s]
  congr 2
  rw [Rat.divInt_eq_div, Rat.divInt_eq_div, Rat.divInt_eq_div]
  have e1 := d_ne hb
  have e2 := d_ne he
  have e3 := d_ne hv0
  have e4 := d_ne hy0
  have e5 := d_ne hg0
  have e6 := d_ne hh0
  have f1 : (a : Rat) = (((Int.gcd a e : Nat) : Int) : Rat) * (x : Rat) := by rw [← Rat.intCast_mul, ← hx]
  have f2 : (e : Rat) = (((Int.gcd a e : Nat) : Int) : Rat) * (y : Rat) := by rw [← Rat.intCast_mul, ← hy]
  have f3 : (c : Rat) = (((Int.gcd c b : Nat) : Int) : Rat) * (u : Rat) := by rw [← Rat.intCast_mul, ← hu]
  have f4 : (b : Rat) = (((Int.gcd c b : Nat) : Int) : Rat) * (v : Rat) := by rw [← Rat.intCast_mul, ← hv]
  rw [Rat.intCast_mul, Rat.intCast_mul]
  exact rt_times e1 e2 e3 e4 e5 e6 f1 f2 f3 f4
