/-! fractions with told bounds; values and misses of the reference -/
theorem m_plus2 (M : MS) {a b c e : Int} (A B C E : Nat) (hb : b ≠ 0) (he : e ≠ 0) (ha1 : a.natAbs ≤ A) (hb1 : b.natAbs ≤ B) (hc1 : c.natAbs ≤ C) (he1 : e.natAbs ≤ E) (h1 : A * E + C * B < 9223372036854775808) (h2 : B * E < 9223372036854775808) : f_X8_plus M (jI a) (jI b) (jI c) (jI e) = some (setQ M (Rat.divInt a b + Rat.divInt c e)) := by
  have hg : Int.gcd b e ≠ 0 := by
    intro q
    exact hb (Int.gcd_eq_zero_iff.mp q).1
  have hg0 : ((Int.gcd b e : Nat) : Int) ≠ 0 := by omega
  have hgb : Int.gcd b e ≤ b.natAbs := Nat.le_of_dvd (by omega) (Nat.gcd_dvd_left _ _)
  obtain ⟨x, hx⟩ : ((Int.gcd b e : Nat) : Int) ∣ b := Int.gcd_dvd_left b e
  obtain ⟨y, hy⟩ : ((Int.gcd b e : Nat) : Int) ∣ e := Int.gcd_dvd_right b e
  have tb : b.tdiv ((Int.gcd b e : Nat) : Int) = x := by
    have h := Int.mul_tdiv_cancel_left x hg0
    rw [← hx] at h
    exact h
  have te : e.tdiv ((Int.gcd b e : Nat) : Int) = y := by
    have h := Int.mul_tdiv_cancel_left y hg0
    rw [← hy] at h
    exact h
  have hx1 : x.natAbs ≤ B := by
    have := Int.natAbs_tdiv_le_natAbs b ((Int.gcd b e : Nat) : Int)
    rw [tb] at this
    omega
  have hy1 : y.natAbs ≤ E := by
    have := Int.natAbs_tdiv_le_natAbs e ((Int.gcd b e : Nat) : Int)
    rw [te] at this
    omega
  have hx0 : x ≠ 0 := by intro q; rw [q, Int.mul_zero] at hx; exact hb hx
  have k1 := b_mul ha1 hy1
  have k2 := b_mul hc1 hx1
  have k3 := b_mul hx1 he1
  have l1 : B ≤ B * E := Nat.le_mul_of_pos_right B (by omega)
  have l2 : E ≤ B * E := Nat.le_mul_of_pos_left E (by omega)
  have l3 : A ≤ A * E := Nat.le_mul_of_pos_right A (by omega)
  have l4 : C ≤ C * B := Nat.le_mul_of_pos_right C (by omega)
  generalize A * E = AE at *
  generalize C * B = CB at *
  generalize B * E = BE at *
  unfold f_X8_plus
  have q : ¬ jI ((Int.gcd b e : Nat) : Int) = 0 := by rw [show (0 : Int64) = jI 0 from rfl, j_eq (by omega) (by omega) (by omega) (by omega)]; exact hg0
  rw [m_divisor (by omega) (by omega) (by omega) (by omega), z_bd_s, z_chk_t q, z_chk_t q, z_chk_t q, j_div (by omega) (by omega) (by omega) (by omega), j_div (by omega) (by omega) (by omega) (by omega), tb, te, j_mul, j_mul, j_add, j_mul, m_is M (Int.mul_ne_zero hx0 he) (by omega) (by omega), z_bd_s]
  congr 2
  rw [Rat.divInt_eq_div, Rat.divInt_eq_div, Rat.divInt_eq_div]
  have e1 := d_ne hb
  have e2 := d_ne he
  have e3 := d_ne hx0
  have e4 := d_ne hg0
  have e5 : (b : Rat) = (((Int.gcd b e : Nat) : Int) : Rat) * (x : Rat) := by rw [← Rat.intCast_mul, ← hx]
  have e6 : (e : Rat) = (((Int.gcd b e : Nat) : Int) : Rat) * (y : Rat) := by rw [← Rat.intCast_mul, ← hy]
  rw [Rat.intCast_add, Rat.intCast_mul, Rat.intCast_mul, Rat.intCast_mul]
  have e7 : (y : Rat) ≠ 0 := by
    intro z
    rw [z, Rat.mul_zero] at e6
    exact e2 e6
  exact rt_plus e1 e2 e3 e4 e7 e5 e6
theorem m_times2 (M : MS) {a b c e : Int} (A B C E : Nat) (hb : b ≠ 0) (he : e ≠ 0) (ha1 : a.natAbs ≤ A) (hb1 : b.natAbs ≤ B) (hc1 : c.natAbs ≤ C) (he1 : e.natAbs ≤ E) (h1 : A * C + A + C < 9223372036854775808) (h2 : B * E < 9223372036854775808) : f_X8_times M (jI a) (jI b) (jI c) (jI e) = some (setQ M (Rat.divInt a b * Rat.divInt c e)) := by
  have hg : Int.gcd a e ≠ 0 := by
    intro q
    exact he (Int.gcd_eq_zero_iff.mp q).2
  have hh : Int.gcd c b ≠ 0 := by
    intro q
    exact hb (Int.gcd_eq_zero_iff.mp q).2
  have hg0 : ((Int.gcd a e : Nat) : Int) ≠ 0 := by omega
  have hh0 : ((Int.gcd c b : Nat) : Int) ≠ 0 := by omega
  have hge : Int.gcd a e ≤ e.natAbs := Nat.le_of_dvd (by omega) (Nat.gcd_dvd_right _ _)
  have hhb : Int.gcd c b ≤ b.natAbs := Nat.le_of_dvd (by omega) (Nat.gcd_dvd_right _ _)
  obtain ⟨x, hx⟩ : ((Int.gcd a e : Nat) : Int) ∣ a := Int.gcd_dvd_left a e
  obtain ⟨y, hy⟩ : ((Int.gcd a e : Nat) : Int) ∣ e := Int.gcd_dvd_right a e
  obtain ⟨u, hu⟩ : ((Int.gcd c b : Nat) : Int) ∣ c := Int.gcd_dvd_left c b
  obtain ⟨v, hv⟩ : ((Int.gcd c b : Nat) : Int) ∣ b := Int.gcd_dvd_right c b
  have tq : ∀ {z g w : Int}, g ≠ 0 → z = g * w → z.tdiv g = w := by
    intro z g w h1 h2
    rw [h2]
    exact Int.mul_tdiv_cancel_left w h1
  have ta := tq hg0 hx
  have te := tq hg0 hy
  have tc := tq hh0 hu
  have tb := tq hh0 hv
  have bd : ∀ {z g w : Int} {X : Nat}, z.tdiv g = w → z.natAbs ≤ X → w.natAbs ≤ X := by
    intro z g w X h1 h2
    have := Int.natAbs_tdiv_le_natAbs z g
    rw [h1] at this
    omega
  have k1 := b_mul (bd ta ha1) (bd tc hc1)
  have k2 := b_mul (bd tb hb1) (bd te he1)
  have hv0 : v ≠ 0 := by intro q; rw [q, Int.mul_zero] at hv; exact hb hv
  have hy0 : y ≠ 0 := by intro q; rw [q, Int.mul_zero] at hy; exact he hy
  have l1 : B ≤ B * E := Nat.le_mul_of_pos_right B (by omega)
  have l2 : E ≤ B * E := Nat.le_mul_of_pos_left E (by omega)
  generalize A * C = AC at *
  generalize B * E = BE at *
  have n1 : ¬ lg_cmp (jI ((Int.gcd a e : Nat) : Int)) 0 = 0 := by rw [show (0 : Int64) = jI 0 from rfl, j_cmp0 (by omega) (by omega) (by omega) (by omega)]; exact hg0
  have n2 : ¬ lg_cmp (jI ((Int.gcd c b : Nat) : Int)) 0 = 0 := by rw [show (0 : Int64) = jI 0 from rfl, j_cmp0 (by omega) (by omega) (by omega) (by omega)]; exact hh0
  have q1 : ¬ jI ((Int.gcd a e : Nat) : Int) = 0 := by rw [show (0 : Int64) = jI 0 from rfl, j_eq (by omega) (by omega) (by omega) (by omega)]; exact hg0
  have q2 : ¬ jI ((Int.gcd c b : Nat) : Int) = 0 := by rw [show (0 : Int64) = jI 0 from rfl, j_eq (by omega) (by omega) (by omega) (by omega)]; exact hh0
  unfold f_X8_times
  rw [m_divisor (by omega) (by omega) (by omega) (by omega), z_bd_s, m_divisor (by omega) (by omega) (by omega) (by omega), z_bd_s, if_neg n1, z_bd_s, if_neg n2, z_bd_s, z_chk_t q1, z_chk_t q2, z_chk_t q2, z_chk_t q1, j_div (by omega) (by omega) (by omega) (by omega), j_div (by omega) (by omega) (by omega) (by omega), j_div (by omega) (by omega) (by omega) (by omega), j_div (by omega) (by omega) (by omega) (by omega), ta, te, tc, tb, j_mul, j_mul, m_is M (Int.mul_ne_zero hv0 hy0) (by omega) (by omega), z_bd_s]
  congr 2
  rw [Rat.divInt_eq_div, Rat.divInt_eq_div, Rat.divInt_eq_div]
  have e1 := d_ne hb
  have e2 := d_ne he
  have e3 := d_ne hv0
  have e4 := d_ne hy0
  have e5 := d_ne hg0
  have e6 := d_ne hh0
  have f1 : (a : Rat) = (((Int.gcd a e : Nat) : Int) : Rat) * (x : Rat) := by rw [← Rat.intCast_mul, ← hx]
  have f2 : (e : Rat) = (((Int.gcd a e : Nat) : Int) : Rat) * (y : Rat) := by rw [← Rat.intCast_mul, ← hy]
  have f3 : (c : Rat) = (((Int.gcd c b : Nat) : Int) : Rat) * (u : Rat) := by rw [← Rat.intCast_mul, ← hu]
  have f4 : (b : Rat) = (((Int.gcd c b : Nat) : Int) : Rat) * (v : Rat) := by rw [← Rat.intCast_mul, ← hv]
  rw [Rat.intCast_mul, Rat.intCast_mul]
  exact rt_times e1 e2 e3 e4 e5 e6 f1 f2 f3 f4
/-- a fraction's parts are no greater than those it is told by -/
theorem qb {N D : Int} (hD : 0 < D) : (Rat.divInt N D).num.natAbs ≤ N.natAbs ∧ (Rat.divInt N D).den ≤ D.natAbs := by
  obtain ⟨x, y, hx, hy, hn, hd, hg⟩ := q_parts (a := N) hD
  constructor
  · rw [hn]
    have : N.natAbs = ((Int.gcd N D : Nat) : Int).natAbs * x.natAbs := by rw [← Int.natAbs_mul, ← hx]
    rw [this]
    exact Nat.le_mul_of_pos_left _ (by omega)
  · have : D.natAbs = ((Int.gcd N D : Nat) : Int).natAbs * y.natAbs := by rw [← Int.natAbs_mul, ← hy]
    have h2 : y.natAbs ≤ D.natAbs := by
      rw [this]
      exact Nat.le_mul_of_pos_left _ (by omega)
    omega
theorem rt_self (r : Rat) : Rat.divInt r.num (r.den : Int) = r := Rat.num_divInt_den r
theorem rt_den (r : Rat) : ((r.den : Nat) : Int) ≠ 0 := by
  have := r.den_pos
  omega
theorem rt_bd {r : Rat} {N D : Int} {A B : Nat} (hr : r = Rat.divInt N D) (hD : 0 < D) (hA : N.natAbs ≤ A) (hB : D.natAbs ≤ B) : r.num.natAbs ≤ A ∧ ((r.den : Nat) : Int).natAbs ≤ B := by
  subst hr
  have := qb (N := N) hD
  omega
theorem rt_d1 (c : Int) : Rat.divInt c 1 = (c : Rat) := by
  rw [Rat.divInt_eq_div, show ((1 : Int) : Rat) = 1 from rfl]
  grind
/-- sums and products of fractions in lowest terms -/
theorem m_plusR (M : MS) (r s : Rat) (A B C E : Nat) (hr : r.num.natAbs ≤ A ∧ ((r.den : Nat) : Int).natAbs ≤ B) (hs : s.num.natAbs ≤ C ∧ ((s.den : Nat) : Int).natAbs ≤ E) (h1 : A * E + C * B < 9223372036854775808) (h2 : B * E < 9223372036854775808) : f_X8_plus M (jI r.num) (jI (r.den : Int)) (jI s.num) (jI (s.den : Int)) = some (setQ M (r + s)) := by
  rw [m_plus2 M A B C E (rt_den r) (rt_den s) hr.1 hr.2 hs.1 hs.2 h1 h2, rt_self, rt_self]
theorem m_timesI (M : MS) (r : Rat) (c : Int) (A B C : Nat) (hr : r.num.natAbs ≤ A ∧ ((r.den : Nat) : Int).natAbs ≤ B) (hs : c.natAbs ≤ C) (h1 : A * C + A + C < 9223372036854775808) (h2 : B * 1 < 9223372036854775808) : f_X8_times M (jI r.num) (jI (r.den : Int)) (jI c) (1 : Int64) = some (setQ M (r * (c : Rat))) := by
  rw [show (1 : Int64) = jI 1 from rfl, m_times2 M A B C 1 (rt_den r) (by omega) hr.1 hr.2 hs (by omega) h1 h2, rt_self, rt_d1]
theorem m_timesD (M : MS) (r : Rat) (e : Int) (A B E : Nat) (hr : r.num.natAbs ≤ A ∧ ((r.den : Nat) : Int).natAbs ≤ B) (he : e ≠ 0) (hs : e.natAbs ≤ E) (h1 : A * 1 + A + 1 < 9223372036854775808) (h2 : B * E < 9223372036854775808) : f_X8_times M (jI r.num) (jI (r.den : Int)) (1 : Int64) (jI e) = some (setQ M (r / (e : Rat))) := by
  rw [show (1 : Int64) = jI 1 from rfl, m_times2 M A B 1 E (rt_den r) he hr.1 hr.2 (by omega) hs h1 h2, rt_self, Rat.divInt_eq_div]
  congr 2
  rw [show ((1 : Int) : Rat) = 1 from rfl, Rat.div_def, Rat.div_def, Rat.one_mul]
theorem rt_neg (r : Rat) : (-r).num = -r.num ∧ (-r).den = r.den := ⟨Rat.neg_num r, Rat.neg_den r⟩
theorem setQ_1 (M : MS) (r : Rat) : (setQ M r).1 = M.1 := rfl
theorem updL_s (f : Nat → Int64) (k : Nat) (x : Int64) : vp_updL f k x k = x := if_pos rfl
theorem updL_n {f : Nat → Int64} {k j : Nat} (x : Int64) (h : j ≠ k) : vp_updL f k x j = f j := if_neg h
theorem setQ_n (M : MS) (r : Rat) : (setQ M r).2 21 0 = jI r.num := by
  unfold setQ
  rw [sJ_n _ (by omega), sJ_s, updL_s]
theorem setQ_d (M : MS) (r : Rat) : (setQ M r).2 22 0 = jI (r.den : Int) := by
  unfold setQ
  rw [sJ_s, updL_s]
theorem setQ_k {M : MS} {r : Rat} {k : Nat} (h1 : k ≠ 21) (h2 : k ≠ 22) : (setQ M r).2 k = M.2 k := by
  unfold setQ
  rw [sJ_n _ h2, sJ_n _ h1]
theorem updL_u (f : Nat → Int64) (k : Nat) (x y : Int64) : vp_updL (vp_updL f k x) k y = vp_updL f k y := by
  funext j
  by_cases h : j = k
  · rw [h, updL_s, updL_s]
  · rw [updL_n _ h, updL_n _ h, updL_n _ h]
theorem setQ_2 (M : MS) (r s : Rat) : setQ (setQ M r) s = setQ M s := by
  refine Prod.ext rfl ?_
  funext k
  by_cases h2 : k = 22
  · subst h2
    unfold setQ
    rw [sJ_s, sJ_s, sJ_n _ (by omega), sJ_s, updL_u, sJ_n _ (by omega), sJ_n _ (by omega)]
  · by_cases h1 : k = 21
    · subst h1
      unfold setQ
      rw [sJ_n _ (by omega), sJ_s, sJ_n _ (by omega), sJ_s, updL_u, sJ_n _ (by omega), sJ_s]
    · rw [setQ_k h1 h2, setQ_k h1 h2, setQ_k h1 h2]
theorem z_i64 (x : Int32) : x.toInt64 = jI x.toInt := by
  apply Int64.toInt_inj.mp
  have h1 := Int32.toInt_lt x
  have h2 := Int32.le_toInt x
  rw [j_to (by omega) (by omega)]
  exact Int32.toInt_toInt64 x
/-- what a polynomial of three numbers tells -/
def ev (q0 q1 q2 : Rat) (x : Int) : Rat := (q2 * (x : Rat) + q1) * (x : Rat) + q0
/-- numbers over one line, small ones -/
def PolOk (c0 c1 c2 d : Int) : Prop := 0 < d ∧ d ≤ 1048576 ∧ c0.natAbs ≤ 33554432 ∧ c1.natAbs ≤ 33554432 ∧ c2.natAbs ≤ 33554432
theorem rt_a1 {c2 x d : Rat} (h : d ≠ 0) : c2 / d * x = c2 * x / d := by grind
theorem rt_a2 {a b d : Rat} (h : d ≠ 0) : a / d + b / d = (a + b) / d := by grind
theorem ev_div {c0 c1 c2 d : Int} (h : 0 < d) (x : Int) : Rat.divInt c2 d * (x : Rat) = Rat.divInt (c2 * x) d ∧ Rat.divInt c2 d * (x : Rat) + Rat.divInt c1 d = Rat.divInt (c2 * x + c1) d ∧ (Rat.divInt c2 d * (x : Rat) + Rat.divInt c1 d) * (x : Rat) = Rat.divInt ((c2 * x + c1) * x) d ∧ ev (Rat.divInt c0 d) (Rat.divInt c1 d) (Rat.divInt c2 d) x = Rat.divInt ((c2 * x + c1) * x + c0) d := by
  have hd : (d : Rat) ≠ 0 := d_ne (by omega)
  unfold ev
  simp only [Rat.divInt_eq_div, Rat.intCast_add, Rat.intCast_mul, rt_a1 hd, rt_a2 hd]
  exact ⟨trivial, trivial, trivial, trivial⟩
theorem b_add {x y : Int} {B C : Nat} (hx : x.natAbs ≤ B) (hy : y.natAbs ≤ C) : (x + y).natAbs ≤ B + C := by omega
theorem m_valueOf (M : MS) {c0 c1 c2 d : Int} (h : PolOk c0 c1 c2 d) (x : Int32) (hx : x.toInt.natAbs ≤ 100) : f_X8_valueOf M (jI (Rat.divInt c0 d).num) (jI ((Rat.divInt c0 d).den : Int)) (jI (Rat.divInt c1 d).num) (jI ((Rat.divInt c1 d).den : Int)) (jI (Rat.divInt c2 d).num) (jI ((Rat.divInt c2 d).den : Int)) x = some (setQ M (ev (Rat.divInt c0 d) (Rat.divInt c1 d) (Rat.divInt c2 d) x.toInt)) := by
  obtain ⟨h0, h1, h2, h3, h4⟩ := h
  obtain ⟨e1, e2, e3, e4⟩ := ev_div (c0 := c0) (c1 := c1) (c2 := c2) h0 x.toInt
  have k1 := b_mul h4 hx
  have k2 := b_add k1 h3
  have k3 := b_mul k2 hx
  have k4 := b_add k3 h2
  unfold f_X8_valueOf
  rw [z_i64, m_timesI M _ _ 33554432 1048576 100 (rt_bd rfl h0 h4 (by omega)) hx (by decide) (by decide), z_bd_s, setQ_n, setQ_d, m_plusR _ _ _ 3355443200 1048576 33554432 1048576 (rt_bd e1 h0 (by omega) (by omega)) (rt_bd rfl h0 h3 (by omega)) (by decide) (by decide), z_bd_s, setQ_n, setQ_d, m_timesI _ _ _ 3388997632 1048576 100 (rt_bd e2 h0 (by omega) (by omega)) hx (by decide) (by decide), z_bd_s, setQ_n, setQ_d, m_plusR _ _ _ 338899763200 1048576 33554432 1048576 (rt_bd e3 h0 (by omega) (by omega)) (rt_bd rfl h0 h2 (by omega)) (by decide) (by decide), z_bd_s, setQ_2, setQ_2, setQ_2]
  rfl
theorem rt_m1 {v a d w : Rat} (h : d ≠ 0) : (v + -(a / d)) * w = w * (v * d - a) / d := by grind
/-- the rest of a miss: from the value told at the place -/
theorem m_missEnd (M : MS) {N d : Int} {r : Rat} (hr : r = Rat.divInt N d) (h0 : 0 < d) (h1 : d ≤ 1048576) (hN : N.natAbs ≤ 400000000000) (v w : Int) (hv : v.natAbs ≤ 60) (hw : w.natAbs ≤ 4) : z_bd (f_X8_plus (setQ M r) (jI v) (1 : Int64) (-(setQ M r).2 21 0) ((setQ M r).2 22 0)) (fun M_2 => z_bd (f_X8_times M_2 (M_2.2 21 0) (M_2.2 22 0) (jI w) (1 : Int64)) fun M_3 => some M_3) = some (setQ M (Rat.divInt (w * (v * d - N)) d)) := by
  have hd : (d : Rat) ≠ 0 := d_ne (by omega)
  have b1 := rt_bd (A := 400000000000) (B := 1048576) hr h0 hN (by omega)
  have b2 : (-r).num.natAbs ≤ 400000000000 ∧ (((-r).den : Nat) : Int).natAbs ≤ 1048576 := by
    rw [(rt_neg r).1, (rt_neg r).2]
    omega
  have e1 : Rat.divInt v 1 + -r = Rat.divInt (v * d - N) d := by
    rw [hr]
    simp only [Rat.divInt_eq_div, Rat.intCast_sub, Rat.intCast_mul]
    have : ∀ v a d : Rat, d ≠ 0 → v / ((1 : Int) : Rat) + -(a / d) = (v * d - a) / d := by
      intro v a d h
      rw [show ((1 : Int) : Rat) = 1 from rfl]
      grind
    exact this _ _ _ hd
  have e2 : (Rat.divInt v 1 + -r) * (w : Rat) = Rat.divInt (w * (v * d - N)) d := by
    rw [e1]
    simp only [Rat.divInt_eq_div, Rat.intCast_sub, Rat.intCast_mul]
    have : ∀ v a d w : Rat, d ≠ 0 → (v * d - a) / d * w = w * (v * d - a) / d := by
      intro v a d w h
      grind
    exact this _ _ _ _ hd
  have k1 := b_mul hv (show d.natAbs ≤ 1048576 by omega)
  have b3 := rt_bd (A := 400062914560) (B := 1048576) e1 h0 (by omega) (by omega)
  rw [setQ_n, setQ_d, j_neg, ← (rt_neg r).1, ← (rt_neg r).2, show (1 : Int64) = jI 1 from rfl, m_plus2 _ 60 1 400000000000 1048576 (by omega) (rt_den _) hv (by omega) b2.1 b2.2 (by decide) (by decide), rt_self, z_bd_s, setQ_n, setQ_d, ← show (1 : Int64) = jI 1 from rfl, m_timesI _ _ _ 400062914560 1048576 4 b3 hw (by decide) (by decide), z_bd_s, setQ_2, setQ_2, e2]
