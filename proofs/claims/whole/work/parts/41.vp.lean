/-! the least level is no lower than a turns' low; where they are alike -/
theorem r_tot (x y : Rat) : x ≤ y ∨ y ≤ x := by grind
theorem r_loe {x y : Rat} (h : x ≤ y) : x < y ∨ x = y := by grind
theorem a_le {x L : Rat} (h : x.abs ≤ L) : x ≤ L ∧ -x ≤ L := by
  unfold Rat.abs at h
  grind
theorem a_of {x L : Rat} (h1 : x ≤ L) (h2 : -x ≤ L) : x.abs ≤ L := by
  unfold Rat.abs
  grind
theorem a_cases (x : Rat) : (0 ≤ x ∧ x.abs = x) ∨ (x < 0 ∧ x.abs = -x) := by
  unfold Rat.abs
  grind
theorem a_nn (x : Rat) : 0 ≤ x.abs := by
  rcases a_cases x with ⟨h1, h2⟩ | ⟨h1, h2⟩
  · rw [h2]; exact h1
  · rw [h2]; grind
theorem a_neg (x : Rat) : (-x).abs = x.abs := by
  unfold Rat.abs
  grind
/-- some points, their nodes going up -/
def Row (f : Nat) (t w s : Nat → Int) : Prop := (f = 1 ∨ f = 2 ∨ f = 3) ∧ Upw f t ∧ ∀ i, i ≤ f → 0 < w i ∧ 0 < s i ∧ w i * s i = 12
/-- the one number of turns -/
def hh (f : Nat) (t v s : Nat → Int) : Rat := Rat.divInt (12 * abv t v (f + 1)) (blw t s (f + 1))
section VP
variable {f : Nat} {t v w s : Nat → Int} {q0 q1 q2 : Rat}
theorem r_A (h : Row f t w s) : ∀ i, i < f + 1 → (0 : Rat) < ((spr t i (f + 1) * s i : Int) : Rat) := by
  intro i hi
  have h1 := Int.mul_pos (spr_pos h.1 h.2.1 i (by omega)) (h.2.2 i (by omega)).2.1
  exact_mod_cast h1
theorem r_B (h : Row f t w s) : (0 : Rat) < ((blw t s (f + 1) : Int) : Rat) := by
  have h1 := (smR_pos _ (r_A h)).2 (by omega)
  rw [smR_blw h.1] at h1
  exact h1
theorem r_Bz (h : Row f t w s) : 0 < blw t s (f + 1) := by
  have := r_B h
  exact_mod_cast this
theorem r_h (h : Row f t w s) : hh f t v s * ((blw t s (f + 1) : Int) : Rat) = ((12 * abv t v (f + 1) : Int) : Rat) := by
  unfold hh
  have h1 := r_B h
  rw [Rat.divInt_eq_div]
  generalize ((blw t s (f + 1) : Int) : Rat) = B at *
  grind
theorem r_K (h : Row f t w s) (hd : Dg f q1 q2) : smR (fun i => ((spr t i (f + 1) * s i : Int) : Rat) * er t v w q0 q1 q2 i) (f + 1) = hh f t v s * smR (fun i => ((spr t i (f + 1) * s i : Int) : Rat)) (f + 1) := by
  rw [kk h.1 hd (fun i hi => (h.2.2 i hi).2.2), smR_blw h.1, r_h h]
theorem smR_neg (A e : Nat → Rat) : ∀ m, smR (fun i => A i * -e i) m = -smR (fun i => A i * e i) m := by
  intro m
  induction m with
  | zero => simp only [smR]; grind
  | succ m ih => simp only [smR]; rw [ih]; grind
/-- no polynomial keeps below a low -/
theorem vp_low (h : Row f t w s) (hd : Dg f q1 q2) {L : Rat} (hL : ∀ i, i ≤ f → (er t v w q0 q1 q2 i).abs ≤ L) : (hh f t v s).abs ≤ L := by
  have k := r_K (v := v) (q0 := q0) h hd
  have p := (smR_pos _ (r_A h)).2 (by omega)
  have a1 := ww_le (f + 1) (r_A h) (fun i hi => (a_le (hL i (by omega))).1)
  have a2 := ww_le (f + 1) (r_A h) (fun i hi => (a_le (hL i (by omega))).2)
  rw [smR_neg, k] at a2
  rw [k] at a1
  generalize smR (fun i => ((spr t i (f + 1) * s i : Int) : Rat)) (f + 1) = Y at *
  generalize hh f t v s = H at *
  have b1 : H ≤ L := by
    rcases r_tot H L with q | q
    · exact q
    · rcases r_loe q with q | q
      · have := Rat.mul_lt_mul_of_pos_right q p
        grind
      · grind
  have b2 : -H ≤ L := by
    rcases r_tot (-H) L with q | q
    · exact q
    · rcases r_loe q with q | q
      · have := Rat.mul_lt_mul_of_pos_right q p
        grind
      · grind
  exact a_of b1 b2
/-- where they are alike, the misses take turns -/
theorem vp_eq (h : Row f t w s) (hd : Dg f q1 q2) (hL : ∀ i, i ≤ f → (er t v w q0 q1 q2 i).abs ≤ (hh f t v s).abs) : ∀ i, i ≤ f → er t v w q0 q1 q2 i = hh f t v s := by
  have k := r_K (v := v) (q0 := q0) h hd
  intro j hj
  rcases a_cases (hh f t v s) with ⟨h1, h2⟩ | ⟨h1, h2⟩
  · rw [h2] at hL
    have g := fun i (hi : i ≤ f) => (a_le (hL i hi)).1
    have gj := g j hj
    rcases r_loe gj with q | q
    · have := ww_lt (f + 1) (r_A h) (fun i hi => g i (by omega)) ⟨j, by omega, q⟩
      rw [k] at this
      exact absurd this Rat.lt_irrefl
    · exact q
  · rw [h2] at hL
    have g := fun i (hi : i ≤ f) => (a_le (hL i hi)).2
    have gj := g j hj
    rcases r_loe gj with q | q
    · have := ww_lt (f + 1) (r_A h) (fun i hi => g i (by omega)) ⟨j, by omega, q⟩
      rw [smR_neg, k] at this
      have h3 : -hh f t v s * smR (fun i => ((spr t i (f + 1) * s i : Int) : Rat)) (f + 1) = -(hh f t v s * smR (fun i => ((spr t i (f + 1) * s i : Int) : Rat)) (f + 1)) := by grind
      rw [h3] at this
      exact absurd this Rat.lt_irrefl
    · grind
/-- misses that take turns, none below L, one above it: the low is above L -/
theorem vp_gt (h : Row f t w s) (hd : Dg f q1 q2) {L : Rat} {u : Rat} (hu : u = 1 ∨ u = -1) (hL : ∀ i, i ≤ f → L ≤ u * er t v w q0 q1 q2 i) (hx : ∃ i, i ≤ f ∧ L < u * er t v w q0 q1 q2 i) : L < (hh f t v s).abs := by
  have k := r_K (v := v) (q0 := q0) h hd
  have p := (smR_pos _ (r_A h)).2 (by omega)
  obtain ⟨j, hj, hx⟩ := hx
  rcases hu with rfl | rfl
  · have := ww_lt (e := fun i => -er t v w q0 q1 q2 i) (L := -L) (f + 1) (r_A h) (fun i hi => by have := hL i (by omega); grind) ⟨j, by omega, by grind⟩
    rw [smR_neg, k] at this
    generalize smR (fun i => ((spr t i (f + 1) * s i : Int) : Rat)) (f + 1) = Y at *
    have b1 : L < hh f t v s := by
      rcases r_tot (hh f t v s) L with q | q
      · have := Rat.mul_le_mul_of_nonneg_right q (Rat.le_of_lt p)
        grind
      · rcases r_loe q with q | q
        · exact q
        · grind
    rcases a_cases (hh f t v s) with ⟨h1, h2⟩ | ⟨h1, h2⟩
    · rw [h2]; exact b1
    · rw [h2]; grind
  · have := ww_lt (e := fun i => er t v w q0 q1 q2 i) (L := -L) (f + 1) (r_A h) (fun i hi => by have := hL i (by omega); grind) ⟨j, by omega, by grind⟩
    rw [k] at this
    generalize smR (fun i => ((spr t i (f + 1) * s i : Int) : Rat)) (f + 1) = Y at *
    have b1 : L < -hh f t v s := by
      rcases r_tot (-hh f t v s) L with q | q
      · have := Rat.mul_le_mul_of_nonneg_right q (Rat.le_of_lt p)
        grind
      · rcases r_loe q with q | q
        · exact q
        · rw [q, Rat.neg_neg] at this
          exact absurd this Rat.lt_irrefl
    rcases a_cases (hh f t v s) with ⟨h1, h2⟩ | ⟨h1, h2⟩
    · rw [h2]; grind
    · rw [h2]; exact b1
/-- a polynomial whose first f misses are the turns' own has the last one too -/
theorem vq_last (h : Row f t w s) (hd : Dg f q1 q2) (hL : ∀ i, i < f → er t v w q0 q1 q2 i = hh f t v s) : ∀ i, i ≤ f → er t v w q0 q1 q2 i = hh f t v s := by
  have k := r_K (v := v) (q0 := q0) h hd
  have g : ∀ m, m ≤ f → smR (fun i => ((spr t i (f + 1) * s i : Int) : Rat) * er t v w q0 q1 q2 i) m = hh f t v s * smR (fun i => ((spr t i (f + 1) * s i : Int) : Rat)) m := by
    intro m
    induction m with
    | zero => intro _; simp only [smR]; grind
    | succ m ih =>
      intro hm
      simp only [smR]
      rw [ih (by omega), hL m (by omega)]
      grind
  have g1 := g f (Nat.le_refl _)
  simp only [smR] at k
  rw [g1] at k
  have p := r_A h f (by omega)
  have e : er t v w q0 q1 q2 f = hh f t v s := by
    generalize smR (fun i => ((spr t i (f + 1) * s i : Int) : Rat)) f = Y at *
    generalize ((spr t f (f + 1) * s f : Int) : Rat) = B at *
    generalize er t v w q0 q1 q2 f = E at *
    generalize hh f t v s = H at *
    have : B * (E - H) = 0 := by grind
    rcases Rat.mul_eq_zero.mp this with q | q
    · grind
    · grind
  intro i hi
  rcases Nat.lt_or_ge i f with q | q
  · exact hL i q
  · rw [show i = f by omega]; exact e
end VP
/-- polynomials that tell the same at f nodes are the same -/
theorem iq1 {x y : Rat} (a : Int) (h : ev x 0 0 a = ev y 0 0 a) : x = y := by
  unfold ev at h
  grind
theorem iq2 {x0 x1 y0 y1 : Rat} {a b : Int} (hab : a ≠ b) (h0 : ev x0 x1 0 a = ev y0 y1 0 a) (h1 : ev x0 x1 0 b = ev y0 y1 0 b) : x0 = y0 ∧ x1 = y1 := by
  unfold ev at h0 h1
  have d : (a : Rat) - (b : Rat) ≠ 0 := by
    rw [← Rat.intCast_sub]
    exact d_ne (by omega)
  generalize (a : Rat) = A at *
  generalize (b : Rat) = B at *
  have e : (x1 - y1) * (A - B) = 0 := by grind
  rcases Rat.mul_eq_zero.mp e with q | q
  · have e1 : x1 = y1 := by grind
    subst e1
    exact ⟨by grind, rfl⟩
  · exact absurd q d
theorem iq3 {x0 x1 x2 y0 y1 y2 : Rat} {a b c : Int} (hab : a ≠ b) (hac : a ≠ c) (hbc : b ≠ c) (h0 : ev x0 x1 x2 a = ev y0 y1 y2 a) (h1 : ev x0 x1 x2 b = ev y0 y1 y2 b) (h2 : ev x0 x1 x2 c = ev y0 y1 y2 c) : x0 = y0 ∧ x1 = y1 ∧ x2 = y2 := by
  unfold ev at h0 h1 h2
  have nz : ∀ {x y : Int}, x ≠ y → (x : Rat) - (y : Rat) ≠ 0 := by
    intro x y h
    rw [← Rat.intCast_sub]
    exact d_ne (by omega)
  have d1 := nz hab
  have d2 := nz hac
  have d3 := nz hbc
  generalize (a : Rat) = A at *
  generalize (b : Rat) = B at *
  generalize (c : Rat) = C at *
  have e1 : (A - B) * ((x2 - y2) * (A + B) + (x1 - y1)) = 0 := by grind
  have e2 : (A - C) * ((x2 - y2) * (A + C) + (x1 - y1)) = 0 := by grind
  have f1 : (x2 - y2) * (A + B) + (x1 - y1) = 0 := by
    rcases Rat.mul_eq_zero.mp e1 with q | q
    · exact absurd q d1
    · exact q
  have f2 : (x2 - y2) * (A + C) + (x1 - y1) = 0 := by
    rcases Rat.mul_eq_zero.mp e2 with q | q
    · exact absurd q d2
    · exact q
  have f3 : (x2 - y2) * (B - C) = 0 := by grind
  have g2 : x2 = y2 := by
    rcases Rat.mul_eq_zero.mp f3 with q | q
    · grind
    · exact absurd q d3
  subst g2
  have g1 : x1 = y1 := by grind
  subst g1
  exact ⟨by grind, rfl, rfl⟩
theorem iq {f : Nat} (hf : f = 1 ∨ f = 2 ∨ f = 3) {t : Nat → Int} (ht : ∀ i j, i < j → j < f → t i < t j) {x0 x1 x2 y0 y1 y2 : Rat} (hx : Dg f x1 x2) (hy : Dg f y1 y2) (h : ∀ i, i < f → ev x0 x1 x2 (t i) = ev y0 y1 y2 (t i)) : x0 = y0 ∧ x1 = y1 ∧ x2 = y2 := by
  rcases hf with rfl | rfl | rfl
  · have a1 := hx.1 (by omega)
    have a2 := hx.2 (by omega)
    have a3 := hy.1 (by omega)
    have a4 := hy.2 (by omega)
    subst a1 a2 a3 a4
    exact ⟨iq1 _ (h 0 (by omega)), rfl, rfl⟩
  · have a1 := hx.1 (by omega)
    have a3 := hy.1 (by omega)
    subst a1 a3
    have h01 := ht 0 1 (by omega) (by omega)
    obtain ⟨g0, g1⟩ := iq2 (a := t 0) (b := t 1) (by omega) (h 0 (by omega)) (h 1 (by omega))
    exact ⟨g0, g1, rfl⟩
  · have h01 := ht 0 1 (by omega) (by omega)
    have h02 := ht 0 2 (by omega) (by omega)
    have h12 := ht 1 2 (by omega) (by omega)
    exact iq3 (a := t 0) (b := t 1) (c := t 2) (by omega) (by omega) (by omega) (h 0 (by omega)) (h 1 (by omega)) (h 2 (by omega))
