/-! turns and polynomials: the mathematics -/
def sg1 (i : Nat) : Int := if i % 2 = 0 then 1 else -1
def spB (t : Nat → Int) (i a : Nat) : Int → Nat → Nat → Int
  | g, _, 0 => g
  | g, b, k + 1 => spB t i a (if a = i then g else if b = i then g else g * (t b - t a)) (b + 1) k
def spA (t : Nat → Int) (i m : Nat) : Int → Nat → Nat → Int
  | g, _, 0 => g
  | g, a, k + 1 => spA t i m (spB t i a g (a + 1) (m - (a + 1))) (a + 1) k
/-- the product of all differences between the first m nodes but the i-th -/
def spr (t : Nat → Int) (i m : Nat) : Int := spA t i m 1 0 m
def smA (F : Nat → Int) : Int → Nat → Nat → Int
  | g, _, 0 => g
  | g, i, k + 1 => smA F (g + F i) (i + 1) k
def abv (t v : Nat → Int) (m : Nat) : Int := smA (fun i => sg1 i * spr t i m * v i) 0 0 m
def blw (t s : Nat → Int) (m : Nat) : Int := smA (fun i => spr t i m * s i) 0 0 m
def smR (F : Nat → Rat) : Nat → Rat
  | 0 => 0
  | k + 1 => smR F k + F k
theorem sp2 (t : Nat → Int) : spr t 0 2 = 1 ∧ spr t 1 2 = 1 ∧ spr t 9 2 = t 1 - t 0 := by simp [spr, spA, spB]
theorem sp1 (t : Nat → Int) : spr t 0 1 = 1 ∧ spr t 9 1 = 1 ∧ spr t 9 0 = 1 := by simp [spr, spA, spB]
theorem sp3 (t : Nat → Int) : spr t 0 3 = t 2 - t 1 ∧ spr t 1 3 = t 2 - t 0 ∧ spr t 2 3 = t 1 - t 0 ∧ spr t 9 3 = (t 1 - t 0) * (t 2 - t 0) * (t 2 - t 1) := by simp [spr, spA, spB]
theorem sp4 (t : Nat → Int) : spr t 0 4 = (t 2 - t 1) * (t 3 - t 1) * (t 3 - t 2) ∧ spr t 1 4 = (t 2 - t 0) * (t 3 - t 0) * (t 3 - t 2) ∧ spr t 2 4 = (t 1 - t 0) * (t 3 - t 0) * (t 3 - t 1) ∧ spr t 3 4 = (t 1 - t 0) * (t 2 - t 0) * (t 2 - t 1) := by simp [spr, spA, spB]
theorem sgs : sg1 0 = 1 ∧ sg1 1 = -1 ∧ sg1 2 = 1 ∧ sg1 3 = -1 := by decide
theorem abv2 (t v : Nat → Int) : abv t v 2 = v 0 - v 1 := by
  simp [abv, smA, sp2 t, sgs]
  omega
theorem blw2 (t s : Nat → Int) : blw t s 2 = s 0 + s 1 := by
  simp [blw, smA, sp2 t]
theorem abv3 (t v : Nat → Int) : abv t v 3 = (t 2 - t 1) * v 0 - (t 2 - t 0) * v 1 + (t 1 - t 0) * v 2 := by
  simp [abv, smA, sp3 t, sgs]
  grind
theorem blw3 (t s : Nat → Int) : blw t s 3 = (t 2 - t 1) * s 0 + (t 2 - t 0) * s 1 + (t 1 - t 0) * s 2 := by
  simp [blw, smA, sp3 t]
theorem abv4 (t v : Nat → Int) : abv t v 4 = (t 2 - t 1) * (t 3 - t 1) * (t 3 - t 2) * v 0 - (t 2 - t 0) * (t 3 - t 0) * (t 3 - t 2) * v 1 + (t 1 - t 0) * (t 3 - t 0) * (t 3 - t 1) * v 2 - (t 1 - t 0) * (t 2 - t 0) * (t 2 - t 1) * v 3 := by
  simp [abv, smA, sp4 t, sgs]
  grind
theorem blw4 (t s : Nat → Int) : blw t s 4 = (t 2 - t 1) * (t 3 - t 1) * (t 3 - t 2) * s 0 + (t 2 - t 0) * (t 3 - t 0) * (t 3 - t 2) * s 1 + (t 1 - t 0) * (t 3 - t 0) * (t 3 - t 1) * s 2 + (t 1 - t 0) * (t 2 - t 0) * (t 2 - t 1) * s 3 := by
  simp [blw, smA, sp4 t]
/-- signed miss at the i-th of some points -/
def er (t v w : Nat → Int) (q0 q1 q2 : Rat) (i : Nat) : Rat := ((sg1 i : Int) : Rat) * ((w i : Rat) * ((v i : Rat) - ev q0 q1 q2 (t i)))
def Dg (f : Nat) (q1 q2 : Rat) : Prop := (f < 3 → q2 = 0) ∧ (f < 2 → q1 = 0)
theorem k_1 {g s c w e : Rat} (h : w * s = 12) : g * s * (c * (w * e)) = 12 * (g * (c * e)) := by grind
theorem ann1 {u v q : Rat} : 12 * (1 * (1 * (u - q))) + 12 * (1 * (-1 * (v - q))) = 12 * (u - v) := by grind
theorem ann2 {a b c u v w q0 q1 : Rat} : 12 * ((c - b) * (1 * (u - (q1 * a + q0)))) + 12 * ((c - a) * (-1 * (v - (q1 * b + q0)))) + 12 * ((b - a) * (1 * (w - (q1 * c + q0)))) = 12 * ((c - b) * u - (c - a) * v + (b - a) * w) := by grind
theorem ann3 {a b c d u v w z q0 q1 q2 : Rat} : 12 * ((c - b) * (d - b) * (d - c) * (1 * (u - ((q2 * a + q1) * a + q0)))) + 12 * ((c - a) * (d - a) * (d - c) * (-1 * (v - ((q2 * b + q1) * b + q0)))) + 12 * ((b - a) * (d - a) * (d - b) * (1 * (w - ((q2 * c + q1) * c + q0)))) + 12 * ((b - a) * (c - a) * (c - b) * (-1 * (z - ((q2 * d + q1) * d + q0)))) = 12 * ((c - b) * (d - b) * (d - c) * u - (c - a) * (d - a) * (d - c) * v + (b - a) * (d - a) * (d - b) * w - (b - a) * (c - a) * (c - b) * z) := by grind
theorem kk {f : Nat} (hf : f = 1 ∨ f = 2 ∨ f = 3) {t v w s : Nat → Int} {q0 q1 q2 : Rat} (hd : Dg f q1 q2) (hs : ∀ i, i ≤ f → w i * s i = 12) : smR (fun i => ((spr t i (f + 1) * s i : Int) : Rat) * er t v w q0 q1 q2 i) (f + 1) = ((12 * abv t v (f + 1) : Int) : Rat) := by
  have hs' : ∀ i, i ≤ f → (w i : Rat) * (s i : Rat) = 12 := by
    intro i hi
    rw [← Rat.intCast_mul, hs i hi]
    rfl
  have e1 : ((1 : Int) : Rat) = 1 := rfl
  have em : ((-1 : Int) : Rat) = -1 := rfl
  have e12 : ((12 : Int) : Rat) = 12 := rfl
  rcases hf with rfl | rfl | rfl
  · obtain ⟨h2, h1⟩ := hd
    rw [h2 (by omega), h1 (by omega)]
    simp only [Nat.reduceAdd, smR, er, abv2, sp2 t, sgs, Rat.intCast_mul, Rat.intCast_sub, e1, em, e12]
    rw [k_1 (hs' 0 (by omega)), k_1 (hs' 1 (by omega))]
    unfold ev
    have z : ∀ x : Rat, (0 * x + 0) * x + q0 = q0 := by intro x; grind
    rw [z, z, Rat.zero_add]
    exact ann1
  · obtain ⟨h2, -⟩ := hd
    rw [h2 (by omega)]
    simp only [Nat.reduceAdd, smR, er, abv3, sp3 t, sgs, Rat.intCast_mul, Rat.intCast_sub, Rat.intCast_add, e1, em, e12]
    rw [k_1 (hs' 0 (by omega)), k_1 (hs' 1 (by omega)), k_1 (hs' 2 (by omega))]
    unfold ev
    have z : ∀ x : Rat, (0 * x + q1) * x + q0 = q1 * x + q0 := by intro x; grind
    rw [z, z, z, Rat.zero_add]
    exact ann2
  · simp only [Nat.reduceAdd, smR, er, abv4, sp4 t, sgs, Rat.intCast_mul, Rat.intCast_sub, Rat.intCast_add, e1, em, e12]
    rw [k_1 (hs' 0 (by omega)), k_1 (hs' 1 (by omega)), k_1 (hs' 2 (by omega)), k_1 (hs' 3 (by omega))]
    unfold ev
    rw [Rat.zero_add]
    exact ann3
theorem smR_blw {f : Nat} (hf : f = 1 ∨ f = 2 ∨ f = 3) (t s : Nat → Int) : smR (fun i => ((spr t i (f + 1) * s i : Int) : Rat)) (f + 1) = ((blw t s (f + 1) : Int) : Rat) := by
  rcases hf with rfl | rfl | rfl
  · simp only [Nat.reduceAdd, smR, blw2, sp2 t, Rat.intCast_mul, Rat.intCast_add, Rat.zero_add]
    rw [show ((1 : Int) : Rat) = 1 from rfl, Rat.one_mul, Rat.one_mul]
  · simp only [Nat.reduceAdd, smR, blw3, sp3 t, Rat.intCast_mul, Rat.intCast_add, Rat.zero_add]
  · simp only [Nat.reduceAdd, smR, blw4, sp4 t, Rat.intCast_mul, Rat.intCast_add, Rat.zero_add]
/-- the nodes go up -/
def Upw (f : Nat) (t : Nat → Int) : Prop := ∀ i, i < f → t i < t (i + 1)
theorem spr_pos {f : Nat} (hf : f = 1 ∨ f = 2 ∨ f = 3) {t : Nat → Int} (ht : Upw f t) : ∀ i, i ≤ f → 0 < spr t i (f + 1) := by
  intro i hi
  rcases hf with rfl | rfl | rfl
  · rcases (show i = 0 ∨ i = 1 by omega) with rfl | rfl
    · show 0 < spr t _ 2; rw [(sp2 t).1]; decide
    · show 0 < spr t _ 2; rw [(sp2 t).2.1]; decide
  · have h0 : t 0 < t 1 := ht 0 (by omega)
    have h1 : t 1 < t 2 := ht 1 (by omega)
    rcases (show i = 0 ∨ i = 1 ∨ i = 2 by omega) with rfl | rfl | rfl
    · show 0 < spr t _ 3; rw [(sp3 t).1]; omega
    · show 0 < spr t _ 3; rw [(sp3 t).2.1]; omega
    · show 0 < spr t _ 3; rw [(sp3 t).2.2.1]; omega
  · have h0 : t 0 < t 1 := ht 0 (by omega)
    have h1 : t 1 < t 2 := ht 1 (by omega)
    have h2 : t 2 < t 3 := ht 2 (by omega)
    have m3 : ∀ {x y z : Int}, 0 < x → 0 < y → 0 < z → 0 < x * y * z := fun hx hy hz => Int.mul_pos (Int.mul_pos hx hy) hz
    rcases (show i = 0 ∨ i = 1 ∨ i = 2 ∨ i = 3 by omega) with rfl | rfl | rfl | rfl
    · show 0 < spr t _ 4; rw [(sp4 t).1]; exact m3 (by omega) (by omega) (by omega)
    · show 0 < spr t _ 4; rw [(sp4 t).2.1]; exact m3 (by omega) (by omega) (by omega)
    · show 0 < spr t _ 4; rw [(sp4 t).2.2.1]; exact m3 (by omega) (by omega) (by omega)
    · show 0 < spr t _ 4; rw [(sp4 t).2.2.2]; exact m3 (by omega) (by omega) (by omega)
theorem ww_le {A e : Nat → Rat} {L : Rat} : ∀ m : Nat, (∀ i, i < m → 0 < A i) → (∀ i, i < m → e i ≤ L) → smR (fun i => A i * e i) m ≤ L * smR A m := by
  intro m
  induction m with
  | zero => intro _ _; simp only [smR]; grind
  | succ m ih =>
    intro h1 h2
    have h3 := ih (fun i hi => h1 i (by omega)) (fun i hi => h2 i (by omega))
    have h4 := h1 m (by omega)
    have h5 := h2 m (by omega)
    have h6 : A m * e m ≤ A m * L := Rat.mul_le_mul_of_nonneg_left h5 (Rat.le_of_lt h4)
    simp only [smR]
    generalize smR (fun i => A i * e i) m = X at *
    generalize smR A m = Y at *
    generalize A m * e m = U at *
    grind
theorem ww_lt {A e : Nat → Rat} {L : Rat} : ∀ m : Nat, (∀ i, i < m → 0 < A i) → (∀ i, i < m → e i ≤ L) → (∃ i, i < m ∧ e i < L) → smR (fun i => A i * e i) m < L * smR A m := by
  intro m
  induction m with
  | zero => intro _ _ ⟨i, hi, _⟩; omega
  | succ m ih =>
    intro h1 h2 ⟨j, hj, hl⟩
    have h4 := h1 m (by omega)
    have h5 := h2 m (by omega)
    simp only [smR]
    by_cases q : j = m
    · have h3 := ww_le m (fun i hi => h1 i (by omega)) (fun i hi => h2 i (by omega))
      rw [q] at hl
      have h6 : A m * e m < A m * L := Rat.mul_lt_mul_of_pos_left hl h4
      generalize smR (fun i => A i * e i) m = X at *
      generalize smR A m = Y at *
      generalize A m * e m = U at *
      grind
    · have h3 := ih (fun i hi => h1 i (by omega)) (fun i hi => h2 i (by omega)) ⟨j, by omega, hl⟩
      have h6 : A m * e m ≤ A m * L := Rat.mul_le_mul_of_nonneg_left h5 (Rat.le_of_lt h4)
      generalize smR (fun i => A i * e i) m = X at *
      generalize smR A m = Y at *
      generalize A m * e m = U at *
      grind
theorem smR_pos {A : Nat → Rat} : ∀ m : Nat, (∀ i, i < m → 0 < A i) → 0 ≤ smR A m ∧ (0 < m → 0 < smR A m) := by
  intro m
  induction m with
  | zero => intro _; exact ⟨by simp only [smR]; exact Rat.le_refl, fun h => by omega⟩
  | succ m ih =>
    intro h1
    have h2 := (ih (fun i hi => h1 i (by omega))).1
    have h3 := h1 m (by omega)
    simp only [smR]
    exact ⟨by grind, fun _ => by grind⟩
