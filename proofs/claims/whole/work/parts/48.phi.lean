/-! lows can grow some hundred times only -/
theorem cnt_lt {α : Type} {p q : α → Bool} : ∀ (l : List α), (∀ x, x ∈ l → p x = true → q x = true) → (∃ x, x ∈ l ∧ q x = true ∧ p x = false) → l.countP p < l.countP q := by
  intro l
  induction l with
  | nil => intro _ ⟨x, hx, _⟩; cases hx
  | cons a l ih =>
    intro h1 ⟨x, hx, h2, h3⟩
    have hle : l.countP p ≤ l.countP q := List.countP_mono_left (fun y hy => h1 y (List.mem_cons_of_mem _ hy))
    rw [List.countP_cons, List.countP_cons]
    rcases List.mem_cons.mp hx with rfl | hx
    · rw [h2, h3]
      simp
      omega
    · have h4 := ih (fun y hy => h1 y (List.mem_cons_of_mem _ hy)) ⟨x, hx, h2, h3⟩
      by_cases hp : p a = true
      · rw [hp, h1 a List.mem_cons_self hp]
        simp
        omega
      · rw [if_neg hp]
        omega
def q4 (f : Nat) : List (Nat × Nat × Nat × Nat) := (List.range 12).flatMap fun a => (List.range 12).flatMap fun b => if a < b then (if f = 1 then [(a, b, 0, 0)] else (List.range 12).flatMap fun c => if b < c then (if f = 2 then [(a, b, c, 0)] else (List.range 12).flatMap fun d => if c < d then [(a, b, c, d)] else []) else []) else []
theorem q4_len : (q4 1).length ≤ 495 ∧ (q4 2).length ≤ 495 ∧ (q4 3).length ≤ 495 := by decide +kernel
def k4 (z : Nat × Nat × Nat × Nat) : Nat → Nat := fun j => if j = 0 then z.1 else if j = 1 then z.2.1 else if j = 2 then z.2.2.1 else z.2.2.2
/-- turns of n points: their numbers, going up -/
def Inc (f n : Nat) (K : Nat → Nat) : Prop := (∀ j, j ≤ f → K j < n) ∧ ∀ j, j < f → K j < K (j + 1)
theorem q4_mem {f : Nat} (hf : f = 1 ∨ f = 2 ∨ f = 3) {K : Nat → Nat} (hK : Inc f 12 K) : ∃ z, z ∈ q4 f ∧ ∀ j, j ≤ f → k4 z j = K j := by
  have mr : ∀ {x}, x < 12 → x ∈ List.range 12 := fun h => List.mem_range.mpr h
  rcases hf with rfl | rfl | rfl
  · have a0 := hK.1 0 (by omega)
    have a1 := hK.1 1 (by omega)
    have b0 : K 0 < K 1 := hK.2 0 (by omega)
    refine ⟨(K 0, K 1, 0, 0), ?_, ?_⟩
    · unfold q4
      refine List.mem_flatMap.mpr ⟨K 0, mr a0, List.mem_flatMap.mpr ⟨K 1, mr a1, ?_⟩⟩
      rw [if_pos b0, if_pos rfl]
      exact List.mem_singleton.mpr rfl
    · intro j hj
      rcases (show j = 0 ∨ j = 1 by omega) with rfl | rfl <;> rfl
  · have a0 := hK.1 0 (by omega)
    have a1 := hK.1 1 (by omega)
    have a2 := hK.1 2 (by omega)
    have b0 : K 0 < K 1 := hK.2 0 (by omega)
    have b1 : K 1 < K 2 := hK.2 1 (by omega)
    refine ⟨(K 0, K 1, K 2, 0), ?_, ?_⟩
    · unfold q4
      refine List.mem_flatMap.mpr ⟨K 0, mr a0, List.mem_flatMap.mpr ⟨K 1, mr a1, ?_⟩⟩
      rw [if_pos b0, if_neg (by decide)]
      refine List.mem_flatMap.mpr ⟨K 2, mr a2, ?_⟩
      rw [if_pos b1, if_pos rfl]
      exact List.mem_singleton.mpr rfl
    · intro j hj
      rcases (show j = 0 ∨ j = 1 ∨ j = 2 by omega) with rfl | rfl | rfl <;> rfl
  · have a0 := hK.1 0 (by omega)
    have a1 := hK.1 1 (by omega)
    have a2 := hK.1 2 (by omega)
    have a3 := hK.1 3 (by omega)
    have b0 : K 0 < K 1 := hK.2 0 (by omega)
    have b1 : K 1 < K 2 := hK.2 1 (by omega)
    have b2 : K 2 < K 3 := hK.2 2 (by omega)
    refine ⟨(K 0, K 1, K 2, K 3), ?_, ?_⟩
    · unfold q4
      refine List.mem_flatMap.mpr ⟨K 0, mr a0, List.mem_flatMap.mpr ⟨K 1, mr a1, ?_⟩⟩
      rw [if_pos b0, if_neg (by decide)]
      refine List.mem_flatMap.mpr ⟨K 2, mr a2, ?_⟩
      rw [if_pos b1, if_neg (by decide)]
      refine List.mem_flatMap.mpr ⟨K 3, mr a3, ?_⟩
      rw [if_pos b2]
      exact List.mem_singleton.mpr rfl
    · intro j hj
      rcases (show j = 0 ∨ j = 1 ∨ j = 2 ∨ j = 3 by omega) with rfl | rfl | rfl | rfl <;> rfl
theorem hh_cg {f : Nat} (hf : f = 1 ∨ f = 2 ∨ f = 3) {t v s t' v' s' : Nat → Int} (h : ∀ j, j ≤ f → t j = t' j ∧ v j = v' j ∧ s j = s' j) : hh f t v s = hh f t' v' s' := by
  unfold hh
  rcases hf with rfl | rfl | rfl
  · obtain ⟨t0, v0, s0⟩ := h 0 (by omega)
    obtain ⟨t1, v1, s1⟩ := h 1 (by omega)
    simp only [Nat.reduceAdd, abv2, blw2]
    rw [v0, v1, s0, s1]
  · obtain ⟨t0, v0, s0⟩ := h 0 (by omega)
    obtain ⟨t1, v1, s1⟩ := h 1 (by omega)
    obtain ⟨t2, v2, s2⟩ := h 2 (by omega)
    simp only [Nat.reduceAdd, abv3, blw3]
    rw [v0, v1, v2, s0, s1, s2, t0, t1, t2]
  · obtain ⟨t0, v0, s0⟩ := h 0 (by omega)
    obtain ⟨t1, v1, s1⟩ := h 1 (by omega)
    obtain ⟨t2, v2, s2⟩ := h 2 (by omega)
    obtain ⟨t3, v3, s3⟩ := h 3 (by omega)
    simp only [Nat.reduceAdd, abv4, blw4]
    rw [v0, v1, v2, v3, s0, s1, s2, s3, t0, t1, t2, t3]
/-- the one number of turns K of points -/
def hK (f : Nat) (t v w : Nat → Int) (K : Nat → Nat) : Rat := hh f (fun j => t (K j)) (fun j => v (K j)) (sW (fun j => w (K j)))
theorem hK_cg {f : Nat} (hf : f = 1 ∨ f = 2 ∨ f = 3) {t v w : Nat → Int} {K K' : Nat → Nat} (h : ∀ j, j ≤ f → K j = K' j) : hK f t v w K = hK f t v w K' := by
  refine hh_cg hf (fun j hj => ?_)
  unfold sW
  dsimp only
  rw [h j hj]
  exact ⟨rfl, rfl, rfl⟩
def phi (f : Nat) (t v w : Nat → Int) (L : Rat) : Nat := (q4 f).countP (fun z => decide (L < (hK f t v w (k4 z)).abs))
theorem phi_le {f : Nat} (hf : f = 1 ∨ f = 2 ∨ f = 3) (t v w : Nat → Int) (L : Rat) : phi f t v w L ≤ 495 := by
  unfold phi
  have h1 := List.countP_le_length (p := fun z => decide (L < (hK f t v w (k4 z)).abs)) (l := q4 f)
  have h2 := q4_len
  rcases hf with rfl | rfl | rfl <;> omega
theorem phi_lt {f : Nat} (hf : f = 1 ∨ f = 2 ∨ f = 3) {t v w : Nat → Int} {L : Rat} {K : Nat → Nat} (hI : Inc f 12 K) (h : L < (hK f t v w K).abs) : phi f t v w (hK f t v w K).abs < phi f t v w L := by
  obtain ⟨z, hz, e⟩ := q4_mem hf hI
  have e2 : hK f t v w (k4 z) = hK f t v w K := hK_cg hf e
  refine cnt_lt _ (fun x _ hx => ?_) ⟨z, hz, ?_, ?_⟩
  · rw [decide_eq_true_iff] at hx ⊢
    grind
  · rw [e2, decide_eq_true_iff]; exact h
  · rw [e2, decide_eq_false_iff_not]; exact Rat.lt_irrefl
