/-! bits of TURNS: their points -/
/-- K are the first m bits of b below i -/
def Enum (b i m : Nat) (K : Nat → Nat) : Prop := (∀ j, j < m → K j < i ∧ b.testBit (K j) = true) ∧ (∀ j, j + 1 < m → K j < K (j + 1)) ∧ (∀ x, x < i → b.testBit x = true → ∃ j, j < m ∧ K j = x) ∧ m = pcn b i
theorem Enum.z (b : Nat) (K : Nat → Nat) : Enum b 0 0 K := ⟨fun j hj => by omega, fun j hj => by omega, fun x hx => by omega, rfl⟩
theorem Enum.s0 {b i m : Nat} {K : Nat → Nat} (h : Enum b i m K) (q : ¬ b.testBit i = true) : Enum b (i + 1) m K := by
  obtain ⟨h1, h2, h3, h4⟩ := h
  refine ⟨fun j hj => ⟨by have := (h1 j hj).1; omega, (h1 j hj).2⟩, h2, fun x hx hb => ?_, ?_⟩
  · rcases Nat.lt_or_ge x i with z | z
    · exact h3 x z hb
    · rw [show x = i by omega] at hb; exact absurd hb q
  · rw [bt_t] at q
    have := Nat.mod_lt (b / 2 ^ i) (show 2 > 0 by decide)
    rw [pcn]
    omega
theorem Enum.s1 {b i m : Nat} {K : Nat → Nat} (h : Enum b i m K) (q : b.testBit i = true) : Enum b (i + 1) (m + 1) (updN K m i) := by
  obtain ⟨h1, h2, h3, h4⟩ := h
  refine ⟨fun j hj => ?_, fun j hj => ?_, fun x hx hb => ?_, ?_⟩
  · by_cases z : j = m
    · rw [z, updN_s]; exact ⟨by omega, q⟩
    · rw [updN_n _ z]
      have := h1 j (by omega)
      exact ⟨by omega, this.2⟩
  · by_cases z : j + 1 = m
    · rw [z, updN_s, updN_n _ (by omega)]
      exact (h1 j (by omega)).1
    · rw [updN_n _ (by omega), updN_n _ z]
      exact h2 j (by omega)
  · rcases Nat.lt_or_ge x i with z | z
    · obtain ⟨j, j1, j2⟩ := h3 x z hb
      exact ⟨j, by omega, by rw [updN_n _ (by omega)]; exact j2⟩
    · exact ⟨m, by omega, by rw [updN_s]; omega⟩
  · rw [bt_t] at q
    rw [pcn]
    omega
theorem Enum.inc {b n f : Nat} {K : Nat → Nat} (h : Enum b n (f + 1) K) : Inc f n K := ⟨fun j hj => (h.1 j (by omega)).1, fun j hj => h.2.1 j (by omega)⟩
theorem Enum.lt {b i m : Nat} {K : Nat → Nat} (h : Enum b i m K) : ∀ c a, a < c → c < m → K a < K c := by
  intro c
  induction c with
  | zero => intro a ha; omega
  | succ c ih =>
    intro a ha hc
    have h1 := h.2.1 c hc
    by_cases q : a = c
    · rw [q]; exact h1
    · have := ih a (by omega) (by omega)
      omega
theorem Enum.uq {b i m m' : Nat} {K K' : Nat → Nat} (h : Enum b i m K) (h' : Enum b i m' K') : m = m' ∧ ∀ j, j < m → K j = K' j := by
  have hm : m = m' := h.2.2.2.trans h'.2.2.2.symm
  subst hm
  refine ⟨rfl, fun j => ?_⟩
  induction j using Nat.strongRecOn with
  | _ j ih =>
    intro hj
    have a1 := h.1 j hj
    have a2 := h'.1 j hj
    obtain ⟨x, x1, x2⟩ := h'.2.2.1 _ a1.1 a1.2
    obtain ⟨y, y1, y2⟩ := h.2.2.1 _ a2.1 a2.2
    have hx : j ≤ x := by
      rcases Nat.lt_or_ge x j with z | z
      · have e := ih x z x1
        have := h.lt j x z hj
        omega
      · exact z
    have hy : j ≤ y := by
      rcases Nat.lt_or_ge y j with z | z
      · have e := ih y z y1
        have := h'.lt j y z hj
        omega
      · exact z
    have l1 : K' j ≤ K' x := by
      rcases Nat.lt_or_ge j x with z | z
      · have := h'.lt x j z x1; omega
      · rw [show x = j by omega]; exact Nat.le_refl _
    have l2 : K j ≤ K y := by
      rcases Nat.lt_or_ge j y with z | z
      · have := h.lt y j z y1; omega
      · rw [show y = j by omega]; exact Nat.le_refl _
    omega
/-- b has just the bits K 0 .. K f -/
def BitsOf (f b : Nat) (K : Nat → Nat) : Prop := b < 4096 ∧ ∀ x, b.testBit x = true ↔ ∃ j, j ≤ f ∧ K j = x
theorem BitsOf.uq {f b b' : Nat} {K : Nat → Nat} (h : BitsOf f b K) (h' : BitsOf f b' K) : b = b' := by
  apply Nat.eq_of_testBit_eq
  intro i
  have h1 := h.2 i
  have h2 := h'.2 i
  exact Bool.eq_iff_iff.mpr (h1.trans h2.symm)
theorem bt_ge {b n x : Nat} (hb : b < 2 ^ n) (h : b.testBit x = true) : x < n := by
  rcases Nat.lt_or_ge x n with q | q
  · exact q
  · rw [Nat.testBit_lt_two_pow (Nat.lt_of_lt_of_le hb (Nat.pow_le_pow_right (by decide) q))] at h
    cases h
theorem Enum.bits {b n f : Nat} {K : Nat → Nat} (h : Enum b n (f + 1) K) (hb : b < 2 ^ n) (hn : n ≤ 12) : BitsOf f b K := by
  refine ⟨Nat.lt_of_lt_of_le hb (show 2 ^ _ ≤ 2 ^ 12 from Nat.pow_le_pow_right (by decide) hn), fun x => ⟨fun q => ?_, fun ⟨j, j1, j2⟩ => ?_⟩⟩
  · obtain ⟨j, j1, j2⟩ := h.2.2.1 x (bt_ge hb q) q
    exact ⟨j, by omega, j2⟩
  · rw [← j2]; exact (h.1 j (by omega)).2
/-- the bits of turns, one after the other -/
def bsum (K : Nat → Nat) : Nat → Nat
  | 0 => 0
  | k + 1 => bsum K k ||| 2 ^ K k
theorem bsum_bits {f n : Nat} {K : Nat → Nat} (h : Inc f n K) (hn : n ≤ 12) : ∀ k, k ≤ f + 1 → bsum K k < 4096 ∧ ∀ x, (bsum K k).testBit x = true ↔ ∃ j, j < k ∧ K j = x := by
  intro k
  induction k with
  | zero =>
    intro _
    refine ⟨Nat.zero_lt_succ _, fun x => ⟨fun q => ?_, fun ⟨j, hj, _⟩ => by omega⟩⟩
    rw [bsum, Nat.zero_testBit] at q
    cases q
  | succ k ih =>
    intro hk
    obtain ⟨h1, h2⟩ := ih (by omega)
    have hK := h.1 k (by omega)
    refine ⟨bt_lt h1 (bt_p (by omega)), fun x => ?_⟩
    rw [bsum, Nat.testBit_or, Bool.or_eq_true, h2, Nat.testBit_two_pow, decide_eq_true_eq]
    constructor
    · rintro (⟨j, j1, j2⟩ | q)
      · exact ⟨j, by omega, j2⟩
      · exact ⟨k, by omega, q⟩
    · rintro ⟨j, j1, j2⟩
      by_cases q : j = k
      · exact Or.inr (by rw [← q]; exact j2)
      · exact Or.inl ⟨j, by omega, j2⟩
theorem bsum_of {f n : Nat} {K : Nat → Nat} (h : Inc f n K) (hn : n ≤ 12) : BitsOf f (bsum K (f + 1)) K := by
  obtain ⟨h1, h2⟩ := bsum_bits h hn (f + 1) (Nat.le_refl _)
  refine ⟨h1, fun x => ?_⟩
  rw [h2]
  exact ⟨fun ⟨j, a, c⟩ => ⟨j, by omega, c⟩, fun ⟨j, a, c⟩ => ⟨j, by omega, c⟩⟩
theorem bt_clr2 {b i : Nat} (hb : b < 4096) (hi : i < 12) : (b &&& (4095 ^^^ 2 ^ i)) < 4096 ∧ ∀ x, (b &&& (4095 ^^^ 2 ^ i)).testBit x = true ↔ (b.testBit x = true ∧ x ≠ i) := by
  refine ⟨Nat.lt_of_le_of_lt Nat.and_le_left hb, fun x => ?_⟩
  rw [Nat.testBit_and, Bool.and_eq_true, Nat.testBit_xor, Nat.testBit_two_pow]
  constructor
  · rintro ⟨h1, h2⟩
    refine ⟨h1, fun e => ?_⟩
    have hx := bt_ge (n := 12) hb h1
    rw [show 4095 = 2 ^ 12 - 1 from rfl, Nat.testBit_two_pow_sub_one, e] at h2
    simp at h2
    omega
  · rintro ⟨h1, h2⟩
    refine ⟨h1, ?_⟩
    have hx := bt_ge (n := 12) hb h1
    rw [show 4095 = 2 ^ 12 - 1 from rfl, Nat.testBit_two_pow_sub_one]
    simp
    omega
theorem pcn_top {b n : Nat} (hb : b < 2 ^ n) : ∀ j, n ≤ j → pcn b j = pcn b n := by
  intro j hj
  induction hj with
  | refl => rfl
  | @step j hj ih =>
    have hj2 : n ≤ j := hj
    have z : ¬ b.testBit j = true := fun z => by have := bt_ge hb z; omega
    rw [bt_t] at z
    have := Nat.mod_lt (b / 2 ^ j) (show 2 > 0 by decide)
    rw [pcn]
    omega
