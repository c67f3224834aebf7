/-! which TURNS are ahead; comparing fractions; are they TURNS -/
theorem m_cmpR {x y : Rat} (hx : 0 ≤ x) (hy : 0 ≤ y) (b1 : x.num.natAbs < 9223372036854775808) (b2 : (x.den : Int) < 9223372036854775808) (b3 : y.num.natAbs < 9223372036854775808) (b4 : (y.den : Int) < 9223372036854775808) : f_X8_compare (jI x.num) (jI (x.den : Int)) (jI y.num) (jI (y.den : Int)) = some (if x < y then -1 else if x = y then 0 else 1) := by
  have nx : 0 ≤ x.num := Rat.num_nonneg.mpr hx
  have ny : 0 ≤ y.num := Rat.num_nonneg.mpr hy
  have dx := x.den_pos
  have dy := y.den_pos
  obtain ⟨p, hp⟩ : ∃ p : Nat, x.num = (p : Int) := ⟨x.num.toNat, by omega⟩
  obtain ⟨r, hr⟩ : ∃ r : Nat, y.num = (r : Int) := ⟨y.num.toNat, by omega⟩
  have l1 : (x < y) = (p * y.den < r * x.den) := by
    apply propext
    rw [Rat.lt_iff, hp, hr]
    exact ⟨fun h => by exact_mod_cast h, fun h => by exact_mod_cast h⟩
  have l2 : (y < x) = (r * x.den < p * y.den) := by
    apply propext
    rw [Rat.lt_iff, hp, hr]
    exact ⟨fun h => by exact_mod_cast h, fun h => by exact_mod_cast h⟩
  have l3 : (x = y) = (p * y.den = r * x.den) := by
    apply propext
    constructor
    · intro e
      have h1 : ¬ x < y := by rw [e]; exact Rat.lt_irrefl
      have h2 : ¬ y < x := by rw [e]; exact Rat.lt_irrefl
      rw [l1] at h1
      rw [l2] at h2
      omega
    · intro e
      have h1 : ¬ x < y := by rw [l1]; omega
      have h2 : ¬ y < x := by rw [l2]; omega
      exact Rat.le_antisymm (Rat.not_lt.mp h2) (Rat.not_lt.mp h1)
  rw [hp, hr, m_cmp (by omega) (by omega) (by omega) b2 (by omega) b4]
  unfold sg
  simp only [l1, l3]
/-- a is ahead of b: the least bit that only one of them has is a's -/
def Ahead (a b : Nat) : Prop := ∃ i, a.testBit i = true ∧ b.testBit i = false ∧ ∀ j, j < i → a.testBit j = b.testBit j
theorem ah_irr (a : Nat) : ¬ Ahead a a := fun ⟨i, h1, h2, _⟩ => by rw [h1] at h2; cases h2
theorem ah_asym {a b : Nat} (h : Ahead a b) : ¬ Ahead b a := by
  obtain ⟨i, h1, h2, h3⟩ := h
  rintro ⟨j, k1, k2, k3⟩
  rcases Nat.lt_trichotomy i j with q | q | q
  · have := k3 i q; rw [h1, h2] at this; cases this
  · subst q; rw [h1] at k2; cases k2
  · have := h3 j q; rw [k1, k2] at this; cases this
theorem ah_tr {a b c : Nat} (h : Ahead a b) (h' : Ahead b c) : Ahead a c := by
  obtain ⟨i, h1, h2, h3⟩ := h
  obtain ⟨j, k1, k2, k3⟩ := h'
  rcases Nat.lt_trichotomy i j with q | q | q
  · exact ⟨i, h1, by rw [← k3 i q]; exact h2, fun z hz => (h3 z hz).trans (k3 z (by omega))⟩
  · subst q; rw [h2] at k1; cases k1
  · exact ⟨j, by rw [h3 j q]; exact k1, k2, fun z hz => (h3 z (by omega)).trans (k3 z hz)⟩
theorem ah_lst {a b : Nat} : ∀ i, a.testBit i ≠ b.testBit i → ∃ j, a.testBit j ≠ b.testBit j ∧ ∀ z, z < j → a.testBit z = b.testBit z := by
  intro i
  induction i using Nat.strongRecOn with
  | _ i ih =>
    intro hi
    by_cases q : ∃ z, z < i ∧ a.testBit z ≠ b.testBit z
    · obtain ⟨z, z1, z2⟩ := q
      exact ih z z1 z2
    · refine ⟨i, hi, fun z hz => ?_⟩
      rcases Bool.decEq (a.testBit z) (b.testBit z) with w | w
      · exact absurd ⟨z, hz, w⟩ q
      · exact w
theorem ah_tot {a b : Nat} (h : a ≠ b) : Ahead a b ∨ Ahead b a := by
  have hd : ∃ i, a.testBit i ≠ b.testBit i := by
    apply Classical.byContradiction
    intro q
    apply h
    apply Nat.eq_of_testBit_eq
    intro i
    rcases Bool.decEq (a.testBit i) (b.testBit i) with w | w
    · exact absurd ⟨i, w⟩ q
    · exact w
  obtain ⟨i, hi⟩ := hd
  obtain ⟨j, j1, j2⟩ := ah_lst i hi
  cases e1 : a.testBit j with
  | true =>
    cases e2 : b.testBit j with
    | true => rw [e1, e2] at j1; exact absurd rfl j1
    | false => exact Or.inl ⟨j, e1, e2, j2⟩
  | false =>
    cases e2 : b.testBit j with
    | true => exact Or.inr ⟨j, e2, e1, fun z hz => (j2 z hz).symm⟩
    | false => rw [e1, e2] at j1; exact absurd rfl j1
theorem bt_d5 : ∀ (x y : Fin 64), 64 * x.val + y.val = 0 ∨ ∃ i : Fin 12, (nI (64 * x.val + y.val) &&& -nI (64 * x.val + y.val)) = nI (2 ^ i.val) ∧ (64 * x.val + y.val) % 2 ^ (i.val + 1) = 2 ^ i.val := by decide +kernel
theorem bt_d6 : ∀ (x y : Fin 64) (i : Fin 12), ((nI (2 ^ i.val) &&& nI (64 * x.val + y.val)) = 0) = ((64 * x.val + y.val) / 2 ^ i.val % 2 = 0) := by
  have : ∀ (x y : Fin 64) (i : Fin 12), ((nI (2 ^ i.val) &&& nI (64 * x.val + y.val)) = 0) ↔ ((64 * x.val + y.val) / 2 ^ i.val % 2 = 0) := by decide +kernel
  exact fun x y i => propext (this x y i)
theorem n_xor (a b : Nat) : nI a ^^^ nI b = nI (a ^^^ b) := by
  apply Int32.toBitVec_inj.mp
  rw [Int32.toBitVec_xor]
  show BitVec.ofNat 32 a ^^^ BitVec.ofNat 32 b = BitVec.ofNat 32 (a ^^^ b)
  apply BitVec.eq_of_getLsbD_eq
  intro i hi
  rw [BitVec.getLsbD_xor, BitVec.getLsbD_ofNat, BitVec.getLsbD_ofNat, BitVec.getLsbD_ofNat, Nat.testBit_xor]
  simp [hi]
theorem m_isAhead {a b : Nat} (ha : a < 4096) (hb : b < 4096) : (Ahead a b ∧ f_X8_isAhead (nI a) (nI b) = some 1) ∨ (¬ Ahead a b ∧ f_X8_isAhead (nI a) (nI b) = some 0) := by
  have hx : a ^^^ b < 4096 := Nat.xor_lt_two_pow (n := 12) ha hb
  obtain ⟨x, y, e⟩ := bt_64 hx
  obtain ⟨x', y', e'⟩ := bt_64 ha
  unfold f_X8_isAhead
  rw [n_xor]
  rcases bt_d5 x y with h0 | ⟨i, h1, h2⟩
  · rw [← e] at h0
    have hab : a = b := by
      apply Nat.eq_of_testBit_eq
      intro j
      have := Nat.testBit_xor a b j
      rw [h0, Nat.zero_testBit] at this
      cases q1 : a.testBit j <;> cases q2 : b.testBit j <;> rw [q1, q2] at this <;> first | rfl | cases this
    right
    rw [h0, hab]
    refine ⟨ah_irr b, ?_⟩
    rw [if_pos (by
      have z : (nI 0 &&& -nI 0) = 0 := by decide
      rw [z]
      exact Int32.zero_and)]
  · rw [← e] at h1 h2
    have tb : ∀ j, (a ^^^ b).testBit j = Bool.xor (a.testBit j) (b.testBit j) := fun j => Nat.testBit_xor a b j
    have ti : (a ^^^ b).testBit i.val = true := by
      have h3 := Nat.testBit_mod_two_pow (a ^^^ b) (i.val + 1) i.val
      rw [h2, Nat.testBit_two_pow_self] at h3
      simpa using h3.symm
    have tj : ∀ j, j < i.val → (a ^^^ b).testBit j = false := by
      intro j hj
      have h3 := Nat.testBit_mod_two_pow (a ^^^ b) (i.val + 1) j
      rw [h2, Nat.testBit_two_pow, decide_eq_true (show j < i.val + 1 by omega), Bool.true_and] at h3
      rw [← h3]
      exact decide_eq_false (by omega)
    have eqj : ∀ j, j < i.val → a.testBit j = b.testBit j := by
      intro j hj
      have h4 := tj j hj
      rw [tb] at h4
      cases q1 : a.testBit j <;> cases q2 : b.testBit j <;> rw [q1, q2] at h4 <;> first | rfl | cases h4
    have hi2 := tb i.val
    rw [ti] at hi2
    have hd := bt_d6 x' y' i
    rw [← e'] at hd
    rw [h1]
    simp only [hd]
    cases q1 : a.testBit i.val with
    | true =>
      left
      have q1' := q1
      rw [bt_t] at q1'
      refine ⟨⟨i.val, q1, ?_, eqj⟩, ?_⟩
      · rw [q1] at hi2
        cases q2 : b.testBit i.val
        · rfl
        · rw [q2] at hi2; cases hi2
      · rw [if_neg (by omega)]
    | false =>
      right
      have q3 : ¬ a.testBit i.val = true := by rw [q1]; exact Bool.false_ne_true
      rw [bt_t] at q3
      have := Nat.mod_lt (a / 2 ^ i.val) (show 2 > 0 by decide)
      refine ⟨fun h => ?_, by rw [if_pos (by omega)]⟩
      have hb2 : b.testBit i.val = true := by
        rw [q1] at hi2
        cases q2 : b.testBit i.val
        · rw [q2] at hi2; cases hi2
        · rfl
      exact ah_asym h ⟨i.val, hb2, q1, fun j hj => (eqj j hj).symm⟩
section AT
variable {M : MS} {fi n f cnt : Nat} {kd dg : Int32} {P V Z : Nat → Int32}
theorem m_isFit (h4 : M.1 4 0 = nI cnt) (hfi : fi < cnt) (hc : cnt ≤ 10) : f_X8_isFit M (nI fi) = some 1 := by
  unfold f_X8_isFit
  rw [h4]
  rcases z_idx cnt (by omega) (nI fi) with ⟨h1, h2⟩ | ⟨k, h1, h2, h3⟩
  · exfalso
    rcases h1 with h1 | h1
    · rw [show (0 : Int32) = nI 0 from rfl, n_lt (by omega) (by omega)] at h1; omega
    · rw [n_le (by omega) (by omega)] at h1; omega
  · rw [h3, z_bd_s, z_chk_t (Or.inr rfl)]
theorem m_free (h : MFit M fi n kd dg P V Z) (hfi : fi < 10) (hf : frN kd dg f) : f_X8_freeNumbers M (nI fi) = some (nI f) := by
  have q : z_in (nI fi) 10 := by rw [n_in (by omega)]; exact hfi
  unfold f_X8_freeNumbers
  rw [z_chk_t q, z_chk_t q, n_cl (by omega), h.1, h.2.1]
  unfold frN at hf
  by_cases z : kd = 2
  · rw [if_pos z] at hf ⊢; rw [hf]
  · rw [if_neg z] at hf ⊢; rw [hf]
/-- TURNS, as bits -/
def IsT (f n bb : Nat) : Prop := bb < 2 ^ n ∧ pcn bb 12 = f + 1
theorem m_areT (h : MFit M fi n kd dg P V Z) (hn : n ≤ 12) (h4 : M.1 4 0 = nI cnt) (hfi : fi < cnt) (hc : cnt ≤ 10) (hk : kd = 1 ∨ kd = 2) (hf : frN kd dg f) (hf3 : f ≤ 3) (a : Int32) : ((¬ ∃ bb, a = nI bb ∧ IsT f n bb) ∧ f_X8_areTurns M (nI fi) a = some 0) ∨ ∃ bb, a = nI bb ∧ IsT f n bb ∧ f_X8_areTurns M (nI fi) a = some 1 := by
  have q : z_in (nI fi) 10 := by rw [n_in (by omega)]; omega
  have head : f_X8_areTurns M (nI fi) a = z_bd (if a < 0 then some (0 : Int32) else if (a >>> (nI n &&& 31)) = 0 then some 1 else some 0) fun v_2 => if v_2 = 0 then some (0 : Int32) else z_bd (f_X8_ones a) fun r_3 => z_bd (f_X8_freeNumbers M (nI fi)) fun r_4 => if r_3 = (r_4 + (1 : Int32)) then some (1 : Int32) else some (0 : Int32) := by
    unfold f_X8_areTurns
    simp only [z_chk_t q]
    rw [m_isFit h4 hfi hc, z_bd_s, if_neg z_10, n_cl (by omega), h.1, h.2.2.1]
    rcases hk with z | z
    · rw [z, if_pos rfl]
    · rw [z, if_neg (by decide), if_pos rfl]
  have nn : ∀ bb, a = nI bb → bb < 2 ^ n → 0 ≤ a := by
    intro bb e hb
    have : bb < 2 ^ 12 := Nat.lt_of_lt_of_le hb (Nat.pow_le_pow_right (by decide) hn)
    rw [e, show (0 : Int32) = nI 0 from rfl, n_le (by omega) (by omega)]
    omega
  by_cases z0 : a < 0
  · refine Or.inl ⟨fun ⟨bb, e, hb, _⟩ => ?_, by rw [head, if_pos z0, z_bd_s, if_pos rfl]⟩
    have := nn bb e hb
    rw [Int32.le_iff_toInt_le] at this
    rw [Int32.lt_iff_toInt_lt] at z0
    omega
  · have z1 : 0 ≤ a := by
      rw [Int32.lt_iff_toInt_lt] at z0
      rw [Int32.le_iff_toInt_le]
      omega
    obtain ⟨bb, hb, e, hs⟩ := bt_shr z1 hn
    rw [if_neg z0] at head
    by_cases z2 : bb < 2 ^ n
    · have hb12 : bb < 4096 := Nat.lt_of_lt_of_le z2 (show 2 ^ _ ≤ 2 ^ 12 from Nat.pow_le_pow_right (by decide) hn)
      have hp := pcn_le bb 12
      rw [if_pos (by rw [hs]; exact z2), z_bd_s, if_neg z_10, e, m_ones hb12, z_bd_s, m_free h (by omega) hf, z_bd_s, show nI f + (1 : Int32) = nI (f + 1) from n_add f 1] at head
      by_cases z3 : pcn bb 12 = f + 1
      · exact Or.inr ⟨bb, e, ⟨z2, z3⟩, by rw [e, head, if_pos (by rw [z3])]⟩
      · refine Or.inl ⟨fun ⟨b2, e2, h2, h3⟩ => ?_, by rw [e, head, if_neg (by rw [n_eq (by omega) (by omega)]; exact z3)]⟩
        have hb2 : b2 < 4096 := Nat.lt_of_lt_of_le h2 (show 2 ^ _ ≤ 2 ^ 12 from Nat.pow_le_pow_right (by decide) hn)
        rw [e, n_eq hb (by omega)] at e2
        rw [← e2] at h3
        exact z3 h3
    · refine Or.inl ⟨fun ⟨b2, e2, h2, h3⟩ => ?_, by rw [head, if_neg (by rw [hs]; exact z2), z_bd_s, if_pos rfl]⟩
      have hb2 : b2 < 4096 := Nat.lt_of_lt_of_le h2 (show 2 ^ _ ≤ 2 ^ 12 from Nat.pow_le_pow_right (by decide) hn)
      rw [e, n_eq hb (by omega)] at e2
      rw [← e2] at h2
      exact z2 h2
end AT
