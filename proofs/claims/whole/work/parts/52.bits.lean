/-! bits of TURNS -/
theorem bt_64 {b : Nat} (h : b < 4096) : ∃ x y : Fin 64, b = 64 * x.val + y.val := ⟨⟨b / 64, by omega⟩, ⟨b % 64, by omega⟩, by show b = 64 * (b / 64) + b % 64; omega⟩
theorem bt_d1 : ∀ (x y : Fin 64) (i : Fin 12), ((nI (64 * x.val + y.val) >>> (nI i.val &&& 31)) &&& (1 : Int32)) = nI ((64 * x.val + y.val) / 2 ^ i.val % 2) := by decide +kernel
theorem bt_d2 : ∀ (x y : Fin 64) (i : Fin 12), (nI (64 * x.val + y.val) ||| ((1 : Int32) <<< (nI i.val &&& 31))) = nI ((64 * x.val + y.val) ||| 2 ^ i.val) := by decide +kernel
theorem bt_d3 : ∀ (x y : Fin 64) (i : Fin 12), (nI (64 * x.val + y.val) &&& (((1 : Int32) <<< (nI i.val &&& 31)) ^^^ (-1 : Int32))) = nI ((64 * x.val + y.val) &&& (4095 ^^^ 2 ^ i.val)) := by decide +kernel
theorem bt_one {b i : Nat} (hb : b < 4096) (hi : i < 12) : ((nI b >>> (nI i &&& 31)) &&& (1 : Int32)) = nI (b / 2 ^ i % 2) := by
  obtain ⟨x, y, e⟩ := bt_64 hb
  rw [e]
  exact bt_d1 x y ⟨i, hi⟩
theorem bt_or {b i : Nat} (hb : b < 4096) (hi : i < 12) : (nI b ||| ((1 : Int32) <<< (nI i &&& 31))) = nI (b ||| 2 ^ i) := by
  obtain ⟨x, y, e⟩ := bt_64 hb
  rw [e]
  exact bt_d2 x y ⟨i, hi⟩
theorem bt_clr {b i : Nat} (hb : b < 4096) (hi : i < 12) : (nI b &&& (((1 : Int32) <<< (nI i &&& 31)) ^^^ (-1 : Int32))) = nI (b &&& (4095 ^^^ 2 ^ i)) := by
  obtain ⟨x, y, e⟩ := bt_64 hb
  rw [e]
  exact bt_d3 x y ⟨i, hi⟩
theorem bt_t (b i : Nat) : (b.testBit i = true) = (b / 2 ^ i % 2 = 1) := by
  rw [Nat.testBit_eq_decide_div_mod_eq]
  exact decide_eq_true_eq
theorem bt_has {b i : Nat} (hb : b < 4096) (hi : i < 12) : (((nI b >>> (nI i &&& 31)) &&& (1 : Int32)) = 1) = (b.testBit i = true) := by
  have h2 : b / 2 ^ i % 2 < 2 := Nat.mod_lt _ (by decide)
  rw [bt_one hb hi, bt_t, show (1 : Int32) = nI 1 from rfl, n_eq (by omega) (by omega)]
theorem m_has1 {b i : Nat} (hb : b < 4096) (hi : i < 12) : f_X8_has (nI b) (nI i) = some (if b.testBit i = true then 1 else 0) := by
  unfold f_X8_has
  simp only [bt_has hb hi]
  by_cases q : b.testBit i = true
  · rw [if_pos q, if_pos q]
  · rw [if_neg q, if_neg q]
theorem bt_lt {a b : Nat} (ha : a < 4096) (hb : b < 4096) : a ||| b < 4096 := Nat.or_lt_two_pow (n := 12) ha hb
theorem bt_p {i : Nat} (hi : i < 12) : 2 ^ i < 4096 := Nat.pow_lt_pow_right (m := i) (n := 12) (a := 2) (by decide) hi
/-- how many bits -/
def pcn (b : Nat) : Nat → Nat
  | 0 => 0
  | k + 1 => pcn b k + b / 2 ^ k % 2
theorem pcn_le (b : Nat) : ∀ k, pcn b k ≤ k := by
  intro k
  induction k with
  | zero => exact Nat.le_refl _
  | succ k ih =>
    have := Nat.mod_lt (b / 2 ^ k) (show 2 > 0 by decide)
    rw [pcn]
    omega
theorem m_ones {b : Nat} (hb : b < 4096) : f_X8_ones (nI b) = some (nI (pcn b 12)) := by
  unfold f_X8_ones
  have h := z_lp_count (b := fun x : Int32 × Int32 => f_X8_ones_L4 (nI b) x.1 x.2) (fun k => (nI (pcn b k), nI k)) 12 (e := nI (pcn b 12)) (fun k hk => ?_) ?_
  · rw [show ((0 : Int32), (0 : Int32)) = (nI (pcn b 0), nI 0) from rfl, h, z_bd_s]
  · show f_X8_ones_L4 (nI b) (nI (pcn b k)) (nI k) = _
    unfold f_X8_ones_L4
    rw [show (12 : Int32) = nI 12 from rfl, if_neg (by rw [n_le (by omega) (by omega)]; omega), bt_one hb hk, n_add, show nI k + 1 = nI (k + 1) from n_add k 1]
    rfl
  · show f_X8_ones_L4 (nI b) (nI (pcn b 12)) (nI 12) = _
    unfold f_X8_ones_L4
    rw [if_pos (by decide)]
theorem bt_d4 : ∀ (x y : Fin 64), f_J6_bitCount_0f7a4 (nI (64 * x.val + y.val)) = some (nI (pcn (64 * x.val + y.val) 12)) := by
  unfold f_J6_bitCount_0f7a4
  decide +kernel
theorem p_bitCount {b : Nat} (hb : b < 4096) : f_J6_bitCount_0f7a4 (nI b) = some (nI (pcn b 12)) := by
  obtain ⟨x, y, e⟩ := bt_64 hb
  rw [e]
  exact bt_d4 x y
/-- a number of at most n bits -/
theorem bt_shr {x : Int32} (h0 : 0 ≤ x) {n : Nat} (hn : n ≤ 12) : ∃ b : Nat, b < 2147483648 ∧ x = nI b ∧ (x >>> (nI n &&& 31) = 0) = (b < 2 ^ n) := by
  obtain ⟨b, hb, rfl⟩ := n_of h0
  refine ⟨b, hb, rfl, ?_⟩
  have e : (nI b >>> (nI n &&& 31)).toInt = (b : Int) >>> n := by
    rw [← n_toInt hb]
    have hs : ((nI n &&& 31).toBitVec.smod 32).toNat = n := by
      have : ∀ j : Fin 13, ((nI j.val &&& 31).toBitVec.smod 32).toNat = j.val := by decide
      exact this ⟨n, by omega⟩
    show (nI b >>> (nI n &&& 31)).toBitVec.toInt = (nI b).toBitVec.toInt >>> n
    rw [Int32.toBitVec_shiftRight]
    unfold BitVec.sshiftRight'
    rw [BitVec.toInt_sshiftRight, hs]
  apply propext
  constructor
  · intro h
    rw [h] at e
    have e2 : (0 : Int32).toInt = 0 := by decide
    rw [e2, Int.shiftRight_eq_div_pow] at e
    have hp : 0 < 2 ^ n := Nat.two_pow_pos n
    have h3 : b / 2 ^ n = 0 := by exact_mod_cast e.symm
    exact (Nat.div_eq_zero_iff_lt hp).mp h3
  · intro h
    apply Int32.toInt_inj.mp
    rw [e, Int.shiftRight_eq_div_pow]
    have h3 : b / 2 ^ n = 0 := Nat.div_eq_of_lt h
    have e2 : (0 : Int32).toInt = 0 := by decide
    rw [e2]
    exact_mod_cast h3
