/-! shorts: the numbers, and the class -/
def kI (z : Int) : Int32 := Int32.ofInt z
theorem k_of (x : Int32) : x = kI x.toInt := (Int32.ofInt_toInt x).symm
theorem k_to {z : Int} (h : z.natAbs < 2147483648) : (kI z).toInt = z := Int32.toInt_ofInt_of_le (by omega) (by omega)
theorem k_add (a b : Int) : kI a + kI b = kI (a + b) := (Int32.ofInt_add a b).symm
theorem k_mul (a b : Int) : kI a * kI b = kI (a * b) := (Int32.ofInt_mul a b).symm
theorem k_neg (a : Int) : -kI a = kI (-a) := (Int32.ofInt_neg a).symm
theorem k_sub (a b : Int) : kI a - kI b = kI (a - b) := by
  rw [Int32.sub_eq_add_neg, k_neg, k_add, Int.sub_eq_add_neg]
theorem k_le {a b : Int} (ha : a.natAbs < 2147483648) (hb : b.natAbs < 2147483648) : (kI a ≤ kI b) = (a ≤ b) := by
  rw [Int32.le_iff_toInt_le, k_to ha, k_to hb]
theorem k_lt {a b : Int} (ha : a.natAbs < 2147483648) (hb : b.natAbs < 2147483648) : (kI a < kI b) = (a < b) := by
  rw [Int32.lt_iff_toInt_lt, k_to ha, k_to hb]
theorem k_eq {a b : Int} (ha : a.natAbs < 2147483648) (hb : b.natAbs < 2147483648) : (kI a = kI b) = (a = b) := by
  refine propext ⟨fun h => ?_, fun h => by rw [h]⟩
  have := congrArg Int32.toInt h
  rwa [k_to ha, k_to hb] at this
theorem k_n {n : Nat} (h : n < 2147483648) : nI n = kI (n : Int) := by rw [k_of (nI n), n_toInt h]
/-- the level of a row of rests -/
def lvA (R Z : Nat → Int) (c : Int) : Nat → Int
  | 0 => 0
  | n + 1 => max (lvA R Z c n) (Z n * ((R n - c).natAbs : Int))
theorem lvA_0 (R Z : Nat → Int) (c : Int) (n : Nat) : 0 ≤ lvA R Z c n := by
  induction n with
  | zero => exact Int.le_refl 0
  | succ n ih => exact Int.le_trans ih (Int.le_max_left _ _)
theorem lvA_b {R Z : Nat → Int} {c B : Int} (hB : 0 ≤ B) (n : Nat) (h : ∀ i, i < n → Z i * ((R i - c).natAbs : Int) ≤ B) : lvA R Z c n ≤ B := by
  induction n with
  | zero => exact hB
  | succ n ih => exact Int.max_le.mpr ⟨ih (fun i hi => h i (by omega)), h n (by omega)⟩
theorem lvA_eq {R R' Z Z' : Nat → Int} {c c' : Int} (n : Nat) (h : ∀ i, i < n → Z i * ((R i - c).natAbs : Int) = Z' i * ((R' i - c').natAbs : Int)) : lvA R Z c n = lvA R' Z' c' n := by
  induction n with
  | zero => rfl
  | succ n ih =>
    show max _ _ = max _ _
    rw [ih (fun i hi => h i (by omega)), h n (by omega)]
theorem lvA_cx {R Z : Nat → Int} (c : Int) (n : Nat) (hZ : ∀ i, i < n → 0 ≤ Z i) : 2 * lvA R Z (c + 1) n ≤ lvA R Z c n + lvA R Z (c + 2) n := by
  induction n with
  | zero => exact Int.le_refl 0
  | succ n ih =>
    have i1 := ih (fun i hi => hZ i (by omega))
    have h1 : 2 * ((R n - (c + 1)).natAbs : Int) ≤ ((R n - c).natAbs : Int) + ((R n - (c + 2)).natAbs : Int) := by omega
    have h2 := Int.mul_le_mul_of_nonneg_left h1 (hZ n (by omega))
    rw [Int.mul_add, Int.mul_left_comm] at h2
    show 2 * max _ _ ≤ max _ _ + max _ _
    generalize Z n * ((R n - (c + 1)).natAbs : Int) = x at *
    generalize Z n * ((R n - c).natAbs : Int) = y at *
    generalize Z n * ((R n - (c + 2)).natAbs : Int) = z at *
    omega
theorem lvA_up {R Z : Nat → Int} {c : Int} {n : Nat} (hZ : ∀ i, i < n → 0 ≤ Z i) (h : lvA R Z c n ≤ lvA R Z (c + 1) n) (k : Nat) : lvA R Z c n ≤ lvA R Z (c + k) n ∧ lvA R Z (c + k) n ≤ lvA R Z (c + k + 1) n := by
  induction k with
  | zero => rw [show c + ((0 : Nat) : Int) = c by omega]; exact ⟨Int.le_refl _, h⟩
  | succ k ih =>
    have h1 := lvA_cx (R := R) (c + k) n hZ
    rw [show c + ((k + 1 : Nat) : Int) = c + k + 1 by omega, show c + (k : Int) + 1 + 1 = c + k + 2 by omega]
    omega
theorem lvA_dn {R Z : Nat → Int} {c : Int} {n : Nat} (hZ : ∀ i, i < n → 0 ≤ Z i) (h : lvA R Z (c + 1) n < lvA R Z c n) (k : Nat) : lvA R Z (c + 1) n < lvA R Z (c - k) n ∧ lvA R Z (c - k + 1) n < lvA R Z (c - k) n := by
  induction k with
  | zero => rw [show c - ((0 : Nat) : Int) = c by omega]; exact ⟨h, h⟩
  | succ k ih =>
    have h1 := lvA_cx (R := R) (c - k - 1) n hZ
    rw [show c - ((k + 1 : Nat) : Int) = c - k - 1 by omega, show c - (k : Int) - 1 + 1 = c - k by omega]
    rw [show c - (k : Int) - 1 + 1 = c - k by omega, show c - (k : Int) - 1 + 2 = c - k + 1 by omega] at h1
    omega
theorem lvA_up' {R Z : Nat → Int} {c c' : Int} {n : Nat} (hZ : ∀ i, i < n → 0 ≤ Z i) (h : lvA R Z c n ≤ lvA R Z (c + 1) n) (hc : c ≤ c') : lvA R Z c n ≤ lvA R Z c' n := by
  have := (lvA_up hZ h (c' - c).toNat).1
  rwa [show c + ((c' - c).toNat : Int) = c' by omega] at this
theorem lvA_dn' {R Z : Nat → Int} {c c' : Int} {n : Nat} (hZ : ∀ i, i < n → 0 ≤ Z i) (h : lvA R Z (c + 1) n < lvA R Z c n) (hc : c' ≤ c) : lvA R Z (c + 1) n < lvA R Z c' n := by
  have := (lvA_dn hZ h (c - c').toNat).1
  rwa [show c - ((c - c').toNat : Int) = c' by omega] at this
/-- the least of the least on a stretch -/
def LeastC (R Z : Nat → Int) (n : Nat) (m c : Int) : Prop := -m ≤ c ∧ c ≤ m ∧ ∀ x, -m ≤ x → x ≤ m → lvA R Z c n < lvA R Z x n ∨ (lvA R Z c n = lvA R Z x n ∧ c ≤ x)
theorem fd_fin : ∀ i : Fin 1025, (0 ≤ (Int32.ofInt ((i.val : Int) - 512) ^^^ 2) → Int32.ofInt ((i.val : Int) - 512) / 2 = Int32.ofInt (((i.val : Int) - 512) / 2)) ∧ (¬ 0 ≤ (Int32.ofInt ((i.val : Int) - 512) ^^^ 2) → (Int32.ofInt ((i.val : Int) - 512) / 2 * 2 = Int32.ofInt ((i.val : Int) - 512) → Int32.ofInt ((i.val : Int) - 512) / 2 = Int32.ofInt (((i.val : Int) - 512) / 2)) ∧ (¬ Int32.ofInt ((i.val : Int) - 512) / 2 * 2 = Int32.ofInt ((i.val : Int) - 512) → Int32.ofInt ((i.val : Int) - 512) / 2 - 1 = Int32.ofInt (((i.val : Int) - 512) / 2))) := by decide +kernel
theorem p_fdiv {z : Int} (h1 : -512 ≤ z) (h2 : z ≤ 512) : f_J9_floorDiv_7cf53 (kI z) 2 = some (kI (z / 2)) := by
  have := fd_fin ⟨(z + 512).toNat, by omega⟩
  rw [show (((⟨(z + 512).toNat, by omega⟩ : Fin 1025).val : Int) - 512) = z by show ((z + 512).toNat : Int) - 512 = z; omega] at this
  unfold f_J9_floorDiv_7cf53 kI
  rw [z_chk_t (by decide)]
  by_cases a : 0 ≤ (Int32.ofInt z ^^^ 2)
  · rw [if_pos a, this.1 a]
  · rw [if_neg a]
    by_cases b : Int32.ofInt z / 2 * 2 = Int32.ofInt z
    · rw [if_pos b, (this.2 a).1 b]
    · rw [if_neg b, (this.2 a).2 b]
theorem sh_fin : ∀ i : Fin 121, ∀ b : Fin 3, (Int32.ofInt ((i.val : Int) - 60)) <<< (Int32.ofInt (b.val : Int) &&& 31) = Int32.ofInt (((i.val : Int) - 60) * (2 ^ b.val : Nat)) := by decide +kernel
/-- what a number of bits means -/
def Bt (a : Int32) (T : Int) : Prop := (T = 1 ∨ T = 2 ∨ T = 4) ∧ (∀ x : Int32, -60 ≤ x → x ≤ 60 → x <<< (a &&& 31) = kI (x.toInt * T)) ∧ (8 : Int32) <<< (a &&& 31) = kI (8 * T) ∧ (64 : Int32) <<< (a &&& 31) = kI (64 * T) ∧ (1 : Int32) <<< (a &&& 31) = kI T ∧ (1 : Int64) <<< (a.toInt64 &&& 63) = jI T ∧ (kI T).toInt64 = jI T
theorem bt_sh (b : Fin 3) {x : Int32} (h1 : -60 ≤ x) (h2 : x ≤ 60) : x <<< (Int32.ofInt (b.val : Int) &&& 31) = kI (x.toInt * (2 ^ b.val : Nat)) := by
  have e := i_bd (l := -60) (h := 60) h1 h2 (by decide) (by decide)
  have := sh_fin ⟨(x.toInt + 60).toNat, by omega⟩ b
  rw [show (((⟨(x.toInt + 60).toNat, by omega⟩ : Fin 121).val : Int) - 60) = x.toInt by show ((x.toInt + 60).toNat : Int) - 60 = x.toInt; omega] at this
  rw [show Int32.ofInt x.toInt = x from (k_of x).symm] at this
  exact this
theorem bt_of {a : Int32} (h : a = 0 ∨ a = 1 ∨ a = 2) : ∃ T, Bt a T := by
  rcases h with z | z | z
  · subst z
    exact ⟨1, Or.inl rfl, fun x h1 h2 => bt_sh 0 h1 h2, by decide, by decide, by decide, by decide, by decide⟩
  · subst z
    exact ⟨2, Or.inr (Or.inl rfl), fun x h1 h2 => bt_sh 1 h1 h2, by decide, by decide, by decide, by decide, by decide⟩
  · subst z
    exact ⟨4, Or.inr (Or.inr rfl), fun x h1 h2 => bt_sh 2 h1 h2, by decide, by decide, by decide, by decide, by decide⟩
theorem k_abs {z : Int} (h : z.natAbs < 2147483648) : f_J9_abs_0f7a4 (kI z) = some (kI (z.natAbs : Int)) := by
  unfold f_J9_abs_0f7a4
  by_cases a : 0 ≤ z
  · rw [if_pos (by rw [show (0 : Int32) = kI 0 from rfl, k_le (by omega) h]; exact a), show (z.natAbs : Int) = z by omega]
  · rw [if_neg (by rw [show (0 : Int32) = kI 0 from rfl, k_le (by omega) h]; exact a), show (z.natAbs : Int) = -z by omega, k_neg]
theorem k_max {a b : Int} (ha : a.natAbs < 2147483648) (hb : b.natAbs < 2147483648) : f_J9_max_7cf53 (kI a) (kI b) = some (kI (max a b)) := by
  unfold f_J9_max_7cf53
  by_cases z : a < b
  · rw [if_pos (by rw [k_lt ha hb]; exact z), show max a b = b by omega]
  · rw [if_neg (by rw [k_lt ha hb]; exact z), show max a b = a by omega]
section SH
variable {S : GS} {a b n : Nat} {P V Z : Nat → Int32} {R : Nat → Int32} {x0 x1 : Int32}
def tI (R : Nat → Int32) : Nat → Int := fun i => (R i).toInt
theorem zb {z r : Int} (h1 : 0 ≤ z) (h2 : z ≤ 4) (h3 : r.natAbs ≤ 1000) : z * (r.natAbs : Int) ≤ 4000 ∧ 0 ≤ z * (r.natAbs : Int) := by
  have a1 := Int.mul_le_mul h2 (show (r.natAbs : Int) ≤ 1000 by omega) (by omega) (by omega)
  exact ⟨by omega, Int.mul_nonneg h1 (by omega)⟩
theorem p_levelAt (hb : S.1 b = some (e_o 6 [.ref (b + 1), .int x0, .int x1])) (hR : S.1 (b + 1) = some (e_i 12 R)) (hp : PtsAt S a n P V Z) (hn : n ≤ 12) (hZ : ∀ i, i < n → 0 ≤ (Z i).toInt ∧ (Z i).toInt ≤ 4) {c : Int} (hc : ∀ i, i < n → ((R i).toInt - c).natAbs ≤ 1000) (hcb : c.natAbs < 2147483648) : f_X6_levelAt S b a (kI c) = some (kI (lvA (tI R) (tI Z) c n)) := by
  unfold f_X6_levelAt
  have hz : ∀ k, k ≤ n → lvA (tI R) (tI Z) c k ≤ 4000 := fun k hk => lvA_b (by omega) k (fun i hi => (zb (hZ i (by omega)).1 (hZ i (by omega)).2 (hc i (by omega))).1)
  have := z_lp_count (b := fun x : Int32 × Int32 => f_X6_levelAt_L5 S a (kI c) b x.1 x.2) (fun k => (kI (lvA (tI R) (tI Z) c k), nI k)) n (e := kI (lvA (tI R) (tI Z) c n)) (fun k hk => by
    have g0 := lvA_0 (tI R) (tI Z) c k
    have g1 := hz k (by omega)
    have g2 := zb (hZ k (by omega)).1 (hZ k (by omega)).2 (hc k (by omega))
    have q : z_in (nI k) 12 := by rw [n_in (by omega)]; omega
    have er : g_rI S (b + 1) (nI k) = some (R k) := by rw [g_rI_e hR q, n_cl (by omega)]
    have ez : Z k * kI (((R k).toInt - c).natAbs : Int) = kI ((Z k).toInt * (((R k).toInt - c).natAbs : Int)) := by
      rw [← k_mul, ← k_of]
    have e1 : R k - kI c = kI ((R k).toInt - c) := by rw [← k_sub, ← k_of]
    show f_X6_levelAt_L5 S a (kI c) b (kI (lvA (tI R) (tI Z) c k)) (nI k) = _
    unfold f_X6_levelAt_L5
    rw [hp.sz, z_bd_s, if_neg (by rw [n_le (by omega) (by omega)]; omega), hp.r2, z_bd_s, hp.d2 (by omega), z_bd_s, g_r_e (k := 0) hb rfl, z_bd_s, er, z_bd_s, e1, k_abs (by have := hc k hk; omega), z_bd_s, ez, k_max (by omega) (by omega), z_bd_s, show nI k + (1 : Int32) = nI (k + 1) from n_add k 1]
    rfl) (by
    show f_X6_levelAt_L5 S a (kI c) b (kI (lvA (tI R) (tI Z) c n)) (nI n) = _
    unfold f_X6_levelAt_L5
    rw [hp.sz, z_bd_s, if_pos (by rw [n_le (by omega) (by omega)]; omega)])
  rw [show ((0 : Int32), (0 : Int32)) = (kI (lvA (tI R) (tI Z) c 0), nI 0) from rfl, this, z_bd_s]
theorem p_least {m : Int} (hb : S.1 b = some (e_o 6 [.ref (b + 1), .int x0, .int x1])) (hR : S.1 (b + 1) = some (e_i 12 R)) (hp : PtsAt S a n P V Z) (hn : n ≤ 12) (hZ : ∀ i, i < n → 0 ≤ (Z i).toInt ∧ (Z i).toInt ≤ 4) (hm : 0 ≤ m ∧ m ≤ 256) (hr : ∀ i, i < n → (R i).toInt.natAbs ≤ 700) : ∃ c, f_X6_leastC0 S b a (kI m) = some (kI c) ∧ LeastC (tI R) (tI Z) n m c := by
  have hZ' : ∀ i, i < n → 0 ≤ tI Z i := fun i hi => (hZ i hi).1
  have go : ∀ (j : Nat) (x y : Int) (k : Nat), y - x < 2 ^ j → k + j ≤ 31 → -m ≤ x → x ≤ y → y ≤ m → (∀ u, -m ≤ u → u < x → ∃ v, x ≤ v ∧ v ≤ y ∧ lvA (tI R) (tI Z) v n < lvA (tI R) (tI Z) u n) → (∀ u, y ≤ u → u ≤ m → lvA (tI R) (tI Z) y n ≤ lvA (tI R) (tI Z) u n) → ∃ c, z_lp (fun x => f_X6_leastC0_L9 S a b x.1 x.2.1 x.2.2) (kI x, kI y, nI k) = some (kI c) ∧ LeastC (tI R) (tI Z) n m c := by
    intro j
    induction j with
    | zero =>
      intro x y k h1 h2 h3 h4 h5 h6 h7
      have e : x = y := by omega
      subst e
      refine ⟨x, ?_, h3, h5, fun u u1 u2 => ?_⟩
      · refine z_lp_x ?_
        show f_X6_leastC0_L9 S a b (kI x) (kI x) (nI k) = _
        unfold f_X6_leastC0_L9
        rw [if_neg (by rw [show (32 : Int32) = nI 32 from rfl, n_le (by omega) (by omega)]; omega), if_pos (Int32.le_refl _)]
      · by_cases z : u < x
        · obtain ⟨v, v1, v2, v3⟩ := h6 u u1 z
          rw [show v = x by omega] at v3
          exact Or.inl v3
        · have := h7 u (by omega) u2
          omega
    | succ j ih =>
      intro x y k h1 h2 h3 h4 h5 h6 h7
      have h8 : (2 : Int) ^ (j + 1) = 2 * 2 ^ j := by rw [Int.pow_succ]; omega
      rw [h8] at h1
      by_cases e : x = y
      · subst e
        have h9 : (0 : Int) < 2 ^ j := Int.pow_pos (by decide)
        refine ⟨x, ?_, h3, h5, fun u u1 u2 => ?_⟩
        · refine z_lp_x ?_
          show f_X6_leastC0_L9 S a b (kI x) (kI x) (nI k) = _
          unfold f_X6_leastC0_L9
          rw [if_neg (by rw [show (32 : Int32) = nI 32 from rfl, n_le (by omega) (by omega)]; omega), if_pos (Int32.le_refl _)]
        · by_cases z : u < x
          · obtain ⟨v, v1, v2, v3⟩ := h6 u u1 z
            rw [show v = x by omega] at v3
            exact Or.inl v3
          · have := h7 u (by omega) u2
            omega
      · obtain ⟨q, hq⟩ : ∃ q, q = (x + y) / 2 := ⟨_, rfl⟩
        have l1 := p_levelAt hb hR hp hn hZ (c := q) (fun i hi => by have := hr i hi; omega) (by omega)
        have l2 := p_levelAt hb hR hp hn hZ (c := q + 1) (fun i hi => by have := hr i hi; omega) (by omega)
        have bz : ∀ c : Int, c.natAbs ≤ 300 → 0 ≤ lvA (tI R) (tI Z) c n ∧ lvA (tI R) (tI Z) c n ≤ 4000 := fun c hc => ⟨lvA_0 _ _ _ _, lvA_b (by omega) n (fun i hi => (zb (hZ i (by omega)).1 (hZ i (by omega)).2 (show ((R i).toInt - c).natAbs ≤ 1000 by have := hr i hi; omega)).1)⟩
        have b1 := bz q (by omega)
        have b2 := bz (q + 1) (by omega)
        have step : f_X6_leastC0_L9 S a b (kI x) (kI y) (nI k) = if lvA (tI R) (tI Z) (q + 1) n < lvA (tI R) (tI Z) q n then some (.inr (kI (q + 1), kI y, nI (k + 1))) else some (.inr (kI x, kI q, nI (k + 1))) := by
          unfold f_X6_leastC0_L9
          rw [if_neg (by rw [show (32 : Int32) = nI 32 from rfl, n_le (by omega) (by omega)]; omega), if_neg (by rw [k_le (by omega) (by omega)]; omega), k_add, p_fdiv (by omega) (by omega), z_bd_s, ← hq, z_chk_t (g_is_e hb), l1, z_bd_s, z_chk_t (g_is_e hb), show kI q + (1 : Int32) = kI (q + 1) from k_add q 1, l2, z_bd_s, show nI k + (1 : Int32) = nI (k + 1) from n_add k 1]
          by_cases w : lvA (tI R) (tI Z) (q + 1) n < lvA (tI R) (tI Z) q n
          · rw [if_pos w, if_pos (by rw [k_lt (by omega) (by omega)]; exact w)]
          · rw [if_neg w, if_neg (by rw [k_lt (by omega) (by omega)]; exact w)]
        by_cases w : lvA (tI R) (tI Z) (q + 1) n < lvA (tI R) (tI Z) q n
        · rw [if_pos w] at step
          rw [z_lp_n (y := (kI (q + 1), kI y, nI (k + 1))) step]
          refine ih (q + 1) y (k + 1) (by omega) (by omega) (by omega) (by omega) h5 (fun u u1 u2 => ⟨q + 1, by omega, by omega, lvA_dn' hZ' w (by omega)⟩) h7
        · rw [if_neg w] at step
          rw [z_lp_n (y := (kI x, kI q, nI (k + 1))) step]
          refine ih x q (k + 1) (by omega) (by omega) h3 (by omega) (by omega) (fun u u1 u2 => ?_) (fun u u1 u2 => lvA_up' hZ' (by omega) u1)
          obtain ⟨v, v1, v2, v3⟩ := h6 u u1 u2
          by_cases vz : v ≤ q
          · exact ⟨v, v1, vz, v3⟩
          · have := lvA_up' (R := tI R) hZ' (show lvA (tI R) (tI Z) q n ≤ lvA (tI R) (tI Z) (q + 1) n by omega) (show q ≤ v by omega)
            exact ⟨q, by omega, by omega, by omega⟩
  obtain ⟨c, c1, c2⟩ := go 10 (-m) m 0 (by omega) (by omega) (by omega) (by omega) (by omega) (fun u u1 u2 => by omega) (fun u u1 u2 => by rw [show u = m by omega]; exact Int.le_refl _)
  refine ⟨c, ?_, c2⟩
  unfold f_X6_leastC0
  rw [k_neg, show (0 : Int32) = nI 0 from rfl, c1, z_bd_s]
end SH
