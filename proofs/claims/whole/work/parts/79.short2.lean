/-! shorts: the search on both sides -/
def Seen (f : Int → Int → Int) (D : Int → Int → Prop) (l b0 b1 : Int) : Prop := (l = -1 ∧ ∀ x y, ¬ D x y) ∨ (l = f b0 b1 ∧ D b0 b1 ∧ ∀ x y, D x y → f b0 b1 < f x y ∨ (f b0 b1 = f x y ∧ (b0 < x ∨ (b0 = x ∧ b1 ≤ y))))
theorem Seen.cg {f : Int → Int → Int} {D D' : Int → Int → Prop} {l b0 b1 : Int} (h : Seen f D l b0 b1) (e : ∀ x y, D' x y ↔ D x y) : Seen f D' l b0 b1 := by
  rcases h with ⟨h1, h2⟩ | ⟨h1, h2, h3⟩
  · exact Or.inl ⟨h1, fun x y hd => h2 x y ((e x y).mp hd)⟩
  · exact Or.inr ⟨h1, (e _ _).mpr h2, fun x y hd => h3 x y ((e x y).mp hd)⟩
theorem Seen.uq {f : Int → Int → Int} {D : Int → Int → Prop} {l b0 b1 l' c0 c1 x y : Int} (h : Seen f D l b0 b1) (h' : Seen f D l' c0 c1) (hd : D x y) : b0 = c0 ∧ b1 = c1 ∧ D b0 b1 := by
  rcases h with ⟨h1, h2⟩ | ⟨h1, h2, h3⟩
  · exact absurd hd (h2 x y)
  · rcases h' with ⟨k1, k2⟩ | ⟨k1, k2, k3⟩
    · exact absurd hd (k2 x y)
    · have a1 := h3 _ _ k2
      have a2 := k3 _ _ h2
      exact ⟨by omega, by omega, h2⟩
/-- one more place -/
theorem seen_new {f : Int → Int → Int} {D D' : Int → Int → Prop} {l b0 b1 c0 c1 : Int} (h : Seen f D l b0 b1) (h0 : ∀ x y, D x y → 0 ≤ f x y) (e : ∀ x y, D' x y ↔ (D x y ∨ (x = c0 ∧ y = c1))) (hl : l = -1 ∨ f c0 c1 < l) : Seen f D' (f c0 c1) c0 c1 := by
  refine Or.inr ⟨rfl, (e _ _).mpr (Or.inr ⟨rfl, rfl⟩), fun x y hd => ?_⟩
  rcases (e x y).mp hd with d | ⟨d1, d2⟩
  · rcases h with ⟨h1, h2⟩ | ⟨h1, h2, h3⟩
    · exact absurd d (h2 x y)
    · have := h3 x y d
      have := h0 _ _ h2
      omega
  · subst d1; subst d2
    exact Or.inr ⟨rfl, Or.inr ⟨rfl, Int.le_refl _⟩⟩
theorem seen_old {f : Int → Int → Int} {D D' : Int → Int → Prop} {l b0 b1 c0 c1 : Int} (h : Seen f D l b0 b1) (e : ∀ x y, D' x y ↔ (D x y ∨ (x = c0 ∧ y = c1))) (hD : ∀ x y, D x y → x < c0 ∨ (x = c0 ∧ y < c1)) (h1 : ¬ l = -1) (hl : l ≤ f c0 c1) : Seen f D' l b0 b1 := by
  rcases h with ⟨k1, k2⟩ | ⟨k1, k2, k3⟩
  · exact absurd k1 h1
  · refine Or.inr ⟨k1, (e _ _).mpr (Or.inl k2), fun x y hd => ?_⟩
    rcases (e x y).mp hd with d | ⟨d1, d2⟩
    · exact k3 x y d
    · subst d1; subst d2
      have := hD _ _ k2
      omega
/-- one more column -/
theorem seen_cnew {f : Int → Int → Int} {D D' : Int → Int → Prop} {l b0 b1 c y m : Int} (h : Seen f D l b0 b1) (h0 : ∀ x y, D x y → 0 ≤ f x y) (e : ∀ x z, D' x z ↔ (D x z ∨ ((-m ≤ x ∧ x ≤ m) ∧ z = y))) (hc : -m ≤ c ∧ c ≤ m ∧ ∀ x, -m ≤ x → x ≤ m → f c y < f x y ∨ (f c y = f x y ∧ c ≤ x)) (hl : l = -1 ∨ (0 ≤ l ∧ (f c y < l ∨ (f c y = l ∧ c < b0)))) : Seen f D' (f c y) c y := by
  refine Or.inr ⟨rfl, (e _ _).mpr (Or.inr ⟨⟨hc.1, hc.2.1⟩, rfl⟩), fun x z hd => ?_⟩
  rcases (e x z).mp hd with d | ⟨d1, d2⟩
  · rcases h with ⟨h1, h2⟩ | ⟨h1, h2, h3⟩
    · exact absurd d (h2 x z)
    · have := h3 x z d
      have := h0 _ _ h2
      omega
  · subst d2
    have := hc.2.2 x d1.1 d1.2
    omega
theorem seen_cold {f : Int → Int → Int} {D D' : Int → Int → Prop} {l b0 b1 c y m : Int} (h : Seen f D l b0 b1) (e : ∀ x z, D' x z ↔ (D x z ∨ ((-m ≤ x ∧ x ≤ m) ∧ z = y))) (hD : ∀ x z, D x z → z < y) (hc : -m ≤ c ∧ c ≤ m ∧ ∀ x, -m ≤ x → x ≤ m → f c y < f x y ∨ (f c y = f x y ∧ c ≤ x)) (h1 : ¬ l = -1) (hl : l < f c y ∨ (f c y = l ∧ b0 ≤ c)) : Seen f D' l b0 b1 := by
  rcases h with ⟨k1, k2⟩ | ⟨k1, k2, k3⟩
  · exact absurd k1 h1
  · refine Or.inr ⟨k1, (e _ _).mpr (Or.inl k2), fun x z hd => ?_⟩
    rcases (e x z).mp hd with d | ⟨d1, d2⟩
    · exact k3 x z d
    · subst d2
      have a1 := hD _ _ k2
      have a2 := hc.2.2 x d1.1 d1.2
      omega
/-- the level at a pair -/
def sF (P V Z : Nat → Int32) (T : Int) (n : Nat) (x y : Int) : Int := lvA (fun i => tI V i * T - y * tI P i) (tI Z) x n
theorem PtsOk.i {n : Nat} {P V Z : Nat → Int32} (h : PtsOk n P V Z) {i : Nat} (hi : i < n) : (P i).toInt.natAbs ≤ 12 ∧ (V i).toInt.natAbs ≤ 60 ∧ 0 ≤ (Z i).toInt ∧ (Z i).toInt ≤ 4 := by
  obtain ⟨⟨a1, a2⟩, ⟨a3, a4⟩, a5, a6⟩ := h.2.1 i hi
  have b1 := i_bd (l := -12) (h := 12) a1 a2 (by decide) (by decide)
  have b2 := i_bd (l := -60) (h := 60) a3 a4 (by decide) (by decide)
  have b3 := i_bd (l := 1) (h := 4) a5 a6 (by decide) (by decide)
  omega
theorem rest_b {n : Nat} {P V Z : Nat → Int32} (h : PtsOk n P V Z) {T y : Int} (hT : T = 1 ∨ T = 2 ∨ T = 4) (hy : y.natAbs ≤ 32) {i : Nat} (hi : i < n) : (tI V i * T - y * tI P i).natAbs ≤ 700 := by
  obtain ⟨b1, b2, -, -⟩ := h.i hi
  have e1 : (y * (P i).toInt).natAbs ≤ 32 * 12 := by rw [Int.natAbs_mul]; exact Nat.mul_le_mul hy b1
  have e2 : ((V i).toInt * T).natAbs ≤ 240 := by rcases hT with z | z | z <;> (rw [z]; omega)
  show ((V i).toInt * T - y * (P i).toInt).natAbs ≤ 700
  omega
theorem sF_b {n : Nat} {P V Z : Nat → Int32} (h : PtsOk n P V Z) {T x y : Int} (hT : T = 1 ∨ T = 2 ∨ T = 4) (hx : x.natAbs ≤ 256) (hy : y.natAbs ≤ 32) (k : Nat) (hk : k ≤ n) : 0 ≤ sF P V Z T k x y ∧ sF P V Z T k x y ≤ 4000 := by
  refine ⟨lvA_0 _ _ _ _, lvA_b (by omega) k (fun i hi => (zb (h.i (by omega)).2.2.1 (h.i (by omega)).2.2.2 ?_).1)⟩
  have := rest_b h hT hy (i := i) (by omega)
  omega
section SH2
variable {S : GS} {a b n : Nat} {P V Z : Nat → Int32} {a2 : Int32} {T : Int}
theorem p_rests (hO : PtsOk n P V Z) (hB : Bt a2 T) (hp : PtsAt S a n P V Z) (hd : a + 4 ≤ b ∨ b + 2 ≤ a) {x0 x1 : Int32} (hb : S.1 b = some (e_o 6 [.ref (b + 1), .int x0, .int x1])) {R : Nat → Int32} (hR : S.1 (b + 1) = some (e_i 12 R)) (y : Int) : ∃ S' R', z_lp (fun x => f_X6_search_L32 a a2 b (kI y) x.1 x.2) ((0 : Int32), S) = some S' ∧ Same S S' (b + 1) 1 ∧ S'.1 (b + 1) = some (e_i 12 R') ∧ ∀ i, i < n → R' i = kI (tI V i * T - y * tI P i) := by
  have hn := hO.1
  have go : ∀ (j k : Nat) (S1 : GS) (R1 : Nat → Int32), k + j = n → Same S S1 (b + 1) 1 → S1.1 (b + 1) = some (e_i 12 R1) → (∀ i, i < k → R1 i = kI (tI V i * T - y * tI P i)) → ∃ S' R', z_lp (fun x => f_X6_search_L32 a a2 b (kI y) x.1 x.2) (nI k, S1) = some S' ∧ Same S S' (b + 1) 1 ∧ S'.1 (b + 1) = some (e_i 12 R') ∧ ∀ i, i < n → R' i = kI (tI V i * T - y * tI P i) := by
    intro j
    induction j with
    | zero =>
      intro k S1 R1 h1 h2 h3 h4
      refine ⟨S1, R1, z_lp_x ?_, h2, h3, fun i hi => h4 i (by omega)⟩
      have hp1 := hp.same h2 (by omega)
      show f_X6_search_L32 a a2 b (kI y) (nI k) S1 = _
      unfold f_X6_search_L32
      rw [hp1.sz, z_bd_s, if_pos (by rw [n_le (by omega) (by omega)]; omega)]
    | succ j ih =>
      intro k S1 R1 h1 h2 h3 h4
      have hp1 := hp.same h2 (by omega)
      have hb1 : S1.1 b = some (e_o 6 [.ref (b + 1), .int x0, .int x1]) := (h2.2 b (by omega)).trans hb
      have hq : z_in (nI k) 12 := by rw [n_in (by omega)]; omega
      obtain ⟨⟨-, -⟩, ⟨v1, v2⟩, -⟩ := hO.2.1 k (by omega)
      have ev : (V k <<< (a2 &&& 31)) - kI y * P k = kI (tI V k * T - y * tI P k) := by
        rw [hB.2.1 _ v1 v2, ← k_sub, ← k_mul y]
        show kI ((V k).toInt * T) - kI y * P k = kI ((V k).toInt * T) - kI y * kI (P k).toInt
        rw [← k_of]
      have step : f_X6_search_L32 a a2 b (kI y) (nI k) S1 = some (.inr (nI (k + 1), g_up S1 (b + 1) (e_i 12 (upd R1 k (kI (tI V k * T - y * tI P k)))))) := by
        unfold f_X6_search_L32
        rw [hp1.sz, z_bd_s, if_neg (by rw [n_le (by omega) (by omega)]; omega), g_r_e (k := 0) hb1 rfl, z_bd_s, hp1.r1, z_bd_s, hp1.d1 (by omega), z_bd_s, hp1.r0, z_bd_s, hp1.d0 (by omega), z_bd_s, ev, g_wI_e _ h3 hq, n_cl (by omega), z_bd_s, show nI k + (1 : Int32) = nI (k + 1) from n_add k 1]
      rw [z_lp_n (y := (nI (k + 1), g_up S1 (b + 1) (e_i 12 (upd R1 k (kI (tI V k * T - y * tI P k)))))) step]
      refine ih (k + 1) _ _ (by omega) (h2.tr (Same.up (by omega))) (g_up_s _ _ _) (fun i hi => ?_)
      by_cases z : i = k
      · rw [z, upd_s]
      · rw [upd_n _ z]
        exact h4 i (by omega)
  exact go n 0 S R (by omega) Same.rf hR (fun i hi => by omega)
theorem p_search (hO : PtsOk n P V Z) (hB : Bt a2 T) (hp : PtsAt S a n P V Z) (hd : a + 4 ≤ b ∨ b + 2 ≤ a) {x0 x1 : Int32} (hb : S.1 b = some (e_o 6 [.ref (b + 1), .int x0, .int x1])) {R : Nat → Int32} (hR : S.1 (b + 1) = some (e_i 12 R)) {a1 : Int32} {m : Int} (hm : m = if a1 = 0 then 0 else 8 * T) : ∃ S' c0 c1 R' l, f_X6_search S b a a1 a2 = some S' ∧ Same S S' b 2 ∧ S'.1 b = some (e_o 6 [.ref (b + 1), .int (kI c0), .int (kI c1)]) ∧ S'.1 (b + 1) = some (e_i 12 R') ∧ Seen (sF P V Z T n) (fun x y => (-(64 * T) ≤ x ∧ x ≤ 64 * T) ∧ -m ≤ y ∧ y ≤ m) l c0 c1 := by
  have hn := hO.1
  have hT := hB.1
  have hm2 : 0 ≤ m ∧ m ≤ 32 := by
    rw [hm]
    by_cases z : a1 = 0
    · rw [if_pos z]; omega
    · rw [if_neg z]; omega
  have go : ∀ (k : Nat) (y l b0 b1 : Int) (S1 : GS) (R1 : Nat → Int32), -m ≤ y → y ≤ m + 1 → (m + 1 - y).toNat = k → Same S S1 b 2 → S1.1 b = some (e_o 6 [.ref (b + 1), .int (kI b0), .int (kI b1)]) → S1.1 (b + 1) = some (e_i 12 R1) → -1 ≤ l → l ≤ 4000 → Seen (sF P V Z T n) (fun u v => (-(64 * T) ≤ u ∧ u ≤ 64 * T) ∧ -m ≤ v ∧ v < y) l b0 b1 → ∃ S' c0 c1 R' l', z_lp (fun x => f_X6_search_L22 a a2 b (kI m) x.1 x.2.1 x.2.2) (kI l, kI y, S1) = some S' ∧ Same S S' b 2 ∧ S'.1 b = some (e_o 6 [.ref (b + 1), .int (kI c0), .int (kI c1)]) ∧ S'.1 (b + 1) = some (e_i 12 R') ∧ Seen (sF P V Z T n) (fun x y => (-(64 * T) ≤ x ∧ x ≤ 64 * T) ∧ -m ≤ y ∧ y ≤ m) l' c0 c1 := by
    intro k
    induction k with
    | zero =>
      intro y l b0 b1 S1 R1 h1 h2 h3 h4 h5 h6 h7 h8 h9
      refine ⟨S1, b0, b1, R1, l, z_lp_x ?_, h4, h5, h6, h9.cg (fun u v => by omega)⟩
      show f_X6_search_L22 a a2 b (kI m) (kI l) (kI y) S1 = _
      unfold f_X6_search_L22
      rw [if_pos (by rw [k_lt (by omega) (by omega)]; omega)]
    | succ k ih =>
      intro y l b0 b1 S1 R1 h1 h2 h3 h4 h5 h6 h7 h8 h9
      have hp1 := hp.same h4 (by omega)
      obtain ⟨S2, R2, r1, r2, r3, r4⟩ := p_rests hO hB hp1 hd h5 h6 y
      have hp2 := hp1.same r2 (by omega)
      have hb2 := (r2.2 b (by omega)).trans h5
      have hZ : ∀ i, i < n → 0 ≤ (Z i).toInt ∧ (Z i).toInt ≤ 4 := fun i hi => (hO.i hi).2.2
      have hR2 : ∀ i, i < n → (R2 i).toInt = tI V i * T - y * tI P i := fun i hi => by rw [r4 i hi]; exact k_to (by have := rest_b hO hT (y := y) (by omega) hi; omega)
      have hR3 : ∀ i, i < n → (R2 i).toInt.natAbs ≤ 700 := fun i hi => by rw [hR2 i hi]; exact rest_b hO hT (by omega) hi
      obtain ⟨c, c1, c2, c3, c4⟩ := p_least (m := 64 * T) hb2 r3 hp2 hn hZ (by omega) hR3
      have eF : ∀ u, lvA (tI R2) (tI Z) u n = sF P V Z T n u y := fun u => lvA_eq n (fun i hi => by
        show tI Z i * (((R2 i).toInt - u).natAbs : Int) = tI Z i * (((tI V i * T - y * tI P i) - u).natAbs : Int)
        rw [hR2 i hi])
      have hc : -(64 * T) ≤ c ∧ c ≤ 64 * T ∧ ∀ x, -(64 * T) ≤ x → x ≤ 64 * T → sF P V Z T n c y < sF P V Z T n x y ∨ (sF P V Z T n c y = sF P V Z T n x y ∧ c ≤ x) := ⟨c2, c3, fun x x1 x2 => by rw [← eF, ← eF]; exact c4 x x1 x2⟩
      have l1 := p_levelAt hb2 r3 hp2 hn hZ (c := c) (fun i hi => by have := hR3 i hi; omega) (by omega)
      rw [eF] at l1
      have bF := sF_b hO hT (x := c) (y := y) (by omega) (by omega) n (Nat.le_refl _)
      obtain ⟨L, hL⟩ : ∃ z, z = sF P V Z T n c y := ⟨_, rfl⟩
      rw [← hL] at l1 bF
      have e1 : ∀ x z, ((-(64 * T) ≤ x ∧ x ≤ 64 * T) ∧ -m ≤ z ∧ z < y + 1) ↔ (((-(64 * T) ≤ x ∧ x ≤ 64 * T) ∧ -m ≤ z ∧ z < y) ∨ ((-(64 * T) ≤ x ∧ x ≤ 64 * T) ∧ z = y)) := fun x z => by omega
      have hs2 : Same S S2 b 2 := h4.tr ⟨r2.1, fun x hx => r2.2 x (by omega)⟩
      have better : (l = -1 ∨ (0 ≤ l ∧ (L < l ∨ (L = l ∧ c < b0)))) → (if kI l < 0 then some ((1 : Int32)) else if kI L < kI l then some ((1 : Int32)) else if kI L = kI l then z_bd (g_i S2 6 1 b) fun f_19 => if f_19 ≤ kI c then some ((0 : Int32)) else some ((1 : Int32)) else some ((0 : Int32))) = some 1 := by
        intro hh
        by_cases z : l = -1
        · rw [if_pos (by rw [z]; decide)]
        · rw [if_neg (by rw [show (0 : Int32) = kI 0 from rfl, k_lt (by omega) (by omega)]; omega)]
          by_cases w : L < l
          · rw [if_pos (by rw [k_lt (by omega) (by omega)]; exact w)]
          · rw [if_neg (by rw [k_lt (by omega) (by omega)]; exact w), if_pos (by rw [show L = l by omega]), g_i_e (k := 1) hb2 rfl, z_bd_s]
            rcases h9 with ⟨z1, -⟩ | ⟨z1, z2, -⟩
            · exact absurd z1 z
            · rw [if_neg (by rw [k_le (by omega) (by omega)]; omega)]
      have worse : ¬ l = -1 → (l < L ∨ (L = l ∧ b0 ≤ c)) → (if kI l < 0 then some ((1 : Int32)) else if kI L < kI l then some ((1 : Int32)) else if kI L = kI l then z_bd (g_i S2 6 1 b) fun f_19 => if f_19 ≤ kI c then some ((0 : Int32)) else some ((1 : Int32)) else some ((0 : Int32))) = some 0 := by
        intro z hh
        rw [if_neg (by rw [show (0 : Int32) = kI 0 from rfl, k_lt (by omega) (by omega)]; omega), if_neg (by rw [k_lt (by omega) (by omega)]; omega)]
        by_cases w : L = l
        · rw [if_pos (by rw [w]), g_i_e (k := 1) hb2 rfl, z_bd_s]
          rcases h9 with ⟨z1, -⟩ | ⟨z1, z2, -⟩
          · exact absurd z1 z
          · rw [if_pos (by rw [k_le (by omega) (by omega)]; omega)]
        · rw [if_neg (by rw [k_eq (by omega) (by omega)]; exact w)]
      have head : f_X6_search_L22 a a2 b (kI m) (kI l) (kI y) S1 = z_bd (if kI l < 0 then some ((1 : Int32)) else if kI L < kI l then some ((1 : Int32)) else if kI L = kI l then z_bd (g_i S2 6 1 b) fun f_19 => if f_19 ≤ kI c then some ((0 : Int32)) else some ((1 : Int32)) else some ((0 : Int32))) fun v_18 => if v_18 = 0 then some (.inr (kI l, kI y + 1, S2)) else z_bd (g_put S2 6 1 b (.int (kI c))) fun S_20 => z_bd (g_put S_20 6 2 b (.int (kI y))) fun S_21 => some (.inr (kI L, kI y + 1, S_21)) := by
        unfold f_X6_search_L22
        rw [if_neg (by rw [k_lt (by omega) (by omega)]; omega), r1, z_bd_s, z_chk_t (g_is_e hb2), hB.2.2.2.1, c1, z_bd_s, z_chk_t (g_is_e hb2), l1, z_bd_s]
      have ey : kI y + (1 : Int32) = kI (y + 1) := k_add y 1
      by_cases w : l = -1 ∨ (0 ≤ l ∧ (L < l ∨ (L = l ∧ c < b0)))
      · obtain ⟨S3, hS3⟩ : ∃ z, z = g_up S2 b (e_o 6 ([Value.ref (b + 1), .int (kI b0), .int (kI b1)].set 1 (.int (kI c)))) := ⟨_, rfl⟩
        have p3 := g_put_e (k := 1) (.int (kI c)) hb2 (Nat.le_of_ble_eq_true rfl)
        rw [← hS3] at p3
        have hb3 : S3.1 b = some (e_o 6 [.ref (b + 1), .int (kI c), .int (kI b1)]) := by rw [hS3, g_up_s]; rfl
        have p4 := g_put_e (k := 2) (.int (kI y)) hb3 (Nat.le_of_ble_eq_true rfl)
        obtain ⟨S4, hS4⟩ : ∃ z, z = g_up S3 b (e_o 6 ([Value.ref (b + 1), .int (kI c), .int (kI b1)].set 2 (.int (kI y)))) := ⟨_, rfl⟩
        rw [← hS4] at p4
        have hb4 : S4.1 b = some (e_o 6 [.ref (b + 1), .int (kI c), .int (kI y)]) := by rw [hS4, g_up_s]; rfl
        have hR4 : S4.1 (b + 1) = some (e_i 12 R2) := by rw [hS4, g_up_n _ (by omega), hS3, g_up_n _ (by omega)]; exact r3
        have hs4 : Same S S4 b 2 := by
          rw [hS4, hS3]
          exact (hs2.tr (Same.up (by omega))).tr (Same.up (by omega))
        rw [better w, z_bd_s, if_neg z_10, p3, z_bd_s, p4, z_bd_s, ey] at head
        rw [z_lp_n (y := (kI L, kI (y + 1), S4)) head]
        refine ih (y + 1) L c y S4 R2 (by omega) (by omega) (by omega) hs4 hb4 hR4 (by omega) (by omega) ?_
        rw [hL]
        exact seen_cnew h9 (fun _ _ _ => lvA_0 _ _ _ _) e1 hc (by rw [← hL]; exact w)
      · have z : ¬ l = -1 := fun q => w (Or.inl q)
        have w2 : l < L ∨ (L = l ∧ b0 ≤ c) := by omega
        rw [worse z w2, z_bd_s, if_pos rfl, ey] at head
        rw [z_lp_n (y := (kI l, kI (y + 1), S2)) head]
        refine ih (y + 1) l b0 b1 S2 R2 (by omega) (by omega) (by omega) hs2 hb2 r3 h7 h8 ?_
        exact seen_cold h9 e1 (fun u v huv => huv.2.2) hc z (by rw [← hL]; exact w2)
  obtain ⟨S', c0, c1, R', l', g1, g2, g3, g4, g5⟩ := go (m + 1 - (-m)).toNat (-m) (-1) x0.toInt x1.toInt S R (by omega) (by omega) rfl Same.rf (by rw [← k_of, ← k_of]; exact hb) hR (by omega) (by omega) (Or.inl ⟨rfl, fun u v huv => by dsimp only at huv; omega⟩)
  refine ⟨S', c0, c1, R', l', ?_, g2, g3, g4, g5⟩
  have ev : (if a1 = 0 then some ((0 : Int32)) else some (((8 : Int32) <<< (a2 &&& 31)))) = some (kI m) := by
    rw [hm]
    by_cases z : a1 = 0
    · rw [if_pos z, if_pos z]; rfl
    · rw [if_neg z, if_neg z, hB.2.2.1]
  unfold f_X6_search
  rw [ev, z_bd_s, k_neg, show (-1 : Int32) = kI (-1) from rfl, g1, z_bd_s]
end SH2
