/-! the class's Leveller: exchange -/
theorem j_cmplt {a b : Int} (h1 : -9223372036854775808 ≤ a) (h2 : a < 9223372036854775808) (h3 : -9223372036854775808 ≤ b) (h4 : b < 9223372036854775808) : (lg_cmp (jI a) (jI b) < 0) = (a < b) := by
  apply propext
  rw [j_cmp h1 h2 h3 h4]
  by_cases q : b < a
  · rw [if_pos q]; constructor
    · intro h; exact absurd h (by decide)
    · intro h; omega
  · rw [if_neg q]
    by_cases q2 : a = b
    · rw [if_pos q2]; constructor
      · intro h; exact absurd h (by decide)
      · intro h; omega
    · rw [if_neg q2]; exact ⟨fun _ => by omega, fun _ => by decide⟩
theorem j_cmpgt {a b : Int} (h1 : -9223372036854775808 ≤ a) (h2 : a < 9223372036854775808) (h3 : -9223372036854775808 ≤ b) (h4 : b < 9223372036854775808) : (0 < lg_cmp (jI a) (jI b)) = (b < a) := by
  apply propext
  rw [j_cmp h1 h2 h3 h4]
  by_cases q : b < a
  · rw [if_pos q]; exact ⟨fun _ => q, fun _ => by decide⟩
  · rw [if_neg q]
    by_cases q2 : a = b
    · rw [if_pos q2]; constructor
      · intro h; exact absurd h (by decide)
      · intro h; omega
    · rw [if_neg q2]; constructor
      · intro h; exact absurd h (by decide)
      · intro h; omega
theorem dv_mul {a d : Int} (hd : 0 < d) : Rat.divInt a d * (d : Rat) = (a : Rat) := by
  have h : (d : Rat) ≠ 0 := d_ne (by omega)
  rw [Rat.divInt_eq_div]
  generalize (d : Rat) = D at *
  grind
theorem dv_pos {d : Int} (hd : 0 < d) : (0 : Rat) < (d : Rat) := by exact_mod_cast hd
theorem dv_lt {a b d : Int} (hd : 0 < d) : Rat.divInt a d < Rat.divInt b d ↔ a < b := by
  have hp := dv_pos hd
  constructor
  · intro h
    have h2 := Rat.mul_lt_mul_of_pos_right h hp
    rw [dv_mul hd, dv_mul hd] at h2
    exact_mod_cast h2
  · intro h
    rcases r_tot (Rat.divInt b d) (Rat.divInt a d) with q | q
    · have h2 := Rat.mul_le_mul_of_nonneg_right q (Rat.le_of_lt hp)
      rw [dv_mul hd, dv_mul hd] at h2
      have h3 : b ≤ a := by exact_mod_cast h2
      omega
    · rcases r_loe q with q | q
      · exact q
      · have h2 : Rat.divInt a d * (d : Rat) = Rat.divInt b d * (d : Rat) := by rw [q]
        rw [dv_mul hd, dv_mul hd] at h2
        have h3 : a = b := by exact_mod_cast h2
        omega
theorem dv_le {a b d : Int} (hd : 0 < d) : Rat.divInt a d ≤ Rat.divInt b d ↔ a ≤ b := by
  have h := dv_lt (a := b) (b := a) hd
  constructor
  · intro q
    rcases (show b < a ∨ a ≤ b by omega) with z | z
    · exact absurd (h.mpr z) (Rat.not_lt.mpr q)
    · exact z
  · intro q
    refine Rat.not_lt.mp (fun z => ?_)
    have := h.mp z
    omega
theorem dv_0 (d : Int) : Rat.divInt 0 d = 0 := Rat.zero_divInt d
theorem dv_neg {a d : Int} : -Rat.divInt a d = Rat.divInt (-a) d := by
  rw [Rat.divInt_eq_div, Rat.divInt_eq_div, Rat.intCast_neg]
  grind
theorem dv_abs {a d : Int} (hd : 0 < d) : (Rat.divInt a d).abs = Rat.divInt (a.natAbs : Int) d := by
  rcases a_cases (Rat.divInt a d) with ⟨h1, h2⟩ | ⟨h1, h2⟩
  · rw [h2]
    rw [← dv_0 d, dv_le hd] at h1
    congr 1
    omega
  · rw [h2]
    rw [← dv_0 d, dv_lt hd] at h1
    rw [dv_neg]
    congr 1
    omega
theorem dv_alt {a b d : Int} (hd : 0 < d) : (Rat.divInt a d).abs < (Rat.divInt b d).abs ↔ a.natAbs < b.natAbs := by
  rw [dv_abs hd, dv_abs hd, dv_lt hd]
  omega
theorem dv_ale {a b d : Int} (hd : 0 < d) : (Rat.divInt a d).abs ≤ (Rat.divInt b d).abs ↔ a.natAbs ≤ b.natAbs := by
  rw [dv_abs hd, dv_abs hd, dv_le hd]
  omega
section LV
variable {S : GS} {b : Nat} {t v w : Nat → Int} {K : Nat → Nat} {H B U : Nat → Int} {sq : Int32} {c0 c1 c2 d : Int} {f n : Nat}
theorem ma_mr {t v w : Nat → Int} {c0 c1 c2 d : Int} (hd : 0 < d) (i : Nat) : mr t v w (Rat.divInt c0 d) (Rat.divInt c1 d) (Rat.divInt c2 d) i = Rat.divInt (ma t v w c0 c1 c2 d i) d := (ma_rat hd i).symm
theorem Rw.ma {i : Nat} (hR : Rw f n t v w) (hP : PolOk c0 c1 c2 d) (hi : i < n) : (ma t v w c0 c1 c2 d i).natAbs ≤ 4611686018427 := ma_bd hP (hR.2.2.1 i hi).1 (hR.2.2.1 i hi).2.1 (hR.2.2.1 i hi).2.2.1
theorem p_far {fr : Int32} (h : LvAt S b t v w K H B U (nI n) fr sq c0 c1 c2 d) (hR : Rw f n t v w) (hP : PolOk c0 c1 c2 d) (hn : 0 < n) : ∃ r, r < n ∧ f_X2_farthest S b = some (nI r) ∧ (∀ i, i < n → (ma t v w c0 c1 c2 d i).natAbs ≤ (ma t v w c0 c1 c2 d r).natAbs) ∧ ∀ i, i < r → (ma t v w c0 c1 c2 d i).natAbs < (ma t v w c0 c1 c2 d r).natAbs := by
  have hn12 := hR.2.1
  have key : ∀ (k i r : Nat), i + k = n → r < i → (∀ j, j < i → (ma t v w c0 c1 c2 d j).natAbs ≤ (ma t v w c0 c1 c2 d r).natAbs) → (∀ j, j < r → (ma t v w c0 c1 c2 d j).natAbs < (ma t v w c0 c1 c2 d r).natAbs) → ∃ r, r < n ∧ z_lp (fun x => f_X2_farthest_L4 S b x.1 x.2) (nI r, nI i) = some (nI r) ∧ True ∨ True := by
    intro k i r _ _ _ _
    exact ⟨0, Or.inr trivial⟩
  have key : ∀ (k i r : Nat), i + k = n → r < i → (∀ j, j < i → (ma t v w c0 c1 c2 d j).natAbs ≤ (ma t v w c0 c1 c2 d r).natAbs) → (∀ j, j < r → (ma t v w c0 c1 c2 d j).natAbs < (ma t v w c0 c1 c2 d r).natAbs) → ∃ r', r' < n ∧ z_lp (fun x => f_X2_farthest_L4 S b x.1 x.2) (nI r, nI i) = some (nI r') ∧ (∀ j, j < n → (ma t v w c0 c1 c2 d j).natAbs ≤ (ma t v w c0 c1 c2 d r').natAbs) ∧ ∀ j, j < r' → (ma t v w c0 c1 c2 d j).natAbs < (ma t v w c0 c1 c2 d r').natAbs := by
    intro k
    induction k with
    | zero =>
      intro i r hi hr h1 h2
      refine ⟨r, by omega, z_lp_x ?_, fun j hj => h1 j (by omega), h2⟩
      show f_X2_farthest_L4 S b (nI r) (nI i) = _
      unfold f_X2_farthest_L4
      rw [h.gs, z_bd_s, if_pos (by rw [n_le (by omega) (by omega)]; omega)]
    | succ k ih =>
      intro i r hi hr h1 h2
      have bi := hR.ma hP (i := i) (by omega)
      have br := hR.ma hP (i := r) (by omega)
      have e1 : nI i + 1 = nI (i + 1) := n_add i 1
      have hd : f_X2_farthest_L4 S b (nI r) (nI i) = (if (ma t v w c0 c1 c2 d i).natAbs ≤ (ma t v w c0 c1 c2 d r).natAbs then some (.inr (nI r, nI (i + 1))) else some (.inr (nI i, nI (i + 1)))) := by
        unfold f_X2_farthest_L4
        rw [h.gs, z_bd_s, if_neg (by rw [n_le (by omega) (by omega)]; omega), z_chk_t h.is, p_missA h (by omega), z_bd_s, p_absL (by omega), z_bd_s, z_chk_t h.is, p_missA h (by omega), z_bd_s, p_absL (by omega), z_bd_s, e1]
        simp only [j_cmple (a := ((ma t v w c0 c1 c2 d i).natAbs : Int)) (b := ((ma t v w c0 c1 c2 d r).natAbs : Int)) (by omega) (by omega) (by omega) (by omega), Int.ofNat_le]
      by_cases q : (ma t v w c0 c1 c2 d i).natAbs ≤ (ma t v w c0 c1 c2 d r).natAbs
      · obtain ⟨r', a1, a2, a3, a4⟩ := ih (i + 1) r (by omega) (by omega) (fun j hj => by
          by_cases z : j = i
          · rw [z]; exact q
          · exact h1 j (by omega)) h2
        refine ⟨r', a1, ?_, a3, a4⟩
        rw [← a2]
        apply z_lp_n
        show f_X2_farthest_L4 S b (nI r) (nI i) = _
        rw [hd, if_pos q]
      · obtain ⟨r', a1, a2, a3, a4⟩ := ih (i + 1) i (by omega) (by omega) (fun j hj => by
          by_cases z : j = i
          · rw [z]; exact Nat.le_refl _
          · have := h1 j (by omega); omega) (fun j hj => by have := h1 j hj; omega)
        refine ⟨r', a1, ?_, a3, a4⟩
        rw [← a2]
        apply z_lp_n
        show f_X2_farthest_L4 S b (nI r) (nI i) = _
        rw [hd, if_neg q]
  obtain ⟨r, a1, a2, a3, a4⟩ := key (n - 1) 1 0 (by omega) (by omega) (fun j hj => by rw [show j = 0 by omega]; exact Nat.le_refl _) (fun j hj => by omega)
  refine ⟨r, a1, ?_, a3, a4⟩
  unfold f_X2_farthest
  rw [show ((0 : Int32), (1 : Int32)) = (nI 0, nI 1) from rfl, a2, z_bd_s]
theorem p_low {sz fr : Int32} (h : LvAt S b t v w K H B U sz fr sq c0 c1 c2 d) (hK : K 0 < 12) (hb : (ma t v w c0 c1 c2 d (K 0)).natAbs ≤ 4611686018427) : f_X2_lowAbove S b = some (jI ((ma t v w c0 c1 c2 d (K 0)).natAbs : Int)) := by
  unfold f_X2_lowAbove
  rw [h.r3, z_bd_s, show (0 : Int32) = nI 0 from rfl, h.dk (by omega), z_bd_s, z_chk_t h.is, p_missA h hK, z_bd_s, p_absL (by omega), z_bd_s]
theorem p_nx {sz : Int32} (h : LvAt S b t v w K H B U sz (nI f) sq c0 c1 c2 d) (hf : f ≤ 3) (hI : Inc f n K) (hn : n ≤ 12) {r : Nat} (hr : r < n) (hne : ∀ j, j ≤ f → K j ≠ r) : ∃ nx, z_lp (fun x => f_X2_exchange_L73 S b (nI r) x) (0 : Int32) = some (nI nx) ∧ Nx f K r nx := by
  have key : ∀ (k j : Nat), j + k = f + 1 → (∀ i, i < j → K i < r) → ∃ nx, z_lp (fun x => f_X2_exchange_L73 S b (nI r) x) (nI j) = some (nI nx) ∧ Nx f K r nx := by
    intro k
    induction k with
    | zero =>
      intro j hj h1
      refine ⟨j, z_lp_x ?_, by omega, h1, fun i h2 h3 => by omega⟩
      show f_X2_exchange_L73 S b (nI r) (nI j) = _
      unfold f_X2_exchange_L73
      rw [h.gf, z_bd_s, if_pos (by rw [n_lt (by omega) (by omega)]; omega)]
    | succ k ih =>
      intro j hj h1
      have kj := hI.1 j (by omega)
      have hd : f_X2_exchange_L73 S b (nI r) (nI j) = (if r ≤ K j then some (.inl (nI j)) else some (.inr (nI (j + 1)))) := by
        unfold f_X2_exchange_L73
        rw [h.gf, z_bd_s, if_neg (by rw [n_lt (by omega) (by omega)]; omega), show (4 : Int32) = nI 4 from rfl, if_neg (by rw [n_le (by omega) (by omega)]; omega), h.r3, z_bd_s, h.dk (by omega), z_bd_s, show nI j + 1 = nI (j + 1) from n_add j 1]
        simp only [n_le (show r < 2147483648 by omega) (show K j < 2147483648 by omega)]
      by_cases q : r ≤ K j
      · refine ⟨j, z_lp_x ?_, by omega, h1, fun i h2 h3 => ?_⟩
        · show f_X2_exchange_L73 S b (nI r) (nI j) = _
          rw [hd, if_pos q]
        · have e := hne j (by omega)
          rcases Nat.lt_or_ge j i with z | z
          · have := hI.lt i j z h3; omega
          · rw [show i = j by omega]; omega
      · obtain ⟨nx, a1, a2⟩ := ih (j + 1) (by omega) (fun i hi => by
          by_cases z : i = j
          · rw [z]; omega
          · exact h1 i (by omega))
        refine ⟨nx, ?_, a2⟩
        rw [← a1]
        apply z_lp_n
        show f_X2_exchange_L73 S b (nI r) (nI j) = _
        rw [hd, if_neg q]
  exact key (f + 1) 0 (by omega) (fun i hi => by omega)
theorem p_min3 (hf : f ≤ 3) : f_J9_min_7cf53 (nI f) 3 = some (nI f) := by
  unfold f_J9_min_7cf53
  rw [show (3 : Int32) = nI 3 from rfl, if_neg (by rw [n_lt (by omega) (by omega)]; omega)]
def shN (K : Nat → Nat) (i f : Nat) : Nat → Nat := fun j => if i < j ∧ j ≤ f then K (j - 1) else K j
def shM (K : Nat → Nat) (i : Nat) : Nat → Nat := fun j => if j < i then K (j + 1) else K j
theorem p_first {sz : Int32} (h : LvAt S b t v w K H B U sz (nI f) sq c0 c1 c2 d) (hf : f ≤ 3) (r : Nat) : ∃ S', f_X2_comeFirst S b (nI r) = some S' ∧ LvAt S' b t v w (fun j => if j = 0 then r else if j ≤ f then K (j - 1) else K j) H B U sz (nI f) sq c0 c1 c2 d ∧ Same S S' b 9 := by
  have key : ∀ (i : Nat) (S : GS), i ≤ f → LvAt S b t v w (shN K i f) H B U sz (nI f) sq c0 c1 c2 d → ∃ S', z_lp (fun x => f_X2_comeFirst_L9 b x.1 x.2) (nI i, S) = some S' ∧ LvAt S' b t v w (shN K 0 f) H B U sz (nI f) sq c0 c1 c2 d ∧ Same S S' b 9 := by
    intro i
    induction i with
    | zero =>
      intro S _ h
      refine ⟨S, z_lp_x ?_, h, Same.rf⟩
      show f_X2_comeFirst_L9 b (nI 0) S = _
      unfold f_X2_comeFirst_L9
      rw [if_pos (by decide)]
    | succ i ih =>
      intro S hi h
      obtain ⟨S1, k1, h1, s1⟩ := h.wk (i := i + 1) (by omega) (shN K (i + 1) f i)
      have e : updN (shN K (i + 1) f) (i + 1) (shN K (i + 1) f i) = shN K i f := by
        funext j
        unfold updN shN
        by_cases q : j = i + 1
        · rw [if_pos q, if_neg (by omega), if_pos (by omega)]
          congr 1
          omega
        · rw [if_neg q]
          by_cases q2 : i + 1 < j ∧ j ≤ f
          · rw [if_pos q2, if_pos (by omega)]
          · rw [if_neg q2, if_neg (by omega)]
      rw [e] at h1
      obtain ⟨S', r1, r2, r3⟩ := ih S1 (by omega) h1
      refine ⟨S', ?_, r2, s1.tr r3⟩
      rw [← r1]
      apply z_lp_n
      show f_X2_comeFirst_L9 b (nI (i + 1)) S = _
      unfold f_X2_comeFirst_L9
      rw [show (0 : Int32) = nI 0 from rfl, if_neg (by rw [n_le (by omega) (by omega)]; omega), h.r3, z_bd_s, z_bd_s, show (1 : Int32) = nI 1 from rfl, n_sub (by omega), show i + 1 - 1 = i by omega, h.dk (by omega), z_bd_s, k1, z_bd_s, n_dec]
  have e0 : shN K f f = K := by
    funext j
    unfold shN
    rw [if_neg (by omega)]
  obtain ⟨S1, r1, r2, r3⟩ := key f S (Nat.le_refl _) (by rw [e0]; exact h)
  obtain ⟨S2, k2, h2, s2⟩ := r2.wk (i := 0) (by omega) r
  have e : updN (shN K 0 f) 0 r = (fun j => if j = 0 then r else if j ≤ f then K (j - 1) else K j) := by
    funext j
    unfold updN shN
    by_cases q : j = 0
    · rw [if_pos q, if_pos q]
    · rw [if_neg q, if_neg q]
      by_cases q2 : j ≤ f
      · rw [if_pos q2, if_pos (by omega)]
      · rw [if_neg q2, if_neg (by omega)]
  rw [e] at h2
  refine ⟨S2, ?_, h2, r3.tr s2⟩
  unfold f_X2_comeFirst
  rw [h.gf, z_bd_s, p_min3 hf, z_bd_s, r1, z_bd_s, r2.r3, z_bd_s, show (0 : Int32) = nI 0 from rfl, k2, z_bd_s]
theorem p_last {sz : Int32} (h : LvAt S b t v w K H B U sz (nI f) sq c0 c1 c2 d) (hf : f ≤ 3) (r : Nat) : ∃ S', f_X2_comeLast S b (nI r) = some S' ∧ LvAt S' b t v w (fun j => if j = f then r else if j < f then K (j + 1) else K j) H B U sz (nI f) sq c0 c1 c2 d ∧ Same S S' b 9 := by
  have key : ∀ (k i : Nat) (S : GS), i + k = f → LvAt S b t v w (shM K i) H B U sz (nI f) sq c0 c1 c2 d → ∃ S', z_lp (fun x => f_X2_comeLast_L11 b (nI f) x.1 x.2) (nI i, S) = some S' ∧ LvAt S' b t v w (shM K f) H B U sz (nI f) sq c0 c1 c2 d ∧ Same S S' b 9 := by
    intro k
    induction k with
    | zero =>
      intro i S hi h
      rw [show i = f by omega] at h ⊢
      refine ⟨S, z_lp_x ?_, h, Same.rf⟩
      show f_X2_comeLast_L11 b (nI f) (nI f) S = _
      unfold f_X2_comeLast_L11
      rw [if_pos (by rw [n_le (by omega) (by omega)]; omega)]
    | succ k ih =>
      intro i S hi h
      obtain ⟨S1, k1, h1, s1⟩ := h.wk (i := i) (by omega) (shM K i (i + 1))
      have e : updN (shM K i) i (shM K i (i + 1)) = shM K (i + 1) := by
        funext j
        unfold updN shM
        by_cases q : j = i
        · rw [if_pos q, if_neg (by omega), if_pos (by omega), q]
        · rw [if_neg q]
          by_cases q2 : j < i
          · rw [if_pos q2, if_pos (by omega)]
          · rw [if_neg q2, if_neg (by omega)]
      rw [e] at h1
      obtain ⟨S', r1, r2, r3⟩ := ih (i + 1) S1 (by omega) h1
      refine ⟨S', ?_, r2, s1.tr r3⟩
      rw [← r1]
      apply z_lp_n
      show f_X2_comeLast_L11 b (nI f) (nI i) S = _
      unfold f_X2_comeLast_L11
      rw [if_neg (by rw [n_le (by omega) (by omega)]; omega), h.r3, z_bd_s, z_bd_s, show (1 : Int32) = nI 1 from rfl, n_add, h.dk (by omega), z_bd_s, k1, z_bd_s]
  have e0 : shM K 0 = K := by
    funext j
    unfold shM
    rw [if_neg (by omega)]
  obtain ⟨S1, r1, r2, r3⟩ := key f 0 S (by omega) (by rw [e0]; exact h)
  obtain ⟨S2, k2, h2, s2⟩ := r2.wk (i := f) (by omega) r
  have e : updN (shM K f) f r = (fun j => if j = f then r else if j < f then K (j + 1) else K j) := by
    funext j
    unfold updN shM
    rfl
  rw [e] at h2
  refine ⟨S2, ?_, h2, r3.tr s2⟩
  unfold f_X2_comeLast
  rw [h.gf, z_bd_s, p_min3 hf, z_bd_s, show (0 : Int32) = nI 0 from rfl, r1, z_bd_s, r2.r3, z_bd_s, k2, z_bd_s]
end LV
