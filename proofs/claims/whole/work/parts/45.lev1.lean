/-! the class's Leveller: the polynomial through heights -/
def bsF (t : Nat → Int) (i : Nat) : Int → Int → Int → Nat → Nat → Int × Int × Int
  | b0, b1, b2, _, 0 => (b0, b1, b2)
  | b0, b1, b2, j, k + 1 => if j = i then bsF t i b0 b1 b2 (j + 1) k else bsF t i (-(t j) * b0) (b0 - t j * b1) (b1 - t j * b2) (j + 1) k
def inF (t H : Nat → Int) (m : Nat) : Int → Int → Int → Nat → Nat → Int × Int × Int
  | u0, u1, u2, _, 0 => (u0, u1, u2)
  | u0, u1, u2, i, k + 1 => inF t H m (u0 + sg1 (m - 1 - i) * spr t i m * H i * (bsF t i 1 0 0 0 m).1) (u1 + sg1 (m - 1 - i) * spr t i m * H i * (bsF t i 1 0 0 0 m).2.1) (u2 + sg1 (m - 1 - i) * spr t i m * H i * (bsF t i 1 0 0 0 m).2.2) (i + 1) k
theorem inF_ev {k : Nat} (hk : k ≤ 3) (t H : Nat → Int) : (∀ i, i < k → (inF t H k 0 0 0 0 k).1 + (inF t H k 0 0 0 0 k).2.1 * t i + (inF t H k 0 0 0 0 k).2.2 * (t i * t i) = H i * spr t 9 k) ∧ (k < 3 → (inF t H k 0 0 0 0 k).2.2 = 0) ∧ (k < 2 → (inF t H k 0 0 0 0 k).2.1 = 0) ∧ (k = 0 → (inF t H k 0 0 0 0 k).1 = 0) := by
  rcases (show k = 0 ∨ k = 1 ∨ k = 2 ∨ k = 3 by omega) with rfl | rfl | rfl | rfl
  · exact ⟨fun i hi => by omega, fun _ => rfl, fun _ => rfl, fun _ => rfl⟩
  · have e : inF t H 1 0 0 0 0 1 = (H 0, 0, 0) := by simp [inF, bsF, sp1 t, sgs]
    rw [e, (sp1 t).2.1]
    refine ⟨fun i hi => ?_, fun _ => rfl, fun _ => rfl, fun q => by omega⟩
    rw [show i = 0 by omega]
    dsimp only
    grind
  · have e : inF t H 2 0 0 0 0 2 = (H 0 * t 1 - H 1 * t 0, H 1 - H 0, 0) := by
      simp [inF, bsF, sp2 t, sgs]
      grind
    rw [e, (sp2 t).2.2]
    refine ⟨fun i hi => ?_, fun _ => rfl, fun q => by omega, fun q => by omega⟩
    dsimp only
    rcases (show i = 0 ∨ i = 1 by omega) with rfl | rfl
    · grind
    · grind
  · have e : inF t H 3 0 0 0 0 3 = (d01 (t 0) (t 1) (t 2) (H 0) (H 1) (H 2), d02 (t 0) (t 1) (t 2) (H 0) (H 1) (H 2), d12 (t 0) (t 1) (t 2) (H 0) (H 1) (H 2)) := by
      simp [inF, bsF, sp3 t, sgs]
      unfold d01 d02 d12
      refine ⟨?_, ?_, ?_⟩
      · grind
      · grind
      · grind
    rw [e, show spr t 9 3 = vd (t 0) (t 1) (t 2) from (sp3 t).2.2.2]
    refine ⟨fun i hi => ?_, fun q => by omega, fun q => by omega, fun q => by omega⟩
    rcases (show i = 0 ∨ i = 1 ∨ i = 2 by omega) with rfl | rfl | rfl
    · exact dd_a _ _ _ _ _ _
    · exact dd_b _ _ _ _ _ _
    · exact dd_c _ _ _ _ _ _
theorem n_m2 {i : Nat} (hi : i < 13) : nI i - nI i / 2 * 2 = nI (i % 2) := by
  have : ∀ j : Fin 13, nI j.val - nI j.val / 2 * 2 = nI (j.val % 2) := by decide
  exact this ⟨i, hi⟩
theorem p_sign {i : Nat} (hi : i < 13) : ∃ x : Int32, f_X2_sign (nI i) = some x ∧ x.toInt64 = jI (sg1 i) := by
  unfold f_X2_sign sg1
  rw [n_m2 hi]
  rcases (show i % 2 = 0 ∨ i % 2 = 1 by omega) with q | q
  · rw [q, if_pos (by decide), if_pos (by decide)]
    exact ⟨1, rfl, by decide⟩
  · rw [q, if_neg (by decide), if_neg (by decide)]
    exact ⟨-1, rfl, by decide⟩
def sW (w : Nat → Int) : Nat → Int := fun j => 12 / w j
section LV
variable {S : GS} {b : Nat} {t v w : Nat → Int} {K : Nat → Nat} {H B U : Nat → Int} {sz fr sq : Int32} {c0 c1 c2 d : Int}
theorem p_share (h : LvAt S b t v w K H B U sz fr sq c0 c1 c2 d) {j : Nat} (hj : j < 12) (hw : 1 ≤ w j ∧ w j ≤ 4) : f_X2_weightShare S b (nI j) = some (jI (sW w j)) := by
  unfold f_X2_weightShare sW
  rw [h.r2, z_bd_s, h.dw hj, z_bd_s, show (0 : Int64) = jI 0 from rfl, if_neg (by rw [j_cmple (by omega) (by omega) (by omega) (by omega)]; omega), z_bd_s, h.dw hj, z_bd_s, z_chk_t (by rw [j_eq (by omega) (by omega) (by omega) (by omega)]; omega), show (12 : Int64) = jI 12 from rfl, j_div (by omega) (by omega) (by omega) (by omega)]
  rcases (show w j = 1 ∨ w j = 2 ∨ w j = 3 ∨ w j = 4 by omega) with q | q | q | q <;> rw [q] <;> decide
theorem p_mkB_lp {i m : Nat} (hm : m ≤ 4) (hi : i < m) (hK : ∀ j, j < m → K j < 12) : ∀ (k j : Nat) (S : GS) (B : Nat → Int), j + k = m → LvAt S b t v w K H B U sz fr sq c0 c1 c2 d → ∃ (S' : GS) (B' : Nat → Int), z_lp (fun x => f_X2_makeBasis_L23 (nI i) (nI m) b x.1 x.2) (nI j, S) = some S' ∧ LvAt S' b t v w K H B' U sz fr sq c0 c1 c2 d ∧ Same S S' b 9 ∧ (B' 0, B' 1, B' 2) = bsF (fun a => t (K a)) i (B 0) (B 1) (B 2) j k := by
  intro k
  induction k with
  | zero =>
    intro j S B hj h
    refine ⟨S, B, z_lp_x ?_, h, Same.rf, rfl⟩
    show f_X2_makeBasis_L23 (nI i) (nI m) b (nI j) S = _
    unfold f_X2_makeBasis_L23
    rw [if_pos (by rw [n_le (by omega) (by omega)]; omega)]
  | succ k ih =>
    intro j S B hj h
    have e1 : nI j + 1 = nI (j + 1) := n_add j 1
    have hd : f_X2_makeBasis_L23 (nI i) (nI m) b (nI j) S = (if j = i then some (.inr (nI (j + 1), S)) else z_bd (g_wJ S (b + 6) (nI 2) (jI (B 1) - jI (t (K j)) * jI (B 2))) fun S_19 => z_bd (g_r S_19 2 5 b) fun f_20 => z_bd (g_r S_19 2 5 b) fun f_21 => z_bd (g_rJ S_19 f_21 (nI 0)) fun v_22 => z_bd (g_r S_19 2 5 b) fun f_23 => z_bd (g_rJ S_19 f_23 (nI 1)) fun v_24 => z_bd (g_wJ S_19 f_20 (nI 1) (v_22 - (jI (t (K j)) * v_24))) fun S_25 => z_bd (g_r S_25 2 5 b) fun f_26 => z_bd (g_r S_25 2 5 b) fun f_27 => z_bd (g_rJ S_25 f_27 (nI 0)) fun v_28 => z_bd (g_wJ S_25 f_26 (nI 0) ((-jI (t (K j))) * v_28)) fun S_29 => some (.inr (nI (j + 1), S_29))) := by
      unfold f_X2_makeBasis_L23
      rw [if_neg (by rw [n_le (by omega) (by omega)]; omega), show (4 : Int32) = nI 4 from rfl, if_neg (by rw [n_le (by omega) (by omega)]; omega), e1]
      simp only [n_eq (show j < 2147483648 by omega) (show i < 2147483648 by omega)]
      by_cases q : j = i
      · rw [if_pos q, if_pos q]
      · rw [if_neg q, if_neg q, h.r0, z_bd_s, h.r3, z_bd_s, h.dk (by omega), z_bd_s, h.dt (hK j (by omega)), z_bd_s, h.r5, z_bd_s, z_bd_s, show (1 : Int32) = nI 1 from rfl, h.db (i := 1) (by omega), z_bd_s, z_bd_s, show (2 : Int32) = nI 2 from rfl, h.db (i := 2) (by omega), z_bd_s]
        rfl
    by_cases q : j = i
    · obtain ⟨S', B', r1, r2, r3, r4⟩ := ih (j + 1) S B (by omega) h
      refine ⟨S', B', ?_, r2, r3, ?_⟩
      · rw [← r1]
        apply z_lp_n
        show f_X2_makeBasis_L23 (nI i) (nI m) b (nI j) S = _
        rw [hd, if_pos q]
      · rw [r4, bsF, if_pos q]
    · obtain ⟨S1, k1, h1, s1⟩ := h.wb (i := 2) (by omega) (B 1 - t (K j) * B 2)
      obtain ⟨S2, k2, h2, s2⟩ := h1.wb (i := 1) (by omega) (B 0 - t (K j) * B 1)
      obtain ⟨S3, k3, h3, s3⟩ := h2.wb (i := 0) (by omega) (-(t (K j)) * B 0)
      obtain ⟨S', B', r1, r2, r3, r4⟩ := ih (j + 1) S3 _ (by omega) h3
      refine ⟨S', B', ?_, r2, ((s1.tr s2).tr s3).tr r3, ?_⟩
      · rw [← r1]
        apply z_lp_n
        show f_X2_makeBasis_L23 (nI i) (nI m) b (nI j) S = _
        rw [hd, if_neg q, j_mul, j_sub, k1, z_bd_s, h1.r5, z_bd_s, z_bd_s, h1.db (i := 0) (by omega), z_bd_s, z_bd_s, h1.db (i := 1) (by omega), z_bd_s, updZ_n _ (by omega), updZ_n _ (by omega), j_mul, j_sub, k2, z_bd_s, h2.r5, z_bd_s, z_bd_s, h2.db (i := 0) (by omega), z_bd_s, updZ_n _ (by omega), updZ_n _ (by omega), j_neg, j_mul, k3, z_bd_s]
      · rw [r4, bsF, if_neg q, updZ_s, updZ_n _ (by omega), updZ_s, updZ_n _ (by omega), updZ_n _ (by omega), updZ_s]
theorem p_mkB (h : LvAt S b t v w K H B U sz fr sq c0 c1 c2 d) {i m : Nat} (hm : m ≤ 4) (hi : i < m) (hK : ∀ j, j < m → K j < 12) : ∃ (S' : GS) (B' : Nat → Int), f_X2_makeBasis S b (nI i) (nI m) = some S' ∧ LvAt S' b t v w K H B' U sz fr sq c0 c1 c2 d ∧ Same S S' b 9 ∧ (B' 0, B' 1, B' 2) = bsF (fun a => t (K a)) i 1 0 0 0 m := by
  obtain ⟨S1, k1, h1, s1⟩ := h.wb (i := 0) (by omega) 1
  obtain ⟨S2, k2, h2, s2⟩ := h1.wb (i := 1) (by omega) 0
  obtain ⟨S3, k3, h3, s3⟩ := h2.wb (i := 2) (by omega) 0
  obtain ⟨S', B', r1, r2, r3, r4⟩ := p_mkB_lp hm hi hK m 0 S3 _ (by omega) h3
  refine ⟨S', B', ?_, r2, ((s1.tr s2).tr s3).tr r3, ?_⟩
  · unfold f_X2_makeBasis
    rw [h.r5, z_bd_s, show (0 : Int32) = nI 0 from rfl, show (1 : Int64) = jI 1 from rfl, k1, z_bd_s, h1.r5, z_bd_s, show (1 : Int32) = nI 1 from rfl, show (0 : Int64) = jI 0 from rfl, k2, z_bd_s, h2.r5, z_bd_s, show (2 : Int32) = nI 2 from rfl, k3, z_bd_s, r1, z_bd_s]
  · rw [r4]
    rfl
theorem p_int_lp {m : Nat} (hm : m ≤ 3) (hK : ∀ j, j < m → K j < 12) : ∀ (k i : Nat) (S : GS) (B U : Nat → Int), i + k = m → LvAt S b t v w K H B U sz fr sq c0 c1 c2 d → ∃ (S' : GS) (B' U' : Nat → Int), z_lp (fun x => f_X2_interpolate_L24 (nI m) b x.1 x.2) (nI i, S) = some S' ∧ LvAt S' b t v w K H B' U' sz fr sq c0 c1 c2 d ∧ Same S S' b 9 ∧ (U' 0, U' 1, U' 2) = inF (fun a => t (K a)) H m (U 0) (U 1) (U 2) i k := by
  intro k
  induction k with
  | zero =>
    intro i S B U hi h
    refine ⟨S, B, U, z_lp_x ?_, h, Same.rf, rfl⟩
    show f_X2_interpolate_L24 (nI m) b (nI i) S = _
    unfold f_X2_interpolate_L24
    rw [if_pos (by rw [n_le (by omega) (by omega)]; omega)]
  | succ k ih =>
    intro i S B U hi h
    have e1 : nI i + 1 = nI (i + 1) := n_add i 1
    obtain ⟨x, hx, hx2⟩ := p_sign (i := m - 1 - i) (by omega)
    obtain ⟨S0, B', k0, h0, s0, g0⟩ := p_mkB h (i := i) (m := m) (by omega) (by omega) hK
    have g1 : B' 0 = (bsF (fun a => t (K a)) i 1 0 0 0 m).1 := by rw [← g0]
    have g2 : B' 1 = (bsF (fun a => t (K a)) i 1 0 0 0 m).2.1 := by rw [← g0]
    have g3 : B' 2 = (bsF (fun a => t (K a)) i 1 0 0 0 m).2.2 := by rw [← g0]
    obtain ⟨S1, k1, h1, s1⟩ := h0.wu (i := 0) (by omega) (U 0 + sg1 (m - 1 - i) * spr (fun a => t (K a)) i m * H i * B' 0)
    obtain ⟨S2, k2, h2, s2⟩ := h1.wu (i := 1) (by omega) (U 1 + sg1 (m - 1 - i) * spr (fun a => t (K a)) i m * H i * B' 1)
    obtain ⟨S3, k3, h3, s3⟩ := h2.wu (i := 2) (by omega) (U 2 + sg1 (m - 1 - i) * spr (fun a => t (K a)) i m * H i * B' 2)
    obtain ⟨S', B2, U', r1, r2, r3, r4⟩ := ih (i + 1) S3 _ _ (by omega) h3
    refine ⟨S', B2, U', ?_, r2, (((s0.tr s1).tr s2).tr s3).tr r3, ?_⟩
    · rw [← r1]
      apply z_lp_n
      show f_X2_interpolate_L24 (nI m) b (nI i) S = _
      unfold f_X2_interpolate_L24
      rw [if_neg (by rw [n_le (by omega) (by omega)]; omega), show (4 : Int32) = nI 4 from rfl, if_neg (by rw [n_le (by omega) (by omega)]; omega), show (1 : Int32) = nI 1 from rfl, n_sub (show 1 ≤ m by omega), n_sub (show i ≤ m - 1 by omega), hx, z_bd_s, z_chk_t h.is, p_spread h (by omega) hK (sp_i (by omega) (by omega)), z_bd_s, h.r4, z_bd_s, h.dh (by omega), z_bd_s, z_chk_t h.is, k0, z_bd_s, h0.r6, z_bd_s, show (0 : Int32) = nI 0 from rfl, h0.du (i := 0) (by omega), z_bd_s, h0.r5, z_bd_s, h0.db (i := 0) (by omega), z_bd_s, hx2, j_mul, j_mul, j_mul, j_add, k1, z_bd_s, h1.r6, z_bd_s, h1.du (i := 1) (by omega), z_bd_s, h1.r5, z_bd_s, h1.db (i := 1) (by omega), z_bd_s, updZ_n _ (by omega), j_mul, j_add, k2, z_bd_s, h2.r6, z_bd_s, show (2 : Int32) = nI 2 from rfl, h2.du (i := 2) (by omega), z_bd_s, h2.r5, z_bd_s, h2.db (i := 2) (by omega), z_bd_s, updZ_n _ (by omega), updZ_n _ (by omega), j_mul, j_add, k3, z_bd_s, n_add]
    · rw [r4, inF, updZ_n _ (by omega), updZ_n _ (by omega), updZ_s, updZ_n _ (by omega), updZ_s, updZ_s, g1, g2, g3]
end LV
