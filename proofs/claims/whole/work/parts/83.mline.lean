/-! pieces: the reference's line of a row -/
def Cp (M X : MS) (fi k : Nat) : Prop := (∀ j, j < k → X.1 30 j = M.1 8 (12 * fi + j) ∧ X.1 31 j = M.1 9 (12 * fi + j) ∧ X.1 32 j = M.1 10 (12 * fi + j)) ∧ (∀ r, r ≠ 30 → r ≠ 31 → r ≠ 32 → X.1 r = M.1 r) ∧ X.2 = M.2
def Mv (M X : MS) (bs k off : Nat) : Prop := (∀ j, X.1 8 j = if bs ≤ j ∧ j < bs + k then M.1 30 (off + (j - bs)) else M.1 8 j) ∧ (∀ j, X.1 9 j = if bs ≤ j ∧ j < bs + k then M.1 31 (off + (j - bs)) else M.1 9 j) ∧ (∀ j, X.1 10 j = if bs ≤ j ∧ j < bs + k then M.1 32 (off + (j - bs)) else M.1 10 j) ∧ (∀ r, r ≠ 8 → r ≠ 9 → r ≠ 10 → X.1 r = M.1 r) ∧ X.2 = M.2
theorem Cp.step {M X : MS} {fi k : Nat} (h : Cp M X fi k) : Cp M (sI (sI (sI X 30 k (M.1 8 (12 * fi + k))) 31 k (M.1 9 (12 * fi + k))) 32 k (M.1 10 (12 * fi + k))) fi (k + 1) := by
  obtain ⟨h1, h2, h3⟩ := h
  refine ⟨fun j hj => ?_, fun r r1 r2 r3 => by rw [sI_n _ r3, sI_n _ r2, sI_n _ r1]; exact h2 r r1 r2 r3, h3⟩
  rw [sI_n _ (show (30 : Nat) ≠ 32 by omega), sI_n _ (show (30 : Nat) ≠ 31 by omega), sI_s, sI_n _ (show (31 : Nat) ≠ 32 by omega), sI_s, sI_n _ (show (31 : Nat) ≠ 30 by omega), sI_s, sI_n _ (show (32 : Nat) ≠ 31 by omega), sI_n _ (show (32 : Nat) ≠ 30 by omega)]
  by_cases z : j = k
  · rw [z, upd_s, upd_s, upd_s]; exact ⟨rfl, rfl, rfl⟩
  · rw [upd_n _ z, upd_n _ z, upd_n _ z]; exact h1 j (by omega)
theorem mv_row {F G X : Nat → Int32} {bs k off : Nat} (h : ∀ j, X j = if bs ≤ j ∧ j < bs + k then G (off + (j - bs)) else F j) (j : Nat) : upd X (bs + k) (G (off + k)) j = if bs ≤ j ∧ j < bs + (k + 1) then G (off + (j - bs)) else F j := by
  by_cases z : j = bs + k
  · rw [z, upd_s, if_pos (by omega), show bs + k - bs = k by omega]
  · rw [upd_n _ z, h j]
    by_cases w : bs ≤ j ∧ j < bs + k
    · rw [if_pos w, if_pos (by omega)]
    · rw [if_neg w, if_neg (by omega)]
theorem Mv.step {M X : MS} {bs k off : Nat} (h : Mv M X bs k off) : Mv M (sI (sI (sI X 8 (bs + k) (M.1 30 (off + k))) 9 (bs + k) (M.1 31 (off + k))) 10 (bs + k) (M.1 32 (off + k))) bs (k + 1) off := by
  obtain ⟨h1, h2, h3, h4, h5⟩ := h
  refine ⟨fun j => ?_, fun j => ?_, fun j => ?_, fun r r1 r2 r3 => by rw [sI_n _ r3, sI_n _ r2, sI_n _ r1]; exact h4 r r1 r2 r3, h5⟩
  · rw [sI_n _ (show (8 : Nat) ≠ 10 by omega), sI_n _ (show (8 : Nat) ≠ 9 by omega), sI_s]
    exact mv_row h1 j
  · rw [sI_n _ (show (9 : Nat) ≠ 10 by omega), sI_s, sI_n _ (show (9 : Nat) ≠ 8 by omega)]
    exact mv_row h2 j
  · rw [sI_s, sI_n _ (show (10 : Nat) ≠ 9 by omega), sI_n _ (show (10 : Nat) ≠ 8 by omega)]
    exact mv_row h3 j
section LO
variable {M : MS} {fi n : Nat} {kd dg : Int32} {P V Z : Nat → Int32}
theorem m_lo11 (h7 : M.1 7 fi = nI n) (hf : fi < 10) (hn : n ≤ 12) : ∃ X, z_lp (fun x => f_X8_lineOf_L11 M (nI fi) x.1 x.2) ((0 : Int32), M) = some X ∧ Cp M X fi n := by
  have go : ∀ (j k : Nat) (X : MS), k + j = n → Cp M X fi k → ∃ X', z_lp (fun x => f_X8_lineOf_L11 M (nI fi) x.1 x.2) (nI k, X) = some X' ∧ Cp M X' fi n := by
    intro j
    induction j with
    | zero =>
      intro k X hk hX
      have e : k = n := by omega
      subst e
      refine ⟨X, z_lp_x ?_, hX⟩
      show f_X8_lineOf_L11 M (nI fi) (nI k) X = _
      unfold f_X8_lineOf_L11
      rw [n_cl (by omega), h7, if_pos (by rw [n_le (by omega) (by omega)]; omega)]
    | succ j ih =>
      intro k X hk hX
      have e0 : ((12 : Int32) * nI fi) + nI k = nI (12 * fi + k) := by rw [show (12 : Int32) = nI 12 from rfl, n_mul, n_add]
      have q1 : z_in (nI (12 * fi + k)) 120 := by rw [n_in (by omega)]; omega
      have q2 : z_in (nI k) 12 := by rw [n_in (by omega)]; omega
      obtain ⟨X', r1, r2⟩ := ih (k + 1) _ (by omega) hX.step
      refine ⟨X', ?_, r2⟩
      rw [← r1]
      apply z_lp_n
      show f_X8_lineOf_L11 M (nI fi) (nI k) X = _
      unfold f_X8_lineOf_L11
      simp only [e0, z_chk_t q1, z_chk_t q2]
      rw [n_cl (by omega), n_cl (by omega), n_cl (by omega), h7, if_neg (by rw [n_le (by omega) (by omega)]; omega), z_lt_e, z_lt_e, z_lt_e, sI_n _ (show (9 : Nat) ≠ 30 by omega), sI_n _ (show (10 : Nat) ≠ 31 by omega), sI_n _ (show (10 : Nat) ≠ 30 by omega), hX.2.1 8 (by omega) (by omega) (by omega), hX.2.1 9 (by omega) (by omega) (by omega), hX.2.1 10 (by omega) (by omega) (by omega), show nI k + 1 = nI (k + 1) from n_add k 1]
  exact go n 0 M (by omega) ⟨fun j hj => by omega, fun _ _ _ _ => rfl, rfl⟩
theorem m_lo84 {fr m : Nat} (hf : fi < 10) (hm : fr + m ≤ 12) : ∃ X, z_lp (fun x => f_X8_lineOf_L84 (nI fi) (nI fr) (nI m) x.1 x.2) ((0 : Int32), M) = some X ∧ Mv M X (12 * fi) m fr := by
  have go : ∀ (j k : Nat) (X : MS), k + j = m → Mv M X (12 * fi) k fr → ∃ X', z_lp (fun x => f_X8_lineOf_L84 (nI fi) (nI fr) (nI m) x.1 x.2) (nI k, X) = some X' ∧ Mv M X' (12 * fi) m fr := by
    intro j
    induction j with
    | zero =>
      intro k X hk hX
      have e : k = m := by omega
      subst e
      refine ⟨X, z_lp_x ?_, hX⟩
      show f_X8_lineOf_L84 (nI fi) (nI fr) (nI k) (nI k) X = _
      unfold f_X8_lineOf_L84
      rw [if_pos (Int32.le_refl _)]
    | succ j ih =>
      intro k X hk hX
      have e0 : ((12 : Int32) * nI fi) + nI k = nI (12 * fi + k) := by rw [show (12 : Int32) = nI 12 from rfl, n_mul, n_add]
      have e1 : nI fr + nI k = nI (fr + k) := n_add fr k
      have q1 : z_in (nI (12 * fi + k)) 120 := by rw [n_in (by omega)]; omega
      have q2 : z_in (nI (fr + k)) 12 := by rw [n_in (by omega)]; omega
      obtain ⟨X', r1, r2⟩ := ih (k + 1) _ (by omega) hX.step
      refine ⟨X', ?_, r2⟩
      rw [← r1]
      apply z_lp_n
      show f_X8_lineOf_L84 (nI fi) (nI fr) (nI m) (nI k) X = _
      unfold f_X8_lineOf_L84
      simp only [e0, e1, z_chk_t q1, z_chk_t q2]
      rw [if_neg (by rw [n_le (by omega) (by omega)]; omega), n_cl (by omega), n_cl (by omega), z_lt_e, z_lt_e, z_lt_e, sI_n _ (show (31 : Nat) ≠ 8 by omega), sI_n _ (show (32 : Nat) ≠ 9 by omega), sI_n _ (show (32 : Nat) ≠ 8 by omega), hX.2.2.2.1 30 (by omega) (by omega) (by omega), hX.2.2.2.1 31 (by omega) (by omega) (by omega), hX.2.2.2.1 32 (by omega) (by omega) (by omega), show nI k + 1 = nI (k + 1) from n_add k 1]
  exact go m 0 M (by omega) ⟨fun j => by rw [if_neg (by omega)], fun j => by rw [if_neg (by omega)], fun j => by rw [if_neg (by omega)], fun _ _ _ _ => rfl, rfl⟩
theorem m_lo282 {M0 : MS} (h7 : M0.1 7 fi = nI n) (hf : fi < 10) (hn : n ≤ 12) : ∃ X, z_lp (fun x => f_X8_lineOf_L282 M0 (nI fi) x.1 x.2) ((0 : Int32), M) = some X ∧ Mv M X (12 * fi) n 0 := by
  have go : ∀ (j k : Nat) (X : MS), k + j = n → Mv M X (12 * fi) k 0 → ∃ X', z_lp (fun x => f_X8_lineOf_L282 M0 (nI fi) x.1 x.2) (nI k, X) = some X' ∧ Mv M X' (12 * fi) n 0 := by
    intro j
    induction j with
    | zero =>
      intro k X hk hX
      have e : k = n := by omega
      subst e
      refine ⟨X, z_lp_x ?_, hX⟩
      show f_X8_lineOf_L282 M0 (nI fi) (nI k) X = _
      unfold f_X8_lineOf_L282
      rw [n_cl (by omega), h7, if_pos (Int32.le_refl _)]
    | succ j ih =>
      intro k X hk hX
      have e0 : ((12 : Int32) * nI fi) + nI k = nI (12 * fi + k) := by rw [show (12 : Int32) = nI 12 from rfl, n_mul, n_add]
      have q1 : z_in (nI (12 * fi + k)) 120 := by rw [n_in (by omega)]; omega
      have q2 : z_in (nI k) 12 := by rw [n_in (by omega)]; omega
      have st := hX.step
      rw [Nat.zero_add] at st
      obtain ⟨X', r1, r2⟩ := ih (k + 1) _ (by omega) st
      refine ⟨X', ?_, r2⟩
      rw [← r1]
      apply z_lp_n
      show f_X8_lineOf_L282 M0 (nI fi) (nI k) X = _
      unfold f_X8_lineOf_L282
      simp only [e0, z_chk_t q1, z_chk_t q2]
      rw [n_cl (by omega), n_cl (by omega), n_cl (by omega), h7, if_neg (by rw [n_le (by omega) (by omega)]; omega), z_lt_e, z_lt_e, z_lt_e, sI_n _ (show (31 : Nat) ≠ 8 by omega), sI_n _ (show (32 : Nat) ≠ 9 by omega), sI_n _ (show (32 : Nat) ≠ 8 by omega), hX.2.2.2.1 30 (by omega) (by omega) (by omega), hX.2.2.2.1 31 (by omega) (by omega) (by omega), hX.2.2.2.1 32 (by omega) (by omega) (by omega), show nI k + 1 = nI (k + 1) from n_add k 1]
  exact go n 0 M (by omega) ⟨fun j => by rw [if_neg (by omega)], fun j => by rw [if_neg (by omega)], fun j => by rw [if_neg (by omega)], fun _ _ _ _ => rfl, rfl⟩
theorem m_lo199 {M1 : MS} {m : Nat} (h : MFit M1 fi m kd dg P V Z) (hf : fi < 10) (hm : m ≤ 3) : ∃ M6, z_lp (fun x => f_X8_lineOf_L199 (nI fi) (nI m) x.1 x.2) ((0 : Int32), M1) = some M6 ∧ PsIn M1 M6 m V := by
  have key : ∀ (k i : Nat) (X : MS), i + k = m → PsIn M1 X i V → ∃ M6, z_lp (fun x => f_X8_lineOf_L199 (nI fi) (nI m) x.1 x.2) (nI i, X) = some M6 ∧ PsIn M1 M6 m V := by
    intro k
    induction k with
    | zero =>
      intro i X hi hX
      rw [show i = m by omega] at hX ⊢
      refine ⟨X, z_lp_x ?_, hX⟩
      show f_X8_lineOf_L199 (nI fi) (nI m) (nI m) X = _
      unfold f_X8_lineOf_L199
      rw [if_pos (Int32.le_refl _)]
    | succ k ih =>
      intro i X hi hX
      have e0 : ((12 : Int32) * nI fi) + nI i = nI (12 * fi + i) := by rw [show (12 : Int32) = nI 12 from rfl, n_mul, n_add]
      have i0 : z_in (nI (12 * fi + i)) 120 := by rw [n_in (by omega)]; omega
      have i3 : z_in (nI i) 3 := by rw [n_in (by omega)]; omega
      have i12 : z_in (nI i) 12 := by rw [n_in (by omega)]; omega
      obtain ⟨M6, r1, r2⟩ := ih (i + 1) _ (by omega) hX.step
      refine ⟨M6, ?_, r2⟩
      rw [← r1]
      apply z_lp_n
      show f_X8_lineOf_L199 (nI fi) (nI m) (nI i) X = _
      unfold f_X8_lineOf_L199
      simp only [e0, z_chk_t i0, z_chk_t i3, z_chk_t i12]
      rw [if_neg (by rw [n_le (by omega) (by omega)]; omega), n_cl (by omega), n_cl (by omega), z_lt_e, z_lt_e, z_lt_e, sI_n _ (show (9 : Nat) ≠ 23 by omega), hX.1 9 (by omega), (h.2.2.2 i (by omega)).2.1, z_i64, show nI i + 1 = nI (i + 1) from n_add i 1]
  exact key m 0 M1 (by omega) ⟨fun _ _ => rfl, fun _ _ _ => rfl, fun j hj => by omega, fun j hj => by omega⟩
/-- what lineOf leaves -/
def LoR (M M' : MS) (q0 q1 q2 x : Rat) : Prop := (∀ k, k ≠ 23 → k ≠ 30 → k ≠ 31 → k ≠ 32 → M'.1 k = M.1 k) ∧ M'.2 13 = M.2 13 ∧ M'.2 14 = M.2 14 ∧ CQ M' 1 q0 q1 q2 ∧ ∃ r : Rat, M'.2 26 0 = jI r.num ∧ M'.2 27 0 = jI (r.den : Int) ∧ r.abs = x ∧ r.num.natAbs ≤ 67108864 ∧ r.den ≤ 1048576
theorem m_lineOf {c1 f fr m : Nat} {q0 q1 q2 x : Rat} (h : MFit M fi n 4 dg P V Z) (hO : PtsOk n P V Z) (h4 : M.1 4 0 = nI c1) (hc : fi < c1) (hc10 : c1 ≤ 10) (hf : frN 1 dg f) (hf3 : f = 1 ∨ f = 2 ∨ f = 3) (hm : fr + m ≤ n) (hX : RowX f fr m P V Z q0 q1 q2 x) : ∃ M', f_X8_lineOf M (nI fi) (nI fr) (nI m) = some M' ∧ LoR M M' q0 q1 q2 x := by
  have hn := hO.1
  have hf10 : fi < 10 := by omega
  have q10 : z_in (nI fi) 10 := by rw [n_in (by omega)]; exact hf10
  have hR := row_rw hO hm hf3
  obtain ⟨h5, h6, h7, hi⟩ := id h
  obtain ⟨M3, a1, a2, a3, a4⟩ := m_lo11 h7 hf10 hn
  obtain ⟨M9, b1, b2, b3, b4, b5, b6⟩ := m_lo84 (M := M3) (fi := fi) (fr := fr) (m := m) hf10 (by omega)
  obtain ⟨M13, hM13⟩ : ∃ z, z = sI M9 7 fi (nI m) := ⟨_, rfl⟩
  obtain ⟨M14, hM14⟩ : ∃ z, z = sI M13 5 fi (1 : Int32) := ⟨_, rfl⟩
  have r14 : ∀ k, k ≠ 5 → k ≠ 7 → M14.1 k = M9.1 k := fun k k1 k2 => by rw [hM14, sI_n _ k1, hM13, sI_n _ k2]
  have r9 : ∀ k, k ≠ 8 → k ≠ 9 → k ≠ 10 → k ≠ 30 → k ≠ 31 → k ≠ 32 → M9.1 k = M.1 k := fun k k1 k2 k3 k4 k5 k6 => (b5 k k1 k2 k3).trans (a3 k k4 k5 k6)
  have r14_5 : M14.1 5 = upd (M.1 5) fi 1 := by rw [hM14, sI_s, hM13, sI_n _ (by omega), r9 5 (by omega) (by omega) (by omega) (by omega) (by omega) (by omega)]
  have r14_7 : M14.1 7 = upd (M.1 7) fi (nI m) := by rw [hM14, sI_n _ (by omega), hM13, sI_s, r9 7 (by omega) (by omega) (by omega) (by omega) (by omega) (by omega)]
  have s14 : M14.2 = M.2 := by rw [hM14, hM13]; exact b6.trans a4
  have f14 : MFit M14 fi m 1 dg (sh P fr) (sh V fr) (sh Z fr) := by
    refine ⟨by rw [r14_5, upd_s], by rw [r14 6 (by omega) (by omega), r9 6 (by omega) (by omega) (by omega) (by omega) (by omega) (by omega)]; exact h6, by rw [r14_7, upd_s], fun i im => ?_⟩
    obtain ⟨y1, y2, y3⟩ := a2 (fr + i) (by omega)
    obtain ⟨z1, z2, z3⟩ := hi (fr + i) (by omega)
    rw [r14 8 (by omega) (by omega), r14 9 (by omega) (by omega), r14 10 (by omega) (by omega), b2, b3, b4, if_pos (by omega), if_pos (by omega), if_pos (by omega), show 12 * fi + i - 12 * fi = i by omega, y1, y2, y3]
    exact ⟨z1, z2, z3⟩
  have e4 : M14.1 4 0 = nI c1 := by rw [r14 4 (by omega) (by omega), r9 4 (by omega) (by omega) (by omega) (by omega) (by omega) (by omega)]; exact h4
  obtain ⟨best, M15, c2, c3', c4⟩ := m_core f14 (hO.sh hm) e4 hc hc10 (Or.inl rfl) hf hR (lvx_lvq hX)
  -- what stands in c and high
  have mid : ∃ M17, (if best = (-1 : Int32) then z_bd (z_lp (fun x => f_X8_lineOf_L199 (nI fi) (nI m) x.1 x.2) ((0 : Int32), M15)) fun M_20 => z_bd (f_X8_through M_20 (nI fi) (nI m)) fun M_24 => z_lt (sJ M_24 26 0 (0 : Int64)) fun M_25 => z_lt (sJ M_25 27 0 (1 : Int64)) fun M_26 => some (M_26) else z_bd (f_X8_study M15 (nI fi) best) fun M_27 => some (M_27)) = some M17 ∧ Scr M14 M17 ∧ CQ M17 1 q0 q1 q2 ∧ ∃ r : Rat, M17.2 26 0 = jI r.num ∧ M17.2 27 0 = jI (r.den : Int) ∧ r.abs = x ∧ r.num.natAbs ≤ 67108864 ∧ r.den ≤ 1048576 := by
    rcases c4 with ⟨l1, l2, l3⟩ | ⟨l1, l2, M2, K, l3, l4, l5, l6, l7, l8, l9, l10, l11, l12⟩
    · have hx0 : x = 0 := by
        rcases hX with ⟨-, -, z⟩ | ⟨z, -⟩
        · exact z
        · omega
      obtain ⟨M20, d1, d2⟩ := m_lo199 (f14.scr c3') hf10 (by omega)
      obtain ⟨M24, t1, t2, t3⟩ := m_passC (f14.scr c3') (hO.sh hm) hf10 hR l1 d2 l3
      obtain ⟨-, -, t6⟩ := t3
      refine ⟨sJ (sJ M24 26 0 0) 27 0 1, ?_, c3'.tr (t2.tr ⟨fun k _ => rfl, ?_, ?_⟩), ?_, 0, ?_, ?_, ?_, by decide, by decide⟩
      · rw [if_pos l2, d1, z_bd_s, t1, z_bd_s, z_lt_e, z_lt_e]
      · rw [sJ_n _ (by omega), sJ_n _ (by omega)]
      · rw [sJ_n _ (by omega), sJ_n _ (by omega)]
      · unfold CQ xq1 xq2
        rw [if_neg (by decide), if_neg (by decide), sJ_n _ (show (28 : Nat) ≠ 27 by omega), sJ_n _ (show (28 : Nat) ≠ 26 by omega), sJ_n _ (show (29 : Nat) ≠ 27 by omega), sJ_n _ (show (29 : Nat) ≠ 26 by omega)]
        exact ⟨t6 0 (by omega), t6 1 (by omega), t6 2 (by omega)⟩
      · rw [sJ_n _ (by omega), sJ_s, updL_s]; rfl
      · rw [sJ_s, updL_s]; rfl
      · rw [hx0]; rfl
    · refine ⟨M2, by rw [if_neg l2, l3, z_bd_s], l4, l5, _, l6, l7, ?_, l11, l12⟩
      rcases hX with ⟨z, -⟩ | ⟨-, K', k2, k3, k4, k5⟩
      · omega
      · rw [k5]
        exact Rat.le_antisymm (stay_max hR l8 k3.1 k4) (stay_max hR k2 l9.1 l10)
  obtain ⟨M17, d1, d2, d3, d4⟩ := mid
  obtain ⟨M28, hM28⟩ : ∃ z, z = sI M17 5 fi (4 : Int32) := ⟨_, rfl⟩
  obtain ⟨M29, hM29⟩ : ∃ z, z = sI M28 7 fi (nI n) := ⟨_, rfl⟩
  obtain ⟨M32, g1, g2, g3, g4, g5, g6⟩ := m_lo282 (M := M29) (M0 := M) h7 hf10 hn
  have r29 : ∀ k, k ≠ 5 → k ≠ 7 → k ≠ 23 → M29.1 k = M9.1 k := fun k k1 k2 k3 => by rw [hM29, sI_n _ k2, hM28, sI_n _ k1, d2.1 k k3]; exact r14 k k1 k2
  have s32 : M32.2 = M17.2 := by rw [g6, hM29, hM28]; rfl
  have up2 : ∀ (F : Nat → Int32) (u v : Int32), F fi = v → upd (upd F fi u) fi v = F := fun F u v e => by
    funext j
    by_cases z : j = fi
    · rw [z, upd_s, e]
    · rw [upd_n _ z, upd_n _ z]
  have back : ∀ (k u : Nat) (kk : k = 8 ∧ u = 30 ∨ k = 9 ∧ u = 31 ∨ k = 10 ∧ u = 32), (∀ j, M32.1 k j = if 12 * fi ≤ j ∧ j < 12 * fi + n then M29.1 u (0 + (j - 12 * fi)) else M29.1 k j) → (∀ j, M9.1 k j = if 12 * fi ≤ j ∧ j < 12 * fi + m then M3.1 u (fr + (j - 12 * fi)) else M3.1 k j) → (∀ i, i < n → M3.1 u i = M.1 k (12 * fi + i)) → M32.1 k = M.1 k := by
    intro k u kk e1 e2 e3
    funext j
    rw [e1 j]
    by_cases z : 12 * fi ≤ j ∧ j < 12 * fi + n
    · rw [if_pos z, r29 u (by omega) (by omega) (by omega), b5 u (by omega) (by omega) (by omega), e3 _ (by omega), show 12 * fi + (0 + (j - 12 * fi)) = j by omega]
    · rw [if_neg z, r29 k (by omega) (by omega) (by omega), e2 j, if_neg (by omega), a3 k (by omega) (by omega) (by omega)]
  refine ⟨M32, ?_, fun k k1 k2 k3 k4 => ?_, ?_, ?_, ?_, ?_⟩
  · unfold f_X8_lineOf
    simp only [z_chk_t q10]
    rw [a1, z_bd_s, b1, z_bd_s, z_lt_e, n_cl (by omega), ← hM13, z_lt_e, ← hM14, c2, z_bd2_s, d1, z_bd_s, z_lt_e, ← hM28, z_lt_e, h7, ← hM29, g1, z_bd_s]
  · by_cases y8 : k = 8
    · rw [y8]; exact back 8 30 (by omega) g2 b2 (fun i hi => (a2 i hi).1)
    · by_cases y9 : k = 9
      · rw [y9]; exact back 9 31 (by omega) g3 b3 (fun i hi => (a2 i hi).2.1)
      · by_cases y10 : k = 10
        · rw [y10]; exact back 10 32 (by omega) g4 b4 (fun i hi => (a2 i hi).2.2)
        · rw [g5 k y8 y9 y10]
          by_cases y5 : k = 5
          · rw [y5, hM29, sI_n _ (by omega), hM28, sI_s, d2.1 5 (by omega), r14_5]
            exact up2 _ _ _ h5
          · by_cases y7 : k = 7
            · rw [y7, hM29, sI_s, hM28, sI_n _ (by omega), d2.1 7 (by omega), r14_7]
              exact up2 _ _ _ h7
            · rw [r29 k y5 y7 k1]
              exact r9 k y8 y9 y10 k2 k3 k4
  · rw [s32, d2.2.1, s14]
  · rw [s32, d2.2.2, s14]
  · unfold CQ
    rw [s32]
    exact d3
  · obtain ⟨r, r1, r2, r3⟩ := d4
    exact ⟨r, by rw [s32]; exact r1, by rw [s32]; exact r2, r3⟩
end LO
