/-! pointTold; the SHEETS -/
theorem z_10 : ¬ (1 : Int32) = 0 := by decide
theorem z_in2 (a : Int32) : (f_X8_in a 0 2 = some 0 ∧ ¬ a = 0 ∧ ¬ a = 1 ∧ ¬ a = 2) ∨ (f_X8_in a 0 2 = some 1 ∧ (a = 0 ∨ a = 1 ∨ a = 2)) := by
  rcases z_idx 3 (by omega) a with ⟨h1, h2⟩ | ⟨k, h1, rfl, h2⟩
  · left
    rw [show (nI 3 - 1 : Int32) = 2 by decide] at h2
    refine ⟨h2, ?_, ?_, ?_⟩ <;> (rintro rfl; revert h1; decide)
  · right
    rw [show (nI 3 - 1 : Int32) = 2 by decide] at h2
    refine ⟨h2, ?_⟩
    rcases (show k = 0 ∨ k = 1 ∨ k = 2 by omega) with rfl | rfl | rfl
    · exact Or.inl rfl
    · exact Or.inr (Or.inl rfl)
    · exact Or.inr (Or.inr rfl)
theorem c_pointTold {S : GS} {M : MS} {o : Nat} {fc st : Int32} (hT : TopAt S o fc st) (hA : SetsArr S o) (hO : SetsOk S M o) (a0 a1 a2 : Int32) : ∃ r, f_X7_pointTold S o a0 a1 a2 = some r ∧ f_X8_pointTold M a0 a1 a2 = some r := by
  have hi := t_is hT
  unfold f_X7_pointTold f_X8_pointTold
  rw [z_chk_t hi]
  rcases z_in05 a0 with ⟨h1, h2⟩ | ⟨s, hs, rfl, h1⟩
  · refine ⟨_, ?_, by rw [h1, z_bd_s, if_pos rfl]⟩
    rw [t_setAt0 h2, z_bd_s, z_mt_N]
  · rw [t_setAt hT hA hs, z_bd_s, z_mt_S, h1, z_bd_s, if_neg z_10]
    obtain ⟨n, P, V, Z, p1, p2, p3, p4⟩ := hO s hs
    have hn12 := p2.1
    have q6 : z_in (nI s) 6 := by rw [n_in (by omega)]; exact hs
    rw [z_chk_t p1.is]
    simp only [z_chk_t q6]
    rw [n_cl (by omega), p3]
    rcases z_idx n (by omega) a1 with ⟨g1, g2⟩ | ⟨k, hk, rfl, g2⟩
    · refine ⟨_, by rw [p_has0 p1 p2.1 g1, z_bd_s, if_pos rfl], by rw [g2, z_bd_s, if_pos rfl]⟩
    · have q72 : z_in (12 * nI s + nI k) 72 := by rw [show (12 : Int32) = nI 12 from rfl, n_mul, n_add, n_in (by omega)]; omega
      rw [p_hasN p1 p2.1 (by omega), z_bd_s, if_pos hk, if_neg z_10, g2, z_bd_s, if_neg z_10, p1.r0, p1.r1, p1.r2, z_bd_s, z_bd_s, z_bd_s, p1.d0 (by omega), p1.d1 (by omega), p1.d2 (by omega), z_bd_s, z_bd_s, z_bd_s]
      simp only [z_chk_t q72]
      rw [show (12 : Int32) = nI 12 from rfl, n_mul, n_add, n_cl (by omega), (p4 k hk).1, (p4 k hk).2.1, (p4 k hk).2.2]
      rcases z_in2 a2 with ⟨k1, k2, k3, k4⟩ | ⟨k1, k2⟩
      · exact ⟨_, by rw [if_neg k2, if_neg k3, if_neg k4], by rw [k1, z_bd_s, if_pos rfl]⟩
      · rw [k1, z_bd_s, if_neg z_10]
        rcases k2 with rfl | rfl | rfl
        · exact ⟨_, by rw [if_pos rfl], by rw [if_pos rfl]⟩
        · exact ⟨_, by rw [if_neg (by decide), if_pos rfl], by rw [if_neg (by decide), if_pos rfl]⟩
        · exact ⟨_, by rw [if_neg (by decide), if_neg (by decide), if_pos rfl], by rw [if_neg (by decide), if_neg (by decide)]⟩
/-- a SHEET at a: its sort, its numbers -/
def ShAt (S : GS) (a : Nat) (sort : Int32) (n : Nat) (C : Nat → Int32) : Prop := S.1 a = some (e_o 5 [.int sort, .ref (a + 1)]) ∧ S.1 (a + 1) = some (e_i n C)
def ShIs (S : GS) (M : MS) (o s : Nat) (q : Option Nat) : Prop := (q = none ∧ M.1 15 s = -1) ∨ ∃ (a : Nat) (sort : Int32) (n : Nat) (C : Nat → Int32), q = some a ∧ o + 68 ≤ a ∧ a + 2 ≤ S.2 ∧ ShAt S a sort n C ∧ ¬ sort = -1 ∧ n ≤ 40 ∧ M.1 15 s = sort ∧ M.1 16 s = nI n ∧ ∀ i, i < n → M.1 17 (40 * s + i) = C i
def ShApart (q : Nat → Option Nat) : Prop := ∀ s t a b, s < 4 → t < 4 → s ≠ t → q s = some a → q t = some b → a + 2 ≤ b ∨ b + 2 ≤ a
def SheetsOk (S : GS) (M : MS) (o : Nat) (q : Nat → Option Nat) : Prop := S.1 (o + 3) = some (e_q 2 4 q) ∧ (∀ s, s < 4 → ShIs S M o s (q s)) ∧ ShApart q
theorem z_isSheet (a : Int32) : f_X7_isSheet a = f_X8_in a 0 3 := by
  unfold f_X7_isSheet f_X8_in
  by_cases h : a < 0
  · rw [if_pos h, if_pos h]
  · rw [if_neg h, if_neg h]
    by_cases h2 : (4 : Int32) ≤ a
    · rw [if_pos h2, if_pos (by rw [Int32.lt_iff_toInt_lt]; rw [Int32.le_iff_toInt_le] at h2; have e1 : (3 : Int32).toInt = 3 := by decide
                                have e2 : (4 : Int32).toInt = 4 := by decide
                                omega)]
    · rw [if_neg h2, if_neg (by rw [Int32.lt_iff_toInt_lt]; rw [Int32.le_iff_toInt_le] at h2; have e1 : (3 : Int32).toInt = 3 := by decide
                                have e2 : (4 : Int32).toInt = 4 := by decide
                                omega)]
theorem z_in3 (a : Int32) : f_X8_in a 0 3 = some 0 ∨ ∃ s, s < 4 ∧ a = nI s ∧ f_X8_in a 0 3 = some 1 := by
  rcases z_idx 4 (by omega) a with ⟨h1, h2⟩ | ⟨k, h1, rfl, h2⟩
  · rw [show (nI 4 - 1 : Int32) = 3 by decide] at h2
    exact Or.inl h2
  · rw [show (nI 4 - 1 : Int32) = 3 by decide] at h2
    exact Or.inr ⟨k, h1, rfl, h2⟩
theorem z_in01 (x lo hi : Int32) : f_X8_in x lo hi = some 0 ∨ (f_X8_in x lo hi = some 1 ∧ lo ≤ x ∧ x ≤ hi) := by
  unfold f_X8_in
  by_cases q1 : x < lo
  · rw [if_pos q1]; exact Or.inl rfl
  · rw [if_neg q1]
    by_cases q2 : hi < x
    · rw [if_pos q2]; exact Or.inl rfl
    · rw [if_neg q2]
      rw [Int32.lt_iff_toInt_lt] at q1 q2
      exact Or.inr ⟨rfl, by rw [Int32.le_iff_toInt_le]; omega, by rw [Int32.le_iff_toInt_le]; omega⟩
theorem z_within (x lo hi : Int32) : f_X7_isWithin x lo hi = f_X8_in x lo hi := rfl
section SH
variable {S : GS} {a n : Nat} {sort : Int32} {C : Nat → Int32}
theorem ShAt.is (h : ShAt S a sort n C) : g_is S 5 a := g_is_e h.1
theorem ShAt.r (h : ShAt S a sort n C) : g_r S 5 1 a = some (a + 1) := g_r_e h.1 rfl
theorem ShAt.so (h : ShAt S a sort n C) : g_i S 5 0 a = some sort := g_i_e h.1 rfl
theorem ShAt.d (h : ShAt S a sort n C) {i : Nat} (hi : i < n) (hn : n ≤ 40) : g_rI S (a + 1) (nI i) = some (C i) := by
  rw [g_rI_e h.2 (by rw [n_in (by omega)]; exact hi), n_cl (by omega)]
theorem ShAt.has (h : ShAt S a sort n C) (i : Int32) : f_X5_has S a i = some (if i < 0 then 0 else if nI n ≤ i then 0 else 1) := by
  unfold f_X5_has g_lI
  rw [h.r, z_bd_s, g_ai_e h.2, z_bd2_s, z_bd_s, show Int32.ofNat n = nI n from rfl]
  by_cases q1 : i < 0
  · rw [if_pos q1, if_pos q1]
  · rw [if_neg q1, if_neg q1]
    by_cases q2 : nI n ≤ i
    · rw [if_pos q2, if_pos q2]
    · rw [if_neg q2, if_neg q2]
theorem ShAt.has0 (h : ShAt S a sort n C) {i : Int32} (hi : i < 0 ∨ nI n ≤ i) : f_X5_has S a i = some 0 := by
  rw [h.has]
  by_cases h0 : i < 0
  · rw [if_pos h0]
  · rw [if_neg h0, if_pos (by rcases hi with q | q; exact absurd q h0; exact q)]
theorem ShAt.has1 (h : ShAt S a sort n C) (hn : n ≤ 40) {i : Nat} (hi : i < n) : f_X5_has S a (nI i) = some 1 := by
  rw [h.has, show (0 : Int32) = nI 0 from rfl, if_neg (by rw [n_lt (by omega) (by omega)]; omega), if_neg (by rw [n_le (by omega) (by omega)]; omega)]
theorem ShAt.w (h : ShAt S a sort n C) {i : Nat} (hi : i < n) (hn : n ≤ 40) (x : Int32) : ∃ S', g_wI S (a + 1) (nI i) x = some S' ∧ ShAt S' a sort n (upd C i x) ∧ Same S S' (a + 1) 1 := by
  refine ⟨_, by rw [g_wI_e x h.2 (by rw [n_in (by omega)]; exact hi), n_cl (by omega)], ⟨?_, ?_⟩, Same.up (by omega)⟩
  · rw [g_up_n _ (by omega)]; exact h.1
  · rw [g_up_s]
theorem ShAt.same {S' : GS} {b m : Nat} (h : ShAt S a sort n C) (hs : Same S S' b m) (hd : a + 2 ≤ b ∨ b + m ≤ a) : ShAt S' a sort n C := ⟨(hs.2 _ (by omega)).trans h.1, (hs.2 _ (by omega)).trans h.2⟩
end SH
theorem SheetsOk.st {S S' : GS} {M : MS} {o : Nat} {q : Nat → Option Nat} (w : Int32) (h : SheetsOk S M o q) (hs : Same S S' o 1) : SheetsOk S' (sI M 18 0 w) o q := by
  refine ⟨(hs.2 _ (by omega)).trans h.1, fun s h4 => ?_, h.2.2⟩
  rcases h.2.1 s h4 with ⟨h1, h2⟩ | ⟨a, so, n, C, h1, h2, h3, h5, h6, h7, h8, h9, h10⟩
  · exact Or.inl ⟨h1, h2⟩
  · exact Or.inr ⟨a, so, n, C, h1, h2, by rw [hs.1]; exact h3, h5.same hs (by omega), h6, h7, h8, h9, h10⟩
theorem c_cell {S : GS} {M : MS} {o : Nat} {fc st : Int32} {q : Nat → Option Nat} (hT : TopAt S o fc st) (hS : SheetsOk S M o q) (a0 a1 a2 : Int32) : ∃ r S' M' st', f_X7_cell S o a0 a1 a2 = some (r, S') ∧ f_X8_cell M a0 a1 a2 = some (r, M') ∧ TopAt S' o fc st' ∧ M'.1 18 0 = st' ∧ SheetsOk S' M' o q ∧ S'.2 = S.2 ∧ (∀ b, b ≠ o → (∀ s a, s < 4 → q s = some a → b ≠ a + 1) → S'.1 b = S.1 b) ∧ M'.2 = M.2 ∧ ∀ k, k ≠ 17 → k ≠ 18 → M'.1 k = M.1 k := by
  have hi := t_is hT
  have ref : ∀ w : Int32, ∃ S', f_X7_refuse S o w = some (-1, S') ∧ TopAt S' o fc w ∧ (sI M 18 0 w).1 18 0 = w ∧ SheetsOk S' (sI M 18 0 w) o q ∧ S'.2 = S.2 ∧ (∀ b, b ≠ o → (∀ s a, s < 4 → q s = some a → b ≠ a + 1) → S'.1 b = S.1 b) ∧ (sI M 18 0 w).2 = M.2 ∧ ∀ k, k ≠ 17 → k ≠ 18 → (sI M 18 0 w).1 k = M.1 k := by
    intro w
    obtain ⟨S', e, h1, h2⟩ := t_refuse hT w
    exact ⟨S', e, h1, by rw [sI_s, upd_s], hS.st w h2, h2.1, fun b hb _ => h2.2 b (by omega), rfl, fun k _ h => sI_n w h⟩
  unfold f_X7_cell f_X8_cell
  rw [z_isSheet]
  rcases z_in3 a0 with h1 | ⟨s, hs, rfl, h1⟩
  · obtain ⟨S', e, r1⟩ := ref 1
    exact ⟨-1, S', _, 1, by rw [h1, z_bd_s, if_pos rfl, z_chk_t hi, e, z_bd2_s], by rw [h1, z_bd_s, if_pos rfl, m_refuse, z_bd2_s], r1⟩
  · rw [h1, z_bd_s, z_bd_s, if_neg (by decide), if_neg (by decide), z_within]
    have q4 : z_in (nI s) 4 := by rw [n_in (by omega)]; exact hs
    rcases z_in01 a2 (-100) 100 with h2 | ⟨h2, -, -⟩
    · obtain ⟨S', e, r1⟩ := ref 1
      exact ⟨-1, S', _, 1, by rw [h2, z_bd_s, if_pos rfl, z_chk_t hi, e, z_bd2_s], by rw [h2, z_bd_s, if_pos rfl, m_refuse, z_bd2_s], r1⟩
    · rw [h2, z_bd_s, z_bd_s, if_neg (by decide), if_neg (by decide), g_r_e (k := 2) hT rfl, z_bd_s, g_rQ_e hS.1 q4, z_bd_s]
      simp only [z_chk_t q4]
      rw [n_cl (by omega)]
      rcases hS.2.1 s hs with ⟨g1, g2⟩ | ⟨a, so, n, C, g1, g2, g3, g4, g5, g6, g7, g8, g9⟩
      · obtain ⟨S', e, r1⟩ := ref 10
        exact ⟨-1, S', _, 10, by rw [g1, z_mt_N, z_chk_t hi, e, z_bd2_s], by rw [g2, if_pos rfl, m_refuse, z_bd2_s], r1⟩
      · rw [g1, z_mt_S, z_chk_t g4.is, g7, if_neg g5, g8]
        rcases z_idx n (by omega) a1 with ⟨k1, k2⟩ | ⟨k, hk, rfl, k2⟩
        · obtain ⟨S', e, r1⟩ := ref 12
          exact ⟨-1, S', _, 12, by rw [g4.has0 k1, z_bd_s, if_pos rfl, z_chk_t hi, e, z_bd2_s], by rw [k2, z_bd_s, if_pos rfl, m_refuse, z_bd2_s], r1⟩
        · obtain ⟨S1, e1, h5, s1⟩ := g4.w hk g6 a2
          have hT1 : TopAt S1 o fc st := (s1.2 o (by omega)).trans hT
          obtain ⟨S2, e2, hT2, s2⟩ := t_done hT1 1
          refine ⟨1, S2, sI (sI M 17 (40 * s + k) a2) 18 0 0, 0, ?_, ?_, hT2, by rw [sI_s, upd_s], ⟨?_, fun t ht => ?_, hS.2.2⟩, s2.1.trans s1.1, fun b b1 b2 => ?_, rfl, fun k h17 h18 => ?_⟩
          · rw [g4.has1 g6 hk, z_bd_s, if_neg (by decide), g4.r, z_bd_s, e1, z_bd_s, z_chk_t (t_is hT1), e2, z_bd2_s]
          · have q160 : z_in (40 * nI s + nI k) 160 := by rw [show (40 : Int32) = nI 40 from rfl, n_mul, n_add, n_in (by omega)]; omega
            rw [k2, z_bd_s, if_neg (by decide), z_chk_t q160, z_lt_e, show (40 : Int32) = nI 40 from rfl, n_mul, n_add, n_cl (by omega), m_done, z_bd2_s]
          · exact (s2.2 _ (by omega)).trans ((s1.2 _ (by omega)).trans hS.1)
          · by_cases hts : t = s
            · subst hts
              refine Or.inr ⟨a, so, n, upd C k a2, g1, g2, by rw [s2.1, s1.1]; exact g3, h5.same s2 (by omega), g5, g6, by rw [sI_n _ (by omega), sI_n _ (by omega)]; exact g7, by rw [sI_n _ (by omega), sI_n _ (by omega)]; exact g8, fun i hi => ?_⟩
              rw [sI_n _ (by omega), sI_s]
              by_cases hik : i = k
              · rw [hik, upd_s, upd_s]
              · rw [upd_n _ (by omega), upd_n _ hik]; exact g9 i hi
            · rcases hS.2.1 t ht with ⟨f1, f2⟩ | ⟨a', so', n', C', f1, f2, f3, f4, f5, f6, f7, f8, f9⟩
              · exact Or.inl ⟨f1, by rw [sI_n _ (by omega), sI_n _ (by omega)]; exact f2⟩
              · have hap := hS.2.2 t s a' a ht hs hts f1 g1
                refine Or.inr ⟨a', so', n', C', f1, f2, by rw [s2.1, s1.1]; exact f3, (f4.same s1 (by omega)).same s2 (by omega), f5, f6, by rw [sI_n _ (by omega), sI_n _ (by omega)]; exact f7, by rw [sI_n _ (by omega), sI_n _ (by omega)]; exact f8, fun i hi => ?_⟩
                rw [sI_n _ (by omega), sI_s, upd_n _ (by omega)]
                exact f9 i hi
          · exact (s2.2 b (by omega)).trans (s1.2 b (by have := b2 s a hs g1; omega))
          · rw [sI_n _ h18, sI_n _ h17]
