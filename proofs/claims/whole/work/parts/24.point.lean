/-! point, take, pointTold: class and reference side by side -/
def TopAt (S : GS) (o : Nat) (fc st : Int32) : Prop := S.1 o = some (e_o 7 [.ref (o + 1), .ref (o + 2), .ref (o + 3), .ref (o + 4), .ref (o + 13), .ref (o + 15), .int fc, .int st])
def SetsArr (S : GS) (o : Nat) : Prop := ∃ f : Nat → Option Nat, S.1 (o + 1) = some (e_q 0 6 f) ∧ ∀ s, s < 6 → f s = some (o + 17 + 4 * s)
def SetIs (S : GS) (M : MS) (o s n : Nat) (P V Z : Nat → Int32) : Prop := PtsAt S (o + 17 + 4 * s) n P V Z ∧ PtsOk n P V Z ∧ M.1 0 s = nI n ∧ ∀ i, i < n → M.1 1 (12 * s + i) = P i ∧ M.1 2 (12 * s + i) = V i ∧ M.1 3 (12 * s + i) = Z i
def SetsOk (S : GS) (M : MS) (o : Nat) : Prop := ∀ s, s < 6 → ∃ n P V Z, SetIs S M o s n P V Z
theorem t_is {S : GS} {o : Nat} {fc st : Int32} (h : TopAt S o fc st) : g_is S 7 o := g_is_e h
theorem t_put {S : GS} {o : Nat} {fc st : Int32} (h : TopAt S o fc st) (w : Int32) : ∃ S', g_put S 7 7 o (.int w) = some S' ∧ TopAt S' o fc w ∧ Same S S' o 1 := by
  refine ⟨_, g_put_e _ h (Nat.le_of_ble_eq_true rfl), ?_, Same.up (by omega)⟩
  unfold TopAt
  rw [g_up_s]
  rfl
theorem t_refuse {S : GS} {o : Nat} {fc st : Int32} (h : TopAt S o fc st) (w : Int32) : ∃ S', f_X7_refuse S o w = some (-1, S') ∧ TopAt S' o fc w ∧ Same S S' o 1 := by
  obtain ⟨S', e, h1, h2⟩ := t_put h w
  refine ⟨S', ?_, h1, h2⟩
  unfold f_X7_refuse
  rw [e, z_bd_s]
theorem t_done {S : GS} {o : Nat} {fc st : Int32} (h : TopAt S o fc st) (r : Int32) : ∃ S', f_X7_done S o r = some (r, S') ∧ TopAt S' o fc 0 ∧ Same S S' o 1 := by
  obtain ⟨S', e, h1, h2⟩ := t_put h 0
  refine ⟨S', ?_, h1, h2⟩
  unfold f_X7_done
  rw [e, z_bd_s]
theorem m_refuse (M : MS) (w : Int32) : f_X8_refused M w = some (-1, sI M 18 0 w) := rfl
theorem m_done (M : MS) (r : Int32) : f_X8_done M r = some (r, sI M 18 0 0) := rfl
theorem z_in05 (a0 : Int32) : (f_X8_in a0 0 5 = some 0 ∧ (a0 < 0 ∨ (6 : Int32) ≤ a0)) ∨ ∃ s, s < 6 ∧ a0 = nI s ∧ f_X8_in a0 0 5 = some 1 := by
  unfold f_X8_in
  by_cases h0 : a0 < 0
  · rw [if_pos h0]; exact Or.inl ⟨rfl, Or.inl h0⟩
  · rw [if_neg h0]
    have h1 : 0 ≤ a0 := by
      rw [Int32.lt_iff_toInt_lt] at h0
      rw [Int32.le_iff_toInt_le]
      omega
    obtain ⟨s, h2, rfl⟩ := n_of h1
    rw [show (5 : Int32) = nI 5 from rfl, show (6 : Int32) = nI 6 from rfl]
    by_cases h3 : nI 5 < nI s
    · rw [if_pos h3]
      rw [n_lt (by omega) h2] at h3
      exact Or.inl ⟨rfl, Or.inr (by rw [n_le (by omega) h2]; omega)⟩
    · rw [if_neg h3]
      rw [n_lt (by omega) h2] at h3
      exact Or.inr ⟨s, by omega, rfl, rfl⟩
theorem t_setAt0 {S : GS} {o : Nat} {a0 : Int32} (h : a0 < 0 ∨ (6 : Int32) ≤ a0) : f_X7_setAt S o a0 = some none := by
  unfold f_X7_setAt
  by_cases h0 : a0 < 0
  · rw [if_pos h0]
  · rw [if_neg h0, if_pos (by rcases h with q | q; exact absurd q h0; exact q)]
theorem t_setAt {S : GS} {o s : Nat} {fc st : Int32} (hT : TopAt S o fc st) (hA : SetsArr S o) (hs : s < 6) : f_X7_setAt S o (nI s) = some (some (o + 17 + 4 * s)) := by
  obtain ⟨f, h1, h2⟩ := hA
  unfold f_X7_setAt
  rw [show (0 : Int32) = nI 0 from rfl, show (6 : Int32) = nI 6 from rfl, if_neg (by rw [n_lt (by omega) (by omega)]; omega), if_neg (by rw [n_le (by omega) (by omega)]; omega), g_r_e (k := 0) hT rfl, z_bd_s, g_rQ_e h1 (by rw [n_in (by omega)]; exact hs), z_bd_s, n_cl (by omega), h2 s hs]
theorem z_isP (a1 a2 a3 : Int32) : f_X8_isPoint a1 a2 a3 = some 0 ∨ (f_X8_isPoint a1 a2 a3 = some 1 ∧ (-12 ≤ a1 ∧ a1 ≤ 12) ∧ (-60 ≤ a2 ∧ a2 ≤ 60) ∧ (1 ≤ a3 ∧ a3 ≤ 4)) := by
  have key : ∀ x lo hi : Int32, f_X8_in x lo hi = some 0 ∨ (f_X8_in x lo hi = some 1 ∧ lo ≤ x ∧ x ≤ hi) := by
    intro x lo hi
    unfold f_X8_in
    by_cases q1 : x < lo
    · rw [if_pos q1]; exact Or.inl rfl
    · rw [if_neg q1]
      by_cases q2 : hi < x
      · rw [if_pos q2]; exact Or.inl rfl
      · rw [if_neg q2]
        rw [Int32.lt_iff_toInt_lt] at q1 q2
        exact Or.inr ⟨rfl, by rw [Int32.le_iff_toInt_le]; omega, by rw [Int32.le_iff_toInt_le]; omega⟩
  unfold f_X8_isPoint
  rcases key a1 (-12) 12 with h | ⟨h, h1, h2⟩
  · rw [h]; exact Or.inl rfl
  · rw [h, z_bd_s, if_neg (by decide)]
    rcases key a2 (-60) 60 with g | ⟨g, g1, g2⟩
    · rw [g]; exact Or.inl rfl
    · rw [g, z_bd_s, if_neg (by decide)]
      rcases key a3 1 4 with k | ⟨k, k1, k2⟩
      · rw [k]; exact Or.inl rfl
      · rw [k]; exact Or.inr ⟨rfl, ⟨h1, h2⟩, ⟨g1, g2⟩, ⟨k1, k2⟩⟩
theorem z_allows (S : GS) (a1 a2 a3 : Int32) : f_X3_allows S a1 a2 a3 = f_X8_isPoint a1 a2 a3 := rfl
theorem insU_at (F P : Nat → Int32) {d t n i : Nat} (x : Int32) (ht : t ≤ n) (h : ∀ i, i < n → F (d + i) = P i) (hi : i < n + 1) : insU F (d + t) (d + n) x (d + i) = insU P t n x i := by
  unfold insU
  by_cases q : i = t
  · rw [if_pos q, if_pos (by omega)]
  · rw [if_neg q, if_neg (by omega)]
    by_cases q2 : t < i ∧ i ≤ n
    · rw [if_pos q2, if_pos (by omega), show d + i - 1 = d + (i - 1) by omega]
      exact h _ (by omega)
    · rw [if_neg q2, if_neg (by omega)]
      exact h _ (by omega)
theorem shD_at (F P : Nat → Int32) {d k n i : Nat} (h : ∀ i, i < n → F (d + i) = P i) (hi : i < n) : shD F (d + k) (d + n) (d + i) = shD P k n i := by
  unfold shD
  by_cases q : k ≤ i ∧ i + 1 < n
  · rw [if_pos q, if_pos (by omega)]
    exact h (i + 1) (by omega)
  · rw [if_neg q, if_neg (by omega)]
    exact h i hi
theorem insU_off (F : Nat → Int32) {t n j : Nat} (x : Int32) (h : j < t ∨ n < j) (ht : t ≤ n) : insU F t n x j = F j := by
  unfold insU
  rw [if_neg (by omega), if_neg (by omega)]
theorem shD_off (F : Nat → Int32) {t n j : Nat} (h : j < t ∨ n ≤ j + 1) : shD F t n j = F j := by
  unfold shD
  rw [if_neg (by omega)]
theorem ok_ins {n t : Nat} {P V Z : Nat → Int32} {x v w : Int32} (h : PtsOk n P V Z) (hn : n < 12) (ht : t ≤ n) (h1 : ∀ i, t ≤ i → i < n → ¬ P i ≤ x) (h2 : t = 0 ∨ ∃ u, t = u + 1 ∧ P u ≤ x) (hne : ¬ ∃ i, i < n ∧ P i = x) (r1 : -12 ≤ x ∧ x ≤ 12) (r2 : -60 ≤ v ∧ v ≤ 60) (r3 : 1 ≤ w ∧ w ≤ 4) : PtsOk (n + 1) (insU P t n x) (insU V t n v) (insU Z t n w) := by
  obtain ⟨-, hr, ho⟩ := h
  refine ⟨by omega, fun i hi => ?_, fun i j hij hj => ?_⟩
  · unfold insU
    by_cases q : i = t
    · rw [if_pos q, if_pos q, if_pos q]; exact ⟨r1, r2, r3⟩
    · rw [if_neg q, if_neg q, if_neg q]
      by_cases q2 : t < i ∧ i ≤ n
      · rw [if_pos q2, if_pos q2, if_pos q2]; exact hr _ (by omega)
      · rw [if_neg q2, if_neg q2, if_neg q2]; exact hr _ (by omega)
  · have lo : ∀ k, k < t → P k < x := by
      intro k hk
      rcases h2 with h2 | ⟨u, h2, h3⟩
      · omega
      · have h4 : P u ≠ x := fun e => hne ⟨u, by omega, e⟩
        have h5 : P u < x := by
          rw [Int32.lt_iff_toInt_lt]
          rw [Int32.le_iff_toInt_le] at h3
          have h6 : (P u).toInt ≠ x.toInt := fun e => h4 (Int32.toInt_inj.mp e)
          omega
        rcases Nat.lt_or_ge k u with q | q
        · have h6 := ho k u q (by omega)
          rw [Int32.lt_iff_toInt_lt] at h5 h6 ⊢
          omega
        · rw [show k = u by omega]; exact h5
    have hi2 : ∀ k, t ≤ k → k < n → x < P k := by
      intro k hk hkn
      have h3 := h1 k hk hkn
      rw [Int32.le_iff_toInt_le] at h3
      rw [Int32.lt_iff_toInt_lt]
      omega
    unfold insU
    by_cases q : i = t
    · rw [if_pos q, if_neg (by omega), if_pos (by omega)]
      exact hi2 _ (by omega) (by omega)
    · rw [if_neg q]
      by_cases q2 : t < i ∧ i ≤ n
      · rw [if_pos q2, if_neg (by omega), if_pos (by omega)]
        exact ho _ _ (by omega) (by omega)
      · rw [if_neg q2]
        by_cases q3 : j = t
        · rw [if_pos q3]; exact lo _ (by omega)
        · rw [if_neg q3]
          by_cases q4 : t < j ∧ j ≤ n
          · rw [if_pos q4]
            rcases Nat.lt_or_ge i (j - 1) with q5 | q5
            · exact ho _ _ q5 (by omega)
            · omega
          · rw [if_neg q4]; exact ho _ _ hij (by omega)
theorem ok_del {n k : Nat} {P V Z : Nat → Int32} (h : PtsOk n P V Z) (hk : k < n) : PtsOk (n - 1) (shD P k n) (shD V k n) (shD Z k n) := by
  obtain ⟨h0, hr, ho⟩ := h
  refine ⟨by omega, fun i hi => ?_, fun i j hij hj => ?_⟩
  · unfold shD
    by_cases q : k ≤ i ∧ i + 1 < n
    · rw [if_pos q, if_pos q, if_pos q]; exact hr _ (by omega)
    · rw [if_neg q, if_neg q, if_neg q]; exact hr _ (by omega)
  · unfold shD
    by_cases q : k ≤ i ∧ i + 1 < n
    · rw [if_pos q, if_pos (by omega)]; exact ho _ _ (by omega) (by omega)
    · rw [if_neg q]
      by_cases q2 : k ≤ j ∧ j + 1 < n
      · rw [if_pos q2]; exact ho _ _ (by omega) (by omega)
      · rw [if_neg q2]; exact ho _ _ hij (by omega)
/-- what point, take and points leave as it is -/
def KeepS (S S' : GS) (o : Nat) : Prop := S'.2 = S.2 ∧ ∀ b, b ≠ o → (b < o + 17 ∨ o + 41 ≤ b) → S'.1 b = S.1 b
def KeepM (M M' : MS) : Prop := M'.2 = M.2 ∧ ∀ k, k ≠ 0 → k ≠ 1 → k ≠ 2 → k ≠ 3 → k ≠ 18 → M'.1 k = M.1 k
theorem KeepS.st {S S' : GS} {o : Nat} (h : Same S S' o 1) : KeepS S S' o := ⟨h.1, fun b h1 h2 => h.2 b (by omega)⟩
theorem KeepM.st (M : MS) (w : Int32) : KeepM M (sI M 18 0 w) := ⟨rfl, fun k _ _ _ _ h5 => sI_n w h5⟩
theorem SetsOk.st {S S' : GS} {M : MS} {o : Nat} (w : Int32) (h : SetsOk S M o) (hs : Same S S' o 1) : SetsOk S' (sI M 18 0 w) o := by
  intro s hs6
  obtain ⟨n, P, V, Z, h1, h2, h3, h4⟩ := h s hs6
  exact ⟨n, P, V, Z, h1.same hs (by omega), h2, h3, h4⟩
/-- a set's points are told anew, the status is done -/
theorem SetsOk.up {S S1 S2 : GS} {M M1 : MS} {o s n : Nat} {P V Z : Nat → Int32} (h : SetsOk S M o) (hs : s < 6) (hp : PtsAt S1 (o + 17 + 4 * s) n P V Z) (hk : PtsOk n P V Z) (h1 : Same S S1 (o + 17 + 4 * s) 4) (h2 : Same S1 S2 o 1) (hm0 : M1.1 0 s = nI n) (hm : ∀ i, i < n → M1.1 1 (12 * s + i) = P i ∧ M1.1 2 (12 * s + i) = V i ∧ M1.1 3 (12 * s + i) = Z i) (hoth : ∀ t, t < 6 → t ≠ s → M1.1 0 t = M.1 0 t ∧ ∀ i, i < 12 → M1.1 1 (12 * t + i) = M.1 1 (12 * t + i) ∧ M1.1 2 (12 * t + i) = M.1 2 (12 * t + i) ∧ M1.1 3 (12 * t + i) = M.1 3 (12 * t + i)) : SetsOk S2 M1 o := by
  intro t ht
  by_cases q : t = s
  · subst q
    exact ⟨n, P, V, Z, hp.same h2 (by omega), hk, hm0, hm⟩
  · obtain ⟨n', P', V', Z', a1, a2, a3, a4⟩ := h t ht
    obtain ⟨b1, b2⟩ := hoth t ht q
    have hn12 := a2.1
    refine ⟨n', P', V', Z', (a1.same h1 (by omega)).same h2 (by omega), a2, b1.trans a3, fun i hi => ?_⟩
    obtain ⟨c1, c2, c3⟩ := b2 i (by omega)
    obtain ⟨d1, d2, d3⟩ := a4 i hi
    exact ⟨c1.trans d1, c2.trans d2, c3.trans d3⟩
