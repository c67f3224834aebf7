/-! new FITS: the reference; keeping them -/
/-- what making a fit of this number leaves as it was -/
def KeepN (M M' : MS) (c : Nat) : Prop := (∀ k, k < 4 ∨ (15 ≤ k ∧ k ≤ 20) → M'.1 k = M.1 k) ∧ ∀ f, f ≠ c → KeepF M M' f
theorem KeepN.rf {M : MS} {c : Nat} : KeepN M M c := ⟨fun _ _ => rfl, fun _ _ => KeepF.of rfl (fun _ _ _ => rfl)⟩
theorem KeepN.tr {M M1 M2 : MS} {c : Nat} (h1 : KeepN M M1 c) (h2 : KeepN M1 M2 c) : KeepN M M2 c := ⟨fun k hk => (h2.1 k hk).trans (h1.1 k hk), fun f hf => (h1.2 f hf).tr (h2.2 f hf)⟩
theorem KeepN.scr {M M' : MS} {c : Nat} (h : Scr M M') : KeepN M M' c := ⟨fun k hk => h.1 k (by omega), fun _ _ => KeepF.scr h⟩
/-- numbers are told anew, of this fit alone -/
theorem KeepN.num {M M' : MS} {c : Nat} (h1 : M'.1 = M.1) (h2 : ∀ j, (j < 36 * c ∨ 36 * c + 36 ≤ j) → M'.2 13 j = M.2 13 j ∧ M'.2 14 j = M.2 14 j) : KeepN M M' c := by
  refine ⟨fun k _ => by rw [h1], fun f hf => ?_⟩
  unfold KeepF
  rw [h1]
  exact ⟨⟨rfl, rfl, rfl, rfl⟩, fun _ _ => ⟨rfl, rfl, rfl, rfl⟩, fun i hi => h2 _ (by omega)⟩
theorem m_number {M : MS} {f p k : Nat} (hf : f < 10) (hp : p < 12) (hk : k < 3) (a b : Int64) : f_X8_number M (nI f) (nI p) (nI k) a b = some (sJ (sJ M 13 (36 * f + 3 * p + k) a) 14 (36 * f + 3 * p + k) b) := by
  have e : (((36 : Int32) * nI f) + ((3 : Int32) * nI p)) + nI k = nI (36 * f + 3 * p + k) := by rw [show (36 : Int32) = nI 36 from rfl, show (3 : Int32) = nI 3 from rfl, n_mul, n_mul, n_add, n_add]
  have i0 : z_in (nI (36 * f + 3 * p + k)) 360 := by rw [n_in (by omega)]; omega
  unfold f_X8_number
  simp only [e, z_chk_t i0]
  rw [z_lt_e, z_lt_e, n_cl (by omega)]
theorem num_k {M : MS} {i : Nat} {a b : Int64} {k : Nat} (h1 : k ≠ 13) (h2 : k ≠ 14) : (sJ (sJ M 13 i a) 14 i b).2 k = M.2 k := by rw [sJ_n _ h2, sJ_n _ h1]
theorem num_13 {M : MS} {i : Nat} {a b : Int64} (j : Nat) : (sJ (sJ M 13 i a) 14 i b).2 13 j = if j = i then a else M.2 13 j := by
  rw [sJ_n _ (by omega), sJ_s]; rfl
theorem num_14 {M : MS} {i : Nat} {a b : Int64} (j : Nat) : (sJ (sJ M 13 i a) 14 i b).2 14 j = if j = i then b else M.2 14 j := by
  rw [sJ_s]; rfl
/-- three numbers of a piece -/
def Num3 (M M' : MS) (at_ : Nat) (a0 b0 a1 b1 a2 b2 : Int64) : Prop := M'.1 = M.1 ∧ (∀ k, k ≠ 13 → k ≠ 14 → M'.2 k = M.2 k) ∧ (∀ j, (j < at_ ∨ at_ + 3 ≤ j) → M'.2 13 j = M.2 13 j ∧ M'.2 14 j = M.2 14 j) ∧ (M'.2 13 at_ = a0 ∧ M'.2 14 at_ = b0) ∧ (M'.2 13 (at_ + 1) = a1 ∧ M'.2 14 (at_ + 1) = b1) ∧ M'.2 13 (at_ + 2) = a2 ∧ M'.2 14 (at_ + 2) = b2
theorem num3_mk (M : MS) (i : Nat) (a0 b0 a1 b1 a2 b2 : Int64) : Num3 M (sJ (sJ (sJ (sJ (sJ (sJ M 13 i a0) 14 i b0) 13 (i + 1) a1) 14 (i + 1) b1) 13 (i + 2) a2) 14 (i + 2) b2) i a0 b0 a1 b1 a2 b2 := by
  refine ⟨rfl, fun k k1 k2 => by rw [num_k k1 k2, num_k k1 k2, num_k k1 k2], fun j hj => ?_, ⟨?_, ?_⟩, ⟨?_, ?_⟩, ?_, ?_⟩
  · rw [num_13, num_14, if_neg (by omega), if_neg (by omega), num_13, num_14, if_neg (by omega), if_neg (by omega), num_13, num_14, if_neg (by omega), if_neg (by omega)]
    exact ⟨rfl, rfl⟩
  · rw [num_13, if_neg (by omega), num_13, if_neg (by omega), num_13, if_pos rfl]
  · rw [num_14, if_neg (by omega), num_14, if_neg (by omega), num_14, if_pos rfl]
  · rw [num_13, if_neg (by omega), num_13, if_pos rfl]
  · rw [num_14, if_neg (by omega), num_14, if_pos rfl]
  · rw [num_13, if_pos rfl]
  · rw [num_14, if_pos rfl]
theorem Num3.keep {M M' : MS} {f p : Nat} {a0 b0 a1 b1 a2 b2 : Int64} (h : Num3 M M' (36 * f + 3 * p) a0 b0 a1 b1 a2 b2) (hp : p < 12) : KeepN M M' f := KeepN.num h.1 (fun j hj => h.2.2.1 j (by omega))
theorem m_keep {M : MS} {f p : Nat} (hf : f < 10) (hp : p < 12) : ∃ M', f_X8_keep M (nI f) (nI p) = some M' ∧ Num3 M M' (36 * f + 3 * p) (M.2 28 0) (M.2 29 0) (M.2 28 1) (M.2 29 1) (M.2 28 2) (M.2 29 2) := by
  have st : ∀ (k : Nat) (X : MS), k < 3 → f_X8_keep_L2 (nI f) (nI p) (nI k) X = some (.inr (nI (k + 1), sJ (sJ X 13 (36 * f + 3 * p + k) (X.2 28 k)) 14 (36 * f + 3 * p + k) (X.2 29 k))) := by
    intro k X hk
    have q3 : z_in (nI k) 3 := by rw [n_in (by omega)]; exact hk
    unfold f_X8_keep_L2
    rw [show (3 : Int32) = nI 3 from rfl, if_neg (by rw [n_le (by omega) (by omega)]; omega), z_chk_t q3, z_chk_t q3, n_cl (by omega), m_number hf hp hk, z_bd_s, show nI k + 1 = nI (k + 1) from n_add k 1]
  have fin : ∀ X, z_lp (fun x => f_X8_keep_L2 (nI f) (nI p) x.1 x.2) (nI 3, X) = some X := fun X => z_lp_x (show f_X8_keep_L2 (nI f) (nI p) (nI 3) X = some (Sum.inl X) by unfold f_X8_keep_L2; rw [if_pos (by decide)])
  have h0 := num3_mk M (36 * f + 3 * p) (M.2 28 0) (M.2 29 0) (M.2 28 1) (M.2 29 1) (M.2 28 2) (M.2 29 2)
  refine ⟨_, ?_, h0⟩
  unfold f_X8_keep
  have s0 := st 0 M (by omega)
  have s1 := st 1 (sJ (sJ M 13 (36 * f + 3 * p) (M.2 28 0)) 14 (36 * f + 3 * p) (M.2 29 0)) (by omega)
  rw [num_k (by omega) (by omega), num_k (by omega) (by omega)] at s1
  have s2 := st 2 (sJ (sJ (sJ (sJ M 13 (36 * f + 3 * p) (M.2 28 0)) 14 (36 * f + 3 * p) (M.2 29 0)) 13 (36 * f + 3 * p + 1) (M.2 28 1)) 14 (36 * f + 3 * p + 1) (M.2 29 1)) (by omega)
  rw [num_k (by omega) (by omega), num_k (by omega) (by omega), num_k (by omega) (by omega), num_k (by omega) (by omega)] at s2
  rw [show ((0 : Int32), M) = (nI 0, M) from rfl, z_lp_n (y := (nI 1, sJ (sJ M 13 (36 * f + 3 * p) (M.2 28 0)) 14 (36 * f + 3 * p) (M.2 29 0))) s0, z_lp_n (y := (nI 2, _)) s1, z_lp_n (y := (nI 3, _)) s2, fin, z_bd_s]
/-- the points of a set come into the reference's new fit -/
def cpR (G : Nat → Int32) (d : Nat) (P : Nat → Int32) (k : Nat) : Nat → Int32 := fun j => if d ≤ j ∧ j < d + k then P (j - d) else G j
theorem cpR_0 (G : Nat → Int32) (d : Nat) (P : Nat → Int32) : cpR G d P 0 = G := by
  funext j
  unfold cpR
  rw [if_neg (by omega)]
theorem cpR_up (G : Nat → Int32) (d : Nat) (P : Nat → Int32) (k : Nat) : upd (cpR G d P k) (d + k) (P k) = cpR G d P (k + 1) := by
  funext j
  unfold cpR upd
  by_cases q : j = d + k
  · rw [if_pos q, if_pos (by omega), q, show d + k - d = k by omega]
  · rw [if_neg q]
    dsimp only
    by_cases z : d ≤ j ∧ j < d + k
    · rw [if_pos z, if_pos (by omega)]
    · rw [if_neg z, if_neg (by omega)]
/-- the reference with its rows 8, 9, 10 told -/
def mUq (M : MS) (f1 f2 f3 : Nat → Int32) : MS := (fun q => if q = 8 then f1 else if q = 9 then f2 else if q = 10 then f3 else M.1 q, M.2)
theorem mUq_n {M : MS} {f1 f2 f3 : Nat → Int32} {q : Nat} (h1 : q ≠ 8) (h2 : q ≠ 9) (h3 : q ≠ 10) : (mUq M f1 f2 f3).1 q = M.1 q := by
  show (if q = 8 then f1 else if q = 9 then f2 else if q = 10 then f3 else M.1 q) = _
  rw [if_neg h1, if_neg h2, if_neg h3]
theorem mUq_self (M : MS) : mUq M (M.1 8) (M.1 9) (M.1 10) = M := by
  refine Prod.ext ?_ rfl
  funext q
  show (if q = 8 then M.1 8 else if q = 9 then M.1 9 else if q = 10 then M.1 10 else M.1 q) = _
  by_cases h1 : q = 8
  · rw [if_pos h1, h1]
  · rw [if_neg h1]
    by_cases h2 : q = 9
    · rw [if_pos h2, h2]
    · rw [if_neg h2]
      by_cases h3 : q = 10
      · rw [if_pos h3, h3]
      · rw [if_neg h3]
theorem mUq_w1 (M : MS) (f1 f2 f3 : Nat → Int32) (i : Nat) (v : Int32) : sI (mUq M f1 f2 f3) 8 i v = mUq M (upd f1 i v) f2 f3 := by
  refine Prod.ext ?_ rfl
  funext q
  show (if q = 8 then upd f1 i v else if q = 8 then f1 else if q = 9 then f2 else if q = 10 then f3 else M.1 q) = (if q = 8 then upd f1 i v else if q = 9 then f2 else if q = 10 then f3 else M.1 q)
  by_cases h : q = 8
  · rw [if_pos h, if_pos h]
  · rw [if_neg h, if_neg h, if_neg h]
theorem mUq_w2 (M : MS) (f1 f2 f3 : Nat → Int32) (i : Nat) (v : Int32) : sI (mUq M f1 f2 f3) 9 i v = mUq M f1 (upd f2 i v) f3 := by
  refine Prod.ext ?_ rfl
  funext q
  show (if q = 9 then upd f2 i v else if q = 8 then f1 else if q = 9 then f2 else if q = 10 then f3 else M.1 q) = (if q = 8 then f1 else if q = 9 then upd f2 i v else if q = 10 then f3 else M.1 q)
  by_cases h : q = 9
  · rw [if_pos h, if_neg (by omega), if_pos h]
  · rw [if_neg h, if_neg h, if_neg h]
theorem mUq_w3 (M : MS) (f1 f2 f3 : Nat → Int32) (i : Nat) (v : Int32) : sI (mUq M f1 f2 f3) 10 i v = mUq M f1 f2 (upd f3 i v) := by
  refine Prod.ext ?_ rfl
  funext q
  show (if q = 10 then upd f3 i v else if q = 8 then f1 else if q = 9 then f2 else if q = 10 then f3 else M.1 q) = (if q = 8 then f1 else if q = 9 then f2 else if q = 10 then upd f3 i v else M.1 q)
  by_cases h : q = 10
  · rw [if_pos h, if_neg (by omega), if_neg (by omega), if_pos h]
  · rw [if_neg h, if_neg h, if_neg h]
theorem m_newFit {M : MS} {s n c : Nat} {kd dg : Int32} {P V Z : Nat → Int32} (hs : s < 6) (hn : n ≤ 12) (h0 : M.1 0 s = nI n) (hp : ∀ i, i < n → M.1 1 (12 * s + i) = P i ∧ M.1 2 (12 * s + i) = V i ∧ M.1 3 (12 * s + i) = Z i) (h4 : M.1 4 0 = nI c) (hc : c < 10) : ∃ M', f_X8_newFit M (nI s) kd dg = some (nI c, M') ∧ M'.1 4 0 = nI (c + 1) ∧ MFit M' c n kd dg P V Z ∧ M'.1 11 c = nI 1 ∧ M'.1 12 (12 * c) = nI 0 ∧ MPol M' (36 * c) (0, 0, 0, 1) ∧ KeepN M M' c := by
  have q10 : z_in (nI c) 10 := by rw [n_in (by omega)]; exact hc
  have q6 : z_in (nI s) 6 := by rw [n_in (by omega)]; exact hs
  obtain ⟨M4, hM4⟩ : ∃ z, z = sI (sI (sI (sI M 4 0 (nI (c + 1))) 5 c kd) 6 c dg) 7 c (nI n) := ⟨_, rfl⟩
  have m4k : ∀ k, k ≠ 4 → k ≠ 5 → k ≠ 6 → k ≠ 7 → M4.1 k = M.1 k := fun k a1 a2 a3 a4 => by rw [hM4, sI_n _ a4, sI_n _ a3, sI_n _ a2, sI_n _ a1]
  have hlp : z_lp (fun x => f_X8_newFit_L48 M (nI s) x.1 x.2) ((0 : Int32), M4) = some (mUq M4 (cpR (M4.1 8) (12 * c) P n) (cpR (M4.1 9) (12 * c) V n) (cpR (M4.1 10) (12 * c) Z n)) := by
    have hh := z_lp_count (b := fun x : Int32 × MS => f_X8_newFit_L48 M (nI s) x.1 x.2) (fun k => (nI k, mUq M4 (cpR (M4.1 8) (12 * c) P k) (cpR (M4.1 9) (12 * c) V k) (cpR (M4.1 10) (12 * c) Z k))) n (e := mUq M4 (cpR (M4.1 8) (12 * c) P n) (cpR (M4.1 9) (12 * c) V n) (cpR (M4.1 10) (12 * c) Z n)) (fun k hk => ?_) ?_
    · rw [cpR_0, cpR_0, cpR_0, mUq_self] at hh
      exact hh
    · show f_X8_newFit_L48 M (nI s) (nI k) (mUq M4 (cpR (M4.1 8) (12 * c) P k) (cpR (M4.1 9) (12 * c) V k) (cpR (M4.1 10) (12 * c) Z k)) = some (Sum.inr (nI (k + 1), mUq M4 (cpR (M4.1 8) (12 * c) P (k + 1)) (cpR (M4.1 9) (12 * c) V (k + 1)) (cpR (M4.1 10) (12 * c) Z (k + 1))))
      have e1 : ((12 : Int32) * nI s) + nI k = nI (12 * s + k) := by rw [show (12 : Int32) = nI 12 from rfl, n_mul, n_add]
      have e2 : ((12 : Int32) * nI c) + nI k = nI (12 * c + k) := by rw [show (12 : Int32) = nI 12 from rfl, n_mul, n_add]
      have i1 : z_in (nI (12 * s + k)) 72 := by rw [n_in (by omega)]; omega
      have i2 : z_in (nI (12 * c + k)) 120 := by rw [n_in (by omega)]; omega
      obtain ⟨d1, d2, d3⟩ := hp k hk
      unfold f_X8_newFit_L48
      simp only [h4, e1, e2, z_chk_t q6, z_chk_t i1, z_chk_t i2]
      rw [n_cl (show s < 2147483648 by omega), mUq_n (by omega) (by omega) (by omega), m4k 0 (by omega) (by omega) (by omega) (by omega), h0, if_neg (by rw [n_le (by omega) (by omega)]; omega), z_lt_e, z_lt_e, z_lt_e, n_cl (show 12 * s + k < 2147483648 by omega), n_cl (show 12 * c + k < 2147483648 by omega), mUq_n (by omega) (by omega) (by omega), m4k 1 (by omega) (by omega) (by omega) (by omega), d1, mUq_w1, mUq_n (by omega) (by omega) (by omega), m4k 2 (by omega) (by omega) (by omega) (by omega), d2, mUq_w2, mUq_n (by omega) (by omega) (by omega), m4k 3 (by omega) (by omega) (by omega) (by omega), d3, mUq_w3, cpR_up, cpR_up, cpR_up, show nI k + 1 = nI (k + 1) from n_add k 1]
    · show f_X8_newFit_L48 M (nI s) (nI n) (mUq M4 (cpR (M4.1 8) (12 * c) P n) (cpR (M4.1 9) (12 * c) V n) (cpR (M4.1 10) (12 * c) Z n)) = _
      unfold f_X8_newFit_L48
      rw [z_chk_t q6, n_cl (show s < 2147483648 by omega), mUq_n (by omega) (by omega) (by omega), m4k 0 (by omega) (by omega) (by omega) (by omega), h0, if_pos (by rw [n_le (by omega) (by omega)]; omega)]
  obtain ⟨M7, hM7⟩ : ∃ z, z = mUq M4 (cpR (M4.1 8) (12 * c) P n) (cpR (M4.1 9) (12 * c) V n) (cpR (M4.1 10) (12 * c) Z n) := ⟨_, rfl⟩
  rw [← hM7] at hlp
  obtain ⟨M12, hM12⟩ : ∃ z, z = sI (sI M7 11 c (1 : Int32)) 12 (12 * c) (0 : Int32) := ⟨_, rfl⟩
  have h3 := num3_mk M12 (36 * c) (0 : Int64) (1 : Int64) (0 : Int64) (1 : Int64) (0 : Int64) (1 : Int64)
  obtain ⟨M15, hM15⟩ : ∃ z, z = sJ (sJ (sJ (sJ (sJ (sJ M12 13 (36 * c) (0 : Int64)) 14 (36 * c) (1 : Int64)) 13 (36 * c + 1) (0 : Int64)) 14 (36 * c + 1) (1 : Int64)) 13 (36 * c + 2) (0 : Int64)) 14 (36 * c + 2) (1 : Int64) := ⟨_, rfl⟩
  rw [← hM15] at h3
  obtain ⟨t1, t2, t3, t4, t5, t6, t7⟩ := h3
  have m12 : ∀ k, k ≠ 11 → k ≠ 12 → M12.1 k = M7.1 k := fun k a1 a2 => by rw [hM12, sI_n _ a2, sI_n _ a1]
  have m7 : ∀ k, k ≠ 8 → k ≠ 9 → k ≠ 10 → M7.1 k = M4.1 k := fun k a1 a2 a3 => by rw [hM7, mUq_n a1 a2 a3]
  have r8 : M7.1 8 = cpR (M4.1 8) (12 * c) P n := by rw [hM7]; rfl
  have r9 : M7.1 9 = cpR (M4.1 9) (12 * c) V n := by rw [hM7]; rfl
  have r10 : M7.1 10 = cpR (M4.1 10) (12 * c) Z n := by rw [hM7]; rfl
  have cpa : ∀ (G P : Nat → Int32) (i : Nat), i < n → cpR G (12 * c) P n (12 * c + i) = P i := fun G P i hi => by
    unfold cpR
    rw [if_pos (by omega), show 12 * c + i - 12 * c = i by omega]
  have cpb : ∀ (G P : Nat → Int32) (j : Nat), j < 12 * c ∨ 12 * c + 12 ≤ j → cpR G (12 * c) P n j = G j := fun G P j hj => by
    unfold cpR
    rw [if_neg (by omega)]
  refine ⟨M15, ?_, ?_, ⟨?_, ?_, ?_, fun i hi => ⟨?_, ?_, ?_⟩⟩, ?_, ?_, ⟨t4, t5, t6, t7⟩, ?_, fun f hf => ⟨⟨?_, ?_, ?_, ?_⟩, fun i hi => ⟨?_, ?_, ?_, ?_⟩, fun i hi => ?_⟩⟩
  · unfold f_X8_newFit
    simp only [h4, z_chk_t q10, z_chk_t q6]
    rw [z_lt_e, z_lt_e, z_lt_e, z_lt_e, n_cl (show c < 2147483648 by omega), n_cl (show s < 2147483648 by omega), show nI c + (1 : Int32) = nI (c + 1) from n_add c 1]
    rw [show (sI (sI (sI M 4 0 (nI (c + 1))) 5 c kd) 6 c dg).1 0 s = nI n from h0, ← hM4, hlp, z_bd_s, z_lt_e, show (12 : Int32) = nI 12 from rfl, n_mul, z_chk_t (by rw [n_in (by omega)]; omega), z_lt_e, n_cl (by omega), ← hM12, show (0 : Int32) = nI 0 from rfl, show (1 : Int32) = nI 1 from rfl, show (2 : Int32) = nI 2 from rfl, m_number hc (by omega) (by omega), z_bd_s, m_number hc (by omega) (by omega), z_bd_s, m_number hc (by omega) (by omega), z_bd_s]
    rw [hM15]
    rfl
  · rw [t1, m12 4 (by omega) (by omega), m7 4 (by omega) (by omega) (by omega), hM4, sI_n _ (by omega), sI_n _ (by omega), sI_n _ (by omega), sI_s, upd_s]
  · rw [t1, m12 5 (by omega) (by omega), m7 5 (by omega) (by omega) (by omega), hM4, sI_n _ (by omega), sI_n _ (by omega), sI_s, upd_s]
  · rw [t1, m12 6 (by omega) (by omega), m7 6 (by omega) (by omega) (by omega), hM4, sI_n _ (by omega), sI_s, upd_s]
  · rw [t1, m12 7 (by omega) (by omega), m7 7 (by omega) (by omega) (by omega), hM4, sI_s, upd_s]
  · rw [t1, m12 8 (by omega) (by omega), r8, cpa _ _ i hi]
  · rw [t1, m12 9 (by omega) (by omega), r9, cpa _ _ i hi]
  · rw [t1, m12 10 (by omega) (by omega), r10, cpa _ _ i hi]
  · rw [t1, hM12, sI_n _ (by omega), sI_s, upd_s]; rfl
  · rw [t1, hM12, sI_s, upd_s]; rfl
  · intro k hk
    rw [t1, m12 k (by omega) (by omega), m7 k (by omega) (by omega) (by omega), m4k k (by omega) (by omega) (by omega) (by omega)]
  · rw [t1, m12 5 (by omega) (by omega), m7 5 (by omega) (by omega) (by omega), hM4, sI_n _ (by omega), sI_n _ (by omega), sI_s, upd_n _ hf, sI_n _ (by omega)]
  · rw [t1, m12 6 (by omega) (by omega), m7 6 (by omega) (by omega) (by omega), hM4, sI_n _ (by omega), sI_s, upd_n _ hf, sI_n _ (by omega), sI_n _ (by omega)]
  · rw [t1, m12 7 (by omega) (by omega), m7 7 (by omega) (by omega) (by omega), hM4, sI_s, upd_n _ hf, sI_n _ (by omega), sI_n _ (by omega), sI_n _ (by omega)]
  · rw [t1, hM12, sI_n _ (by omega), sI_s, upd_n _ hf, m7 11 (by omega) (by omega) (by omega), m4k 11 (by omega) (by omega) (by omega) (by omega)]
  · rw [t1, m12 8 (by omega) (by omega), r8, cpb _ _ _ (by omega), m4k 8 (by omega) (by omega) (by omega) (by omega)]
  · rw [t1, m12 9 (by omega) (by omega), r9, cpb _ _ _ (by omega), m4k 9 (by omega) (by omega) (by omega) (by omega)]
  · rw [t1, m12 10 (by omega) (by omega), r10, cpb _ _ _ (by omega), m4k 10 (by omega) (by omega) (by omega) (by omega)]
  · rw [t1, hM12, sI_s, upd_n _ (by omega), sI_n _ (by omega), m7 12 (by omega) (by omega) (by omega), m4k 12 (by omega) (by omega) (by omega) (by omega)]
  · have e2 : M12.2 = M.2 := by rw [hM12, hM7, hM4]; rfl
    have := t3 (36 * f + i) (by omega)
    rw [e2] at this
    exact this
