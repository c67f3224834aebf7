/-! act, trace, count, drop, same -/
/-- what the reference has of a fit is as it was -/
def KeepF (M M' : MS) (fi : Nat) : Prop := (M'.1 5 fi = M.1 5 fi ∧ M'.1 6 fi = M.1 6 fi ∧ M'.1 7 fi = M.1 7 fi ∧ M'.1 11 fi = M.1 11 fi) ∧ (∀ i, i < 12 → M'.1 8 (12 * fi + i) = M.1 8 (12 * fi + i) ∧ M'.1 9 (12 * fi + i) = M.1 9 (12 * fi + i) ∧ M'.1 10 (12 * fi + i) = M.1 10 (12 * fi + i) ∧ M'.1 12 (12 * fi + i) = M.1 12 (12 * fi + i)) ∧ ∀ i, i < 36 → M'.2 13 (36 * fi + i) = M.2 13 (36 * fi + i) ∧ M'.2 14 (36 * fi + i) = M.2 14 (36 * fi + i)
theorem KeepF.of {M M' : MS} {fi : Nat} (h2 : M'.2 = M.2) (h1 : ∀ k, 5 ≤ k → k ≤ 12 → M'.1 k = M.1 k) : KeepF M M' fi := by
  unfold KeepF
  rw [h2, h1 5 (by omega) (by omega), h1 6 (by omega) (by omega), h1 7 (by omega) (by omega), h1 11 (by omega) (by omega), h1 8 (by omega) (by omega), h1 9 (by omega) (by omega), h1 10 (by omega) (by omega), h1 12 (by omega) (by omega)]
  exact ⟨⟨rfl, rfl, rfl, rfl⟩, fun _ _ => ⟨rfl, rfl, rfl, rfl⟩, fun _ _ => ⟨rfl, rfl⟩⟩
theorem KeepF.tr {M M1 M2 : MS} {fi : Nat} (h1 : KeepF M M1 fi) (h2 : KeepF M1 M2 fi) : KeepF M M2 fi := by
  obtain ⟨⟨a1, a2, a3, a4⟩, a5, a6⟩ := h1
  obtain ⟨⟨b1, b2, b3, b4⟩, b5, b6⟩ := h2
  exact ⟨⟨b1.trans a1, b2.trans a2, b3.trans a3, b4.trans a4⟩, fun i hi => ⟨(b5 i hi).1.trans (a5 i hi).1, (b5 i hi).2.1.trans (a5 i hi).2.1, (b5 i hi).2.2.1.trans (a5 i hi).2.2.1, (b5 i hi).2.2.2.trans (a5 i hi).2.2.2⟩, fun i hi => ⟨(b6 i hi).1.trans (a6 i hi).1, (b6 i hi).2.trans (a6 i hi).2⟩⟩
theorem KeepF.scr {M M' : MS} {fi : Nat} (h : Scr M M') : KeepF M M' fi := by
  unfold KeepF
  rw [h.2.1, h.2.2, h.1 5 (by omega), h.1 6 (by omega), h.1 7 (by omega), h.1 11 (by omega), h.1 8 (by omega), h.1 9 (by omega), h.1 10 (by omega), h.1 12 (by omega)]
  exact ⟨⟨rfl, rfl, rfl, rfl⟩, fun _ _ => ⟨rfl, rfl, rfl, rfl⟩, fun _ _ => ⟨rfl, rfl⟩⟩
theorem FitIs.keep {S S' : GS} {M M' : MS} {o fi a len : Nat} (h : FitIs S M o fi a len) (hS : S.2 ≤ S'.2) (hc : ∀ b, a ≤ b → b < a + len → S'.1 b = S.1 b) (hM : KeepF M M' fi) : FitIs S' M' o fi a len := by
  obtain ⟨g1, g2, g3, kd, dg, n, P, V, Z, pc, bg, C, g4, g5, g6, g7⟩ := h
  have hn := g5.1.1
  have hpc := g5.2.2.2.2.2.1
  refine ⟨g1, by omega, g3, kd, dg, n, P, V, Z, pc, bg, C, ?_, g5, ?_, g7⟩
  · obtain ⟨w1, w2, rm, G, Bg, r1, r2, r3, r4, r5, r6, r7⟩ := g4
    refine ⟨(hc _ (by omega) (by omega)).trans w1, ⟨(hc _ (by omega) (by omega)).trans w2.1, (hc _ (by omega) (by omega)).trans w2.2.1, (hc _ (by omega) (by omega)).trans w2.2.2.1, (hc _ (by omega) (by omega)).trans w2.2.2.2⟩, rm, G, Bg, r1, r2, r3, (hc _ (by omega) (by omega)).trans r4, (hc _ (by omega) (by omega)).trans r5, r6, fun j hj => ?_⟩
    obtain ⟨p, p1, p2, p3, p4⟩ := r7 j hj
    exact ⟨p, p1, p2, p3, (hc _ (by omega) (by omega)).trans p4⟩
  · obtain ⟨⟨m5, m6, m7, mi⟩, m11, mj⟩ := g6
    obtain ⟨⟨k5, k6, k7, k11⟩, k8, k13⟩ := hM
    refine ⟨⟨k5.trans m5, k6.trans m6, k7.trans m7, fun i hi => ?_⟩, k11.trans m11, fun j hj => ⟨(k8 j (by omega)).2.2.2.trans (mj j hj).1, ?_⟩⟩
    · obtain ⟨e1, e2, e3, -⟩ := k8 i (by omega)
      obtain ⟨d1, d2, d3⟩ := mi i hi
      exact ⟨e1.trans d1, e2.trans d2, e3.trans d3⟩
    · obtain ⟨⟨a1, a2⟩, ⟨b1, b2⟩, c1, c2⟩ := (mj j hj).2
      have e0 := k13 (3 * j) (by omega)
      have e1 := k13 (3 * j + 1) (by omega)
      have e2 := k13 (3 * j + 2) (by omega)
      rw [← Nat.add_assoc] at e1 e2
      exact ⟨⟨e0.1.trans a1, e0.2.trans a2⟩, ⟨e1.1.trans b1, e1.2.trans b2⟩, e2.1.trans c1, e2.2.trans c2⟩
def ActOk (S : GS) (M : MS) (o : Nat) : Prop := ∃ L : List Int32, L.length ≤ 50 ∧ CT S (o + 15) L ∧ RT M L
theorem z_in03 (a : Int32) : f_X8_in a 0 3 = some 0 ∨ ∃ s, s < 4 ∧ a = nI s ∧ f_X8_in a 0 3 = some 1 := z_in3 a
section C2
variable {S : GS} {M : MS} {o cnt : Nat} {st : Int32} {F : Nat → Option Nat} {ln : Nat → Nat}
theorem c_act (hT : TopAt S o (nI cnt) st) (hF : FitsOk S M o cnt F ln) (hA : ActOk S M o) (a0 a1 a2 : Int32) : ∃ r S' M' st', f_X7_act S o a0 a1 a2 = some (r, S') ∧ f_X8_act M a0 a1 a2 = some (r, M') ∧ TopAt S' o (nI cnt) st' ∧ M'.1 18 0 = st' ∧ ActOk S' M' o ∧ S'.2 = S.2 ∧ (∀ b, b ≠ o → (b < o + 15 ∨ o + 17 ≤ b) → S'.1 b = S.1 b) ∧ M'.2 = M.2 ∧ ∀ k, k ≠ 18 → k ≠ 19 → k ≠ 20 → M'.1 k = M.1 k := by
  have hi := t_is hT
  have ref : ∃ S', f_X7_refuse S o 1 = some (-1, S') ∧ TopAt S' o (nI cnt) 1 ∧ (sI M 18 0 1).1 18 0 = 1 ∧ ActOk S' (sI M 18 0 1) o ∧ S'.2 = S.2 ∧ (∀ b, b ≠ o → (b < o + 15 ∨ o + 17 ≤ b) → S'.1 b = S.1 b) ∧ (sI M 18 0 1).2 = M.2 ∧ ∀ k, k ≠ 18 → k ≠ 19 → k ≠ 20 → (sI M 18 0 1).1 k = M.1 k := by
    obtain ⟨S', e, h1, h2⟩ := t_refuse hT 1
    obtain ⟨L, l1, ⟨B, l2, l3, l4⟩, l5⟩ := hA
    exact ⟨S', e, h1, by rw [sI_s, upd_s], ⟨L, l1, ⟨B, (h2.2 _ (by omega)).trans l2, (h2.2 _ (by omega)).trans l3, l4⟩, l5⟩, h2.1, fun b b1 _ => h2.2 b (by omega), rfl, fun k k1 _ _ => sI_n _ k1⟩
  unfold f_X7_act f_X8_act
  rw [z_chk_t hi]
  rcases z_fit hT hF a0 with ⟨h1, h2⟩ | ⟨f, a, f1, f2, rfl, f3, f4, f5⟩
  · obtain ⟨S', e, r1⟩ := ref
    exact ⟨-1, S', _, 1, by rw [h2, z_bd_s, z_mt_N, z_chk_t hi, e, z_bd2_s], by rw [h1, z_bd_s, if_pos rfl, m_refuse, z_bd2_s], r1⟩
  · rw [f4, z_bd_s, z_mt_S, f3, z_bd_s, if_neg z_10, z_within]
    rcases z_in03 a1 with k1 | ⟨c, hc, rfl, k1⟩
    · obtain ⟨S', e, r1⟩ := ref
      exact ⟨-1, S', _, 1, by rw [k1, z_bd_s, if_pos rfl, z_chk_t hi, e, z_bd2_s], by rw [k1, z_bd_s, if_pos rfl, m_refuse, z_bd2_s], r1⟩
    · obtain ⟨g1, g2, g3, kd, dg, n, P, V, Z, pc, bg, C, g4, g5, g6, g7⟩ := f5
      obtain ⟨L, l1, ⟨B, l2, l3, l4⟩, l5⟩ := hA
      have hKd : Kd kd := g5.2.2.2.2.2.2.1
      rw [k1, z_bd_s, z_bd_s, if_neg z_10, if_neg z_10, g_r_e (k := 5) hT rfl, z_bd_s, z_chk_t (g_is_e l2)]
      have e1 := g_put_e (k := 1) (.int (0 : Int32)) l2 (Nat.le_of_ble_eq_true rfl)
      obtain ⟨S1, hS1⟩ : ∃ z, z = g_up S (o + 15) (e_o 0 ([Value.ref (o + 15 + 1), Value.int (nI L.length)].set 1 (Value.int (0 : Int32)))) := ⟨_, rfl⟩
      rw [← hS1] at e1
      have s1 : Same S S1 (o + 15) 2 := by rw [hS1]; exact Same.up (by omega)
      have ct1 : CT S1 (o + 15) [] := ⟨B, by rw [hS1, g_up_s]; rfl, by rw [hS1, g_up_n _ (by omega)]; exact l3, fun i x hx => by cases hx⟩
      have ao1 : AO S1 a n (nI f) kd dg (nI pc) P V Z := ⟨g4.1.same s1 (by omega), g4.2.1.same s1 (by omega)⟩
      have rt1 : RT (sI M 20 0 0) [] := ⟨by rw [sI_s, upd_s]; rfl, fun i x hx => by cases hx⟩
      have h5 : (sI M 20 0 0).1 5 f = kd := by rw [sI_n _ (by omega)]; exact g6.1.1
      have h7 : (sI M 20 0 0).1 7 f = nI n := by rw [sI_n _ (by omega)]; exact g6.1.2.2.1
      have fin : ∀ (lv lnn : Nat) (g : MS → Option (Int32 × MS)), lv ≤ 20 → lnn ≤ 50 → JJ a (o + 15) n f kd dg (nI pc) P V Z kd (nI c) a2 lv lnn g → (z_bd2 (if nI c = 0 then z_bd2 (f_X8_fit0 (sI M 20 0 0) (nI f) a2) fun r_15 M_14 => some (r_15, M_14) else if nI c = (1 : Int32) then z_bd2 (f_X8_miss0 (sI M 20 0 0) (nI f) a2) fun r_13 M_12 => some (r_13, M_12) else if nI c = (2 : Int32) then z_bd2 (f_X8_bend0 (sI M 20 0 0) (nI f) a2) fun r_11 M_10 => some (r_11, M_10) else z_bd2 (f_X8_tell0 (sI M 20 0 0) (nI f) a2) fun r_9 M_8 => some (r_9, M_8)) fun v M' => (some (v, M') : Option (Int32 × MS))) = g (sI M 20 0 0) → ∃ r S' M' st', (z_bd2 (f_X0_start S (o + 15) a (nI c) a2) fun r_8 S_7 => z_chk (g_is S_7 7 o) (z_bd2 (f_X7_done S_7 o r_8) fun r_10 S_9 => some (r_10, S_9))) = some (r, S') ∧ (z_lt (sI M 20 0 (0 : Int32)) fun M_5 => z_bd2 (if nI c = 0 then z_bd2 (f_X8_fit0 M_5 (nI f) a2) fun r_15 M_14 => some (r_15, M_14) else if nI c = (1 : Int32) then z_bd2 (f_X8_miss0 M_5 (nI f) a2) fun r_13 M_12 => some (r_13, M_12) else if nI c = (2 : Int32) then z_bd2 (f_X8_bend0 M_5 (nI f) a2) fun r_11 M_10 => some (r_11, M_10) else z_bd2 (f_X8_tell0 M_5 (nI f) a2) fun r_9 M_8 => some (r_9, M_8)) fun v_6 M_7 => z_bd2 (f_X8_done M_7 v_6) fun r_17 M_16 => some (r_17, M_16)) = some (r, M') ∧ TopAt S' o (nI cnt) st' ∧ M'.1 18 0 = st' ∧ ActOk S' M' o ∧ S'.2 = S.2 ∧ (∀ b, b ≠ o → (b < o + 15 ∨ o + 17 ≤ b) → S'.1 b = S.1 b) ∧ M'.2 = M.2 ∧ ∀ k, k ≠ 18 → k ≠ 19 → k ≠ 20 → M'.1 k = M.1 k := by
        intro lv lnn g hlv hln hJ hg
        obtain ⟨v, E, j1, j2, j3⟩ := hJ
        have hcr := j2 (24 - lv) 0 ⟨0, rfl, by omega⟩
        rw [show 24 - lv + lv = 24 by omega] at hcr
        obtain ⟨S2, q1, q2, q3⟩ := hcr S1 [] ct1 (by show 0 + E.length ≤ 50; omega) ao1 (by omega)
        obtain ⟨M2, w1, w2, w3, w4⟩ := j3 (sI M 20 0 0) [] rt1 (by show 0 + E.length ≤ 50; omega) h5 h7
        have hT2 : TopAt S2 o (nI cnt) st := ((q3.2 o (by omega)).trans (s1.2 o (by omega))).trans hT
        obtain ⟨S3, d1, d2, d3⟩ := t_done hT2 v
        rw [w1] at hg
        refine ⟨v, S3, sI M2 18 0 0, 0, ?_, ?_, d2, by rw [sI_s, upd_s], ⟨E, by omega, ?_, ?_⟩, by rw [d3.1, q3.1, s1.1], fun b b1 b2 => ?_, w3, fun k k1 k2 k3 => ?_⟩
        · unfold f_X0_start
          rw [e1, z_bd_s, ao1.1.i1, z_bd_s, z_chk_t ct1.is, q1, z_bd2_s, z_bd2_s, z_chk_t (t_is hT2), d1, z_bd2_s]
        · obtain ⟨v', M', y1, y2⟩ := z_bd2_some hg
          cases y2
          rw [z_lt_e, y1, z_bd2_s, m_done, z_bd2_s]
        · obtain ⟨B', b1, b2, b3⟩ := q2
          exact ⟨B', (d3.2 _ (by omega)).trans b1, (d3.2 _ (by omega)).trans b2, b3⟩
        · exact ⟨by rw [sI_n _ (by omega)]; exact w2.1, fun i x hx => by rw [sI_n _ (by omega)]; exact w2.2 i x hx⟩
        · rw [d3.2 b (by omega), q3.2 b (by omega), s1.2 b (by omega)]
        · rw [sI_n _ k1, w4 k k2 k3, sI_n _ k3]
      rcases (show c = 0 ∨ c = 1 ∨ c = 2 ∨ c = 3 by omega) with rfl | rfl | rfl | rfl
      · refine fin 3 3 _ (by omega) (by omega) (j_fit f2 hKd a2) ?_
        rw [if_pos (show nI 0 = (0 : Int32) from rfl)]
        cases f_X8_fit0 (sI M 20 0 0) (nI f) a2 <;> rfl
      · refine fin 5 8 _ (by omega) (by omega) (j_miss f2 hKd a2) ?_
        rw [if_neg (by decide), if_pos (show nI 1 = (1 : Int32) from rfl)]
        cases f_X8_miss0 (sI M 20 0 0) (nI f) a2 <;> rfl
      · refine fin 2 3 _ (by omega) (by omega) (j_bend f2 hKd a2) ?_
        rw [if_neg (by decide), if_neg (by decide), if_pos (show nI 2 = (2 : Int32) from rfl)]
        cases f_X8_bend0 (sI M 20 0 0) (nI f) a2 <;> rfl
      · refine fin 7 16 _ (by omega) (by omega) (j_tell f2 hKd a2) ?_
        rw [if_neg (by decide), if_neg (by decide), if_neg (by decide)]
        cases f_X8_tell0 (sI M 20 0 0) (nI f) a2 <;> rfl
theorem c_trace (hT : TopAt S o (nI cnt) st) (hA : ActOk S M o) (a0 : Int32) : ∃ r, f_X7_trace S o a0 = some r ∧ f_X8_trace M a0 = some r := by
  obtain ⟨L, l1, ⟨B, l2, l3, l4⟩, l5, l6⟩ := hA
  unfold f_X7_trace f_X8_trace
  have hv : (if (50 : Int32) ≤ M.1 20 0 then some (50 : Int32) else some (M.1 20 0)) = some (nI L.length) := by
    rw [l5, show (50 : Int32) = nI 50 from rfl]
    by_cases q : L.length = 50
    · rw [if_pos (by rw [n_le (by omega) (by omega)]; omega), q]
    · rw [if_neg (by rw [n_le (by omega) (by omega)]; omega)]
  rw [hv, z_bd_s, g_r_e (k := 5) hT rfl, z_bd_s, g_i_e (k := 1) l2 rfl, z_bd_s]
  rcases z_idx L.length (by omega) a0 with ⟨h1, h2⟩ | ⟨k, h1, rfl, h2⟩
  · refine ⟨-1, ?_, by rw [h2, z_bd_s, if_pos rfl]⟩
    by_cases z : a0 < 0
    · rw [if_pos z]
    · rw [if_neg z, if_pos (by rcases h1 with y | y; exact absurd y z; exact y)]
  · obtain ⟨x, hx⟩ : ∃ x, L[k]? = some x := ⟨L[k], List.getElem?_eq_getElem h1⟩
    refine ⟨x, ?_, ?_⟩
    · rw [show (0 : Int32) = nI 0 from rfl, if_neg (by rw [n_lt (by omega) (by omega)]; omega), if_neg (by rw [n_le (by omega) (by omega)]; omega), show (50 : Int32) = nI 50 from rfl, if_neg (by rw [n_le (by omega) (by omega)]; omega), z_bd_s, g_r_e (k := 0) l2 rfl, z_bd_s, g_rI_e l3 (by rw [n_in (by omega)]; omega), z_bd_s, n_cl (by omega), l4 k x hx]
    · rw [h2, z_bd_s, if_neg z_10, z_chk_t (by rw [n_in (by omega)]; omega), n_cl (by omega), l6 k x hx]
theorem c_count (hT : TopAt S o (nI cnt) st) (hF : FitsOk S M o cnt F ln) (hA : SetsArr S o) (hO : SetsOk S M o) (hAc : ActOk S M o) (a0 : Int32) : ∃ r, f_X7_count S o a0 = some r ∧ f_X8_count M a0 = some r := by
  obtain ⟨L, l1, ⟨B, l2, l3, l4⟩, l5, l6⟩ := hAc
  unfold f_X7_count f_X8_count
  rw [g_i_e (k := 6) hT rfl, z_bd_s, g_r_e (k := 5) hT rfl, z_bd_s, g_i_e (k := 1) l2 rfl, z_bd_s, hF.2.1, l5]
  by_cases c0 : a0 = 0
  · exact ⟨_, by rw [if_pos c0], by rw [if_pos c0]⟩
  · rw [if_neg c0, if_neg c0]
    by_cases c1 : a0 = 1
    · exact ⟨_, by rw [if_pos c1], by rw [if_pos c1]⟩
    · rw [if_neg c1, if_neg c1]
      by_cases z : (2 : Int32) ≤ a0
      · have z1 : 0 ≤ a0 := by
          rw [Int32.le_iff_toInt_le] at z ⊢
          have e1 : (2 : Int32).toInt = 2 := by decide
          have e2 : (0 : Int32).toInt = 0 := by decide
          omega
        obtain ⟨k, hk, rfl⟩ := n_of z1
        rw [show (2 : Int32) = nI 2 from rfl, n_le (by omega) hk] at z
        rw [show (2 : Int32) = nI 2 from rfl, if_pos (by rw [n_le (by omega) hk]; exact z), z_chk_t (t_is hT), n_sub z]
        unfold f_X8_in
        rw [if_neg (by rw [n_lt hk (by omega)]; omega), show (7 : Int32) = nI 7 from rfl]
        by_cases z2 : k - 2 < 6
        · rw [if_neg (by rw [n_lt (by omega) hk]; omega), z_bd_s, if_neg z_10, t_setAt hT hA z2, z_bd_s, z_bd_s, z_mt_S]
          obtain ⟨n, P, V, Z, p1, p2, p3, p4⟩ := hO (k - 2) z2
          exact ⟨nI n, by rw [p1.sz, z_bd_s], by rw [z_chk_t (by rw [n_in (by omega)]; exact z2), n_cl (by omega), p3]⟩
        · rw [if_pos (by rw [n_lt (by omega) hk]; omega), z_bd_s, if_pos rfl, t_setAt0 (Or.inr (by rw [show (6 : Int32) = nI 6 from rfl, n_le (by omega) (by omega)]; omega)), z_bd_s, z_bd_s, z_mt_N]
          exact ⟨_, rfl, rfl⟩
      · refine ⟨-1, by rw [if_neg z, z_bd_s, z_mt_N], ?_⟩
        unfold f_X8_in
        rw [if_pos (by
          rw [Int32.le_iff_toInt_le] at z
          rw [Int32.lt_iff_toInt_lt]
          omega), z_bd_s, if_pos rfl]
theorem c_drop (hT : TopAt S o (nI cnt) st) (hF : FitsOk S M o cnt F ln) (h68 : o + 68 ≤ S.2) : ∃ r S' M' st' cnt' F', f_X7_drop S o = some (r, S') ∧ f_X8_drop M = some (r, M') ∧ TopAt S' o (nI cnt') st' ∧ M'.1 18 0 = st' ∧ FitsOk S' M' o cnt' F' ln ∧ cnt' ≤ cnt ∧ (∀ f, f < cnt' → F' f = F f) ∧ S'.2 = S.2 ∧ (∀ b, b ≠ o → b ≠ o + 2 → S'.1 b = S.1 b) ∧ M'.2 = M.2 ∧ ∀ k, k ≠ 4 → k ≠ 18 → M'.1 k = M.1 k := by
  have hi := t_is hT
  obtain ⟨h1, h2, h3, h4, h5⟩ := id hF
  by_cases z : cnt = 0
  · subst z
    obtain ⟨S', e, t1, t2⟩ := t_refuse hT 3
    refine ⟨-1, S', sI M 18 0 3, 3, 0, F, ?_, ?_, t1, by rw [sI_s, upd_s], ⟨(t2.2 _ (by omega)).trans h1, h2, h3, fun f hf => by omega, h5⟩, Nat.le_refl _, fun f hf => by omega, t2.1, fun b b1 _ => t2.2 b (by omega), rfl, fun k _ k2 => sI_n _ k2⟩
    · unfold f_X7_drop
      rw [g_i_e (k := 6) hT rfl, z_bd_s, if_neg (by decide), z_chk_t hi, e, z_bd2_s]
    · unfold f_X8_drop
      rw [h2, if_pos (show nI 0 = (0 : Int32) from rfl), m_refuse, z_bd2_s]
  · have e1 := g_put_e (k := 6) (.int (nI (cnt - 1))) hT (Nat.le_of_ble_eq_true rfl)
    obtain ⟨S1, hS1⟩ : ∃ y, y = g_up S o (e_o 7 ([Value.ref (o + 1), .ref (o + 2), .ref (o + 3), .ref (o + 4), .ref (o + 13), .ref (o + 15), .int (nI cnt), .int st].set 6 (.int (nI (cnt - 1))))) := ⟨_, rfl⟩
    rw [← hS1] at e1
    have hT1 : TopAt S1 o (nI (cnt - 1)) st := by rw [hS1]; unfold TopAt; rw [g_up_s]; rfl
    have hF1 : S1.1 (o + 2) = some (e_q 1 10 F) := by rw [hS1, g_up_n _ (by omega)]; exact h1
    have e2 : g_wQ S1 1 (o + 2) (nI (cnt - 1)) none = some (g_up S1 (o + 2) (e_q 1 10 (va_up F (cnt - 1) none))) := by rw [g_wQ_e none hF1 (by rw [n_in (by omega)]; omega), n_cl (by omega)]
    obtain ⟨S2, hS2⟩ : ∃ y, y = g_up S1 (o + 2) (e_q 1 10 (va_up F (cnt - 1) none)) := ⟨_, rfl⟩
    rw [← hS2] at e2
    have hT2 : TopAt S2 o (nI (cnt - 1)) st := by rw [hS2]; exact (g_up_n _ (by omega)).trans hT1
    obtain ⟨S3, e3, t1, t2⟩ := t_done hT2 (nI (cnt - 1))
    have hc : ∀ b, b ≠ o → b ≠ o + 2 → S3.1 b = S.1 b := by
      intro b b1 b2
      rw [t2.2 b (by omega), hS2, g_up_n _ b2, hS1, g_up_n _ b1]
    have hz : S3.2 = S.2 := by rw [t2.1, hS2, g_up_2, hS1, g_up_2]
    refine ⟨nI (cnt - 1), S3, sI (sI M 4 0 (nI (cnt - 1))) 18 0 0, 0, cnt - 1, va_up F (cnt - 1) none, ?_, ?_, t1, by rw [sI_s, upd_s], ⟨?_, ?_, by omega, fun f hf => ?_, fun f f1 f2 => ?_⟩, by omega, fun f hf => va_up_n _ (by omega), hz, hc, rfl, fun k k1 k2 => by rw [sI_n _ k2, sI_n _ k1]⟩
    · unfold f_X7_drop
      rw [g_i_e (k := 6) hT rfl, z_bd_s, show (0 : Int32) = nI 0 from rfl, if_pos (by rw [n_lt (by omega) (by omega)]; omega), z_bd_s, show (1 : Int32) = nI 1 from rfl, n_sub (by omega), e1, z_bd_s, g_r_e (k := 1) hT1 rfl, z_bd_s, g_i_e (k := 6) hT1 rfl, z_bd_s, e2, z_bd_s, g_i_e (k := 6) hT2 rfl, z_bd_s, z_chk_t (t_is hT2), e3, z_bd2_s]
    · unfold f_X8_drop
      rw [h2, if_neg (by rw [show (0 : Int32) = nI 0 from rfl, n_eq (by omega) (by omega)]; exact z), z_lt_e, show (1 : Int32) = nI 1 from rfl, n_sub (by omega), sI_s, upd_s, m_done, z_bd2_s]
    · rw [t2.2 _ (by omega), hS2, g_up_s]
    · rw [sI_n _ (by omega), sI_s, upd_s]
    · obtain ⟨a, a1, a2⟩ := h4 f (by omega)
      have a3 := a2.1
      exact ⟨a, by rw [va_up_n _ (by omega)]; exact a1, a2.keep (by omega) (fun b b1 b2 => hc b (by omega) (by omega)) (KeepF.of rfl (fun k k1 k2 => by rw [sI_n _ (by omega), sI_n _ (by omega)]))⟩
    · by_cases y : f = cnt - 1
      · rw [y, va_up_s]
      · rw [va_up_n _ y]; exact h5 f (by omega) f2
theorem c_status (hT : TopAt S o (nI cnt) st) (hs : M.1 18 0 = st) : ∃ r, f_X7_status S o = some r ∧ f_X8_status M = some r := by
  unfold f_X7_status f_X8_status
  exact ⟨st, by rw [g_i_e (k := 7) hT rfl, z_bd_s], by rw [hs]⟩
theorem m_same_lp {f f' : Nat} {c c' : Pol4} (hm : MPol M (36 * f) c) (hm' : MPol M (36 * f') c') (hc : PolK c) (hc' : PolK c') (hf : f < 10) (hf' : f' < 10) : z_lp (fun x => f_X8_same_L43 M (nI f) (nI f') x.1 x.2) ((1 : Int32), (0 : Int32)) = some (if q0F c = q0F c' ∧ q1F c = q1F c' ∧ q2F c = q2F c' then 1 else 0) := by
  obtain ⟨⟨p1, p2, p3, p4, p5⟩, -⟩ := hc
  obtain ⟨⟨r1, r2, r3, r4, r5⟩, -⟩ := hc'
  have st : ∀ (k : Nat) (q q' : Rat) (x : Int32), k < 3 → M.2 13 (36 * f + k) = jI q.num → M.2 14 (36 * f + k) = jI (q.den : Int) → M.2 13 (36 * f' + k) = jI q'.num → M.2 14 (36 * f' + k) = jI (q'.den : Int) → (q.num.natAbs ≤ 33554432 ∧ ((q.den : Nat) : Int).natAbs ≤ 1048576) → (q'.num.natAbs ≤ 33554432 ∧ ((q'.den : Nat) : Int).natAbs ≤ 1048576) → f_X8_same_L43 M (nI f) (nI f') x (nI k) = some (.inr (if x = 0 then 0 else if q = q' then 1 else 0, nI (k + 1))) := by
    intro k q q' x hk a1 a2 b1 b2 ha hb
    have e0 : ((36 : Int32) * nI f) + nI k = nI (36 * f + k) := by rw [show (36 : Int32) = nI 36 from rfl, n_mul, n_add]
    have e1 : ((36 : Int32) * nI f') + nI k = nI (36 * f' + k) := by rw [show (36 : Int32) = nI 36 from rfl, n_mul, n_add]
    have i0 : z_in (nI (36 * f + k)) 360 := by rw [n_in (by omega)]; omega
    have i1 : z_in (nI (36 * f' + k)) 360 := by rw [n_in (by omega)]; omega
    unfold f_X8_same_L43
    rw [show (3 : Int32) = nI 3 from rfl, if_neg (by rw [n_le (by omega) (by omega)]; omega), show nI k + 1 = nI (k + 1) from n_add k 1]
    simp only [e0, e1, z_chk_t i0, z_chk_t i1]
    rw [n_cl (by omega), n_cl (by omega), a1, a2, b1, b2]
    simp only [j_cmp0 (a := q.num) (b := q'.num) (by omega) (by omega) (by omega) (by omega), j_cmp0 (a := (q.den : Int)) (b := (q'.den : Int)) (by omega) (by omega) (by omega) (by omega)]
    by_cases z : x = 0
    · rw [if_pos z, if_pos z]
    · rw [if_neg z, if_neg z]
      by_cases y : q = q'
      · rw [if_pos y, if_pos (by rw [y]), if_pos (by rw [y])]
      · rw [if_neg y]
        by_cases y1 : q.num = q'.num
        · rw [if_pos y1, if_neg (fun y2 => y (rat_nd y1 (by omega)))]
        · rw [if_neg y1]
  have s0 := st 0 _ _ 1 (by omega) hm.1.1 hm.1.2 hm'.1.1 hm'.1.2 (rt_bd rfl p1 p3 (by omega)) (rt_bd rfl r1 r3 (by omega))
  have s1 := fun x => st 1 _ _ x (by omega) hm.2.1.1 hm.2.1.2 hm'.2.1.1 hm'.2.1.2 (rt_bd rfl p1 p4 (by omega)) (rt_bd rfl r1 r4 (by omega))
  have s2 := fun x => st 2 _ _ x (by omega) hm.2.2.1 hm.2.2.2 hm'.2.2.1 hm'.2.2.2 (rt_bd rfl p1 p5 (by omega)) (rt_bd rfl r1 r5 (by omega))
  have fin3 : ∀ x : Int32, z_lp (fun x => f_X8_same_L43 M (nI f) (nI f') x.1 x.2) (x, nI 3) = some x := fun x => z_lp_x (show f_X8_same_L43 M (nI f) (nI f') x (nI 3) = some (Sum.inl x) by unfold f_X8_same_L43; rw [if_pos (by decide)])
  rw [show ((1 : Int32), (0 : Int32)) = ((1 : Int32), nI 0) from rfl, z_lp_n s0, z_lp_n (s1 _), z_lp_n (s2 _)]
  refine (fin3 _).trans ?_
  by_cases y0 : q0F c = q0F c'
  · by_cases y1 : q1F c = q1F c'
    · by_cases y2 : q2F c = q2F c'
      · simp [y0, y1, y2]
      · simp [y0, y1, y2]
    · simp [y0, y1]
  · simp [y0]
theorem p_first0 {a f pc n len : Nat} {kd dg : Int32} {P V Z : Nat → Int32} {bg : Nat → Nat} {C : Nat → Pol4} (g4 : FitAt S a f kd dg n P V Z pc bg C len) : ∃ p, f_X1_firstPart S a = some (some p) ∧ PolA S p (C 0) ∧ a + 7 ≤ p ∧ p < a + len := by
  obtain ⟨hF', hp, rm, G, Bg, r1, r2, r3, r4, r5, r6, r7⟩ := g4
  obtain ⟨p, p1, p2, p3, p4⟩ := r7 0 (Or.inr rfl)
  refine ⟨p, ?_, p4, p2, p3⟩
  unfold f_X1_firstPart
  rw [hF'.r4, z_bd_s, show (0 : Int32) = nI 0 from rfl, g_rQ_e r4 (by rw [n_in (by omega)]; omega), z_bd_s, n_cl (by omega), p1]
theorem c_same (hT : TopAt S o (nI cnt) st) (hF : FitsOk S M o cnt F ln) (a0 a1 : Int32) : ∃ r, f_X7_same S o a0 a1 = some r ∧ f_X8_same M a0 a1 = some r := by
  unfold f_X7_same f_X8_same
  rw [z_chk_t (t_is hT)]
  rcases z_fit hT hF a0 with ⟨h1, h2⟩ | ⟨f, a, f1, f2, rfl, f3, f4, f5⟩
  · rcases z_fit hT hF a1 with ⟨k1, k2⟩ | ⟨f', b, k1, k2, rfl, k3, k4, k5⟩
    · exact ⟨_, by rw [h2, z_bd_s, z_chk_t (t_is hT), k2, z_bd_s, z_mt_N], by rw [h1, z_bd_s, if_pos rfl]⟩
    · exact ⟨_, by rw [h2, z_bd_s, z_chk_t (t_is hT), k4, z_bd_s, z_mt_N], by rw [h1, z_bd_s, if_pos rfl]⟩
  · rw [f4, z_bd_s, z_chk_t (t_is hT), f3, z_bd_s, if_neg z_10]
    rcases z_fit hT hF a1 with ⟨k1, k2⟩ | ⟨f', b, k1, k2, rfl, k3, k4, k5⟩
    · exact ⟨_, by rw [k2, z_bd_s, z_mt_S, z_mt_N], by rw [k1, z_bd_s, if_pos rfl]⟩
    · obtain ⟨g1, g2, g3, kd, dg, n, P, V, Z, pc, bg, C, g4, g5, g6, g7⟩ := f5
      obtain ⟨g1', g2', g3', kd', dg', n', P', V', Z', pc', bg', C', g4', g5', g6', g7'⟩ := k5
      have q10 : z_in (nI f) 10 := by rw [n_in (by omega)]; exact f2
      have q10' : z_in (nI f') 10 := by rw [n_in (by omega)]; exact k2
      rw [k4, z_bd_s, z_mt_S, z_mt_S, k3, z_bd_s, if_neg z_10, g4.1.i1, z_bd_s, g4'.1.i1, z_bd_s, z_chk_t q10, z_chk_t q10', n_cl (by omega), n_cl (by omega), g6.1.1, g6'.1.1]
      by_cases y1 : kd = 4
      · exact ⟨_, by rw [if_pos y1], by rw [if_pos y1]⟩
      · rw [if_neg y1, if_neg y1]
        by_cases y2 : kd' = 4
        · exact ⟨_, by rw [if_pos y2], by rw [if_pos y2]⟩
        · rw [if_neg y2, if_neg y2]
          have pc1 : pc = 1 := by
            rcases g5.2.2.1 with y | y
            · exact absurd y y1
            · exact y
          have pc1' : pc' = 1 := by
            rcases g5'.2.2.1 with y | y
            · exact absurd y y2
            · exact y
          obtain ⟨p, p1, p2, -⟩ := p_first0 g4
          obtain ⟨p', p1', p2', -⟩ := p_first0 g4'
          have hK := g5.2.1 0 (Or.inr rfl)
          have hK' := g5'.2.1 0 (Or.inr rfl)
          have hms := m_same_lp (g6.2.2 0 (by omega)).2 (g6'.2.2 0 (by omega)).2 hK hK' f2 k2
          obtain ⟨e0, e1, e2, e3⟩ := PolAt.g p2
          obtain ⟨d0, d1, d2, d3⟩ := PolAt.g p2'
          obtain ⟨⟨b1, b2, b3, b4, b5⟩, -⟩ := id hK
          obtain ⟨⟨c1, c2, c3, c4, c5⟩, -⟩ := id hK'
          have hlike : f_X4_isLike S p p' = some (if q0F (C 0) = q0F (C' 0) ∧ q1F (C 0) = q1F (C' 0) ∧ q2F (C 0) = q2F (C' 0) then 1 else 0) := by
            simp only [gc4_uq hK hK']
            unfold f_X4_isLike
            rw [e0, z_bd_s, d0, z_bd_s, e1, z_bd_s, d1, z_bd_s, e2, z_bd_s, d2, z_bd_s, e3, z_bd_s, d3, z_bd_s]
            simp only [j_cmp0 (a := (C 0).1) (b := (C' 0).1) (by omega) (by omega) (by omega) (by omega), j_cmp0 (a := (C 0).2.1) (b := (C' 0).2.1) (by omega) (by omega) (by omega) (by omega), j_cmp0 (a := (C 0).2.2.1) (b := (C' 0).2.2.1) (by omega) (by omega) (by omega) (by omega), j_cmp0 (a := (C 0).2.2.2) (b := (C' 0).2.2.2) (by omega) (by omega) (by omega) (by omega)]
            by_cases w0 : (C 0).1 = (C' 0).1
            · rw [if_pos w0]
              by_cases w1 : (C 0).2.1 = (C' 0).2.1
              · rw [if_pos w1]
                by_cases w2 : (C 0).2.2.1 = (C' 0).2.2.1
                · rw [if_pos w2]
                  by_cases w3 : (C 0).2.2.2 = (C' 0).2.2.2
                  · rw [if_pos w3, if_pos ⟨w0, w1, w2, w3⟩]
                  · rw [if_neg w3, if_neg (fun z => w3 z.2.2.2)]
                · rw [if_neg w2, if_neg (fun z => w2 z.2.2.1)]
              · rw [if_neg w1, if_neg (fun z => w1 z.2.1)]
            · rw [if_neg w0, if_neg (fun z => w0 z.1)]
          rw [z_chk_t g4.1.is, p1, z_bd_s, z_chk_t g4'.1.is, p1', z_bd_s, z_bd_s, z_bd_s, z_chk_t (g_is_e p2), hlike, z_bd_s, hms, z_bd_s]
          by_cases w : q0F (C 0) = q0F (C' 0) ∧ q1F (C 0) = q1F (C' 0) ∧ q2F (C 0) = q2F (C' 0)
          · rw [if_pos w, if_neg z_10]; exact ⟨_, rfl, rfl⟩
          · rw [if_neg w, if_pos rfl]; exact ⟨_, rfl, rfl⟩
end C2
