/-! fit, line, even: class and reference -/
theorem i_bd {x lo hi : Int32} {l h : Int} (h1 : lo ≤ x) (h2 : x ≤ hi) (e1 : lo.toInt = l) (e2 : hi.toInt = h) : l ≤ x.toInt ∧ x.toInt ≤ h := i_rng h1 h2 e1 e2
section FL
variable {S : GS} {M : MS} {o cnt : Nat} {st : Int32} {F : Nat → Option Nat} {ln : Nat → Nat}
theorem LvOk.new {S' : GS} {L : List PE} (h : LvOk S o) (hn : New S S.2 L S') (h68 : o + 68 ≤ S.2) : LvOk S' o := by
  obtain ⟨t, v, w, K, H, B, U, sz, fr, sq, c0, c1, c2, d, h⟩ := h
  refine ⟨t, v, w, K, H, B, U, sz, fr, sq, c0, c1, c2, d, fun j x hj => ?_⟩
  have hl : j < 9 := (List.getElem?_eq_some_iff.mp hj).1
  rw [hn.2.2 _ (by omega)]
  exact h j x hj
theorem SsOk.new {S' : GS} {L : List PE} (h : SsOk S o) (hn : New S S.2 L S') (h68 : o + 68 ≤ S.2) : SsOk S' o := by
  obtain ⟨R, b0, b1, x1, x2⟩ := h
  exact ⟨R, b0, b1, (hn.2.2 _ (by omega)).trans x1, (hn.2.2 _ (by omega)).trans x2⟩
theorem LvOk.same {S' : GS} {c m : Nat} (h : LvOk S o) (hs : Same S S' c m) (hd : o + 13 ≤ c ∨ c + m ≤ o + 4) : LvOk S' o := by
  obtain ⟨t, v, w, K, H, B, U, sz, fr, sq, c0, c1, c2, d, h⟩ := h
  exact ⟨t, v, w, K, H, B, U, sz, fr, sq, c0, c1, c2, d, h.same hs (by omega)⟩
theorem SsOk.same {S' : GS} {c m : Nat} (h : SsOk S o) (hs : Same S S' c m) (hd : o + 15 ≤ c ∨ c + m ≤ o + 13) : SsOk S' o := by
  obtain ⟨R, b0, b1, x1, x2⟩ := h
  exact ⟨R, b0, b1, (hs.2 _ (by omega)).trans x1, (hs.2 _ (by omega)).trans x2⟩
theorem g_good4 (a1 a2 a3 a4 : Int32) : ∃ g : Int32, (z_bd (f_X8_in a1 (-1000 : Int32) (1000 : Int32)) fun r_1 => (if r_1 = 0 then some ((0 : Int32)) else z_bd (f_X8_in a2 (-1000 : Int32) (1000 : Int32)) fun r_3 => if r_3 = 0 then some ((0 : Int32)) else z_bd (f_X8_in a3 (-1000 : Int32) (1000 : Int32)) fun r_4 => if r_4 = 0 then some ((0 : Int32)) else z_bd (f_X8_in a4 (1 : Int32) (60 : Int32)) fun r_5 => if r_5 = 0 then some ((0 : Int32)) else some ((1 : Int32)))) = some g ∧ (g = 0 ∨ (¬ g = 0 ∧ (a1.toInt.natAbs ≤ 1000 ∧ a2.toInt.natAbs ≤ 1000 ∧ a3.toInt.natAbs ≤ 1000 ∧ 1 ≤ a4.toInt ∧ a4.toInt ≤ 60))) := by
  rcases z_in01 a1 (-1000) 1000 with h | ⟨h, h1, h2⟩
  · exact ⟨0, by rw [h, z_bd_s, if_pos rfl], Or.inl rfl⟩
  · rcases z_in01 a2 (-1000) 1000 with k | ⟨k, k1, k2⟩
    · exact ⟨0, by rw [h, z_bd_s, if_neg z_10, k, z_bd_s, if_pos rfl], Or.inl rfl⟩
    · rcases z_in01 a3 (-1000) 1000 with m | ⟨m, m1, m2⟩
      · exact ⟨0, by rw [h, z_bd_s, if_neg z_10, k, z_bd_s, if_neg z_10, m, z_bd_s, if_pos rfl], Or.inl rfl⟩
      · rcases z_in01 a4 1 60 with p | ⟨p, p1, p2⟩
        · exact ⟨0, by rw [h, z_bd_s, if_neg z_10, k, z_bd_s, if_neg z_10, m, z_bd_s, if_neg z_10, p, z_bd_s, if_pos rfl], Or.inl rfl⟩
        · have e1 := i_bd (l := -1000) (h := 1000) h1 h2 (by decide) (by decide)
          have e2 := i_bd (l := -1000) (h := 1000) k1 k2 (by decide) (by decide)
          have e3 := i_bd (l := -1000) (h := 1000) m1 m2 (by decide) (by decide)
          have e4 := i_bd (l := 1) (h := 60) p1 p2 (by decide) (by decide)
          exact ⟨1, by rw [h, z_bd_s, if_neg z_10, k, z_bd_s, if_neg z_10, m, z_bd_s, if_neg z_10, p, z_bd_s, if_neg z_10], Or.inr ⟨z_10, by omega, by omega, by omega, e4.1, e4.2⟩⟩
theorem z_bd_as {α β γ : Type} (x : Option α) (k : α → Option β) (g : β → Option γ) : z_bd x (fun a => z_bd (k a) g) = z_bd (z_bd x k) g := by cases x <;> rfl
theorem fitX_no {kd dg : Int32} {n : Nat} {P V Z : Nat → Int32} {c : Pol4} (h : ¬ (kd = 1 ∨ kd = 2)) : FitX kd dg n P V Z c := fun z => absurd z h
theorem c_fit (hT : TopAt S o (nI cnt) st) (hA : SetsArr S o) (hO : SetsOk S M o) (hF : FitsOk S M o cnt F ln) (hL : LvOk S o) (hX : SsOk S o) (h68 : o + 68 ≤ S.2) (a0 a1 a2 a3 a4 : Int32) : ∃ r S' M', f_X7_fit S o a0 a1 a2 a3 a4 = some (r, S') ∧ f_X8_fit M a0 a1 a2 a3 a4 = some (r, M') ∧ NewRes S S' M M' o cnt F ln := by
  have hi := t_is hT
  have hc10 := hF.2.2.1
  obtain ⟨S1, e1, e2, e3⟩ := n_ref (M := M) hT hF hL hX 1
  obtain ⟨S2, d1, d2, d3⟩ := n_ref (M := M) hT hF hL hX 2
  obtain ⟨g, gg, gv⟩ := g_good4 a1 a2 a3 a4
  unfold f_X7_fit f_X8_fit
  rw [z_chk_t hi]
  simp only [z_within]
  rw [z_bd_as, gg, z_bd_s]
  obtain ⟨wn1, wn2, wn3⟩ := m_whyNot (M := M) (cnt := cnt) (a0 := a0) (g := g) hF.2.1 hc10
  rcases z_in05 a0 with ⟨h1, h2⟩ | ⟨s, hs, rfl, h1⟩
  · refine ⟨-1, S1, _, ?_, by rw [wn1 h1, z_bd_s, if_neg z_10, e2, z_bd2_s], e3⟩
    rw [t_setAt0 h2, z_bd_s, z_bd_as, gg, z_bd_s, z_mt_N, z_chk_t hi, e1, z_bd2_s]
  · rw [t_setAt hT hA hs, z_bd_s, z_bd_as, gg, z_bd_s, z_mt_S]
    rcases gv with g0 | ⟨g0, v1, v2, v3, v4, v5⟩
    · exact ⟨-1, S1, _, by rw [if_pos g0, z_chk_t hi, e1, z_bd2_s], by rw [wn2 h1 g0, z_bd_s, if_neg z_10, e2, z_bd2_s], e3⟩
    · rw [if_neg g0, g_i_e (k := 6) hT rfl, z_bd_s, wn3 h1 g0, z_bd_s]
      by_cases hc : cnt = 10
      · exact ⟨-1, S2, _, by rw [if_neg (by rw [hc]; decide), z_chk_t hi, d1, z_bd2_s], by rw [if_pos hc, if_neg (by decide), d2, z_bd2_s], d3⟩
      · have hc9 : cnt < 10 := by omega
        rw [if_pos (by rw [show (10 : Int32) = nI 10 from rfl, n_lt (by omega) (by omega)]; exact hc9), if_neg hc, if_pos rfl]
        obtain ⟨n, P, V, Z, p1, p2, p3, p4⟩ := hO s hs
        obtain ⟨S3, S6, k1, k2, k3, k4, k5⟩ := p_make hT hs p1 p2.1 h68 0 2
        have hfa := fitL_at k5 p2.1
        rw [if_neg (show ¬ (0 : Int32) = 4 by decide)] at hfa
        obtain ⟨p, f1, f2, f3, f4⟩ := p_first0 hfa
        have ep : p = S.2 + 7 := by omega
        subst ep
        obtain ⟨S7, x0, x1, x2, y, b1, b2, b3, b4, b5, b6, b7, b8⟩ := p_become2 (c0 := a1.toInt) (c1 := a2.toInt) (c2 := a3.toInt) (d := a4.toInt) (N0 := a1.toInt) (N1 := a2.toInt) (N2 := a3.toInt) (D := a4.toInt) f2 (by omega) (by omega) (by omega) (by omega) (by omega) ⟨by omega, by omega, by omega, by omega, by omega⟩ rfl rfl rfl
        have hfb := fit_part hfa b3 (c' := (x0, x1, x2, y)) b2
        -- the reference
        obtain ⟨M7, m1, m2, m3, m4, m5, m6, m7⟩ := m_newFit (kd := 0) (dg := 2) hs p2.1 p3 p4 hF.2.1 hc9
        have hn0 : a4.toInt ≠ 0 := by omega
        obtain ⟨r0, hr0⟩ : ∃ z, z = Rat.divInt a1.toInt a4.toInt := ⟨_, rfl⟩
        obtain ⟨r1, hr1⟩ : ∃ z, z = Rat.divInt a2.toInt a4.toInt := ⟨_, rfl⟩
        obtain ⟨r2, hr2⟩ : ∃ z, z = Rat.divInt a3.toInt a4.toInt := ⟨_, rfl⟩
        obtain ⟨M10, hM10⟩ : ∃ z, z = sJ (sJ (setQ M7 r0) 13 (36 * cnt + 3 * 0 + 0) (jI r0.num)) 14 (36 * cnt + 3 * 0 + 0) (jI (r0.den : Int)) := ⟨_, rfl⟩
        obtain ⟨M12, hM12⟩ : ∃ z, z = sJ (sJ (setQ M10 r1) 13 (36 * cnt + 3 * 0 + 1) (jI r1.num)) 14 (36 * cnt + 3 * 0 + 1) (jI (r1.den : Int)) := ⟨_, rfl⟩
        obtain ⟨M14, hM14⟩ : ∃ z, z = sJ (sJ (setQ M12 r2) 13 (36 * cnt + 3 * 0 + 2) (jI r2.num)) 14 (36 * cnt + 3 * 0 + 2) (jI (r2.den : Int)) := ⟨_, rfl⟩
        have g13 : ∀ j, M14.2 13 j = if j = 36 * cnt + 2 then jI r2.num else if j = 36 * cnt + 1 then jI r1.num else if j = 36 * cnt then jI r0.num else M7.2 13 j := by
          intro j
          rw [hM14, num_13, setQ_k (by omega) (by omega), hM12, num_13, setQ_k (by omega) (by omega), hM10, num_13, setQ_k (by omega) (by omega)]
          rfl
        have g14 : ∀ j, M14.2 14 j = if j = 36 * cnt + 2 then jI (r2.den : Int) else if j = 36 * cnt + 1 then jI (r1.den : Int) else if j = 36 * cnt then jI (r0.den : Int) else M7.2 14 j := by
          intro j
          rw [hM14, num_14, setQ_k (by omega) (by omega), hM12, num_14, setQ_k (by omega) (by omega), hM10, num_14, setQ_k (by omega) (by omega)]
          rfl
        have e14 : M14.1 = M7.1 := by rw [hM14, hM12, hM10]; rfl
        have hpol : MPol M14 (36 * cnt) (x0, x1, x2, y) := by
          unfold MPol q0F q1F q2F
          dsimp only
          rw [b6, b7, b8, ← hr0, ← hr1, ← hr2]
          refine ⟨⟨?_, ?_⟩, ⟨?_, ?_⟩, ?_, ?_⟩
          · rw [g13, if_neg (show ¬ 36 * cnt = 36 * cnt + 2 by omega), if_neg (show ¬ 36 * cnt = 36 * cnt + 1 by omega), if_pos rfl]
          · rw [g14, if_neg (show ¬ 36 * cnt = 36 * cnt + 2 by omega), if_neg (show ¬ 36 * cnt = 36 * cnt + 1 by omega), if_pos rfl]
          · rw [g13, if_neg (show ¬ 36 * cnt + 1 = 36 * cnt + 2 by omega), if_pos rfl]
          · rw [g14, if_neg (show ¬ 36 * cnt + 1 = 36 * cnt + 2 by omega), if_pos rfl]
          · rw [g13, if_pos rfl]
          · rw [g14, if_pos rfl]
        have hKN : KeepN M7 M14 cnt := KeepN.num e14 (fun j hj => by rw [g13, g14, if_neg (by omega), if_neg (by omega), if_neg (by omega), if_neg (by omega), if_neg (by omega), if_neg (by omega)]; exact ⟨rfl, rfl⟩)
        have hcell : ∀ b, b < S.2 → S7.1 b = S.1 b := fun b hb => (b3.2 b (by omega)).trans (k5.2.2 b hb)
        obtain ⟨S8, n1, n2⟩ := n_keep (S := S7) (M := M14) (a := S.2) (len := 8) (cnt := cnt) hT hF hc9 h68 rfl (by omega) (by rw [b3.1, k5.1]; exact Nat.le_refl _) (fun b hb _ => hcell b hb) ((hL.new k5 h68).same b3 (by omega)) ((hX.new k5 h68).same b3 (by omega)) hfb (ok_zero p2 (Or.inl rfl) (by decide) _ ⟨b4, b5⟩) ⟨m3.eq1 e14, by rw [e14]; exact m4, fun j hj => by
          rw [show j = 0 by omega]
          exact ⟨by rw [e14]; exact m5, hpol⟩⟩ (fitX_no (by decide)) (by rw [e14]; exact m2) (m7.tr hKN)
        have hT7 : TopAt S7 o (nI cnt) st := (hcell o (by omega)).trans hT
        refine ⟨nI cnt, S8, _, ?_, ?_, n2⟩
        · rw [z_lt_e, show (.inr (.inr (.inr (1, [.int 0, .int 0, .int 0, .null, .null, .null, .int 0]))) : PE) = fo0 from rfl, k1, z_bd_s, z_chk_t k2, k3, z_bd2_s, z_bd_s, k4, z_bd_s, z_chk_t hfa.1.is, f1, z_bd_s, z_bd_s, z_chk_t (g_is_e f2), z_i64, z_i64, z_i64, z_i64, b1, z_bd_s, z_chk_t (t_is hT7), n1, z_bd2_s]
        · rw [m1, z_bd2_s, z_i64, z_i64, m_is M7 hn0 (by omega) (by omega), ← hr0, z_bd_s, setQ_n, setQ_d, show (0 : Int32) = nI 0 from rfl, m_number hc9 (by omega) (by omega), z_bd_s, ← hM10, z_i64, m_is M10 hn0 (by omega) (by omega), ← hr1, z_bd_s, setQ_n, setQ_d, show (1 : Int32) = nI 1 from rfl, m_number hc9 (by omega) (by omega), z_bd_s, ← hM12, z_i64, m_is M12 hn0 (by omega) (by omega), ← hr2, z_bd_s, setQ_n, setQ_d, show (2 : Int32) = nI 2 from rfl, m_number hc9 (by omega) (by omega), z_bd_s, ← hM14, m_done, z_bd2_s]
          rfl
/-- the Leveller hands its polynomial over -/
theorem p_hand {b p f n : Nat} {t v w : Nat → Int} {K : Nat → Nat} {H B U : Nat → Int} {kd : Int32} {c0 c1 c2 d u0 u1 u2 u3 : Int} (h : LvAt S b t v w K H B U (nI n) (nI f) (sqI kd) c0 c1 c2 d) (hP : PolOk c0 c1 c2 d) (hp : PolAt S p u0 u1 u2 u3) : ∃ (S' : GS) (C : Pol4), f_X2_hand S b p = some S' ∧ PolA S' p C ∧ PolK C ∧ Same S S' p 1 ∧ q0F C = Rat.divInt c0 d ∧ q1F C = xq1 kd (Rat.divInt c1 d) ∧ q2F C = xq2 kd (Rat.divInt c1 d) (Rat.divInt c2 d) := by
  obtain ⟨p1, p2, p3, p4, p5⟩ := id hP
  obtain ⟨g0, g1, g2, g3⟩ := h.pol.g
  unfold f_X2_hand
  rw [h.gq, z_bd_s]
  by_cases z : kd = 2
  · obtain ⟨S', x0, x1, x2, y, b1, b2, b3, b4, b5, b6, b7, b8⟩ := p_become2 (c0 := c0) (c1 := 0) (c2 := c1) (d := d) (N0 := c0) (N1 := 0) (N2 := c1) (D := d) hp p1 (by omega) (by decide) (by omega) (by omega) ⟨p1, p2, p3, by decide, p4⟩ rfl rfl rfl
    refine ⟨S', (x0, x1, x2, y), ?_, b2, ⟨b4, b5⟩, b3, b6, ?_, ?_⟩
    · unfold sqI
      rw [if_pos z, if_neg z_10, h.r7, z_bd_s, g0, z_bd_s, z_bd_s, g1, z_bd_s, z_bd_s, g3, z_bd_s, z_chk_t (g_is_e hp), show (0 : Int64) = jI 0 from rfl, b1, z_bd_s]
    · unfold xq1
      rw [if_pos z]
      show Rat.divInt x1 y = 0
      rw [b7, Rat.zero_divInt]
    · unfold xq2
      rw [if_pos z]
      exact b8
  · obtain ⟨S', x0, x1, x2, y, b1, b2, b3, b4, b5, b6, b7, b8⟩ := p_become2 (c0 := c0) (c1 := c1) (c2 := c2) (d := d) (N0 := c0) (N1 := c1) (N2 := c2) (D := d) hp p1 (by omega) (by omega) (by omega) (by omega) hP rfl rfl rfl
    refine ⟨S', (x0, x1, x2, y), ?_, b2, ⟨b4, b5⟩, b3, b6, ?_, ?_⟩
    · unfold sqI
      rw [if_neg z, if_pos rfl, h.r7, z_bd_s, g0, z_bd_s, z_bd_s, g1, z_bd_s, z_bd_s, g2, z_bd_s, z_bd_s, g3, z_bd_s, z_chk_t (g_is_e hp), b1, z_bd_s]
    · unfold xq1
      rw [if_neg z]
      exact b7
    · unfold xq2
      rw [if_neg z]
      exact b8
theorem lv_Q {b f n : Nat} {t v w : Nat → Int} {sq : Int32} {c0 c1 c2 d : Int} (h : Levelled S b f n t v w sq c0 c1 c2 d) : LvQ f n t v w (Rat.divInt c0 d) (Rat.divInt c1 d) (Rat.divInt c2 d) := by
  obtain ⟨-, -, K, -, h | h⟩ := h
  · exact Or.inl h
  · exact Or.inr ⟨h.1, K, h.2⟩
/-- line and even, where they may come -/
theorem c_levelled (hT : TopAt S o (nI cnt) st) (hF : FitsOk S M o cnt F ln) (hL : LvOk S o) (hX : SsOk S o) (h68 : o + 68 ≤ S.2) (hc9 : cnt < 10) {s n f : Nat} {P V Z : Nat → Int32} (hs : s < 6) (p1 : PtsAt S (o + 17 + 4 * s) n P V Z) (p2 : PtsOk n P V Z) (p3 : M.1 0 s = nI n) (p4 : ∀ i, i < n → M.1 1 (12 * s + i) = P i ∧ M.1 2 (12 * s + i) = V i ∧ M.1 3 (12 * s + i) = Z i) {kd dg : Int32} (hk : kd = 1 ∨ kd = 2) (hf : frN kd dg f) (hf3 : f = 1 ∨ f = 2 ∨ f = 3) (hk2 : kd = 2 → f = 2) (hE : PtsEv kd n P) : ∃ S' M', (z_bd2 (f_X7_levelledFit S o kd dg (o + 17 + 4 * s)) fun q_8 S_7 => z_bd q_8 fun a_9 => z_chk (g_is S_7 7 o) (z_bd2 (f_X7_keepFit S_7 o a_9) fun r_11 S_10 => some (r_11, S_10))) = some (nI cnt, S') ∧ (z_bd2 (f_X8_newFit M (nI s) kd dg) fun r_4 M_3 => z_bd (f_X8_settle M_3 r_4) fun M_5 => z_bd2 (f_X8_done M_5 r_4) fun r_7 M_6 => some (r_7, M_6)) = some (nI cnt, M') ∧ NewRes S S' M M' o cnt F ln := by
  obtain ⟨S3, S6, k1, k2, k3, k4, k5⟩ := p_make hT hs p1 p2.1 h68 kd dg
  have hk4 : ¬ kd = 4 := by rcases hk with z | z <;> (rw [z]; decide)
  have hfa := fitL_at k5 p2.1
  rw [if_neg hk4] at hfa
  have hT6 : TopAt S6 o (nI cnt) st := (k5.2.2 o (by omega)).trans hT
  obtain ⟨t0, v0, w0, K0, H0, B0, U0, sz, fr, sq, c0, c1, c2, d, hLv⟩ := hL.new k5 h68
  obtain ⟨S10, t, v, w, x0, x1, x2, y, l1, l2, l3, l4⟩ := p_levelRow (b := o + 4) (fr := 0) (to := n) (by omega) (Nat.le_refl n) (Nat.zero_le n) hfa.1 hfa.2.1 p2 hE hf hf3 hk2 hLv
  rw [Nat.sub_zero] at l3 l4
  have hQ := lvQ_agr l3.agr hf3 (lv_Q l4)
  obtain ⟨hP, hG, K, ⟨H, B, U, hV⟩, -⟩ := id l4
  have hfa10 : FitAt S10 S.2 cnt kd dg n P V Z 1 (fun _ => 0) (fun _ => (0, 0, 0, 1)) 8 := by
    obtain ⟨h1, h2, rm, G, Bg, r1, r2, r3, r4, r5, r6, r7⟩ := hfa
    refine ⟨h1.same l2 (by omega), h2.same l2 (by omega), rm, G, Bg, r1, r2, r3, (l2.2 _ (by omega)).trans r4, (l2.2 _ (by omega)).trans r5, r6, fun j hj => ?_⟩
    obtain ⟨p, q1, q2, q3, q4⟩ := r7 j hj
    exact ⟨p, q1, q2, q3, (l2.2 _ (by omega)).trans q4⟩
  obtain ⟨p, f1, f2, f3, f4⟩ := p_first0 hfa10
  have ep : p = S.2 + 7 := by omega
  subst ep
  obtain ⟨S14, C, b1, b2, b3, b4, b5, b6, b7⟩ := p_hand hV hP f2
  have hfb := fit_part hfa10 b4 b2
  have hT10 : TopAt S10 o (nI cnt) st := (l2.2 o (by omega)).trans hT6
  have hT14 : TopAt S14 o (nI cnt) st := (b4.2 o (by omega)).trans hT10
  have hcell : ∀ b, b < S.2 → (b < o + 4 ∨ o + 15 ≤ b) → S14.1 b = S.1 b := fun b hb h2 => by rw [b4.2 b (by omega), l2.2 b (by omega)]; exact k5.2.2 b hb
  have hL14 : LvOk S14 o := ⟨t, v, w, K, H, B, U, _, _, _, _, _, _, _, hV.same b4 (by omega)⟩
  have hX14 : SsOk S14 o := ((hX.new k5 h68).same l2 (by omega)).same b4 (by omega)
  have hR := (tN_Ld kd P V Z n).rw p2 hE (by omega) hf3 hk2
  obtain ⟨M7, m1, m2, m3, m4, m5, m6, m7⟩ := m_newFit (kd := kd) (dg := dg) hs p2.1 p3 p4 hF.2.1 hc9
  obtain ⟨M8, s1, s2, s3, -, s5, s6⟩ := m_settle m3 p2 m2 (by omega) (by omega) hk hf hR hQ b5 b6 b7
  have hKd : Kd kd := by rcases hk with z | z; exact Or.inr (Or.inl z); exact Or.inr (Or.inr (Or.inl z))
  have hx : FitX kd dg n P V Z C := fun _ => ⟨f, hf, hf3, hk2, hE, fun hfn => by
    rcases hQ with ⟨z1, -⟩ | ⟨z1, K', z2, z3, z4⟩
    · omega
    · exact ⟨_, _, _, K', b5, b6, b7, z2, z3, z4⟩⟩
  obtain ⟨S15, n1, n2⟩ := n_keep (S := S14) (M := M8) (a := S.2) (len := 8) (cnt := cnt) hT hF hc9 h68 rfl (by omega) (by rw [b4.1, l2.1, k5.1]; exact Nat.le_refl _) hcell hL14 hX14 hfb (ok_zero p2 hKd hk4 _ b3) ⟨s3, by rw [s6 11 (by omega)]; exact m4, fun j hj => by
    rw [show j = 0 by omega]
    exact ⟨by rw [s6 12 (by omega)]; exact m5, s5⟩⟩ hx (by rw [s6 4 (by omega)]; exact m2) (m7.tr s2)
  refine ⟨S15, sI M8 18 0 0, ?_, ?_, n2⟩
  · unfold f_X7_levelledFit
    rw [z_lt_e, show (.inr (.inr (.inr (1, [.int 0, .int 0, .int 0, .null, .null, .null, .int 0]))) : PE) = fo0 from rfl, k1, z_bd_s, z_chk_t k2, k3, z_bd2_s, z_bd_s, k4, z_bd_s, g_r_e (k := 3) hT6 rfl, z_bd_s, hfa.1.r3, z_bd_s, hfa.2.1.sz, z_bd_s, z_chk_t hLv.is, show (0 : Int32) = nI 0 from rfl, l1, z_bd_s, g_r_e (k := 3) hT10 rfl, z_bd_s, z_chk_t hfa10.1.is, f1, z_bd_s, z_bd_s, z_chk_t hV.is, b1, z_bd_s, z_bd2_s, z_bd_s, z_chk_t (t_is hT14), n1, z_bd2_s]
  · rw [m1, z_bd2_s, s1, z_bd_s, m_done, z_bd2_s]
theorem c_line (hT : TopAt S o (nI cnt) st) (hA : SetsArr S o) (hO : SetsOk S M o) (hF : FitsOk S M o cnt F ln) (hL : LvOk S o) (hX : SsOk S o) (h68 : o + 68 ≤ S.2) (a0 a1 : Int32) : ∃ r S' M', f_X7_line S o a0 a1 = some (r, S') ∧ f_X8_line M a0 a1 = some (r, M') ∧ NewRes S S' M M' o cnt F ln := by
  have hi := t_is hT
  have hc10 := hF.2.2.1
  obtain ⟨S1, e1, e2, e3⟩ := n_ref (M := M) hT hF hL hX 1
  obtain ⟨S2, d1, d2, d3⟩ := n_ref (M := M) hT hF hL hX 2
  unfold f_X7_line f_X8_line
  rw [z_chk_t hi, z_within]
  rcases z_in2 a1 with ⟨k1, -⟩ | ⟨k1, k2⟩
  · rw [k1, z_bd_s]
    obtain ⟨wn1, wn2, wn3⟩ := m_whyNot (M := M) (cnt := cnt) (a0 := a0) (g := 0) hF.2.1 hc10
    rcases z_in05 a0 with ⟨h1, h2⟩ | ⟨s, hs, rfl, h1⟩
    · exact ⟨-1, S1, _, by rw [t_setAt0 h2, z_bd_s, z_mt_N, z_chk_t hi, e1, z_bd2_s], by rw [wn1 h1, z_bd_s, if_neg z_10, e2, z_bd2_s], e3⟩
    · exact ⟨-1, S1, _, by rw [t_setAt hT hA hs, z_bd_s, z_mt_S, z_bd_s, if_pos rfl, z_chk_t hi, e1, z_bd2_s], by rw [wn2 h1 rfl, z_bd_s, if_neg z_10, e2, z_bd2_s], e3⟩
  · rw [k1, z_bd_s]
    obtain ⟨wn1, wn2, wn3⟩ := m_whyNot (M := M) (cnt := cnt) (a0 := a0) (g := 1) hF.2.1 hc10
    rcases z_in05 a0 with ⟨h1, h2⟩ | ⟨s, hs, rfl, h1⟩
    · exact ⟨-1, S1, _, by rw [t_setAt0 h2, z_bd_s, z_mt_N, z_chk_t hi, e1, z_bd2_s], by rw [wn1 h1, z_bd_s, if_neg z_10, e2, z_bd2_s], e3⟩
    · rw [t_setAt hT hA hs, z_bd_s, z_mt_S, z_bd_s, if_neg z_10, g_i_e (k := 6) hT rfl, z_bd_s, wn3 h1 z_10, z_bd_s]
      by_cases hc : cnt = 10
      · exact ⟨-1, S2, _, by rw [if_neg (by rw [hc]; decide), z_chk_t hi, d1, z_bd2_s], by rw [if_pos hc, if_neg (by decide), d2, z_bd2_s], d3⟩
      · rw [if_pos (by rw [show (10 : Int32) = nI 10 from rfl, n_lt (by omega) (by omega)]; omega), if_neg hc, if_pos rfl, z_chk_t hi]
        obtain ⟨n, P, V, Z, p1, p2, p3, p4⟩ := hO s hs
        have hfr : ∃ f, frN 1 a1 f ∧ (f = 1 ∨ f = 2 ∨ f = 3) := by
          unfold frN
          rw [if_neg (by decide)]
          rcases k2 with z | z | z
          · exact ⟨1, by rw [z]; rfl, by omega⟩
          · exact ⟨2, by rw [z]; rfl, by omega⟩
          · exact ⟨3, by rw [z]; rfl, by omega⟩
        obtain ⟨f, hf, hf3⟩ := hfr
        obtain ⟨S', M', x1, x2, x3⟩ := c_levelled hT hF hL hX h68 (by omega) hs p1 p2 p3 p4 (kd := 1) (dg := a1) (Or.inl rfl) hf hf3 (fun z => absurd z (by decide)) (fun z => absurd z (by decide))
        exact ⟨nI cnt, S', M', x1, x2, x3⟩
theorem c_even (hT : TopAt S o (nI cnt) st) (hA : SetsArr S o) (hO : SetsOk S M o) (hF : FitsOk S M o cnt F ln) (hL : LvOk S o) (hX : SsOk S o) (h68 : o + 68 ≤ S.2) (a0 : Int32) : ∃ r S' M', f_X7_even S o a0 = some (r, S') ∧ f_X8_even M a0 = some (r, M') ∧ NewRes S S' M M' o cnt F ln := by
  have hi := t_is hT
  have hc10 := hF.2.2.1
  obtain ⟨S1, e1, e2, e3⟩ := n_ref (M := M) hT hF hL hX 1
  obtain ⟨S2, d1, d2, d3⟩ := n_ref (M := M) hT hF hL hX 2
  unfold f_X7_even f_X8_even
  rw [z_chk_t hi]
  obtain ⟨wn1, wn2, wn3⟩ := m_whyNot (M := M) (cnt := cnt) (a0 := a0) (g := 1) hF.2.1 hc10
  rcases z_in05 a0 with ⟨h1, h2⟩ | ⟨s, hs, rfl, h1⟩
  · exact ⟨-1, S1, _, by rw [t_setAt0 h2, z_bd_s, z_mt_N, z_chk_t hi, e1, z_bd2_s], by rw [wn1 h1, z_bd_s, if_neg z_10, e2, z_bd2_s], e3⟩
  · rw [t_setAt hT hA hs, z_bd_s, z_mt_S, g_i_e (k := 6) hT rfl, z_bd_s, wn3 h1 z_10, z_bd_s]
    by_cases hc : cnt = 10
    · exact ⟨-1, S2, _, by rw [if_neg (by rw [hc]; decide), z_chk_t hi, d1, z_bd2_s], by rw [if_pos hc, if_neg (by decide), d2, z_bd2_s], d3⟩
    · obtain ⟨n, P, V, Z, p1, p2, p3, p4⟩ := hO s hs
      have hn := p2.1
      have q6 : z_in (nI s) 6 := by rw [n_in (by omega)]; exact hs
      simp only [z_chk_t hi, z_chk_t q6]
      rw [if_pos (by rw [show (10 : Int32) = nI 10 from rfl, n_lt (by omega) (by omega)]; omega), if_neg hc, if_pos rfl, p1.sz, z_bd_s, n_cl (by omega), p3]
      have go : PtsEv 2 n P → ∃ S' M', (z_bd2 (f_X7_levelledFit S o (2 : Int32) (2 : Int32) (o + 17 + 4 * s)) fun q_8 S_7 => z_bd q_8 fun a_9 => z_chk (g_is S_7 7 o) (z_bd2 (f_X7_keepFit S_7 o a_9) fun r_11 S_10 => some (r_11, S_10))) = some (nI cnt, S') ∧ (z_bd2 (f_X8_newFit M (nI s) (2 : Int32) (2 : Int32)) fun r_4 M_3 => z_bd (f_X8_settle M_3 r_4) fun M_5 => z_bd2 (f_X8_done M_5 r_4) fun r_7 M_6 => some (r_7, M_6)) = some (nI cnt, M') ∧ NewRes S S' M M' o cnt F ln := fun hE => c_levelled hT hF hL hX h68 (by omega) hs p1 p2 p3 p4 (Or.inr rfl) (f := 2) (by unfold frN; rw [if_pos rfl]; rfl) (by omega) (fun _ => rfl) hE
      by_cases z : n = 0
      · obtain ⟨S', M', x1, x2, x3⟩ := go (fun _ i hi => by omega)
        have zz : nI n ≤ (0 : Int32) := by rw [z]; decide
        exact ⟨nI cnt, S', M', by rw [if_pos zz]; exact x1, by rw [if_pos zz]; exact x2, x3⟩
      · have zz : ¬ nI n ≤ (0 : Int32) := by rw [show (0 : Int32) = nI 0 from rfl, n_le (by omega) (by omega)]; omega
        have e12 : ((12 : Int32) * nI s) = nI (12 * s + 0) := by rw [show (12 : Int32) = nI 12 from rfl, n_mul]; rfl
        rw [if_neg zz, if_neg zz, p1.r0, z_bd_s, show g_rI S (o + 17 + 4 * s + 1) (0 : Int32) = some (P 0) from p1.d0 (i := 0) (by omega), z_bd_s, z_chk_t (show z_in ((12 : Int32) * nI s) 72 by rw [e12, n_in (by omega)]; omega), e12, n_cl (by omega), (p4 0 (by omega)).1]
        by_cases w : 0 ≤ P 0
        · obtain ⟨S', M', x1, x2, x3⟩ := go (fun _ i hi => by
            rcases Nat.eq_zero_or_pos i with y | y
            · rw [y]; exact w
            · have := p2.2.2 0 i y hi
              rw [Int32.lt_iff_toInt_lt] at this
              rw [Int32.le_iff_toInt_le] at w ⊢
              omega)
          exact ⟨nI cnt, S', M', by rw [if_pos w]; exact x1, by rw [if_pos w]; exact x2, x3⟩
        · obtain ⟨S3, b1, b2, b3⟩ := n_ref (M := M) hT hF hL hX 3
          exact ⟨-1, S3, _, by rw [if_neg w, b1, z_bd2_s], by rw [if_neg w, b2, z_bd2_s], b3⟩
end FL
