/-! questions: told, number, value, miss, level, far, begins, against, same -/
theorem z_in2v (a : Int32) : (f_X8_in a 0 1 = some 0 ∧ ¬ a = 0 ∧ ¬ a = 1) ∨ (f_X8_in a 0 1 = some 1 ∧ (a = 0 ∨ a = 1)) := by
  rcases z_idx 2 (by omega) a with ⟨h1, h2⟩ | ⟨k, h1, rfl, h2⟩
  · left
    rw [show (nI 2 - 1 : Int32) = 1 by decide] at h2
    refine ⟨h2, ?_, ?_⟩ <;> (rintro rfl; revert h1; decide)
  · right
    rw [show (nI 2 - 1 : Int32) = 1 by decide] at h2
    refine ⟨h2, ?_⟩
    rcases (show k = 0 ∨ k = 1 by omega) with rfl | rfl
    · exact Or.inl rfl
    · exact Or.inr rfl
theorem gc4_uq {x y : Pol4} (hx : PolK x) (hy : PolK y) : (q0F x = q0F y ∧ q1F x = q1F y ∧ q2F x = q2F y) ↔ (x.1 = y.1 ∧ x.2.1 = y.2.1 ∧ x.2.2.1 = y.2.2.1 ∧ x.2.2.2 = y.2.2.2) := by
  obtain ⟨⟨a1, a2, a3, a4, a5⟩, a6⟩ := hx
  obtain ⟨⟨b1, b2, b3, b4, b5⟩, b6⟩ := hy
  have cr : ∀ {u v d e : Int}, 0 < d → 0 < e → Rat.divInt u d = Rat.divInt v e → u * e = v * d := by
    intro u v d e hd he h
    exact (Rat.divInt_eq_divInt_iff (by omega) (by omega)).mp h
  constructor
  · rintro ⟨h0, h1, h2⟩
    have e0 := cr a1 b1 h0
    have e1 := cr a1 b1 h1
    have e2 := cr a1 b1 h2
    have r1 := red a6 a1 b1 e0 e1 e2
    have r2 := red b6 b1 a1 e0.symm e1.symm e2.symm
    have ed : x.2.2.2 = y.2.2.2 := by omega
    have nz : y.2.2.2 ≠ 0 := by omega
    rw [ed] at e0 e1 e2
    exact ⟨Int.eq_of_mul_eq_mul_right nz e0, Int.eq_of_mul_eq_mul_right nz e1, Int.eq_of_mul_eq_mul_right nz e2, ed⟩
  · rintro ⟨h0, h1, h2, h3⟩
    unfold q0F q1F q2F
    rw [h0, h1, h2, h3]
    exact ⟨rfl, rfl, rfl⟩
theorem z_part {pc : Nat} (hpc : pc ≤ 12) {S : GS} {a : Nat} {num kd dg : Int32} (hF : FObj S a num kd dg (nI pc)) (x : Int32) : (f_X8_in x 0 (nI pc - 1) = some 0 ∧ f_X1_hasPart S a x = some 0) ∨ ∃ k, k < pc ∧ x = nI k ∧ f_X8_in x 0 (nI pc - 1) = some 1 ∧ f_X1_hasPart S a x = some 1 := by
  unfold f_X1_hasPart
  rw [hF.i6, z_bd_s]
  rcases z_idx pc (by omega) x with ⟨h1, h2⟩ | ⟨k, h1, h2, h3⟩
  · left
    refine ⟨h2, ?_⟩
    by_cases z : x < 0
    · rw [if_pos z]
    · rw [if_neg z, if_pos (by rcases h1 with y | y; exact absurd y z; exact y)]
  · right
    refine ⟨k, h1, h2, h3, ?_⟩
    rw [h2, show (0 : Int32) = nI 0 from rfl, if_neg (by rw [n_lt (by omega) (by omega)]; omega), if_neg (by rw [n_le (by omega) (by omega)]; omega)]
section Q2
variable {S : GS} {M : MS} {o cnt : Nat} {st : Int32} {F : Nat → Option Nat} {ln : Nat → Nat}
theorem c_told (hT : TopAt S o (nI cnt) st) (hF : FitsOk S M o cnt F ln) (a0 a1 : Int32) : ∃ r M', f_X7_told S o a0 a1 = some r ∧ f_X8_told M a0 a1 = some (r, M') ∧ Scr M M' := by
  unfold f_X7_told f_X8_told
  rw [z_chk_t (t_is hT)]
  rcases z_fit hT hF a0 with ⟨h1, h2⟩ | ⟨f, a, f1, f2, rfl, f3, f4, f5⟩
  · exact ⟨-1, M, by rw [h2, z_bd_s, z_mt_N], by rw [h1, z_bd_s, if_pos rfl], Scr.rf⟩
  · obtain ⟨g1, g2, g3, kd, dg, n, P, V, Z, pc, bg, C, g4, g5, g6, g7⟩ := f5
    have q10 : z_in (nI f) 10 := by rw [n_in (by omega)]; exact f2
    rw [f4, z_bd_s, z_mt_S, f3, z_bd_s, if_neg z_10, g4.1.i1, z_bd_s, g4.1.r3, z_bd_s, g4.2.1.sz, z_bd_s, g4.1.i2, z_bd_s, z_chk_t g4.1.is, p_farCount g4 g5, z_bd_s, g4.1.i6, z_bd_s]
    simp only [z_chk_t q10]
    rw [n_cl (by omega), g6.1.1, g6.1.2.1, g6.1.2.2.1, g6.2.1]
    obtain ⟨M', m1, m2⟩ := m_fars g6 g5 f2
    rw [m1, z_bd2_s]
    by_cases c0 : a1 = 0
    · exact ⟨_, M, by rw [if_pos c0], by rw [if_pos c0], Scr.rf⟩
    · rw [if_neg c0, if_neg c0]
      by_cases c1 : a1 = 1
      · exact ⟨_, M, by rw [if_pos c1], by rw [if_pos c1], Scr.rf⟩
      · rw [if_neg c1, if_neg c1]
        by_cases c2 : a1 = 2
        · exact ⟨_, M, by rw [if_pos c2], by rw [if_pos c2], Scr.rf⟩
        · rw [if_neg c2, if_neg c2]
          by_cases c3 : a1 = 3
          · exact ⟨_, M', by rw [if_pos c3], by rw [if_pos c3], m2⟩
          · rw [if_neg c3, if_neg c3]
            by_cases c4 : a1 = 4
            · exact ⟨_, M, by rw [if_pos c4], by rw [if_pos c4], Scr.rf⟩
            · exact ⟨_, M, by rw [if_neg c4], by rw [if_neg c4], Scr.rf⟩
theorem p_numPart {a f pc n len : Nat} {kd dg : Int32} {P V Z : Nat → Int32} {bg : Nat → Nat} {C : Nat → Pol4} (g4 : FitAt S a f kd dg n P V Z pc bg C len) (g5 : FitOk kd n P V Z pc bg C) {j : Nat} (hj : j < pc) (a2 a3 : Int32) (h2 : a2 = 0 ∨ a2 = 1 ∨ a2 = 2) : (z_bd (g_r S 1 4 a) fun f_7 => z_bd (g_rQ S 3 f_7 (nI j)) fun q_8 => z_bd q_8 fun a_9 => z_chk (g_is S 4 a_9) (z_bd (f_X4_coefficient S a_9 a2) fun r_10 => z_bd (g_l S 4 3 a_9) fun f_11 => z_bd (f_X7_lowestTerms r_10 f_11 a3) fun r_12 => some r_12)) = some (if a3 = 0 then jI (if a2 = 0 then q0F (C j) else if a2 = 1 then q1F (C j) else q2F (C j)).num else if a3 = 1 then jI ((if a2 = 0 then q0F (C j) else if a2 = 1 then q1F (C j) else q2F (C j)).den : Int) else -1000000000000) := by
  obtain ⟨hF, hp, rm, G, Bg, r1, r2, r3, r4, r5, r6, r7⟩ := g4
  obtain ⟨p, p1, p2, p3, p4⟩ := r7 j (Or.inl hj)
  obtain ⟨⟨b1, b2, b3, b4, b5⟩, b6⟩ := g5.2.1 j (Or.inl hj)
  obtain ⟨e0, e1, e2, e3⟩ := PolAt.g p4
  rw [hF.r4, z_bd_s, g_rQ_e r4 (by rw [n_in (by omega)]; omega), z_bd_s, n_cl (by omega), p1, z_bd_s, z_chk_t (g_is_e p4)]
  unfold f_X4_coefficient
  rw [e0, z_bd_s, e1, z_bd_s, e2, z_bd_s, e3]
  rcases h2 with rfl | rfl | rfl
  · rw [if_pos rfl, if_pos rfl, z_bd_s, z_bd_s, p_lowest b1 (by omega) (by omega), z_bd_s]; rfl
  · rw [if_neg z_10, if_pos (show (1 : Int32) = 1 from rfl), z_bd_s, z_bd_s, p_lowest b1 (by omega) (by omega), z_bd_s]; rfl
  · rw [if_neg (show ¬ (2 : Int32) = 0 by decide), if_neg (show ¬ (2 : Int32) = 1 by decide), z_bd_s, z_bd_s, p_lowest b1 (by omega) (by omega), z_bd_s]; rfl
theorem m_numPart {f j : Nat} {c : Pol4} (h : MPol M (36 * f + 3 * j) c) (hf : f < 10) (hj : j < 12) (v a2 a3 : Int32) (hv : v = nI (3 * j)) (h2 : a2 = 0 ∨ a2 = 1 ∨ a2 = 2) : (if a3 = 0 then z_chk (z_in ((((36 : Int32) * nI f) + v) + a2) 360) (some (M.2 13 ((((36 : Int32) * nI f) + v) + a2).toNatClampNeg)) else z_chk (z_in ((((36 : Int32) * nI f) + v) + a2) 360) (some (M.2 14 ((((36 : Int32) * nI f) + v) + a2).toNatClampNeg))) = some (if a3 = 0 then jI (if a2 = 0 then q0F c else if a2 = 1 then q1F c else q2F c).num else jI ((if a2 = 0 then q0F c else if a2 = 1 then q1F c else q2F c).den : Int)) := by
  have go : ∀ (k : Nat) (q : Rat), a2 = nI k → k < 3 → M.2 13 (36 * f + 3 * j + k) = jI q.num → M.2 14 (36 * f + 3 * j + k) = jI (q.den : Int) → (if a3 = 0 then z_chk (z_in ((((36 : Int32) * nI f) + v) + a2) 360) (some (M.2 13 ((((36 : Int32) * nI f) + v) + a2).toNatClampNeg)) else z_chk (z_in ((((36 : Int32) * nI f) + v) + a2) 360) (some (M.2 14 ((((36 : Int32) * nI f) + v) + a2).toNatClampNeg))) = some (if a3 = 0 then jI q.num else jI (q.den : Int)) := by
    intro k q e1 e2 e3 e4
    have e : (((36 : Int32) * nI f) + v) + a2 = nI (36 * f + 3 * j + k) := by rw [hv, e1, show (36 : Int32) = nI 36 from rfl, n_mul, n_add, n_add]
    have i0 : z_in (nI (36 * f + 3 * j + k)) 360 := by rw [n_in (by omega)]; omega
    simp only [e, z_chk_t i0]
    rw [n_cl (by omega), e3, e4]
    by_cases z : a3 = 0
    · rw [if_pos z, if_pos z]
    · rw [if_neg z, if_neg z]
  rcases h2 with rfl | rfl | rfl
  · exact go 0 _ rfl (by omega) h.1.1 h.1.2
  · exact go 1 _ rfl (by omega) h.2.1.1 h.2.1.2
  · exact go 2 _ rfl (by omega) h.2.2.1 h.2.2.2
theorem c_number (hT : TopAt S o (nI cnt) st) (hF : FitsOk S M o cnt F ln) (a0 a1 a2 a3 : Int32) : ∃ r, f_X7_number S o a0 a1 a2 a3 = some r ∧ f_X8_number_ M a0 a1 a2 a3 = some r := by
  unfold f_X7_number f_X8_number_
  rw [z_chk_t (t_is hT)]
  rcases z_fit hT hF a0 with ⟨h1, h2⟩ | ⟨f, a, f1, f2, rfl, f3, f4, f5⟩
  · exact ⟨_, by rw [h2, z_bd_s, z_mt_N], by rw [h1, z_bd_s, if_pos rfl]⟩
  · obtain ⟨g1, g2, g3, kd, dg, n, P, V, Z, pc, bg, C, g4, g5, g6, g7⟩ := f5
    have q10 : z_in (nI f) 10 := by rw [n_in (by omega)]; exact f2
    have hpc := g5.2.2.2.2.2.1
    rw [f4, z_bd_s, z_mt_S, f3, z_bd_s, if_neg z_10, z_within, g4.1.i1, z_bd_s]
    simp only [z_chk_t q10]
    rw [n_cl (by omega), g6.1.1, g6.2.1]
    rcases z_in2 a2 with ⟨k1, -⟩ | ⟨k1, k2⟩
    · exact ⟨_, by rw [k1, z_bd_s, if_pos rfl], by rw [k1, z_bd_s, if_pos rfl]⟩
    · rw [k1, z_bd_s, z_bd_s, if_neg z_10, if_neg z_10]
      have fin : ∀ (v : Int32) (j : Nat), j < pc → v = nI (3 * j) → ∃ r, some (if a3 = 0 then jI (if a2 = 0 then q0F (C j) else if a2 = 1 then q1F (C j) else q2F (C j)).num else if a3 = 1 then jI ((if a2 = 0 then q0F (C j) else if a2 = 1 then q1F (C j) else q2F (C j)).den : Int) else -1000000000000) = some r ∧ (z_bd (f_X8_in a3 (0 : Int32) (1 : Int32)) fun r_3 => if r_3 = 0 then some (-1000000000000 : Int64) else (if a3 = 0 then z_chk (z_in ((((36 : Int32) * nI f) + v) + a2) 360) (some (M.2 13 ((((36 : Int32) * nI f) + v) + a2).toNatClampNeg)) else z_chk (z_in ((((36 : Int32) * nI f) + v) + a2) 360) (some (M.2 14 ((((36 : Int32) * nI f) + v) + a2).toNatClampNeg)))) = some r := by
        intro v j hj hv
        rcases z_in2v a3 with ⟨w1, w2, w3⟩ | ⟨w1, w2⟩
        · exact ⟨_, by rw [if_neg w2, if_neg w3], by rw [w1, z_bd_s, if_pos rfl]⟩
        · rw [w1, z_bd_s, if_neg z_10, m_numPart (g6.2.2 j hj).2 f2 (by omega) v a2 a3 hv k2]
          rcases w2 with rfl | rfl
          · exact ⟨_, rfl, rfl⟩
          · exact ⟨_, rfl, rfl⟩
      by_cases z4 : kd = 4
      · rw [if_pos z4, z_bd_s, z_chk_t g4.1.is]
        simp only [if_pos z4]
        rcases z_part hpc g4.1 a1 with ⟨y1, y2⟩ | ⟨j, y0, y3, y1, y2⟩
        · refine ⟨_, by rw [y2, z_bd_s, if_pos rfl], ?_⟩
          rcases z_in2v a3 with ⟨w1, w2, w3⟩ | ⟨w1, w2⟩
          · rw [w1, z_bd_s, if_pos rfl]
          · rw [w1, z_bd_s, if_neg z_10, y1, z_bd_s, if_pos rfl]
        · obtain ⟨r, r1, r2⟩ := fin ((3 : Int32) * a1) j y0 (by rw [y3, show (3 : Int32) = nI 3 from rfl, n_mul])
          refine ⟨r, ?_, ?_⟩
          · rw [y2, z_bd_s, if_neg z_10, y3, p_numPart g4 g5 y0 a2 a3 k2]
            exact r1
          · rw [y1]
            exact r2
      · rw [if_neg z4, z_bd_s, z_chk_t g4.1.is]
        simp only [if_neg z4]
        have pc1 : pc = 1 := by
          rcases g5.2.2.1 with y | y
          · exact absurd y z4
          · exact y
        obtain ⟨r, r1, r2⟩ := fin (0 : Int32) 0 (by omega) rfl
        refine ⟨r, ?_, r2⟩
        rcases z_part hpc g4.1 0 with ⟨y1, y2⟩ | ⟨j, y0, y3, y1, y2⟩
        · exfalso
          rw [pc1] at y1
          exact absurd y1 (by decide)
        · rw [y2, z_bd_s, if_neg z_10, show (0 : Int32) = nI 0 from rfl, p_numPart g4 g5 (by omega) a2 a3 k2]
          exact r1
theorem z_in100 {x : Int32} (h1 : (-100 : Int32) ≤ x) (h2 : x ≤ 100) : x.toInt.natAbs ≤ 100 := by
  have := i_rng (l := -100) (h := 100) h1 h2 (by decide) (by decide)
  omega
theorem c_value (hT : TopAt S o (nI cnt) st) (hF : FitsOk S M o cnt F ln) (a0 a1 a2 : Int32) : ∃ r M', f_X7_value S o a0 a1 a2 = some r ∧ f_X8_value M a0 a1 a2 = some (r, M') ∧ Scr M M' := by
  unfold f_X7_value f_X8_value
  rw [z_chk_t (t_is hT)]
  rcases z_fit hT hF a0 with ⟨h1, h2⟩ | ⟨f, a, f1, f2, rfl, f3, f4, f5⟩
  · exact ⟨_, M, by rw [h2, z_bd_s, z_mt_N], by rw [h1, z_bd_s, if_pos rfl], Scr.rf⟩
  · obtain ⟨g1, g2, g3, kd, dg, n, P, V, Z, pc, bg, C, g4, g5, g6, g7⟩ := f5
    rw [f4, z_bd_s, z_mt_S, f3, z_bd_s, if_neg z_10, z_within]
    rcases z_in01 a1 (-100) 100 with k1 | ⟨k1, k2, k3⟩
    · exact ⟨_, M, by rw [k1, z_bd_s, if_pos rfl], by rw [k1, z_bd_s, if_pos rfl], Scr.rf⟩
    · rw [k1, z_bd_s, z_bd_s, if_neg z_10, if_neg z_10, z_chk_t g4.1.is]
      have hx := z_in100 k2 k3
      obtain ⟨p, p1, p2⟩ := p_partFor g4 g5 a1
      obtain ⟨e0, e1, e2, e3⟩ := PolAt.g p2
      obtain ⟨⟨b1, b2, b3, b4, b5⟩, b6⟩ := g5.pol a1
      have hmv := m_valueAt g6 g5 f2 a1 hx
      have hev : ev (q0F (C (pfn bg P a1 (pc - 1)))) (q1F (C (pfn bg P a1 (pc - 1)))) (q2F (C (pfn bg P a1 (pc - 1)))) a1.toInt = Rat.divInt ((C (pfn bg P a1 (pc - 1))).1 + ((C (pfn bg P a1 (pc - 1))).2.1 + (C (pfn bg P a1 (pc - 1))).2.2.1 * a1.toInt) * a1.toInt) (C (pfn bg P a1 (pc - 1))).2.2.2 := by
        have := (ev_div (c0 := (C (pfn bg P a1 (pc - 1))).1) (c1 := (C (pfn bg P a1 (pc - 1))).2.1) (c2 := (C (pfn bg P a1 (pc - 1))).2.2.1) b1 a1.toInt).2.2.2
        unfold q0F q1F q2F
        rw [this]
        congr 1
        grind
      have kb := b_add b3 (b_mul (b_add b4 (b_mul b5 hx)) hx)
      have hcl : (z_bd (f_X1_partFor S a a1) fun q_4 => z_bd q_4 fun a_5 => z_chk (g_is S 4 a_5) (z_bd (f_X4_aboveAt S a_5 a1.toInt64) fun r_6 => z_bd (g_l S 4 3 a_5) fun f_7 => z_bd (f_X7_lowestTerms r_6 f_7 a2) fun r_8 => some r_8)) = some (if a2 = 0 then jI (ev (q0F (C (pfn bg P a1 (pc - 1)))) (q1F (C (pfn bg P a1 (pc - 1)))) (q2F (C (pfn bg P a1 (pc - 1)))) a1.toInt).num else if a2 = 1 then jI ((ev (q0F (C (pfn bg P a1 (pc - 1)))) (q1F (C (pfn bg P a1 (pc - 1)))) (q2F (C (pfn bg P a1 (pc - 1)))) a1.toInt).den : Int) else -1000000000000) := by
        unfold f_X4_aboveAt
        rw [p1, z_bd_s, z_bd_s, z_chk_t (g_is_e p2), e0, z_bd_s, e1, z_bd_s, e2, z_bd_s, z_bd_s, e3, z_bd_s, z_i64, j_mul, j_add, j_mul, j_add, p_lowest b1 (by omega) (by omega), z_bd_s, hev]
      rw [hcl]
      rcases z_in2v a2 with ⟨w1, w2, w3⟩ | ⟨w1, w2⟩
      · exact ⟨_, M, by rw [if_neg w2, if_neg w3], by rw [w1, z_bd_s, if_pos rfl], Scr.rf⟩
      · rw [w1, z_bd_s, if_neg z_10, hmv, z_bd_s]
        unfold f_X8_told_
        rw [setQ_n, setQ_d]
        rcases w2 with rfl | rfl
        · exact ⟨_, _, rfl, rfl, ⟨fun _ _ => rfl, rfl, rfl⟩⟩
        · exact ⟨_, _, rfl, rfl, ⟨fun _ _ => rfl, rfl, rfl⟩⟩
theorem c_miss (hT : TopAt S o (nI cnt) st) (hF : FitsOk S M o cnt F ln) (a0 a1 a2 : Int32) : ∃ r M', f_X7_miss S o a0 a1 a2 = some r ∧ f_X8_miss M a0 a1 a2 = some (r, M') ∧ Scr M M' := by
  unfold f_X7_miss f_X8_miss
  rw [z_chk_t (t_is hT)]
  rcases z_fit hT hF a0 with ⟨h1, h2⟩ | ⟨f, a, f1, f2, rfl, f3, f4, f5⟩
  · exact ⟨_, M, by rw [h2, z_bd_s, z_mt_N], by rw [h1, z_bd_s, if_pos rfl], Scr.rf⟩
  · obtain ⟨g1, g2, g3, kd, dg, n, P, V, Z, pc, bg, C, g4, g5, g6, g7⟩ := f5
    have hn := g5.1.1
    have q10 : z_in (nI f) 10 := by rw [n_in (by omega)]; exact f2
    rw [f4, z_bd_s, z_mt_S, f3, z_bd_s, if_neg z_10, g4.1.r3, z_bd_s, z_chk_t g4.2.1.is, z_chk_t q10, n_cl (by omega), g6.1.2.2.1]
    rcases z_idx n (by omega) a1 with ⟨k1, k2⟩ | ⟨i, hi, rfl, k2⟩
    · exact ⟨_, M, by rw [p_has0 g4.2.1 hn k1, z_bd_s, if_pos rfl], by rw [k2, z_bd_s, if_pos rfl], Scr.rf⟩
    · obtain ⟨b1, b2, b3⟩ := mF_bd g5 hi
      rw [p_hasN g4.2.1 hn (by omega), z_bd_s, if_pos hi, if_neg z_10, z_chk_t g4.1.is, p_missAboveF g4 g5 hi, z_bd_s, z_chk_t g4.1.is, p_missBelowF g4 g5 hi, z_bd_s, p_lowest b2 (by omega) (by omega), z_bd_s, k2, z_bd_s, if_neg z_10, m_missAt g6 g5 f2 hi, z_bd_s]
      unfold f_X8_told_
      rw [setQ_n, setQ_d]
      rcases z_in2v a2 with ⟨w1, w2, w3⟩ | ⟨w1, w2⟩
      · exact ⟨_, M, by rw [if_neg w2, if_neg w3], by rw [w1, z_bd_s, if_pos rfl], Scr.rf⟩
      · rw [w1, z_bd_s, if_neg z_10]
        rcases w2 with rfl | rfl
        · exact ⟨_, _, rfl, rfl, ⟨fun _ _ => rfl, rfl, rfl⟩⟩
        · exact ⟨_, _, rfl, rfl, ⟨fun _ _ => rfl, rfl, rfl⟩⟩
theorem c_level (hT : TopAt S o (nI cnt) st) (hF : FitsOk S M o cnt F ln) (a0 a1 : Int32) : ∃ r M', f_X7_level S o a0 a1 = some r ∧ f_X8_level M a0 a1 = some (r, M') ∧ Scr M M' := by
  unfold f_X7_level f_X8_level
  rw [z_chk_t (t_is hT)]
  rcases z_fit hT hF a0 with ⟨h1, h2⟩ | ⟨f, a, f1, f2, rfl, f3, f4, f5⟩
  · exact ⟨_, M, by rw [h2, z_bd_s, z_mt_N], by rw [h1, z_bd_s, if_pos rfl], Scr.rf⟩
  · obtain ⟨g1, g2, g3, kd, dg, n, P, V, Z, pc, bg, C, g4, g5, g6, g7⟩ := f5
    obtain ⟨r, x, d, l1, l2, l3, l4, l5, l6, l7, l8⟩ := p_levelF g4 g5
    obtain ⟨M', e1, s1, lv⟩ := m_findLevel g6 g5 f2
    rw [f4, z_bd_s, z_mt_S, f3, z_bd_s, if_neg z_10, z_chk_t g4.1.is, l1, z_bd_s, z_chk_t g4.1.is, l2, z_bd_s, z_chk_t g4.1.is, l3, z_bd_s, p_lowest l6 (by omega) (by omega), z_bd_s, l8, e1, z_bd_s, lv.1, lv.2]
    rcases z_in2v a1 with ⟨w1, w2, w3⟩ | ⟨w1, w2⟩
    · exact ⟨_, M, by rw [if_neg w2, if_neg w3], by rw [w1, z_bd_s, if_pos rfl], Scr.rf⟩
    · rw [w1, z_bd_s, if_neg z_10]
      rcases w2 with rfl | rfl
      · exact ⟨_, _, rfl, rfl, s1⟩
      · exact ⟨_, _, rfl, rfl, s1⟩
theorem c_far (hT : TopAt S o (nI cnt) st) (hF : FitsOk S M o cnt F ln) (a0 a1 : Int32) : ∃ r M', f_X7_far S o a0 a1 = some r ∧ f_X8_far M a0 a1 = some (r, M') ∧ Scr M M' := by
  unfold f_X7_far f_X8_far
  rw [z_chk_t (t_is hT)]
  rcases z_fit hT hF a0 with ⟨h1, h2⟩ | ⟨f, a, f1, f2, rfl, f3, f4, f5⟩
  · exact ⟨_, M, by rw [h2, z_bd_s, z_mt_N], by rw [h1, z_bd_s, if_pos rfl], Scr.rf⟩
  · obtain ⟨g1, g2, g3, kd, dg, n, P, V, Z, pc, bg, C, g4, g5, g6, g7⟩ := f5
    obtain ⟨r, M', k1, k2, k3⟩ := c_farK g4 g5 g6 f2 a1
    exact ⟨r, M', by rw [f4, z_bd_s, z_mt_S, z_chk_t g4.1.is, k1, z_bd_s], by rw [f3, z_bd_s, if_neg z_10]; exact k3, k2⟩
theorem c_begins (hT : TopAt S o (nI cnt) st) (hF : FitsOk S M o cnt F ln) (a0 a1 : Int32) : ∃ r, f_X7_begins S o a0 a1 = some r ∧ f_X8_begins M a0 a1 = some r := by
  unfold f_X7_begins f_X8_begins
  rw [z_chk_t (t_is hT)]
  rcases z_fit hT hF a0 with ⟨h1, h2⟩ | ⟨f, a, f1, f2, rfl, f3, f4, f5⟩
  · exact ⟨_, by rw [h2, z_bd_s, z_mt_N], by rw [h1, z_bd_s, if_pos rfl]⟩
  · obtain ⟨g1, g2, g3, kd, dg, n, P, V, Z, pc, bg, C, g4, g5, g6, g7⟩ := f5
    have hpc := g5.2.2.2.2.2.1
    have q10 : z_in (nI f) 10 := by rw [n_in (by omega)]; exact f2
    rw [f4, z_bd_s, z_mt_S, f3, z_bd_s, if_neg z_10, g4.1.i1, z_bd_s]
    simp only [z_chk_t q10]
    rw [n_cl (by omega), g6.1.1, g6.2.1]
    by_cases z4 : kd = 4
    · rw [if_pos z4, if_pos z4, z_chk_t g4.1.is]
      rcases z_part hpc g4.1 a1 with ⟨y1, y2⟩ | ⟨j, y0, y3, y1, y2⟩
      · exact ⟨_, by rw [y2, z_bd_s, if_pos rfl], by rw [y1, z_bd_s, if_pos rfl]⟩
      · obtain ⟨hF', hp, rm, G, Bg, r1, r2, r3, r4, r5, r6, r7⟩ := g4
        have e0 : ((12 : Int32) * nI f) + a1 = nI (12 * f + j) := by rw [y3, show (12 : Int32) = nI 12 from rfl, n_mul, n_add]
        have i0 : z_in (((12 : Int32) * nI f) + a1) 120 := by rw [e0, n_in (by omega)]; omega
        refine ⟨nI (bg j), ?_, ?_⟩
        · rw [y2, z_bd_s, if_neg z_10, hF'.r5, z_bd_s, y3, g_rI_e r5 (by rw [n_in (by omega)]; omega), z_bd_s, n_cl (by omega), r6 j y0]
        · rw [y1, z_bd_s, if_neg z_10, z_chk_t i0, e0, n_cl (by omega), (g6.2.2 j y0).1]
    · exact ⟨_, by rw [if_neg z4], by rw [if_neg z4]⟩
theorem c_against (hT : TopAt S o (nI cnt) st) (hF : FitsOk S M o cnt F ln) (a0 a1 : Int32) : ∃ r M', f_X7_against S o a0 a1 = some r ∧ f_X8_against M a0 a1 = some (r, M') ∧ Scr M M' := by
  unfold f_X7_against f_X8_against
  rw [z_chk_t (t_is hT)]
  rcases z_fit hT hF a0 with ⟨h1, h2⟩ | ⟨f, a, f1, f2, rfl, f3, f4, f5⟩
  · rcases z_fit hT hF a1 with ⟨k1, k2⟩ | ⟨f', b, k1, k2, rfl, k3, k4, k5⟩
    · exact ⟨_, M, by rw [h2, z_bd_s, z_chk_t (t_is hT), k2, z_bd_s, z_mt_N], by rw [h1, z_bd_s, if_pos rfl], Scr.rf⟩
    · exact ⟨_, M, by rw [h2, z_bd_s, z_chk_t (t_is hT), k4, z_bd_s, z_mt_N], by rw [h1, z_bd_s, if_pos rfl], Scr.rf⟩
  · rw [f4, z_bd_s, z_chk_t (t_is hT), f3, z_bd_s, if_neg z_10]
    rcases z_fit hT hF a1 with ⟨k1, k2⟩ | ⟨f', b, k1, k2, rfl, k3, k4, k5⟩
    · exact ⟨_, M, by rw [k2, z_bd_s, z_mt_S, z_mt_N], by rw [k1, z_bd_s, if_pos rfl], Scr.rf⟩
    · obtain ⟨g1, g2, g3, kd, dg, n, P, V, Z, pc, bg, C, g4, g5, g6, g7⟩ := f5
      obtain ⟨g1', g2', g3', kd', dg', n', P', V', Z', pc', bg', C', g4', g5', g6', g7'⟩ := k5
      obtain ⟨r, x, d, l1, l2, l3, l4, l5, l6, l7, l8⟩ := p_levelF g4 g5
      obtain ⟨r', x', d', m1, m2, m3, m4, m5, m6, m7, m8⟩ := p_levelF g4' g5'
      obtain ⟨M3, e1, s1, lv⟩ := m_findLevel g6 g5 f2
      obtain ⟨M4, e2, s2, lv2⟩ := m_findLevel (g6'.scr s1) g5' k2
      have b1 := mx_ab g5 n (Nat.le_refl _)
      have b2 := mx_ab g5' n' (Nat.le_refl _)
      have hc := m_cmpR (x := mx (mF P V Z pc bg C) n) (y := mx (mF P' V' Z' pc' bg' C') n') (mx_ge _ _).1 (mx_ge _ _).1 (by omega) (by omega) (by omega) (by omega)
      have c1 := mF_cmp (x := x) (y := x') l6 m6
      have ax : (Rat.divInt x d).abs = Rat.divInt x d := by rw [dv_abs l6]; congr 1; omega
      have ax' : (Rat.divInt x' d').abs = Rat.divInt x' d' := by rw [dv_abs m6]; congr 1; omega
      rw [ax, ax', l8, m8, show (x.natAbs : Int) = x by omega, show (x'.natAbs : Int) = x' by omega] at c1
      rw [← l8, ← m8] at hc
      refine ⟨_, M4, ?_, by rw [k3, z_bd_s, if_neg z_10, e1, z_bd_s, e2, z_bd_s, lv.1, lv.2, lv2.1, lv2.2, ← l8, ← m8, hc, z_bd_s], s1.tr s2⟩
      have p1 := mF_pr (x := x) (d := d') (by omega) m6 m7
      have p2 := mF_pr (x := x') (d := d) (by omega) l6 l7
      rw [show (x.natAbs : Int) = x by omega] at p1
      rw [show (x'.natAbs : Int) = x' by omega] at p2
      rw [k4, z_bd_s, z_mt_S, z_mt_S, z_chk_t g4.1.is, l1, z_bd_s, z_chk_t g4'.1.is, m1, z_bd_s, z_chk_t g4.1.is, l2, z_bd_s, z_chk_t g4'.1.is, m3, z_bd_s, z_chk_t g4'.1.is, m2, z_bd_s, z_chk_t g4.1.is, l3, z_bd_s, j_mul, j_mul, j_cmpL p1 p2, z_bd_s, l8, m8]
      simp only [c1.1, c1.2]
end Q2
