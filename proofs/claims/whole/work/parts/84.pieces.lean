/-! pieces: the reference's rows, and both -/
theorem LoR.tr {M M1 M2 : MS} {q0 q1 q2 x p0 p1 p2 y : Rat} (h1 : LoR M M1 q0 q1 q2 x) (h2 : LoR M1 M2 p0 p1 p2 y) : LoR M M2 p0 p1 p2 y := ⟨fun k a b c d => (h2.1 k a b c d).trans (h1.1 k a b c d), h2.2.1.trans h1.2.1, h2.2.2.1.trans h1.2.2.1, h2.2.2.2⟩
theorem LoR.fit {M M1 : MS} {q0 q1 q2 x : Rat} (h : LoR M M1 q0 q1 q2 x) {fi n : Nat} {kd dg : Int32} {P V Z : Nat → Int32} (hf : MFit M fi n kd dg P V Z) : MFit M1 fi n kd dg P V Z := by
  unfold MFit
  rw [h.1 5 (by omega) (by omega) (by omega) (by omega), h.1 6 (by omega) (by omega) (by omega) (by omega), h.1 7 (by omega) (by omega) (by omega) (by omega), h.1 8 (by omega) (by omega) (by omega) (by omega), h.1 9 (by omega) (by omega) (by omega) (by omega), h.1 10 (by omega) (by omega) (by omega) (by omega)]
  exact hf
theorem LoR.keep {M M1 : MS} {q0 q1 q2 x : Rat} (h : LoR M M1 q0 q1 q2 x) (c : Nat) : KeepN M M1 c := by
  have r : ∀ k, k ≤ 20 → M1.1 k = M.1 k := fun k hk => h.1 k (by omega) (by omega) (by omega) (by omega)
  refine ⟨fun k hk => r k (by omega), fun f _ => ?_⟩
  unfold KeepF
  rw [r 5 (by omega), r 6 (by omega), r 7 (by omega), r 8 (by omega), r 9 (by omega), r 10 (by omega), r 11 (by omega), r 12 (by omega), h.2.1, h.2.2.1]
  exact ⟨⟨rfl, rfl, rfl, rfl⟩, fun _ _ => ⟨rfl, rfl, rfl, rfl⟩, fun _ _ => ⟨rfl, rfl⟩⟩
theorem m_cmpPQ {r x : Rat} {p q : Int32} (hx : r.abs = x) (b1 : r.num.natAbs ≤ 67108864) (b2 : r.den ≤ 1048576) (hp : 0 ≤ p.toInt ∧ p.toInt ≤ 10000) (hq : 1 ≤ q.toInt ∧ q.toInt ≤ 1000) : ∃ s, f_X8_compare (jI (r.num.natAbs : Int)) (jI (r.den : Int)) p.toInt64 q.toInt64 = some s ∧ (s ≤ 0 ↔ ¬ Rat.divInt p.toInt q.toInt < x) := by
  have hd := r.den_pos
  have hc := (mF_cmp (x := p.toInt) (y := r.num) (c := q.toInt) (d := (r.den : Int)) (by omega) (by omega)).1
  rw [dv_abs (a := p.toInt) (by omega), Rat.num_divInt_den, hx, show ((p.toInt.natAbs : Nat) : Int) = p.toInt by omega] at hc
  obtain ⟨pp, hpp⟩ : ∃ u : Nat, p.toInt = (u : Int) := ⟨p.toInt.toNat, by omega⟩
  obtain ⟨qq, hqq⟩ : ∃ u : Nat, q.toInt = (u : Int) := ⟨q.toInt.toNat, by omega⟩
  refine ⟨sg 1 r.num.natAbs r.den pp qq, ?_, ?_⟩
  · rw [z_i64, z_i64, hpp, hqq]
    exact m_cmp (by omega) (by omega) (by omega) (by omega) (by omega) (by omega)
  · rw [hc, hpp, hqq]
    have e : ((pp : Int) * (r.den : Int) < (r.num.natAbs : Int) * (qq : Int)) ↔ pp * r.den < r.num.natAbs * qq := ⟨fun h => by exact_mod_cast h, fun h => by exact_mod_cast h⟩
    rw [e]
    unfold sg
    by_cases z : r.num.natAbs * qq < pp * r.den
    · rw [if_pos z]
      exact ⟨fun _ => by omega, fun _ => by decide⟩
    · rw [if_neg z]
      by_cases w : r.num.natAbs * qq = pp * r.den
      · rw [if_pos w]
        exact ⟨fun _ => by omega, fun _ => by decide⟩
      · rw [if_neg w]
        exact ⟨fun h => absurd h (by decide), fun h => by omega⟩
section PJ
variable {fi n c1 f fr d : Nat} {dg p q : Int32} {P V Z : Nat → Int32} {u0 u1 u2 : Rat}
theorem m_down (hO : PtsOk n P V Z) (hc : fi < c1) (hc10 : c1 ≤ 10) (hf : frN 1 dg f) (hf3 : f = 1 ∨ f = 2 ∨ f = 3) (hp : 0 ≤ p.toInt ∧ p.toInt ≤ 10000) (hq : 1 ≤ q.toInt ∧ q.toInt ≤ 1000) (hrow : ∀ y, d ≤ y → fr + y ≤ n → ∃ q0 q1 q2 x, RowX f fr y P V Z q0 q1 q2 x ∧ (y = d → (q0 = u0 ∧ q1 = u1 ∧ q2 = u2) ∧ ¬ Rat.divInt p.toInt q.toInt < x) ∧ (d < y → Rat.divInt p.toInt q.toInt < x)) : ∀ (k y : Nat) (M0 M : MS) (q0 q1 q2 x : Rat), y - d = k → d ≤ y → fr + y ≤ n → MFit M0 fi n 4 dg P V Z → M0.1 4 0 = nI c1 → LoR M0 M q0 q1 q2 x → (y = d → (q0 = u0 ∧ q1 = u1 ∧ q2 = u2) ∧ ¬ Rat.divInt p.toInt q.toInt < x) → (d < y → Rat.divInt p.toInt q.toInt < x) → ∃ M' x', z_lp (fun s => f_X8_pieces_L110 p q (nI fi) (nI fr) s.1 s.2) (nI y, M) = some (nI d, M') ∧ LoR M0 M' u0 u1 u2 x' := by
  have hn := hO.1
  intro k
  induction k with
  | zero =>
    intro y M0 M q0 q1 q2 x h1 h2 h3 h4 h5 h6 h7 h8
    have e : y = d := by omega
    obtain ⟨⟨e0, e1, e2⟩, ex⟩ := h7 e
    subst e; subst e0; subst e1; subst e2
    obtain ⟨r, r1, r2, r3, r4, r5⟩ := h6.2.2.2.2
    obtain ⟨s, s1, s2⟩ := m_cmpPQ r3 r4 r5 hp hq
    refine ⟨M, x, z_lp_x ?_, h6⟩
    show f_X8_pieces_L110 p q (nI fi) (nI fr) (nI y) M = _
    unfold f_X8_pieces_L110
    rw [r1, r2, j_abs (by omega) (by omega), z_bd_s, s1, z_bd_s, if_pos (s2.mpr ex)]
  | succ k ih =>
    intro y M0 M q0 q1 q2 x h1 h2 h3 h4 h5 h6 h7 h8
    obtain ⟨r, r1, r2, r3, r4, r5⟩ := h6.2.2.2.2
    obtain ⟨s, s1, s2⟩ := m_cmpPQ r3 r4 r5 hp hq
    obtain ⟨p0, p1, p2, z, y1, y2, y3⟩ := hrow (y - 1) (by omega) (by omega)
    obtain ⟨M2, l1, l2⟩ := m_lineOf (h6.fit h4) hO (by rw [h6.1 4 (by omega) (by omega) (by omega) (by omega)]; exact h5) hc hc10 hf hf3 (by omega) y1
    have hd : f_X8_pieces_L110 p q (nI fi) (nI fr) (nI y) M = some (.inr (nI (y - 1), M2)) := by
      unfold f_X8_pieces_L110
      rw [r1, r2, j_abs (by omega) (by omega), z_bd_s, s1, z_bd_s, if_neg (fun hs => (s2.mp hs) (h8 (by omega))), show nI y + (-1 : Int32) = nI (y - 1) by rw [← n_sub (by omega)]; rw [Int32.sub_eq_add_neg]; rfl, l1, z_bd_s]
    rw [z_lp_n (y := (nI (y - 1), M2)) hd]
    exact ih (y - 1) M0 M2 p0 p1 p2 z (by omega) (by omega) (by omega) h4 h5 (h6.tr l2) y2 y3
theorem m_rowMore {M : MS} {pc : Nat} {bg : Nat → Nat} {C C' : Nat → Pol4} (hO : PtsOk n P V Z) (hc : fi < c1) (hc10 : c1 ≤ 10) (hf : frN 1 dg f) (hf3 : f = 1 ∨ f = 2 ∨ f = 3) (hp : 0 ≤ p.toInt ∧ p.toInt ≤ 10000) (hq : 1 ≤ q.toInt ∧ q.toInt ≤ 1000) (hM : FitM M fi 4 dg n P V Z pc bg C) (h4 : M.1 4 0 = nI c1) (hd1 : 1 ≤ d) (hd2 : fr + d ≤ n) (hpc : pc < 12) (hC : ∀ j, j ≠ pc → C' j = C j) (hrow : ∀ y, d ≤ y → fr + y ≤ n → ∃ q0 q1 q2 x, RowX f fr y P V Z q0 q1 q2 x ∧ (y = d → (q0 = q0F (C' pc) ∧ q1 = q1F (C' pc) ∧ q2 = q2F (C' pc)) ∧ ¬ Rat.divInt p.toInt q.toInt < x) ∧ (d < y → Rat.divInt p.toInt q.toInt < x)) : ∃ M', f_X8_pieces_L76 p q (nI fi) (nI fr) M = some (.inr (nI (fr + d), M')) ∧ M'.1 4 0 = nI c1 ∧ FitM M' fi 4 dg n P V Z (pc + 1) (va_up bg pc fr) C' ∧ KeepN M M' fi := by
  have hn := hO.1
  have hf10 : fi < 10 := by omega
  have q10 : z_in (nI fi) 10 := by rw [n_in (by omega)]; exact hf10
  obtain ⟨hm, m11, mj⟩ := hM
  obtain ⟨p0, p1, p2, z, y1, y2, y3⟩ := hrow (n - fr) (by omega) (by omega)
  obtain ⟨M12, l1, l2⟩ := m_lineOf hm hO h4 hc hc10 hf hf3 (by omega) y1
  obtain ⟨M16, x', g1, g2⟩ := m_down hO hc hc10 hf hf3 hp hq hrow _ (n - fr) M M12 p0 p1 p2 z rfl (by omega) (by omega) hm h4 l2 y2 y3
  have r16 : ∀ k, k ≤ 20 → M16.1 k = M.1 k := fun k hk => g2.1 k (by omega) (by omega) (by omega) (by omega)
  have e11 : M16.1 11 fi = nI pc := by rw [r16 11 (by omega)]; exact m11
  obtain ⟨M20, hM20⟩ : ∃ z, z = sI M16 12 (12 * fi + pc) (nI fr) := ⟨_, rfl⟩
  have r20 : ∀ k, k ≠ 12 → M20.1 k = M16.1 k := fun k hk => by rw [hM20, sI_n _ hk]
  have s20 : M20.2 = M16.2 := by rw [hM20]; rfl
  obtain ⟨M21, k1, k2⟩ := m_keep (M := M20) (f := fi) (p := pc) hf10 hpc
  obtain ⟨M22, hM22⟩ : ∃ z, z = sI M21 11 fi (nI (pc + 1)) := ⟨_, rfl⟩
  have r22 : ∀ k, k ≠ 11 → M22.1 k = M20.1 k := fun k hk => by rw [hM22, sI_n _ hk, k2.1]
  have s22 : M22.2 = M21.2 := by rw [hM22]; rfl
  have rr : ∀ k, k ≤ 20 → k ≠ 11 → k ≠ 12 → M22.1 k = M.1 k := fun k a b c => by rw [r22 k b, r20 k c]; exact r16 k a
  have r12 : ∀ j, M22.1 12 j = if j = 12 * fi + pc then nI fr else M.1 12 j := fun j => by
    rw [r22 12 (by omega), hM20, sI_s, r16 12 (by omega)]
    rfl
  have e0 : ((12 : Int32) * nI fi) + nI pc = nI (12 * fi + pc) := by rw [show (12 : Int32) = nI 12 from rfl, n_mul, n_add]
  have q1 : z_in (nI (12 * fi + pc)) 120 := by rw [n_in (by omega)]; omega
  refine ⟨M22, ?_, ?_, ⟨?_, ?_, fun j hj => ⟨?_, ?_⟩⟩, ?_⟩
  · unfold f_X8_pieces_L76
    simp only [z_chk_t q10]
    rw [n_cl (by omega), hm.2.2.1, if_neg (by rw [n_le (by omega) (by omega)]; omega), n_sub (by omega), l1, z_bd_s, g1, z_bd2_s, e11, e0, z_chk_t q1, z_lt_e, n_cl (by omega), ← hM20, r20 11 (by omega), e11, k1, z_bd_s, z_lt_e, k2.1, r20 11 (by omega), e11, show nI pc + (1 : Int32) = nI (pc + 1) from n_add pc 1, ← hM22, n_add]
  · rw [rr 4 (by omega) (by omega) (by omega)]; exact h4
  · unfold MFit
    rw [rr 5 (by omega) (by omega) (by omega), rr 6 (by omega) (by omega) (by omega), rr 7 (by omega) (by omega) (by omega), rr 8 (by omega) (by omega) (by omega), rr 9 (by omega) (by omega) (by omega), rr 10 (by omega) (by omega) (by omega)]
    exact hm
  · rw [hM22, sI_s, upd_s]
  · rw [r12]
    by_cases w : j = pc
    · rw [if_pos (by omega), w, va_up_s]
    · rw [if_neg (by omega), va_up_n _ w]
      exact (mj j (by omega)).1
  · by_cases w : j = pc
    · subst w
      obtain ⟨⟨c1, c2⟩, ⟨c3, c4⟩, c5, c6⟩ := g2.2.2.2.1
      have hmp : MPol M21 (36 * fi + 3 * j) (C' j) := by
        refine MPol.of k2 ?_ ?_ ?_
        · rw [s20]; exact ⟨c1, c2⟩
        · rw [s20]
          unfold xq1 at c3 c4
          rw [if_neg (by decide)] at c3 c4
          exact ⟨c3, c4⟩
        · rw [s20]
          unfold xq2 at c5 c6
          rw [if_neg (by decide)] at c5 c6
          exact ⟨c5, c6⟩
      unfold MPol
      rw [s22]
      exact hmp
    · have hmj := (mj j (by omega)).2
      rw [hC j w]
      have t : ∀ i, i < 3 → M22.2 13 (36 * fi + 3 * j + i) = M.2 13 (36 * fi + 3 * j + i) ∧ M22.2 14 (36 * fi + 3 * j + i) = M.2 14 (36 * fi + 3 * j + i) := fun i hi => by
        rw [s22, ← g2.2.1, ← g2.2.2.1, ← s20]
        exact k2.2.2.1 _ (by omega)
      unfold MPol
      rw [show 36 * fi + 3 * j = 36 * fi + 3 * j + 0 from rfl, (t 0 (by omega)).1, (t 0 (by omega)).2]
      rw [show 36 * fi + 3 * j + 0 + 1 = 36 * fi + 3 * j + 1 from rfl, show 36 * fi + 3 * j + 0 + 2 = 36 * fi + 3 * j + 2 from rfl, (t 1 (by omega)).1, (t 1 (by omega)).2, (t 2 (by omega)).1, (t 2 (by omega)).2]
      exact hmj
  · refine ⟨fun k hk => rr k (by omega) (by omega) (by omega), fun g hg => ⟨⟨?_, ?_, ?_, ?_⟩, fun i hi => ⟨?_, ?_, ?_, ?_⟩, fun i hi => ?_⟩⟩
    · rw [rr 5 (by omega) (by omega) (by omega)]
    · rw [rr 6 (by omega) (by omega) (by omega)]
    · rw [rr 7 (by omega) (by omega) (by omega)]
    · rw [hM22, sI_s, upd_n _ hg, k2.1, r20 11 (by omega), r16 11 (by omega)]
    · rw [rr 8 (by omega) (by omega) (by omega)]
    · rw [rr 9 (by omega) (by omega) (by omega)]
    · rw [rr 10 (by omega) (by omega) (by omega)]
    · rw [r12, if_neg (by omega)]
    · rw [s22, ← g2.2.1, ← g2.2.2.1, ← s20]
      exact k2.2.2.1 _ (by omega)
end PJ
section PZ
variable {S : GS} {M : MS} {o cnt : Nat} {st : Int32} {F : Nat → Option Nat} {ln : Nat → Nat}
theorem polK0 : PolK (0, 0, 0, 1) := ⟨⟨by decide, by decide, by decide, by decide, by decide⟩, by decide⟩
theorem pc_join {S0 : GS} {a n f : Nat} {dg p q : Int32} {P V Z : Nat → Int32} (h0 : S0.2 = a) (hO : PtsOk n P V Z) (hc9 : cnt < 10) (hf4 : frN 4 dg f) (hf : frN 1 dg f) (hf3 : f = 1 ∨ f = 2 ∨ f = 3) (ha : o + 68 ≤ a) (hp : 0 ≤ p.toInt ∧ p.toInt ≤ 10000) (hq : 1 ≤ q.toInt ∧ q.toInt ≤ 1000) : ∀ (k fr pc : Nat) (bg : Nat → Nat) (C : Nat → Pol4) (S : GS) (M : MS), n - fr ≤ k → fr ≤ n → pc ≤ fr → (pc = 0 → fr = 0 ∧ C 0 = (0, 0, 0, 1)) → (∀ j, j < pc ∨ j = 0 → PolK (C j)) → (∀ j, j < pc → bg j < fr) → (∀ j, 1 ≤ j → j < pc → bg (j - 1) < bg j) → TopAt S o (nI cnt) st → LvOk S o → PcAt S a cnt dg n P V Z pc bg C → S.2 = a + 8 + pc → M.1 4 0 = nI (cnt + 1) → FitM M cnt 4 dg n P V Z pc bg C → ∃ S' M' pc' bg' C', z_lp (fun x => f_X7_partedFit_L26 S0 p q o x.1 x.2.1 x.2.2) (nI fr, nI pc, S) = some S' ∧ z_lp (fun x => f_X8_pieces_L76 p q (nI cnt) x.1 x.2) (nI fr, M) = some M' ∧ LvOk S' o ∧ PcAt S' a cnt dg n P V Z pc' bg' C' ∧ S'.2 = a + 8 + pc' ∧ (∀ b, b < a → (b < o + 4 ∨ o + 13 ≤ b) → S'.1 b = S.1 b) ∧ M'.1 4 0 = nI (cnt + 1) ∧ FitM M' cnt 4 dg n P V Z pc' bg' C' ∧ KeepN M M' cnt ∧ FitOk 4 n P V Z pc' bg' C' ∧ pc' ≤ max n 1 := by
  have hn := hO.1
  have q10 : z_in (nI cnt) 10 := by rw [n_in (by omega)]; exact hc9
  intro k
  induction k with
  | zero =>
    intro fr pc bg C S M h1 h2 h3 h4 h5 h6 h7 h8 h9 h10 h11 h12 h13
    have e : fr = n := by omega
    subst e
    refine ⟨S, M, pc, bg, C, z_lp_x ?_, z_lp_x ?_, h9, h10, h11, fun _ _ _ => rfl, h12, h13, KeepN.rf, ⟨hO, h5, Or.inl rfl, fun j j1 j2 => ⟨h6 j j2, h7 j j1 j2⟩, fun z => (h4 z).2, by omega, Or.inr (Or.inr (Or.inr (Or.inr rfl))), fun z => (h4 z).1⟩, by omega⟩
    · show f_X7_partedFit_L26 S0 p q o (nI fr) (nI pc) S = _
      subst h0
      unfold f_X7_partedFit_L26
      by_cases z : (12 : Int32) ≤ nI pc
      · rw [if_pos z]
      · rw [if_neg z, h10.1.r3, z_bd_s, h10.2.1.sz, z_bd_s, if_pos (Int32.le_refl _)]
    · show f_X8_pieces_L76 p q (nI cnt) (nI fr) M = _
      unfold f_X8_pieces_L76
      simp only [z_chk_t q10]
      rw [n_cl (by omega), h13.1.2.2.1, if_pos (Int32.le_refl _)]
  | succ k ih =>
    intro fr pc bg C S M h1 h2 h3 h4 h5 h6 h7 h8 h9 h10 h11 h12 h13
    by_cases e : fr = n
    · exact ih fr pc bg C S M (by omega) h2 h3 h4 h5 h6 h7 h8 h9 h10 h11 h12 h13
    · obtain ⟨S1, C1, to, y1, y2, y3, y4, y5⟩ := p_rowMore (p := p) (q := q) (fr := fr) h0 h8 h9 h10 h11 hO hf4 hf3 ha hp hq (by omega) (by omega)
      obtain ⟨g1, g2, g3, g4, g5, g6, g7, x0, g8, g9⟩ := y2
      have hrow : ∀ y, to - fr ≤ y → fr + y ≤ n → ∃ q0 q1 q2 x, RowX f fr y P V Z q0 q1 q2 x ∧ (y = to - fr → (q0 = q0F (C1 pc) ∧ q1 = q1F (C1 pc) ∧ q2 = q2F (C1 pc)) ∧ ¬ Rat.divInt p.toInt q.toInt < x) ∧ (to - fr < y → Rat.divInt p.toInt q.toInt < x) := by
        intro y hy1 hy2
        by_cases w : y = to - fr
        · exact ⟨_, _, _, x0, by rw [w]; exact g8, fun _ => ⟨⟨rfl, rfl, rfl⟩, g9⟩, fun z => by omega⟩
        · obtain ⟨q0, q1, q2, x, hx⟩ := row_ex (fr := fr) (m := y) g1 g2 g3 hO hf4 hf3 ha hy2
          refine ⟨q0, q1, q2, x, hx, fun z => absurd z w, fun _ => ?_⟩
          rcases y5 with z | ⟨z, p0, p1, p2, x2, z1, z2⟩
          · omega
          · exact Rat.not_le.mp (fun hh => Rat.not_lt.mpr (Rat.le_trans (lvx_mono (row_rw hO hy2 hf3) (by omega) z1 hx) hh) z2)
      obtain ⟨M1, m1, m2, m3, m4⟩ := m_rowMore (fi := cnt) (c1 := cnt + 1) (d := to - fr) hO (by omega) (by omega) hf hf3 hp hq h13 h12 (by omega) (by omega) (by omega) y3 hrow
      rw [show fr + (to - fr) = to by omega] at m1
      obtain ⟨S', M', pc', bg', C', r1, r2, r3, r4, r5, r6, r7, r8, r9, r10⟩ := ih to (pc + 1) (va_up bg pc fr) C1 S1 M1 (by omega) g6 (by omega) (fun z => by omega) (fun j hj => by
        by_cases w : j = pc
        · rw [w]; exact g7
        · rw [y3 j w]; exact h5 j (by omega)) (fun j hj => by
        by_cases w : j = pc
        · rw [w, va_up_s]; exact g5
        · rw [va_up_n _ w]; have := h6 j (by omega); omega) (fun j j1 j2 => by
        by_cases w : j = pc
        · rw [w, va_up_s, va_up_n _ (by omega)]; exact h6 _ (by omega)
        · rw [va_up_n _ w, va_up_n _ (by omega)]; exact h7 j j1 (by omega)) g1 g2 g3 g4 m2 m3
      refine ⟨S', M', pc', bg', C', ?_, ?_, r3, r4, r5, fun b b1 b2 => (r6 b b1 b2).trans (y4 b b1 b2), r7, r8, m4.tr r9, r10⟩
      · rw [← r1]
        exact z_lp_n (y := (nI to, nI (pc + 1), S1)) y1
      · rw [← r2]
        exact z_lp_n (y := (nI to, M1)) m1
theorem g_good3 (a1 a2 a3 : Int32) : ∃ g : Int32, (z_bd (f_X8_in a1 (0 : Int32) (2 : Int32)) fun r_1 => (if r_1 = 0 then some ((0 : Int32)) else z_bd (f_X8_in a2 (0 : Int32) (10000 : Int32)) fun r_3 => if r_3 = 0 then some ((0 : Int32)) else z_bd (f_X8_in a3 (1 : Int32) (1000 : Int32)) fun r_4 => if r_4 = 0 then some ((0 : Int32)) else some ((1 : Int32)))) = some g ∧ (g = 0 ∨ (¬ g = 0 ∧ (a1 = 0 ∨ a1 = 1 ∨ a1 = 2) ∧ (0 ≤ a2.toInt ∧ a2.toInt ≤ 10000) ∧ 1 ≤ a3.toInt ∧ a3.toInt ≤ 1000)) := by
  rcases z_in2 a1 with ⟨h, -⟩ | ⟨h, h1⟩
  · exact ⟨0, by rw [h, z_bd_s, if_pos rfl], Or.inl rfl⟩
  · rcases z_in01 a2 0 10000 with k | ⟨k, k1, k2⟩
    · exact ⟨0, by rw [h, z_bd_s, if_neg z_10, k, z_bd_s, if_pos rfl], Or.inl rfl⟩
    · rcases z_in01 a3 1 1000 with m | ⟨m, m1, m2⟩
      · exact ⟨0, by rw [h, z_bd_s, if_neg z_10, k, z_bd_s, if_neg z_10, m, z_bd_s, if_pos rfl], Or.inl rfl⟩
      · exact ⟨1, by rw [h, z_bd_s, if_neg z_10, k, z_bd_s, if_neg z_10, m, z_bd_s, if_neg z_10], Or.inr ⟨z_10, h1, i_bd (l := 0) (h := 10000) k1 k2 (by decide) (by decide), i_bd (l := 1) (h := 1000) m1 m2 (by decide) (by decide)⟩⟩
theorem c_pieces (hT : TopAt S o (nI cnt) st) (hA : SetsArr S o) (hO : SetsOk S M o) (hF : FitsOk S M o cnt F ln) (hL : LvOk S o) (hX : SsOk S o) (h68 : o + 68 ≤ S.2) (a0 a1 a2 a3 : Int32) : ∃ r S' M', f_X7_pieces S o a0 a1 a2 a3 = some (r, S') ∧ f_X8_pieces M a0 a1 a2 a3 = some (r, M') ∧ NewRes S S' M M' o cnt F ln := by
  have hi := t_is hT
  have hc10 := hF.2.2.1
  obtain ⟨S1, e1, e2, e3⟩ := n_ref (M := M) hT hF hL hX 1
  obtain ⟨S2, d1, d2, d3⟩ := n_ref (M := M) hT hF hL hX 2
  obtain ⟨g, gg, gv⟩ := g_good3 a1 a2 a3
  unfold f_X7_pieces f_X8_pieces
  simp only [z_chk_t hi]
  simp only [z_within]
  rw [z_bd_as (f_X8_in a1 0 2), gg, z_bd_s]
  obtain ⟨wn1, wn2, wn3⟩ := m_whyNot (M := M) (cnt := cnt) (a0 := a0) (g := g) hF.2.1 hc10
  rcases z_in05 a0 with ⟨h1, h2⟩ | ⟨s, hs, rfl, h1⟩
  · refine ⟨-1, S1, _, ?_, by rw [wn1 h1, z_bd_s, if_neg z_10, e2, z_bd2_s], e3⟩
    rw [t_setAt0 h2, z_bd_s, z_bd_as, gg, z_bd_s, z_mt_N, e1, z_bd2_s]
  · rw [t_setAt hT hA hs, z_bd_s, z_bd_as, gg, z_bd_s, z_mt_S]
    rcases gv with g0 | ⟨g0, v1, v2, v3⟩
    · exact ⟨-1, S1, _, by rw [if_pos g0, e1, z_bd2_s], by rw [wn2 h1 g0, z_bd_s, if_neg z_10, e2, z_bd2_s], e3⟩
    · rw [if_neg g0, g_i_e (k := 6) hT rfl, z_bd_s, wn3 h1 g0, z_bd_s]
      by_cases hc : cnt = 10
      · exact ⟨-1, S2, _, by rw [if_neg (by rw [hc]; decide), d1, z_bd2_s], by rw [if_pos hc, if_neg (by decide), d2, z_bd2_s], d3⟩
      · have hc9 : cnt < 10 := by omega
        have q10 : z_in (nI cnt) 10 := by rw [n_in (by omega)]; exact hc9
        rw [if_pos (by rw [show (10 : Int32) = nI 10 from rfl, n_lt (by omega) (by omega)]; exact hc9), if_neg hc, if_pos rfl]
        obtain ⟨n, P, V, Z, p1, p2, p3, p4⟩ := hO s hs
        have hn := p2.1
        obtain ⟨S3, S6, k1, k2, k3, k4, k5⟩ := p_make hT hs p1 p2.1 h68 4 a1
        have hrm : rmN 4 n = max n 1 := by unfold rmN; rw [if_pos rfl]
        rw [hrm] at k5
        have hpc : PcAt S6 S.2 cnt a1 n P V Z 0 (fun _ => 0) (fun _ => (0, 0, 0, 1)) := by
          refine ⟨?_, ⟨k5.at 1 _ rfl, k5.at 2 _ rfl, k5.at 3 _ rfl, k5.at 4 _ rfl⟩, _, _, k5.at 5 _ rfl, k5.at 6 _ rfl, fun j hj => by omega, fun _ => ⟨va_up_s _ _ _, k5.at 7 _ rfl⟩⟩
          have e := k5.at 0 _ rfl
          unfold fo at e
          rw [if_pos rfl] at e
          exact e
        have hT6 : TopAt S6 o (nI cnt) st := (k5.2.2 o (by omega)).trans hT
        have hfr : ∃ f, frN 1 a1 f ∧ frN 4 a1 f ∧ (f = 1 ∨ f = 2 ∨ f = 3) := by
          unfold frN
          rw [if_neg (by decide), if_neg (by decide)]
          rcases v1 with z | z | z
          · exact ⟨1, by rw [z]; rfl, by rw [z]; rfl, by omega⟩
          · exact ⟨2, by rw [z]; rfl, by rw [z]; rfl, by omega⟩
          · exact ⟨3, by rw [z]; rfl, by rw [z]; rfl, by omega⟩
        obtain ⟨f, hf, hf4, hf3⟩ := hfr
        obtain ⟨M7, m1, m2, m3, m4, m5, m6, m7⟩ := m_newFit (kd := 4) (dg := a1) hs p2.1 p3 p4 hF.2.1 hc9
        obtain ⟨M8, hM8⟩ : ∃ z, z = sI M7 11 cnt (0 : Int32) := ⟨_, rfl⟩
        have r8 : ∀ k, k ≠ 11 → M8.1 k = M7.1 k := fun k hk => by rw [hM8, sI_n _ hk]
        have s8 : M8.2 = M7.2 := by rw [hM8]; rfl
        have f8 : FitM M8 cnt 4 a1 n P V Z 0 (fun _ => 0) (fun _ => (0, 0, 0, 1)) := by
          refine ⟨?_, by rw [hM8, sI_s, upd_s]; rfl, fun j hj => by omega⟩
          unfold MFit
          rw [r8 5 (by omega), r8 6 (by omega), r8 7 (by omega), r8 8 (by omega), r8 9 (by omega), r8 10 (by omega)]
          exact m3
        have kn8 : KeepN M7 M8 cnt := by
          refine ⟨fun k hk => r8 k (by omega), fun g hg => ?_⟩
          unfold KeepF
          rw [r8 5 (by omega), r8 6 (by omega), r8 7 (by omega), r8 8 (by omega), r8 9 (by omega), r8 10 (by omega), r8 12 (by omega), s8, hM8, sI_s, upd_n _ hg]
          exact ⟨⟨rfl, rfl, rfl, rfl⟩, fun _ _ => ⟨rfl, rfl, rfl, rfl⟩, fun _ _ => ⟨rfl, rfl⟩⟩
        obtain ⟨S9, M9, pc, bg, C, j1, j2, j3, j4, j5, j6, j7, j8, j9, j10, j11⟩ := pc_join (S0 := S) (cnt := cnt) (o := o) (st := st) (p := a2) (q := a3) rfl p2 hc9 hf4 hf hf3 h68 v2 v3 n 0 0 (fun _ => 0) (fun _ => (0, 0, 0, 1)) S6 M8 (by omega) (by omega) (by omega) (fun _ => ⟨rfl, rfl⟩) (fun _ _ => polK0) (fun j hj => by omega) (fun j _ hj => by omega) hT6 (hL.new k5 h68) hpc (by rw [k5.1]; rfl) (by rw [r8 4 (by omega)]; exact m2) f8
        have hcell : ∀ b, b < S.2 → (b < o + 4 ∨ o + 15 ≤ b) → S9.1 b = S.1 b := fun b hb h2 => by rw [j6 b hb (by omega)]; exact k5.2.2 b hb
        have hX9 : SsOk S9 o := by
          obtain ⟨R, b0, b1, x1, x2⟩ := hX.new k5 h68
          exact ⟨R, b0, b1, (j6 _ (by omega) (by omega)).trans x1, (j6 _ (by omega) (by omega)).trans x2⟩
        obtain ⟨S10, n1, n2⟩ := n_keep (S := S9) (M := M9) (a := S.2) (len := 8 + pc) (cnt := cnt) hT hF hc9 h68 rfl (by omega) (by rw [j5]; omega) hcell j3 hX9 (j4.fit hn j11) j10 j8 (fitX_no (by decide)) j7 (m7.tr (kn8.tr j9))
        have hT9 : TopAt S9 o (nI cnt) st := (hcell o (by omega) (by omega)).trans hT
        refine ⟨nI cnt, S10, _, ?_, ?_, n2⟩
        · unfold f_X7_partedFit
          rw [z_lt_e, show (.inr (.inr (.inr (1, [.int 0, .int 0, .int 0, .null, .null, .null, .int 0]))) : PE) = fo0 from rfl, k1, z_bd_s, z_chk_t k2, k3, z_bd2_s, z_bd_s, k4, z_bd_s, show (0 : Int32) = nI 0 from rfl, j1, z_bd_s, z_bd2_s, z_bd_s, z_chk_t (t_is hT9), n1, z_bd2_s]
        · rw [m1, z_bd2_s, z_chk_t q10, z_lt_e, n_cl (by omega), ← hM8, show (0 : Int32) = nI 0 from rfl, j2, z_bd_s, m_done, z_bd2_s]
          rfl
end PZ
