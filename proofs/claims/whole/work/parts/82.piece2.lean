/-! pieces: the class's rows -/
section GW
variable {S : GS} {o a cnt n pc f fr to : Nat} {st dg : Int32} {P V Z : Nat → Int32} {bg : Nat → Nat} {C : Nat → Pol4} {p q : Int32}
def GR (S : GS) (o a cnt : Nat) (st dg : Int32) (n : Nat) (P V Z : Nat → Int32) (pc : Nat) (bg : Nat → Nat) (C : Nat → Pol4) (f fr to : Nat) (p q : Int32) : Prop := TopAt S o (nI cnt) st ∧ LvOk S o ∧ PcAt S a cnt dg n P V Z (pc + 1) bg C ∧ S.2 = a + 8 + (pc + 1) ∧ fr < to ∧ to ≤ n ∧ PolK (C pc) ∧ ∃ x, RowX f fr (to - fr) P V Z (q0F (C pc)) (q1F (C pc)) (q2F (C pc)) x ∧ ¬ Rat.divInt p.toInt q.toInt < x
/-- a row is levelled, for a fit of pieces -/
theorem p_lev4 (hT : TopAt S o (nI cnt) st) (hL : LvOk S o) (hC : PcAt S a cnt dg n P V Z pc bg C) (hO : PtsOk n P V Z) (hf : frN 4 dg f) (hf3 : f = 1 ∨ f = 2 ∨ f = 3) (ha : o + 68 ≤ a) (hp : 0 ≤ p.toInt ∧ p.toInt ≤ 10000) (hq : 1 ≤ q.toInt ∧ q.toInt ≤ 1000) (h1 : fr ≤ to) (h2 : to ≤ n) : ∃ (S' : GS) (t v w : Nat → Int) (K : Nat → Nat) (H B U : Nat → Int) (c0 c1 c2 d : Int) (x : Rat), f_X2_levelRow S (o + 4) a (nI fr) (nI to) = some S' ∧ Same S S' (o + 4) 9 ∧ PolOk c0 c1 c2 d ∧ LvAt S' (o + 4) t v w K H B U (nI (to - fr)) (nI f) (sqI 4) c0 c1 c2 d ∧ RowX f fr (to - fr) P V Z (Rat.divInt c0 d) (Rat.divInt c1 d) (Rat.divInt c2 d) x ∧ f_X2_levelIsAtMost S' (o + 4) p q = some (if Rat.divInt p.toInt q.toInt < x then 0 else 1) := by
  obtain ⟨t0, v0, w0, K0, H0, B0, U0, sz, fN, sq, c0, c1, c2, d, hLv⟩ := hL
  obtain ⟨S10, t, v, w, x0, x1, x2, y, l1, l2, l3, l4⟩ := p_levelRow (b := o + 4) (fr := fr) (to := to) (by omega) h2 h1 hC.1 hC.2.1 hO (fun z => absurd z (by decide)) hf hf3 (fun z => absurd z (by decide)) hLv
  obtain ⟨hP, hG, K, ⟨H, B, U, hV⟩, hh⟩ := id l4
  obtain ⟨x, r1, r2⟩ := p_rowX (p := p) (q := q) l4 l3 hO (by omega) hf3 hp hq
  exact ⟨S10, t, v, w, K, H, B, U, x0, x1, x2, y, x, l1, l2, hP, hV, r1, r2⟩
theorem row_ex (hT : TopAt S o (nI cnt) st) (hL : LvOk S o) (hC : PcAt S a cnt dg n P V Z pc bg C) (hO : PtsOk n P V Z) (hf : frN 4 dg f) (hf3 : f = 1 ∨ f = 2 ∨ f = 3) (ha : o + 68 ≤ a) {m : Nat} (h2 : fr + m ≤ n) : ∃ q0 q1 q2 x, RowX f fr m P V Z q0 q1 q2 x := by
  obtain ⟨S', t, v, w, K, H, B, U, c0, c1, c2, d, x, -, -, -, -, r, -⟩ := p_lev4 (p := 0) (q := 1) (fr := fr) (to := fr + m) hT hL hC hO hf hf3 ha (by decide) (by decide) (by omega) h2
  rw [show fr + m - fr = m by omega] at r
  exact ⟨_, _, _, x, r⟩
theorem p_hand4 {t v w : Nat → Int} {K : Nat → Nat} {H B U : Nat → Int} {m b pp : Nat} {c0 c1 c2 d u0 u1 u2 u3 : Int} (h : LvAt S b t v w K H B U (nI m) (nI f) (sqI 4) c0 c1 c2 d) (hP : PolOk c0 c1 c2 d) (hp : PolAt S pp u0 u1 u2 u3) : ∃ (S' : GS) (c : Pol4), f_X2_hand S b pp = some S' ∧ PolA S' pp c ∧ PolK c ∧ Same S S' pp 1 ∧ q0F c = Rat.divInt c0 d ∧ q1F c = Rat.divInt c1 d ∧ q2F c = Rat.divInt c2 d := by
  obtain ⟨S', c, e1, e2, e3, e4, e5, e6, e7⟩ := p_hand h hP hp
  unfold xq1 at e6
  unfold xq2 at e7
  rw [if_neg (by decide)] at e6 e7
  exact ⟨S', c, e1, e2, e3, e4, e5, e6, e7⟩
theorem p_grow {S0 : GS} (h0 : S0.2 = a) (hO : PtsOk n P V Z) (hf : frN 4 dg f) (hf3 : f = 1 ∨ f = 2 ∨ f = 3) (ha : o + 68 ≤ a) (hp : 0 ≤ p.toInt ∧ p.toInt ≤ 10000) (hq : 1 ≤ q.toInt ∧ q.toInt ≤ 1000) : ∀ (k to : Nat) (S : GS) (C : Nat → Pol4), n - to = k → GR S o a cnt st dg n P V Z pc bg C f fr to p q → ∃ S' C' to', z_lp (fun x => f_X7_partedFit_L83 S0 p q (a + 8 + pc) o (nI fr) x.1 x.2) (nI to, S) = some (nI to', S') ∧ GR S' o a cnt st dg n P V Z pc bg C' f fr to' p q ∧ (∀ j, j ≠ pc → C' j = C j) ∧ (∀ b, b < a → (b < o + 4 ∨ o + 13 ≤ b) → S'.1 b = S.1 b) ∧ (to' = n ∨ (to' < n ∧ ∃ q0 q1 q2 x, RowX f fr (to' + 1 - fr) P V Z q0 q1 q2 x ∧ Rat.divInt p.toInt q.toInt < x)) := by
  have hn := hO.1
  subst h0
  intro k
  induction k with
  | zero =>
    intro to S C hk hG
    obtain ⟨g1, g2, g3, g4, g5, g6, g7, g8⟩ := id hG
    have e : to = n := by omega
    subst e
    refine ⟨S, C, to, z_lp_x ?_, hG, fun _ _ => rfl, fun _ _ _ => rfl, Or.inl rfl⟩
    show f_X7_partedFit_L83 S0 p q (S0.2 + 8 + pc) o (nI fr) (nI to) S = _
    unfold f_X7_partedFit_L83
    rw [g3.1.r3, z_bd_s, g3.2.1.sz, z_bd_s, if_pos (by rw [n_le (by omega) (by omega)]; omega)]
  | succ k ih =>
    intro to S C hk hG
    obtain ⟨g1, g2, g3, g4, g5, g6, g7, x0, g8, g9⟩ := id hG
    obtain ⟨S1, t, v, w, K, H, B, U, c0, c1, c2, d, x, l1, l2, l3, l4, l5, l6⟩ := p_lev4 (p := p) (q := q) (fr := fr) (to := to + 1) g1 g2 g3 hO hf hf3 ha hp hq (by omega) (by omega)
    have hT1 : TopAt S1 o (nI cnt) st := (l2.2 o (by omega)).trans g1
    have hL1 : LvOk S1 o := ⟨t, v, w, K, H, B, U, _, _, _, _, _, _, _, l4⟩
    have hC1 := g3.same l2 (by omega)
    have hd : f_X7_partedFit_L83 S0 p q (S0.2 + 8 + pc) o (nI fr) (nI to) S = (if (if Rat.divInt p.toInt q.toInt < x then (0 : Int32) else 1) = 0 then some (.inl (nI to, S1)) else z_bd (f_X2_hand S1 (o + 4) (S0.2 + 8 + pc)) fun S_31 => some (.inr (nI (to + 1), S_31))) := by
      unfold f_X7_partedFit_L83
      rw [g3.1.r3, z_bd_s, g3.2.1.sz, z_bd_s, if_neg (by rw [n_le (by omega) (by omega)]; omega), g_r_e (k := 3) g1 rfl, z_bd_s]
      obtain ⟨t0, v0, w0, K0, H0, B0, U0, sz, fN, sq, d0, d1, d2, d3, hLv⟩ := g2
      rw [z_chk_t hLv.is, show nI to + (1 : Int32) = nI (to + 1) from n_add to 1, l1, z_bd_s, g_r_e (k := 3) hT1 rfl, z_bd_s, z_chk_t l4.is, l6, z_bd_s, z_bd_s, z_chk_t l4.is]
    by_cases z : Rat.divInt p.toInt q.toInt < x
    · rw [if_pos z, if_pos rfl] at hd
      refine ⟨S1, C, to, z_lp_x hd, ⟨hT1, hL1, hC1, l2.1.trans g4, g5, g6, g7, x0, g8, g9⟩, fun _ _ => rfl, fun b b1 b2 => l2.2 b (by omega), Or.inr ⟨by omega, _, _, _, x, l5, z⟩⟩
    · obtain ⟨G, Bg, -, -, r5, -⟩ := hC1.2.2
      obtain ⟨S2, c, e1, e2, e3, e4, e5, e6, e7⟩ := p_hand4 l4 l3 (r5 pc (by omega)).2.2
      rw [if_neg z, if_neg z_10, e1, z_bd_s] at hd
      rw [z_lp_n (y := (nI (to + 1), S2)) hd]
      have hT2 : TopAt S2 o (nI cnt) st := (e4.2 o (by omega)).trans hT1
      obtain ⟨S', C', to', y1, y2, y3, y4, y5⟩ := ih (to + 1) S2 (va_up C pc c) (by omega) ⟨hT2, hL1.same e4 (by omega), hC1.last e4 e2, by rw [e4.1, l2.1]; exact g4, by omega, by omega, by rw [va_up_s]; exact e3, x, by rw [va_up_s, e5, e6, e7]; exact l5, z⟩
      refine ⟨S', C', to', y1, y2, fun j hj => by rw [y3 j hj, va_up_n _ hj], fun b b1 b2 => ?_, y5⟩
      rw [y4 b b1 b2, e4.2 b (by omega)]
      exact l2.2 b (by omega)
/-- one row more -/
theorem p_rowMore {S0 : GS} (h0 : S0.2 = a) (hT : TopAt S o (nI cnt) st) (hL : LvOk S o) (hC : PcAt S a cnt dg n P V Z pc bg C) (hS : S.2 = a + 8 + pc) (hO : PtsOk n P V Z) (hf : frN 4 dg f) (hf3 : f = 1 ∨ f = 2 ∨ f = 3) (ha : o + 68 ≤ a) (hp : 0 ≤ p.toInt ∧ p.toInt ≤ 10000) (hq : 1 ≤ q.toInt ∧ q.toInt ≤ 1000) (hfr : fr < n) (hpc : pc < n) : ∃ S' C' to', f_X7_partedFit_L26 S0 p q o (nI fr) (nI pc) S = some (.inr (nI to', nI (pc + 1), S')) ∧ GR S' o a cnt st dg n P V Z pc (va_up bg pc fr) C' f fr to' p q ∧ (∀ j, j ≠ pc → C' j = C j) ∧ (∀ b, b < a → (b < o + 4 ∨ o + 13 ≤ b) → S'.1 b = S.1 b) ∧ (to' = n ∨ (to' < n ∧ ∃ q0 q1 q2 x, RowX f fr (to' + 1 - fr) P V Z q0 q1 q2 x ∧ Rat.divInt p.toInt q.toInt < x)) := by
  have hn := hO.1
  obtain ⟨S1, t, v, w, K, H, B, U, c0, c1, c2, d, x, l1, l2, l3, l4, l5, l6⟩ := p_lev4 (p := p) (q := q) (fr := fr) (to := fr + 1) hT hL hC hO hf hf3 ha hp hq (by omega) (by omega)
  have hT1 : TopAt S1 o (nI cnt) st := (l2.2 o (by omega)).trans hT
  have hC1 := hC.same l2 (by omega)
  have hx : ¬ Rat.divInt p.toInt q.toInt < x := by
    rcases l5 with ⟨-, -, z⟩ | ⟨z, -⟩
    · rw [z, Rat.not_lt, ← Rat.zero_divInt q.toInt, dv_le (by omega)]
      exact hp.1
    · omega
  obtain ⟨S2, a1, a2, a3, a4⟩ := p_addPart hC1 hn (by omega) (by rw [l2.1]; exact hS) fr
  have l4' : LvAt S2 (o + 4) t v w K H B U (nI (fr + 1 - fr)) (nI f) (sqI 4) c0 c1 c2 d := fun j y hj => by
    have hl : j < 9 := (List.getElem?_eq_some_iff.mp hj).1
    rw [a3 _ (by omega)]
    exact l4 j y hj
  obtain ⟨G, Bg, -, -, r5, -⟩ := a4.2.2
  obtain ⟨S3, c, e1, e2, e3, e4, e5, e6, e7⟩ := p_hand4 l4' l3 (r5 pc (by omega)).2.2
  have hT2 : TopAt S2 o (nI cnt) st := (a3 o (by omega)).trans hT1
  have hT3 : TopAt S3 o (nI cnt) st := (e4.2 o (by omega)).trans hT2
  have hL3 : LvOk S3 o := ⟨t, v, w, K, H, B, U, _, _, _, _, _, _, _, l4'.same e4 (by omega)⟩
  obtain ⟨S', C', to', y1, y2, y3, y4, y5⟩ := p_grow (fr := fr) (pc := pc) (cnt := cnt) (st := st) (dg := dg) (bg := va_up bg pc fr) h0 hO hf hf3 ha hp hq _ (fr + 1) S3 (va_up (va_up C pc (0, 0, 0, 1)) pc c) rfl ⟨hT3, hL3, a4.last e4 e2, by rw [e4.1]; exact a2, by omega, by omega, by rw [va_up_s]; exact e3, x, by rw [va_up_s, e5, e6, e7]; exact l5, hx⟩
  refine ⟨S', C', to', ?_, y2, fun j hj => by rw [y3 j hj, va_up_n _ hj, va_up_n _ hj], fun b b1 b2 => ?_, y5⟩
  · subst h0
    unfold f_X7_partedFit_L26
    rw [show (12 : Int32) = nI 12 from rfl, if_neg (by rw [n_le (by omega) (by omega)]; omega), hC.1.r3, z_bd_s, hC.2.1.sz, z_bd_s, if_neg (by rw [n_le (by omega) (by omega)]; omega), g_r_e (k := 3) hT rfl, z_bd_s]
    obtain ⟨t0, v0, w0, K0, H0, B0, U0, sz, fN, sq, d0, d1, d2, d3, hLv⟩ := hL
    rw [z_chk_t hLv.is, show nI fr + (1 : Int32) = nI (fr + 1) from n_add fr 1, l1, z_bd_s, z_chk_t hC1.1.is, a1, z_bd2_s, g_r_e (k := 3) hT2 rfl, z_bd_s, z_bd_s, z_chk_t l4'.is, e1, z_bd_s, y1, z_bd2_s, show nI pc + (1 : Int32) = nI (pc + 1) from n_add pc 1]
  · rw [y4 b b1 b2, e4.2 b (by omega), a3 b b1]
    exact l2.2 b (by omega)
end GW
