/-! low, swap, swaps -/
/-- rows that agree on the first n points -/
def Agr (n : Nat) (t v w t' v' w' : Nat → Int) : Prop := ∀ i, i < n → t i = t' i ∧ v i = v' i ∧ w i = w' i
section CG
variable {f n : Nat} {t v w t' v' w' : Nat → Int} {K K' : Nat → Nat} {q0 q1 q2 : Rat}
theorem ag_mr (h : Agr n t v w t' v' w') {i : Nat} (hi : i < n) : mr t v w q0 q1 q2 i = mr t' v' w' q0 q1 q2 i := by
  obtain ⟨e1, e2, e3⟩ := h i hi
  unfold mr
  rw [e1, e2, e3]
theorem ag_hK (h : Agr n t v w t' v' w') (hf : f = 1 ∨ f = 2 ∨ f = 3) (hI : Inc f n K) : hK f t v w K = hK f t' v' w' K := by
  refine hh_cg hf (fun j hj => ?_)
  obtain ⟨e1, e2, e3⟩ := h _ (hI.1 j hj)
  unfold sW
  dsimp only
  rw [e1, e2, e3]
  exact ⟨rfl, rfl, rfl⟩
theorem ag_turn (h : Agr n t v w t' v' w') (hf : f = 1 ∨ f = 2 ∨ f = 3) (hI : Inc f n K) (hQ : TurnQ f t v w K q0 q1 q2) : TurnQ f t' v' w' K q0 q1 q2 := ⟨hQ.1, fun j hj => by rw [← ag_mr h (hI.1 j hj), ← ag_hK h hf hI]; exact hQ.2 j hj⟩
theorem ag_stay (h : Agr n t v w t' v' w') (hf : f = 1 ∨ f = 2 ∨ f = 3) (hI : Inc f n K) (hQ : Stay f n t v w K q0 q1 q2) : Stay f n t' v' w' K q0 q1 q2 := fun i hi => by rw [← ag_mr h hi, ← ag_hK h hf hI]; exact hQ i hi
theorem ag_sw (h : Agr n t v w t' v' w') (hf : f = 1 ∨ f = 2 ∨ f = 3) (hI : Inc f n K) {r nx par : Nat} (hQ : SwOk f n t v w K q0 q1 q2 r nx par) : SwOk f n t' v' w' K q0 q1 q2 r nx par := by
  obtain ⟨h1, h2, h3, h4, h5, h6⟩ := hQ
  unfold SwOk
  rw [← ag_mr h h1, ← ag_hK h hf hI]
  exact ⟨h1, fun i hi => by rw [← ag_mr h hi]; exact h2 i hi, fun i hi => by rw [← ag_mr h (by omega)]; exact h3 i hi, h4, h5, h6⟩
theorem ag_swN (h : Agr n t v w t' v' w') (hf : f = 1 ∨ f = 2 ∨ f = 3) : ∀ (m : Nat) (K : Nat → Nat), Inc f n K → SwN f n t v w m K K' → SwN f n t' v' w' m K K' := by
  intro m
  induction m with
  | zero => intro K _ hS; exact hS
  | succ m ih =>
    intro K hI ⟨q0, q1, q2, r, nx, par, s1, s2, s3⟩
    exact ⟨q0, q1, q2, r, nx, par, ag_turn h hf hI s1, ag_sw h hf hI s2, ih _ (sw_inc hI s2.1 s2.2.2.2.2.1 s2.par) s3⟩
theorem Ld.agr {kd : Int32} {P V Z : Nat → Int32} {n : Nat} (h : Ld kd P V Z 0 n t v w) : Agr n t v w (tN kd P) (iN V) (iN Z) := by
  intro i hi
  obtain ⟨e1, e2, e3⟩ := h i hi
  rw [Nat.zero_add] at e1 e2 e3
  exact ⟨e1, e2, e3⟩
end CG
section SWP
variable {M : MS} {fi n f : Nat} {kd dg : Int32} {P V Z : Nat → Int32} {K : Nat → Nat} {q0 q1 q2 : Rat}
theorem ev_xq (kd : Int32) (q0 q1 q2 : Rat) (h : kd = 2 → q2 = 0) (p : Int32) : ev q0 (xq1 kd q1) (xq2 kd q1 q2) p.toInt = ev q0 q1 q2 (nd kd p) := by
  unfold ev xq1 xq2 nd
  by_cases z : kd = 2
  · rw [if_pos z, if_pos z, if_pos z, h z, Rat.intCast_mul]
    grind
  · rw [if_neg z, if_neg z, if_neg z]
theorem m_missT {N0 N1 N2 D : Int} (h : MFit M fi n kd dg P V Z) (hO : PtsOk n P V Z) (hfi : fi < 10) (hP : PolOk N0 N1 N2 D) (hC : CQ M kd (Rat.divInt N0 D) (Rat.divInt N1 D) (Rat.divInt N2 D)) (h2 : kd = 2 → Rat.divInt N2 D = 0) {i : Nat} (hi : i < n) : f_X8_missOfTurns M (nI fi) (nI i) = some (setQ M (mr (tN kd P) (iN V) (iN Z) (Rat.divInt N0 D) (Rat.divInt N1 D) (Rat.divInt N2 D) i)) := by
  have hn := hO.1
  obtain ⟨r1, r2, r3⟩ := hO.rg hi
  have e0 : ((12 : Int32) * nI fi) + nI i = nI (12 * fi + i) := by rw [show (12 : Int32) = nI 12 from rfl, n_mul, n_add]
  have i0 : z_in (nI (12 * fi + i)) 120 := by rw [n_in (by omega)]; omega
  obtain ⟨p1, p2, p3, p4, p5⟩ := id hP
  obtain ⟨x1, x2, hX, ex1, ex2⟩ : ∃ x1 x2 : Int, PolOk N0 x1 x2 D ∧ xq1 kd (Rat.divInt N1 D) = Rat.divInt x1 D ∧ xq2 kd (Rat.divInt N1 D) (Rat.divInt N2 D) = Rat.divInt x2 D := by
    unfold xq1 xq2
    by_cases z : kd = 2
    · rw [if_pos z, if_pos z]
      exact ⟨0, N1, ⟨p1, p2, p3, by decide, p4⟩, (Rat.zero_divInt D).symm, rfl⟩
    · rw [if_neg z, if_neg z]
      exact ⟨N1, N2, hP, rfl, rfl⟩
  obtain ⟨⟨c1, c2⟩, ⟨c3, c4⟩, c5, c6⟩ := hC
  rw [ex1] at c3 c4
  rw [ex2] at c5 c6
  have hxe := ev_xq kd (Rat.divInt N0 D) (Rat.divInt N1 D) (Rat.divInt N2 D) h2 (P i)
  rw [ex1, ex2] at hxe
  obtain ⟨y1, y2, y3, y4, y5⟩ := id hX
  have hv := m_valueOf M hX (P i) (by omega)
  have hev := (ev_div (c0 := N0) (c1 := x1) (c2 := x2) p1 (P i).toInt).2.2.2
  have k1 := b_add (b_mul (b_add (b_mul y5 (show (P i).toInt.natAbs ≤ 12 by omega)) y4) (show (P i).toInt.natAbs ≤ 12 by omega)) y3
  have e := m_missEnd M (r := ev (Rat.divInt N0 D) (Rat.divInt x1 D) (Rat.divInt x2 D) (P i).toInt) hev p1 p2 (by omega) (V i).toInt (Z i).toInt (by omega) (by omega)
  unfold f_X8_missOfTurns
  simp only [e0, z_chk_t i0, c_0, c_1, c_2]
  rw [n_cl (by omega), (h.2.2.2 i hi).1, c1, c2, c3, c4, c5, c6, hv, z_bd_s, setQ_1, (h.2.2.2 i hi).2.1, z_i64]
  obtain ⟨M2, g1, g2⟩ := z_bd_some e
  rw [g1, z_bd_s]
  obtain ⟨M3, g3, g4⟩ := z_bd_some g2
  have hM2 : M2.1 = M.1 := by
    rw [setQ_n, setQ_d] at g1
    unfold f_X8_plus at g1
    obtain ⟨y1, -, g1⟩ := z_bd_some g1
    obtain ⟨-, g1⟩ := z_chk_some g1
    obtain ⟨-, g1⟩ := z_chk_some g1
    obtain ⟨-, g1⟩ := z_chk_some g1
    obtain ⟨y2, g5, g1⟩ := z_bd_some g1
    unfold f_X8_is at g5
    obtain ⟨y3, -, g5⟩ := z_bd_some g5
    obtain ⟨y4, -, g5⟩ := z_bd_some g5
    obtain ⟨-, g5⟩ := z_chk_some g5
    rw [z_lt_e] at g5
    obtain ⟨-, g5⟩ := z_chk_some g5
    rw [z_lt_e] at g5
    cases g5
    cases g1
    rfl
  rw [hM2, (h.2.2.2 i hi).2.2, z_i64, g3, z_bd_s]
  cases g4
  congr 1
  show setQ M (Rat.divInt _ _) = setQ M _
  congr 1
  unfold mr
  rw [show tN kd P i = nd kd (P i) from rfl, ← hxe, hev, Rat.divInt_eq_div, Rat.divInt_eq_div]
  have hD : (D : Rat) ≠ 0 := d_ne (by omega)
  simp only [Rat.intCast_mul, Rat.intCast_sub, Rat.intCast_add]
  show ((Z i).toInt : Rat) * ((V i).toInt * (D : Rat) - _) / (D : Rat) = ((Z i).toInt : Rat) * ((V i).toInt - _)
  generalize (D : Rat) = E at *
  grind
/-- the search for the point that comes in -/
def SI (n : Nat) (m : Nat → Rat) (h : Rat) (i : Nat) (a b : Int64) (cm up : Int32) : Prop := ∃ L : Rat, a = jI L.num ∧ b = jI (L.den : Int) ∧ L.num.natAbs ≤ 4398046511103 ∧ L.den ≤ 1048576 ∧ 0 ≤ L ∧ ((cm = -1 ∧ L = h.abs ∧ ∀ j, j < i → (m j).abs ≤ h.abs) ∨ ∃ c, cm = nI c ∧ c < i ∧ L = (m c).abs ∧ h.abs < (m c).abs ∧ (∀ j, j < i → (m j).abs ≤ (m c).abs) ∧ (∀ j, j < c → (m j).abs < (m c).abs) ∧ ((up = 1 ∧ 0 < m c) ∨ (up = 0 ∧ m c < 0)))
theorem num_pos {r : Rat} : (0 < r.num) = (0 < r) := by
  apply propext
  have h1 : (0 ≤ r.num) ↔ 0 ≤ r := Rat.num_nonneg
  have h2 : r.num = 0 ↔ r = 0 := Rat.num_eq_zero
  constructor
  · intro h
    rcases r_loe (h1.mp (by omega)) with z | z
    · exact z
    · have := h2.mpr z.symm; omega
  · intro h
    have a1 := h1.mpr (Rat.le_of_lt h)
    have a2 : r.num ≠ 0 := fun e => by rw [h2.mp e] at h; exact absurd h Rat.lt_irrefl
    omega
theorem m_search {M1 : MS} {N0 N1 N2 D : Int} (h : MFit M1 fi n kd dg P V Z) (hO : PtsOk n P V Z) (hfi : fi < 10) (hP : PolOk N0 N1 N2 D) (hC : CQ M1 kd (Rat.divInt N0 D) (Rat.divInt N1 D) (Rat.divInt N2 D)) (h2 : kd = 2 → Rat.divInt N2 D = 0) (hh : Rat) : ∀ (k i : Nat) (a b : Int64) (cm up : Int32) (X : MS), i + k = n → X.1 = M1.1 → (∀ k, k ≠ 21 → k ≠ 22 → X.2 k = M1.2 k) → SI n (mr (tN kd P) (iN V) (iN Z) (Rat.divInt N0 D) (Rat.divInt N1 D) (Rat.divInt N2 D)) hh i a b cm up → ∃ (cm' up' : Int32) (a' b' : Int64) (X' : MS), z_lp (fun x => f_X8_swapped_L49 (nI fi) x.1 x.2.1 x.2.2.1 x.2.2.2.1 x.2.2.2.2.1 x.2.2.2.2.2) (a, b, cm, up, nI i, X) = some (cm', up', X') ∧ X'.1 = M1.1 ∧ (∀ k, k ≠ 21 → k ≠ 22 → X'.2 k = M1.2 k) ∧ SI n (mr (tN kd P) (iN V) (iN Z) (Rat.divInt N0 D) (Rat.divInt N1 D) (Rat.divInt N2 D)) hh n a' b' cm' up' := by
  have hn := hO.1
  have q10 : z_in (nI fi) 10 := by rw [n_in (by omega)]; exact hfi
  intro k
  induction k with
  | zero =>
    intro i a b cm up X hi hX1 hX2 hS
    rw [show i = n by omega] at hS ⊢
    refine ⟨cm, up, a, b, X, z_lp_x ?_, hX1, hX2, hS⟩
    show f_X8_swapped_L49 (nI fi) a b cm up (nI n) X = _
    unfold f_X8_swapped_L49
    rw [z_chk_t q10, n_cl (by omega), hX1, h.2.2.1, if_pos (by rw [n_le (by omega) (by omega)]; omega)]
  | succ k ih =>
    intro i a b cm up X hi hX1 hX2 hS
    have hin : i < n := by omega
    obtain ⟨L, l1, l2, l3, l4, l5, l6⟩ := hS
    have hCX : CQ X kd (Rat.divInt N0 D) (Rat.divInt N1 D) (Rat.divInt N2 D) := by
      unfold CQ
      rw [hX2 28 (by omega) (by omega), hX2 29 (by omega) (by omega)]
      exact hC
    have hm := m_missT (h.eq1 hX1) hO hfi hP hCX h2 hin
    obtain ⟨mm, hmm⟩ : ∃ z, z = mr (tN kd P) (iN V) (iN Z) (Rat.divInt N0 D) (Rat.divInt N1 D) (Rat.divInt N2 D) i := ⟨_, rfl⟩
    have hb : mm.num.natAbs ≤ 4398046511103 ∧ ((mm.den : Nat) : Int).natAbs ≤ 1048576 := by
      obtain ⟨p1, p2, p3, p4, p5⟩ := id hP
      obtain ⟨r1, r2, r3⟩ := hO.rg hin
      have e : mm = Rat.divInt (ma (tN kd P) (iN V) (iN Z) N0 N1 N2 D i) D := by rw [hmm, ma_mr p1]
      refine rt_bd e p1 ?_ (by omega)
      have tb : (tN kd P i).natAbs ≤ 144 := by
        unfold tN nd
        by_cases z : kd = 2
        · rw [if_pos z]; exact b_mul (B := 12) (C := 12) (by omega) (by omega)
        · rw [if_neg z]; omega
      have k := b_mul (show (iN Z i).natAbs ≤ 4 by unfold iN; omega) (b_sub (b_mul (show (iN V i).natAbs ≤ 60 by unfold iN; omega) (show D.natAbs ≤ 1048576 by omega)) (b_add p3 (b_mul (b_add p4 (b_mul p5 tb)) tb)))
      unfold ma
      omega
    rw [← hmm] at hm
    obtain ⟨a1, a2⟩ := abs_nd mm
    have hv := m_absH (r := mm) (by omega)
    have hcmp := m_cmpR (x := mm.abs) (y := L) (a_nn _) l5 (by omega) (by omega) (by omega) (by omega)
    rw [a2] at hcmp
    have hd : f_X8_swapped_L49 (nI fi) a b cm up (nI i) X = (if L < mm.abs then some (.inr (jI mm.abs.num, jI (mm.den : Int), nI i, if 0 < mm then 1 else 0, nI (i + 1), setQ X mm)) else some (.inr (a, b, cm, up, nI (i + 1), setQ X mm))) := by
      unfold f_X8_swapped_L49
      rw [z_chk_t q10, n_cl (by omega), hX1, h.2.2.1, if_neg (by rw [n_le (by omega) (by omega)]; omega), hm, z_bd_s, setQ_n, setQ_d, hv, z_bd_s, l1, l2, hcmp, z_bd_s, show nI i + 1 = nI (i + 1) from n_add i 1]
      simp only [show (lg_cmp (jI mm.num) (0 : Int64) ≤ 0) = (mm.num ≤ 0) by rw [show (0 : Int64) = jI 0 from rfl, j_cmple (by omega) (by omega) (by omega) (by omega)]]
      by_cases q : L < mm.abs
      · have q1 : ¬ mm.abs < L := by grind
        have q2 : ¬ mm.abs = L := by grind
        rw [if_pos q, if_neg q1, if_neg q2, if_neg (by decide)]
        by_cases y : 0 < mm
        · rw [if_pos y, if_neg (by rw [← num_pos] at y; omega)]
        · rw [if_neg y, if_pos (by rw [← num_pos] at y; omega)]
      · rw [if_neg q, if_pos]
        by_cases q1 : mm.abs < L
        · rw [if_pos q1]; decide
        · rw [if_neg q1, if_pos (by grind)]; decide
    by_cases q : L < mm.abs
    · rw [if_pos q] at hd
      have hne : mm ≠ 0 := fun e => by
        rw [e, show (0 : Rat).abs = 0 from rfl] at q
        exact absurd q (Rat.not_lt.mpr l5)
      obtain ⟨cm', up', a', b', X', w1, w2, w3, w4⟩ := ih (i + 1) (jI mm.abs.num) (jI (mm.den : Int)) (nI i) (if 0 < mm then 1 else 0) (setQ X mm) (by omega) hX1 (fun k k1 k2 => by rw [setQ_k k1 k2]; exact hX2 k k1 k2) (by
        refine ⟨mm.abs, rfl, by rw [a2], by omega, by omega, a_nn _, Or.inr ⟨i, rfl, by omega, by rw [hmm], ?_, fun j hj => ?_, fun j hj => ?_, ?_⟩⟩
        · rw [← hmm]
          rcases l6 with ⟨-, y2, -⟩ | ⟨c, -, -, y3, y4, -⟩
          · rw [← y2]; exact q
          · rw [y3] at q; grind
        · rw [← hmm]
          by_cases z : j = i
          · rw [z, ← hmm]; exact Rat.le_refl
          · rcases l6 with ⟨-, y2, y3⟩ | ⟨c, -, -, y3, y4, y5, -⟩
            · have := y3 j (by omega); rw [← y2] at this; grind
            · have := y5 j (by omega); rw [← y3] at this; grind
        · rw [← hmm]
          rcases l6 with ⟨-, y2, y3⟩ | ⟨c, -, -, y3, y4, y5, -⟩
          · have := y3 j (by omega); rw [← y2] at this; grind
          · have := y5 j (by omega); rw [← y3] at this; grind
        · rw [← hmm]
          by_cases y : 0 < mm
          · rw [if_pos y]; exact Or.inl ⟨rfl, y⟩
          · rw [if_neg y]
            refine Or.inr ⟨rfl, ?_⟩
            rcases r_loe (Rat.not_lt.mp y) with z | z
            · exact z
            · exact absurd z hne)
      exact ⟨cm', up', a', b', X', (z_lp_n hd).trans w1, w2, w3, w4⟩
    · rw [if_neg q] at hd
      obtain ⟨cm', up', a', b', X', w1, w2, w3, w4⟩ := ih (i + 1) a b cm up (setQ X mm) (by omega) hX1 (fun k k1 k2 => by rw [setQ_k k1 k2]; exact hX2 k k1 k2) (by
        refine ⟨L, l1, l2, l3, l4, l5, ?_⟩
        rcases l6 with ⟨y1, y2, y3⟩ | ⟨c, y1, y2, y3, y4, y5, y6⟩
        · refine Or.inl ⟨y1, y2, fun j hj => ?_⟩
          by_cases z : j = i
          · rw [z, ← hmm, ← y2]; exact Rat.not_lt.mp q
          · exact y3 j (by omega)
        · refine Or.inr ⟨c, y1, by omega, y3, y4, fun j hj => ?_, y6⟩
          by_cases z : j = i
          · rw [z, ← hmm, ← y3]; exact Rat.not_lt.mp q
          · exact y5 j (by omega))
      exact ⟨cm', up', a', b', X', (z_lp_n hd).trans w1, w2, w3, w4⟩
end SWP
