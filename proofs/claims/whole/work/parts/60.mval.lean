/-! the reference: values, misses, levels -/
theorem pfn_at {bg : Nat → Nat} {P : Nat → Int32} {x : Int32} {p : Nat} (h0 : p = 0 ∨ ¬ x < P (bg p)) : ∀ k, p ≤ k → (∀ j, p < j → j ≤ k → x < P (bg j)) → pfn bg P x k = p := by
  intro k
  induction k with
  | zero => intro hk _; rw [pfn]; omega
  | succ k ih =>
    intro hk h
    rw [pfn]
    by_cases q : p = k + 1
    · rcases h0 with z | z
      · omega
      · rw [← q, if_neg z]
    · rw [if_pos (h (k + 1) (by omega) (Nat.le_refl _))]
      exact ih (by omega) (fun j h1 h2 => h j h1 (by omega))
/-- the greatest size of the first k -/
def mx (m : Nat → Rat) : Nat → Rat
  | 0 => 0
  | k + 1 => if mx m k < (m k).abs then (m k).abs else mx m k
theorem mx_ge (m : Nat → Rat) : ∀ k, 0 ≤ mx m k ∧ ∀ i, i < k → (m i).abs ≤ mx m k := by
  intro k
  induction k with
  | zero => exact ⟨Rat.le_refl, fun i hi => by omega⟩
  | succ k ih =>
    rw [mx]
    by_cases q : mx m k < (m k).abs
    · rw [if_pos q]
      refine ⟨a_nn _, fun i hi => ?_⟩
      by_cases z : i = k
      · rw [z]; exact Rat.le_refl
      · have := ih.2 i (by omega)
        exact Rat.le_trans this (Rat.le_of_lt q)
    · rw [if_neg q]
      refine ⟨ih.1, fun i hi => ?_⟩
      by_cases z : i = k
      · rw [z]; exact Rat.not_lt.mp q
      · exact ih.2 i (by omega)
theorem mx_at (m : Nat → Rat) : ∀ k, mx m k = 0 ∨ ∃ i, i < k ∧ mx m k = (m i).abs := by
  intro k
  induction k with
  | zero => exact Or.inl rfl
  | succ k ih =>
    rw [mx]
    by_cases q : mx m k < (m k).abs
    · rw [if_pos q]; exact Or.inr ⟨k, by omega, rfl⟩
    · rw [if_neg q]
      rcases ih with z | ⟨i, i1, i2⟩
      · exact Or.inl z
      · exact Or.inr ⟨i, by omega, i2⟩
theorem FarR.mx {n r : Nat} {m : Nat → Rat} (h : FarR n m r) : (m r).abs = mx m n := by
  have h1 := (mx_ge m n).2 r h.1
  rcases mx_at m n with z | ⟨i, i1, i2⟩
  · rw [z] at h1 ⊢
    exact Rat.le_antisymm h1 (a_nn _)
  · rw [i2] at h1 ⊢
    exact Rat.le_antisymm h1 (h.2.1 i i1)
section MV
variable {M : MS} {fi n pc : Nat} {kd dg : Int32} {P V Z : Nat → Int32} {bg : Nat → Nat} {C : Nat → Pol4}
theorem m_valueAt (h : FitM M fi kd dg n P V Z pc bg C) (hO : FitOk kd n P V Z pc bg C) (hfi : fi < 10) (x : Int32) (hx : x.toInt.natAbs ≤ 100) : f_X8_valueAt M (nI fi) x = some (setQ M (ev (q0F (C (pfn bg P x (pc - 1)))) (q1F (C (pfn bg P x (pc - 1)))) (q2F (C (pfn bg P x (pc - 1)))) x.toInt)) := by
  obtain ⟨hM, h11, hj⟩ := h
  have hn := hO.1.1
  have hpc := hO.2.2.2.2.2.1
  have q10 : z_in (nI fi) 10 := by rw [n_in (by omega)]; exact hfi
  by_cases z : pc = 0
  · subst z
    unfold f_X8_valueAt
    rw [z_chk_t q10, n_cl (by omega), h11, if_pos (show nI 0 = (0 : Int32) from rfl), show (0 : Int64) = jI 0 from rfl, show (1 : Int64) = jI 1 from rfl, m_is M (by decide) (by decide) (by decide), z_bd_s]
    have e : C (pfn bg P x (0 - 1)) = (0, 0, 0, 1) := hO.2.2.2.2.1 rfl
    rw [e]
    congr 2
    unfold ev q0F q1F q2F
    dsimp only
    rw [Rat.zero_divInt]
    grind
  · have hlp : z_lp (fun y => f_X8_valueAt_L18 M (nI fi) x y) ((0 : Int32)) = some (nI (pfn bg P x (pc - 1))) := by
      have key : ∀ (k p : Nat), p + k = pc - 1 → (p = 0 ∨ ¬ x < P (bg p)) → z_lp (fun y => f_X8_valueAt_L18 M (nI fi) x y) (nI p) = some (nI (pfn bg P x (pc - 1))) := by
        intro k
        induction k with
        | zero =>
          intro p hp h0
          rw [pfn_at h0 (pc - 1) (by omega) (fun j h1 h2 => by omega)]
          apply z_lp_x
          show f_X8_valueAt_L18 M (nI fi) x (nI p) = _
          unfold f_X8_valueAt_L18
          rw [z_chk_t q10, n_cl (by omega), h11, show nI p + (1 : Int32) = nI (p + 1) from n_add p 1, if_pos (by rw [n_le (by omega) (by omega)]; omega)]
        | succ k ih =>
          intro p hp h0
          have hb := hO.2.2.2.1 (p + 1) (by omega) (by omega)
          have e1 : ((12 : Int32) * nI fi) + nI p + (1 : Int32) = nI (12 * fi + (p + 1)) := by rw [show (12 : Int32) = nI 12 from rfl, n_mul, n_add, show (1 : Int32) = nI 1 from rfl, n_add]; congr 1
          have e2 : ((12 : Int32) * nI fi) + M.1 12 (((12 : Int32) * nI fi) + nI p + (1 : Int32)).toNatClampNeg = nI (12 * fi + bg (p + 1)) := by rw [e1, n_cl (by omega), (hj (p + 1) (by omega)).1, show (12 : Int32) = nI 12 from rfl, n_mul, n_add]
          have hd : f_X8_valueAt_L18 M (nI fi) x (nI p) = (if x < P (bg (p + 1)) then some (.inl (nI p)) else some (.inr (nI (p + 1)))) := by
            unfold f_X8_valueAt_L18
            rw [z_chk_t q10, n_cl (show fi < 2147483648 by omega), h11, if_neg (by rw [show nI p + (1 : Int32) = nI (p + 1) from n_add p 1, n_le (by omega) (by omega)]; omega), z_chk_t (by rw [e1, n_in (by omega)]; omega), z_chk_t (by rw [e2, n_in (by omega)]; omega), e2, n_cl (show 12 * fi + bg (p + 1) < 2147483648 by omega), (hM.2.2.2 _ hb.1).1, show nI p + 1 = nI (p + 1) from n_add p 1]
          by_cases q : x < P (bg (p + 1))
          · rw [pfn_at h0 (pc - 1) (by omega) (fun j h1 h2 => by
              rcases Nat.lt_or_ge (p + 1) j with y | y
              · have l1 := hO.mono j (p + 1) y (by omega)
                have l2 := (hO.2.2.2.1 j (by omega) (by omega)).1
                have l3 := hO.1.2.2 _ _ l1 l2
                rw [Int32.lt_iff_toInt_lt] at l3 q ⊢
                omega
              · rw [show j = p + 1 by omega]; exact q)]
            apply z_lp_x
            show f_X8_valueAt_L18 M (nI fi) x (nI p) = _
            rw [hd, if_pos q]
          · rw [← ih (p + 1) (by omega) (Or.inr q)]
            apply z_lp_n
            show f_X8_valueAt_L18 M (nI fi) x (nI p) = _
            rw [hd, if_neg q]
      exact key (pc - 1) 0 (by omega) (Or.inl rfl)
    have hl := pfn_le bg P x (pc - 1)
    obtain ⟨m0, m1, m2⟩ := (hj (pfn bg P x (pc - 1)) (by omega)).2
    have hP := (hO.pol x).1
    generalize pfn bg P x (pc - 1) = p at *
    have e0 : ((36 : Int32) * nI fi) + ((3 : Int32) * nI p) = nI (36 * fi + 3 * p) := by rw [show (36 : Int32) = nI 36 from rfl, show (3 : Int32) = nI 3 from rfl, n_mul, n_mul, n_add]
    have e1 : nI (36 * fi + 3 * p) + (1 : Int32) = nI (36 * fi + 3 * p + 1) := n_add _ 1
    have e2 : nI (36 * fi + 3 * p) + (2 : Int32) = nI (36 * fi + 3 * p + 2) := n_add _ 2
    have i0 : z_in (nI (36 * fi + 3 * p)) 360 := by rw [n_in (by omega)]; omega
    have i1 : z_in (nI (36 * fi + 3 * p + 1)) 360 := by rw [n_in (by omega)]; omega
    have i2 : z_in (nI (36 * fi + 3 * p + 2)) 360 := by rw [n_in (by omega)]; omega
    unfold f_X8_valueAt
    rw [z_chk_t q10, n_cl (by omega), h11, if_neg (by rw [show (0 : Int32) = nI 0 from rfl, n_eq (by omega) (by omega)]; exact z), hlp, z_bd_s]
    simp only [e0, e1, e2, z_chk_t i0, z_chk_t i1, z_chk_t i2]
    rw [n_cl (by omega), n_cl (by omega), n_cl (by omega), m0.1, m0.2, m1.1, m1.2, m2.1, m2.2]
    show z_bd (f_X8_valueOf M (jI (Rat.divInt (C p).1 (C p).2.2.2).num) _ _ _ _ _ x) _ = _
    rw [show q0F (C p) = Rat.divInt (C p).1 (C p).2.2.2 from rfl, show q1F (C p) = Rat.divInt (C p).2.1 (C p).2.2.2 from rfl, show q2F (C p) = Rat.divInt (C p).2.2.1 (C p).2.2.2 from rfl, m_valueOf M hP x hx, z_bd_s]
theorem m_missAt (h : FitM M fi kd dg n P V Z pc bg C) (hO : FitOk kd n P V Z pc bg C) (hfi : fi < 10) {i : Nat} (hi : i < n) : f_X8_missAt M (nI fi) (nI i) = some (setQ M (mF P V Z pc bg C i)) := by
  have hn := hO.1.1
  obtain ⟨r1, r2, r3⟩ := hO.1.rg hi
  have e0 : ((12 : Int32) * nI fi) + nI i = nI (12 * fi + i) := by rw [show (12 : Int32) = nI 12 from rfl, n_mul, n_add]
  have i0 : z_in (nI (12 * fi + i)) 120 := by rw [n_in (by omega)]; omega
  obtain ⟨⟨p1, p2, p3, p4, p5⟩, -⟩ := hO.pol (P i)
  have hv := m_valueAt h hO hfi (P i) (by omega)
  have hM := h.1
  unfold f_X8_missAt
  simp only [e0, z_chk_t i0]
  rw [n_cl (by omega), (hM.2.2.2 i hi).1, hv, z_bd_s, setQ_1, (hM.2.2.2 i hi).2.1, z_i64]
  have hev := (ev_div (c0 := (C (pfn bg P (P i) (pc - 1))).1) (c1 := (C (pfn bg P (P i) (pc - 1))).2.1) (c2 := (C (pfn bg P (P i) (pc - 1))).2.2.1) p1 (P i).toInt).2.2.2
  have k1 := b_add (b_mul (b_add (b_mul p5 (show (P i).toInt.natAbs ≤ 12 by omega)) p4) (show (P i).toInt.natAbs ≤ 12 by omega)) p3
  have e := m_missEnd M (r := ev (q0F (C (pfn bg P (P i) (pc - 1)))) (q1F (C (pfn bg P (P i) (pc - 1)))) (q2F (C (pfn bg P (P i) (pc - 1)))) (P i).toInt) hev p1 p2 (by omega) (V i).toInt (Z i).toInt (by omega) (by omega)
  obtain ⟨M2, g1, g2⟩ := z_bd_some e
  rw [g1, z_bd_s]
  obtain ⟨M3, g3, g4⟩ := z_bd_some g2
  have hM2 : M2.1 = M.1 := by
    rw [setQ_n, setQ_d] at g1
    unfold f_X8_plus at g1
    obtain ⟨y1, -, g1⟩ := z_bd_some g1
    obtain ⟨-, g1⟩ := z_chk_some g1
    obtain ⟨-, g1⟩ := z_chk_some g1
    obtain ⟨-, g1⟩ := z_chk_some g1
    obtain ⟨y2, g5, g1⟩ := z_bd_some g1
    unfold f_X8_is at g5
    obtain ⟨y3, -, g5⟩ := z_bd_some g5
    obtain ⟨y4, -, g5⟩ := z_bd_some g5
    obtain ⟨-, g5⟩ := z_chk_some g5
    rw [z_lt_e] at g5
    obtain ⟨-, g5⟩ := z_chk_some g5
    rw [z_lt_e] at g5
    cases g5
    cases g1
    rfl
  rw [hM2, (hM.2.2.2 i hi).2.2, z_i64, g3, z_bd_s]
  cases g4
  congr 1
  show setQ M (Rat.divInt _ _) = setQ M (mF P V Z pc bg C i)
  congr 1
  unfold mF mAF dF ma iN
  congr 1
  grind
theorem mF_ab (hO : FitOk kd n P V Z pc bg C) {i : Nat} (hi : i < n) : (mF P V Z pc bg C i).num.natAbs ≤ 4398046511103 ∧ (((mF P V Z pc bg C i).den : Nat) : Int).natAbs ≤ 1048576 := by
  obtain ⟨b1, b2, b3⟩ := mF_bd hO hi
  exact rt_bd rfl b2 b1 (by omega)
theorem mx_ab (hO : FitOk kd n P V Z pc bg C) (k : Nat) (hk : k ≤ n) : (mx (mF P V Z pc bg C) k).num.natAbs ≤ 4398046511103 ∧ (mx (mF P V Z pc bg C) k).den ≤ 1048576 := by
  rcases mx_at (mF P V Z pc bg C) k with z | ⟨i, i1, i2⟩
  · rw [z]; decide
  · rw [i2, (abs_nd _).1, (abs_nd _).2]
    have := mF_ab hO (show i < n by omega)
    omega
/-- the level found so far stands -/
def LvlM (M : MS) (r : Rat) : Prop := M.2 33 0 = jI r.num ∧ M.2 34 0 = jI (r.den : Int)
theorem m_findLevel (h : FitM M fi kd dg n P V Z pc bg C) (hO : FitOk kd n P V Z pc bg C) (hfi : fi < 10) : ∃ M', f_X8_findLevel M (nI fi) = some M' ∧ Scr M M' ∧ LvlM M' (mx (mF P V Z pc bg C) n) := by
  have hn := hO.1.1
  have q10 : z_in (nI fi) 10 := by rw [n_in (by omega)]; exact hfi
  have key : ∀ (k i : Nat) (X : MS), i + k = n → Scr M X → LvlM X (mx (mF P V Z pc bg C) i) → ∃ M', z_lp (fun x => f_X8_findLevel_L12 (nI fi) x.1 x.2) (nI i, X) = some M' ∧ Scr M M' ∧ LvlM M' (mx (mF P V Z pc bg C) n) := by
    intro k
    induction k with
    | zero =>
      intro i X hi hX hL
      rw [show i = n by omega] at hL ⊢
      refine ⟨X, z_lp_x ?_, hX, hL⟩
      show f_X8_findLevel_L12 (nI fi) (nI n) X = _
      unfold f_X8_findLevel_L12
      rw [z_chk_t q10, n_cl (by omega), (h.1.scr hX).2.2.1, if_pos (by rw [n_le (by omega) (by omega)]; omega)]
    | succ k ih =>
      intro i X hi hX hL
      have hXF := h.scr hX
      have hb := mF_ab hO (show i < n by omega)
      have hb2 := mx_ab hO i (by omega)
      obtain ⟨a1, a2⟩ := abs_nd (mF P V Z pc bg C i)
      have hv := m_absH (r := mF P V Z pc bg C i) (by omega)
      have hcmp := m_cmpR (x := (mF P V Z pc bg C i).abs) (y := mx (mF P V Z pc bg C) i) (a_nn _) (mx_ge _ i).1 (by omega) (by omega) (by omega) (by omega)
      rw [a2] at hcmp
      have hd : f_X8_findLevel_L12 (nI fi) (nI i) X = (if mx (mF P V Z pc bg C) i < (mF P V Z pc bg C i).abs then some (.inr (nI (i + 1), sJ (sJ (setQ X (mF P V Z pc bg C i)) 33 0 (jI (mF P V Z pc bg C i).abs.num)) 34 0 (jI ((mF P V Z pc bg C i).den : Int)))) else some (.inr (nI (i + 1), setQ X (mF P V Z pc bg C i)))) := by
        unfold f_X8_findLevel_L12
        rw [z_chk_t q10, n_cl (by omega), hXF.1.2.2.1, if_neg (by rw [n_le (by omega) (by omega)]; omega), m_missAt hXF hO hfi (by omega), z_bd_s, setQ_n, setQ_d, hv, z_bd_s, setQ_k (by omega) (by omega), setQ_k (by omega) (by omega), hL.1, hL.2, hcmp, z_bd_s, show nI i + 1 = nI (i + 1) from n_add i 1]
        by_cases q : mx (mF P V Z pc bg C) i < (mF P V Z pc bg C i).abs
        · have q1 : ¬ (mF P V Z pc bg C i).abs < mx (mF P V Z pc bg C) i := by grind
          have q2 : ¬ (mF P V Z pc bg C i).abs = mx (mF P V Z pc bg C) i := by grind
          rw [if_pos q, if_neg q1, if_neg q2, if_neg (by decide), z_lt_e, z_lt_e, sJ_n _ (show (22 : Nat) ≠ 33 by omega), setQ_d]
        · rw [if_neg q, if_pos]
          by_cases q1 : (mF P V Z pc bg C i).abs < mx (mF P V Z pc bg C) i
          · rw [if_pos q1]; decide
          · rw [if_neg q1, if_pos (by grind)]; decide
      by_cases q : mx (mF P V Z pc bg C) i < (mF P V Z pc bg C i).abs
      · rw [if_pos q] at hd
        obtain ⟨M', r1, r2, r3⟩ := ih (i + 1) (sJ (sJ (setQ X (mF P V Z pc bg C i)) 33 0 (jI (mF P V Z pc bg C i).abs.num)) 34 0 (jI ((mF P V Z pc bg C i).den : Int))) (by omega) (hX.tr ⟨fun _ _ => rfl, rfl, rfl⟩) (by
          rw [mx, if_pos q]
          refine ⟨?_, ?_⟩
          · rw [sJ_n _ (by omega), sJ_s, updL_s]
          · rw [sJ_s, updL_s, a2])
        refine ⟨M', ?_, r2, r3⟩
        rw [← r1]
        apply z_lp_n
        exact hd
      · rw [if_neg q] at hd
        obtain ⟨M', r1, r2, r3⟩ := ih (i + 1) (setQ X (mF P V Z pc bg C i)) (by omega) (hX.tr ⟨fun _ _ => rfl, rfl, rfl⟩) (by
          rw [mx, if_neg q]
          exact hL)
        refine ⟨M', ?_, r2, r3⟩
        rw [← r1]
        apply z_lp_n
        exact hd
  obtain ⟨M', r1, r2, r3⟩ := key n 0 (sJ (sJ M 33 0 (0 : Int64)) 34 0 (1 : Int64)) (by omega) ⟨fun _ _ => rfl, rfl, rfl⟩ ⟨rfl, rfl⟩
  refine ⟨M', ?_, r2, r3⟩
  unfold f_X8_findLevel
  rw [z_lt_e, z_lt_e, show (0 : Int32) = nI 0 from rfl, r1, z_bd_s]
theorem rat_nd {x y : Rat} (h1 : x.num = y.num) (h2 : x.den = y.den) : x = y := by rw [← rt_self x, ← rt_self y, h1, h2]
theorem m_isFar (h : FitM M fi kd dg n P V Z pc bg C) (hO : FitOk kd n P V Z pc bg C) (hfi : fi < 10) (hL : LvlM M (mx (mF P V Z pc bg C) n)) {i : Nat} (hi : i < n) : f_X8_isFar M (nI fi) (nI i) = some (if (mF P V Z pc bg C i).abs = mx (mF P V Z pc bg C) n then 1 else 0, setQ M (mF P V Z pc bg C i)) := by
  have hb := mF_ab hO hi
  have hb2 := mx_ab hO n (Nat.le_refl _)
  obtain ⟨a1, a2⟩ := abs_nd (mF P V Z pc bg C i)
  have hv := m_absH (r := mF P V Z pc bg C i) (by omega)
  unfold f_X8_isFar
  rw [m_missAt h hO hfi hi, z_bd_s, setQ_n, setQ_d, hv, z_bd_s, setQ_k (by omega) (by omega), setQ_k (by omega) (by omega), hL.1, hL.2]
  simp only [j_cmp0 (a := (mF P V Z pc bg C i).abs.num) (b := (mx (mF P V Z pc bg C) n).num) (by omega) (by omega) (by omega) (by omega), j_cmp0 (a := ((mF P V Z pc bg C i).den : Int)) (b := ((mx (mF P V Z pc bg C) n).den : Int)) (by omega) (by omega) (by omega) (by omega)]
  by_cases q : (mF P V Z pc bg C i).abs = mx (mF P V Z pc bg C) n
  · rw [if_pos q, q, if_pos rfl, ← q, a2, if_pos rfl]
  · rw [if_neg q]
    by_cases q1 : (mF P V Z pc bg C i).abs.num = (mx (mF P V Z pc bg C) n).num
    · rw [if_pos q1, if_neg (fun z => q (rat_nd q1 (by omega)))]
    · rw [if_neg q1]
end MV
