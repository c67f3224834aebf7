/-! the reference: the polynomial of the least level -/
def PassQ (n : Nat) (t v : Nat → Int) (q0 q1 q2 : Rat) : Prop := (n < 3 → q2 = 0) ∧ (n < 2 → q1 = 0) ∧ (n = 0 → q0 = 0) ∧ ∀ i, i < n → ev q0 q1 q2 (t i) = (v i : Rat)
/-- q is the polynomial of the least level -/
def LvQ (f n : Nat) (t v w : Nat → Int) (q0 q1 q2 : Rat) : Prop := (n ≤ f ∧ PassQ n t v q0 q1 q2) ∨ (f < n ∧ ∃ K : Nat → Nat, Inc f n K ∧ TurnQ f t v w K q0 q1 q2 ∧ Stay f n t v w K q0 q1 q2)
theorem passQ_uq {n : Nat} (hn : n ≤ 3) {t v : Nat → Int} (ht : ∀ i j, i < j → j < n → t i < t j) {q0 q1 q2 p0 p1 p2 : Rat} (h : PassQ n t v q0 q1 q2) (h' : PassQ n t v p0 p1 p2) : q0 = p0 ∧ q1 = p1 ∧ q2 = p2 := by
  by_cases z : n = 0
  · rw [h.1 (by omega), h.2.1 (by omega), h.2.2.1 z, h'.1 (by omega), h'.2.1 (by omega), h'.2.2.1 z]
    exact ⟨rfl, rfl, rfl⟩
  · exact iq (f := n) (by omega) ht ⟨h.1, h.2.1⟩ ⟨h'.1, h'.2.1⟩ (fun i hi => (h.2.2.2 i hi).trans (h'.2.2.2 i hi).symm)
theorem lvQ_agr {f n : Nat} {t v w t' v' w' : Nat → Int} {q0 q1 q2 : Rat} (h : Agr n t v w t' v' w') (hf : f = 1 ∨ f = 2 ∨ f = 3) (hL : LvQ f n t v w q0 q1 q2) : LvQ f n t' v' w' q0 q1 q2 := by
  rcases hL with ⟨h1, h2, h3, h4, h5⟩ | ⟨h1, K, h2, h3, h4⟩
  · exact Or.inl ⟨h1, h2, h3, h4, fun i hi => by rw [← (h i hi).1, ← (h i hi).2.1]; exact h5 i hi⟩
  · exact Or.inr ⟨h1, K, h2, ag_turn h hf h2 h3, ag_stay h hf h2 h4⟩
section CO
variable {M : MS} {c n f cnt : Nat} {kd dg : Int32} {P V Z : Nat → Int32} {q0 q1 q2 : Rat}
/-- all points, where they are few: what through is told -/
def PsIn (M M' : MS) (n : Nat) (V : Nat → Int32) : Prop := (∀ k, k ≠ 23 → M'.1 k = M.1 k) ∧ (∀ k, k ≠ 24 → k ≠ 25 → M'.2 k = M.2 k) ∧ (∀ j, j < n → M'.1 23 j = nI j) ∧ ∀ j, j < n → M'.2 24 j = jI (V j).toInt ∧ M'.2 25 j = jI 1
theorem PsIn.step {M M' : MS} {V : Nat → Int32} {i : Nat} (h : PsIn M M' i V) : PsIn M (sJ (sJ (sI M' 23 i (nI i)) 24 i (jI (V i).toInt)) 25 i (1 : Int64)) (i + 1) V := by
  obtain ⟨h1, h2, h3, h4⟩ := h
  refine ⟨fun k hk => ?_, fun k k1 k2 => ?_, fun j hj => ?_, fun j hj => ?_⟩
  · show (sI M' 23 i (nI i)).1 k = _
    rw [sI_n _ hk]; exact h1 k hk
  · rw [sJ_n _ k2, sJ_n _ k1]; exact h2 k k1 k2
  · show (sI M' 23 i (nI i)).1 23 j = _
    rw [sI_s]
    by_cases q : j = i
    · rw [q, upd_s]
    · rw [upd_n _ q]; exact h3 j (by omega)
  · rw [sJ_n _ (by omega), sJ_s, sJ_s, sJ_n _ (by omega)]
    by_cases q : j = i
    · rw [q, updL_s, updL_s]; exact ⟨rfl, rfl⟩
    · rw [updL_n _ q, updL_n _ q]; exact h4 j (by omega)
theorem m_passC {M1 M6 : MS} (h : MFit M1 c n kd dg P V Z) (hO : PtsOk n P V Z) (hc : c < 10) (hR : Rw f n (tN kd P) (iN V) (iN Z)) (hnf : n ≤ f) (hP : PsIn M1 M6 n V) (hQ : PassQ n (tN kd P) (iN V) q0 q1 q2) : ∃ M10, f_X8_through M6 (nI c) (nI n) = some M10 ∧ Scr M1 M10 ∧ TV M6 M10 (c3 q0 q1 q2) := by
  have hn := hO.1
  have hf3 := hR.1
  obtain ⟨p1, p2, p3, p4⟩ := hP
  have sc6 : Scr M1 M6 := ⟨p1, p2 13 (by omega) (by omega), p2 14 (by omega) (by omega)⟩
  obtain ⟨N0, N1, N2, hS, hPk, hG⟩ := pass (m := n) (t := tN kd P) (v := iN V) (by omega) (fun i hi => hR.2.2.2 i (i + 1) (by omega) hi) (fun i hi => (hR.2.2.1 i hi).1) (fun i hi => ⟨(hR.2.2.1 i hi).2.2.1, fun z => (hR.2.2.1 i hi).2.2.2 (by omega)⟩)
  have hD := hS.1
  have hy : ∀ j, j < n → Rat.divInt (iN V j * spr (tN kd P) 9 n) (spr (tN kd P) 9 n) = Rat.divInt (iN V j) 1 := fun j hj => dI_eq hD (by decide) (by rw [Int.mul_one])
  obtain ⟨M10, e1, v1⟩ := m_through (h.scr sc6) hc hn (by omega) (K := fun j => j) (fun j hj => hj) p3 (G := fun i => iN V i * spr (tN kd P) 9 n) (D := spr (tN kd P) 9 n) (fun j hj => by
    refine ⟨?_, ?_, hG j hj⟩
    · rw [hy j hj, rt_d1]; exact (p4 j hj).1
    · rw [hy j hj, rt_d1]; exact (p4 j hj).2) hS hPk (fun j hj => (hR.2.2.1 j hj).2.2.1) (fun i j hij hj => hR.2.2.2 i j hij hj)
  have hpp : PassQ n (tN kd P) (iN V) (Rat.divInt N0 (spr (tN kd P) 9 n)) (Rat.divInt N1 (spr (tN kd P) 9 n)) (Rat.divInt N2 (spr (tN kd P) 9 n)) := sol_pass hS
  obtain ⟨u0, u1, u2⟩ := passQ_uq (by omega) (fun i j hij hj => hR.2.2.2 i j hij hj) hQ hpp
  subst u0 u1 u2
  refine ⟨M10, e1, ⟨fun k hk => by rw [v1.1]; exact p1 k hk, ?_, ?_⟩, v1⟩
  · rw [v1.2.1 13 (by omega) (by omega) (by omega) (by omega)]; exact p2 13 (by omega) (by omega)
  · rw [v1.2.1 14 (by omega) (by omega) (by omega) (by omega)]; exact p2 14 (by omega) (by omega)
/-- what stands in the reference's c, e and high -/
theorem m_core (h : MFit M c n kd dg P V Z) (hO : PtsOk n P V Z) (h4 : M.1 4 0 = nI cnt) (hc : c < cnt) (hc10 : cnt ≤ 10) (hk : kd = 1 ∨ kd = 2) (hf : frN kd dg f) (hR : Rw f n (tN kd P) (iN V) (iN Z)) (hL : LvQ f n (tN kd P) (iN V) (iN Z) q0 q1 q2) : ∃ (best : Int32) (M1 : MS), f_X8_bestTurns M (nI c) = some (best, M1) ∧ Scr M M1 ∧ ((n ≤ f ∧ best = -1 ∧ PassQ n (tN kd P) (iN V) q0 q1 q2) ∨ (f < n ∧ ¬ best = -1 ∧ ∃ (M2 : MS) (K : Nat → Nat), f_X8_study M1 (nI c) best = some M2 ∧ Scr M M2 ∧ CQ M2 kd q0 q1 q2 ∧ M2.2 26 0 = jI (hK f (tN kd P) (iN V) (iN Z) K).num ∧ M2.2 27 0 = jI ((hK f (tN kd P) (iN V) (iN Z) K).den : Int) ∧ Inc f n K ∧ TurnQ f (tN kd P) (iN V) (iN Z) K q0 q1 q2 ∧ Stay f n (tN kd P) (iN V) (iN Z) K q0 q1 q2 ∧ (hK f (tN kd P) (iN V) (iN Z) K).num.natAbs ≤ 67108864 ∧ (hK f (tN kd P) (iN V) (iN Z) K).den ≤ 1048576)) := by
  have hn := hO.1
  obtain ⟨best, av, bv, M1, b1, b2, b3⟩ := m_best h hO h4 hc hc10 hk hf hR
  refine ⟨best, M1, b1, b2, ?_⟩
  rcases hL with ⟨l1, l2⟩ | ⟨l1, K, l2, l3, l4⟩
  · refine Or.inl ⟨l1, ?_, l2⟩
    rcases b3 with ⟨c1, -⟩ | ⟨bb, -, c2, -⟩
    · exact c1
    · have := c2.1.lt hn; omega
  · rcases b3 with ⟨-, c1⟩ | ⟨bb, c1, c2, -⟩
    · exfalso
      obtain ⟨hlt, hE⟩ := enum_of l2 (bsum_of l2 hn)
      exact c1 _ hlt ⟨hlt, by rw [pcn_top hlt 12 hn]; exact hE.2.2.2.symm⟩
    · have hb12 : bb < 4096 := Nat.lt_of_lt_of_le c2.1.1 (show 2 ^ _ ≤ 2 ^ 12 from Nat.pow_le_pow_right (by decide) hn)
      refine Or.inr ⟨l1, ?_, ?_⟩
      · rw [c1]
        intro e
        have h3 := congrArg Int32.toInt e
        rw [n_toInt (by omega)] at h3
        have e2 : (-1 : Int32).toInt = -1 := by decide
        omega
      · obtain ⟨M2, s1, s2, K', N0, N1, N2, D, u1, u2, u3, u4, u5, u6, u7, u8, u9⟩ := m_study (h.scr b2) hO (by omega) hR c2.1.1 c2.1.2
        obtain ⟨w1, w2⟩ := best_poly hR l2 l3 l4 c2 u1
        obtain ⟨e0, e1, e2⟩ := turnQ_uq hR u1.inc w1 u6
        refine ⟨M2, K', by rw [c1]; exact s1, b2.tr s2, by rw [e0, e1, e2]; exact u7, u3, u4, u1.inc, w1, fun i hi => ?_, u8, u9⟩
        rw [w2]
        exact l4 i hi
theorem m_settle (h : MFit M c n kd dg P V Z) (hO : PtsOk n P V Z) (h4 : M.1 4 0 = nI cnt) (hc : c < cnt) (hc10 : cnt ≤ 10) (hk : kd = 1 ∨ kd = 2) (hf : frN kd dg f) (hR : Rw f n (tN kd P) (iN V) (iN Z)) (hL : LvQ f n (tN kd P) (iN V) (iN Z) q0 q1 q2) {C : Pol4} (e0 : q0F C = q0) (e1 : q1F C = xq1 kd q1) (e2 : q2F C = xq2 kd q1 q2) : ∃ M', f_X8_settle M (nI c) = some M' ∧ KeepN M M' c ∧ MFit M' c n kd dg P V Z ∧ M'.1 = M'.1 ∧ MPol M' (36 * c) C ∧ ∀ k, k ≠ 23 → M'.1 k = M.1 k := by
  have hn := hO.1
  have hf3 := hR.1
  have q10 : z_in (nI c) 10 := by rw [n_in (by omega)]; omega
  obtain ⟨best, M1, b1, b2, b3⟩ := m_core h hO h4 hc hc10 hk hf hR hL
  have fin : ∀ M3 : MS, Scr M M3 → CQ M3 kd q0 q1 q2 → ∃ M', f_X8_keep M3 (nI c) (0 : Int32) = some M' ∧ KeepN M M' c ∧ MFit M' c n kd dg P V Z ∧ M'.1 = M'.1 ∧ MPol M' (36 * c) C ∧ ∀ k, k ≠ 23 → M'.1 k = M.1 k := by
    intro M3 hs hq
    obtain ⟨M', k1, k2⟩ := m_keep (M := M3) (f := c) (p := 0) (by omega) (by omega)
    obtain ⟨⟨c1, c2⟩, ⟨c5, c6⟩, c7, c8⟩ := hq
    refine ⟨M', k1, (KeepN.scr hs).tr (k2.keep (by omega)), (h.scr hs).eq1 k2.1, rfl, MPol.of k2 ?_ ?_ ?_, fun k hk => by rw [k2.1]; exact hs.1 k hk⟩
    · rw [e0]; exact ⟨c1, c2⟩
    · rw [e1]; exact ⟨c5, c6⟩
    · rw [e2]; exact ⟨c7, c8⟩
  unfold f_X8_settle
  rw [b1, z_bd2_s]
  rcases b3 with ⟨l1, l2, l3⟩ | ⟨l1, l2, M2, K, l3, l4, l5, -⟩
  · rw [if_pos l2]
    have hlp : ∃ M6, z_lp (fun x => f_X8_settle_L22 (nI c) x.1 x.2) ((0 : Int32), M1) = some M6 ∧ PsIn M1 M6 n V := by
      have key : ∀ (k i : Nat) (X : MS), i + k = n → PsIn M1 X i V → ∃ M6, z_lp (fun x => f_X8_settle_L22 (nI c) x.1 x.2) (nI i, X) = some M6 ∧ PsIn M1 M6 n V := by
        intro k
        induction k with
        | zero =>
          intro i X hi hX
          rw [show i = n by omega] at hX ⊢
          refine ⟨X, z_lp_x ?_, hX⟩
          show f_X8_settle_L22 (nI c) (nI n) X = _
          unfold f_X8_settle_L22
          rw [z_chk_t q10, n_cl (by omega), hX.1 7 (by omega), (h.scr b2).2.2.1, if_pos (by rw [n_le (by omega) (by omega)]; omega)]
        | succ k ih =>
          intro i X hi hX
          have e0 : ((12 : Int32) * nI c) + nI i = nI (12 * c + i) := by rw [show (12 : Int32) = nI 12 from rfl, n_mul, n_add]
          have i0 : z_in (nI (12 * c + i)) 120 := by rw [n_in (by omega)]; omega
          have i3 : z_in (nI i) 3 := by rw [n_in (by omega)]; omega
          have i12 : z_in (nI i) 12 := by rw [n_in (by omega)]; omega
          obtain ⟨M6, r1, r2⟩ := ih (i + 1) _ (by omega) hX.step
          refine ⟨M6, ?_, r2⟩
          rw [← r1]
          apply z_lp_n
          show f_X8_settle_L22 (nI c) (nI i) X = _
          unfold f_X8_settle_L22
          simp only [e0, z_chk_t q10, z_chk_t i0, z_chk_t i3, z_chk_t i12]
          rw [n_cl (by omega), n_cl (by omega), n_cl (by omega), hX.1 7 (by omega), (h.scr b2).2.2.1, if_neg (by rw [n_le (by omega) (by omega)]; omega), z_lt_e, z_lt_e, z_lt_e, sI_n _ (show (9 : Nat) ≠ 23 by omega), hX.1 9 (by omega), ((h.scr b2).2.2.2 i (by omega)).2.1, z_i64, show nI i + 1 = nI (i + 1) from n_add i 1]
      exact key n 0 M1 (by omega) ⟨fun _ _ => rfl, fun _ _ _ => rfl, fun j hj => by omega, fun j hj => by omega⟩
    obtain ⟨M6, e6, hP6⟩ := hlp
    obtain ⟨M10, t1, t2, t3⟩ := m_passC (h.scr b2) hO (by omega) hR l1 hP6 l3
    obtain ⟨M11, o1, o2, o3, o4⟩ := m_ofX (fi := c) (kd := kd) (M := M10) (by rw [t2.1 5 (by omega)]; exact (h.scr b2).1) (by omega) t3
    have s11 : Scr M M11 := b2.tr (t2.tr ⟨fun k _ => by rw [o2], o3 13 (by omega) (by omega), o3 14 (by omega) (by omega)⟩)
    obtain ⟨M', f1, f2⟩ := fin M11 s11 o4
    refine ⟨M', ?_, f2⟩
    rw [e6, z_bd_s, z_chk_t q10, n_cl (by omega), hP6.1 7 (by omega), (h.scr b2).2.2.1, t1, z_bd_s, o1, z_bd_s, z_bd_s, f1, z_bd_s]
  · rw [if_neg l2, l3, z_bd_s, z_bd_s]
    obtain ⟨M', f1, f2⟩ := fin M2 l4 l5
    exact ⟨M', by rw [f1, z_bd_s], f2⟩
end CO
