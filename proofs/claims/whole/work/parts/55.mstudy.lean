/-! the reference: through, study -/
theorem z_bd3_s {α β γ δ : Type} (a : α) (b : β) (c : γ) (k : α → β → γ → Option δ) : z_bd3 (some (a, b, c)) k = k a b c := rfl
def c3 (r0 r1 r2 : Rat) : Nat → Rat := fun k => if k = 0 then r0 else if k = 1 then r1 else r2
theorem TV.cg {M0 M : MS} {c c' : Nat → Rat} (h : TV M0 M c) (e : ∀ k, k < 3 → c k = c' k) : TV M0 M c' := ⟨h.1, h.2.1, fun k hk => by rw [← e k hk]; exact h.2.2 k hk⟩
section TH
variable {M M8 M11 : MS} {fi n f : Nat} {kd dg : Int32} {P V Z : Nat → Int32} {K : Nat → Nat} {G : Nat → Int} {D N0 N1 N2 : Int} {c : Nat → Rat}
theorem m_thrT (h : MFit M fi n kd dg P V Z) (hfi : fi < 10) (hn : n ≤ 12) (hf : f ≤ 3) (hf2 : 2 ≤ f) (hK : ∀ j, j < f → K j < n) (hT : ∀ j, j < f → M.1 23 j = nI (K j)) (hI : ThIn M f G D) (hS : Sol f (fun j => tN kd P (K j)) G D N0 N1 N2) (hP : PolOk N0 N1 N2 D) (ht : ∀ j, j < f → (tN kd P (K j)).natAbs ≤ 144) (hv : TV M M11 c) (h8 : M8.2 21 0 = jI (Rat.divInt (N1 + N2 * (tN kd P (K 0) + tN kd P (K 1))) D).num) (h8' : M8.2 22 0 = jI ((Rat.divInt (N1 + N2 * (tN kd P (K 0) + tN kd P (K 1))) D).den : Int)) : ∃ M', (z_lt (sJ M11 28 2 (jI (Rat.divInt N2 D).num)) fun M_17 => z_lt (sJ M_17 29 2 (jI ((Rat.divInt N2 D).den : Int))) fun M_18 => z_bd (f_X8_t M_18 (nI fi) (0 : Int32)) fun r_19 => z_bd (f_X8_t M_18 (nI fi) (1 : Int32)) fun r_20 => z_bd (f_X8_times M_18 (jI (Rat.divInt N2 D).num) (jI ((Rat.divInt N2 D).den : Int)) (-(r_19 + r_20)) (1 : Int64)) fun M_21 => z_bd (f_X8_plus M_21 (M_21.2 21 0) (M_21.2 22 0) (M8.2 21 0) (M8.2 22 0)) fun M_22 => z_lt (sJ M_22 28 1 (M_22.2 21 0)) fun M_23 => z_lt (sJ M_23 29 1 (M_23.2 22 0)) fun M_24 => z_bd (f_X8_t M_24 (nI fi) (0 : Int32)) fun r_25 => z_bd (f_X8_times M_24 (jI (Rat.divInt N2 D).num) (jI ((Rat.divInt N2 D).den : Int)) r_25 (1 : Int64)) fun M_26 => z_bd (f_X8_plus M_26 (M_26.2 21 0) (M_26.2 22 0) (M_26.2 28 1) (M_26.2 29 1)) fun M_27 => z_bd (f_X8_t M_27 (nI fi) (0 : Int32)) fun r_28 => z_bd (f_X8_times M_27 (M_27.2 21 0) (M_27.2 22 0) (-r_28) (1 : Int64)) fun M_29 => z_bd (f_X8_plus M_29 (M_29.2 21 0) (M_29.2 22 0) (M_29.2 24 0) (M_29.2 25 0)) fun M_30 => z_lt (sJ M_30 28 0 (M_30.2 21 0)) fun M_31 => z_lt (sJ M_31 29 0 (M_31.2 22 0)) fun M_32 => some M_32) = some M' ∧ TV M M' (c3 (Rat.divInt N0 D) (Rat.divInt N1 D) (Rat.divInt N2 D)) := by
  obtain ⟨p1, p2, p3, p4, p5⟩ := hP
  have t0 := ht 0 (by omega)
  have t1 := ht 1 (by omega)
  obtain ⟨a1, a2, a3⟩ := hI 0 (by omega)
  have g0 := hS.2.1 0 (by omega)
  dsimp only at g0
  have x0 : ∀ {X : MS} {cc : Nat → Rat}, TV M X cc → f_X8_t X (nI fi) (0 : Int32) = some (jI (tN kd P (K 0))) := fun {X cc} hX => m_t (h.eq1 hX.1) hfi hn (i := 0) (by omega) (hK 0 (by omega)) (by rw [hX.1]; exact hT 0 (by omega))
  have x1 : ∀ {X : MS} {cc : Nat → Rat}, TV M X cc → f_X8_t X (nI fi) (1 : Int32) = some (jI (tN kd P (K 1))) := fun {X cc} hX => m_t (h.eq1 hX.1) hfi hn (i := 1) (by omega) (hK 1 (by omega)) (by rw [hX.1]; exact hT 1 (by omega))
  generalize hT0 : tN kd P (K 0) = T0 at *
  generalize hT1 : tN kd P (K 1) = T1 at *
  have v18 := hv.w 2 (Rat.divInt N2 D)
  have e1 : Rat.divInt N2 D * ((-(T0 + T1) : Int) : Rat) = Rat.divInt (N2 * -(T0 + T1)) D := dv_mulI _
  have e2 : Rat.divInt N2 D * ((-(T0 + T1) : Int) : Rat) + Rat.divInt (N1 + N2 * (T0 + T1)) D = Rat.divInt N1 D := by
    rw [e1, dv_add p1]
    congr 1
    grind
  have e3 : Rat.divInt N2 D * (T0 : Rat) = Rat.divInt (N2 * T0) D := dv_mulI _
  have e4 : Rat.divInt N2 D * (T0 : Rat) + Rat.divInt N1 D = Rat.divInt (N2 * T0 + N1) D := by rw [e3, dv_add p1]
  have e5 : (Rat.divInt N2 D * (T0 : Rat) + Rat.divInt N1 D) * ((-T0 : Int) : Rat) = Rat.divInt ((N2 * T0 + N1) * -T0) D := by rw [e4, dv_mulI]
  have e6 : (Rat.divInt N2 D * (T0 : Rat) + Rat.divInt N1 D) * ((-T0 : Int) : Rat) + Rat.divInt (G 0) D = Rat.divInt N0 D := by
    rw [e5, dv_add p1, ← g0]
    congr 1
    grind
  have s01 : (T0 + T1).natAbs ≤ 288 := by omega
  have sn01 : (-(T0 + T1)).natAbs ≤ 288 := by omega
  have b1 := b_mul p5 sn01
  have b2 := b_add p4 (b_mul p5 s01)
  have b3 := b_mul p5 t0
  have b4 := b_add b3 p4
  have b5 := b_mul b4 (show (-T0).natAbs ≤ 144 by omega)
  obtain ⟨M18, hM18⟩ : ∃ z, z = sJ (sJ M11 28 2 (jI (Rat.divInt N2 D).num)) 29 2 (jI ((Rat.divInt N2 D).den : Int)) := ⟨_, rfl⟩
  rw [← hM18] at v18
  have v21 := v18.q (Rat.divInt N2 D * ((-(T0 + T1) : Int) : Rat))
  have v22 := v18.q (Rat.divInt N1 D)
  have v24 := v22.w 1 (Rat.divInt N1 D)
  obtain ⟨M24, hM24⟩ : ∃ z, z = sJ (sJ (setQ M18 (Rat.divInt N1 D)) 28 1 (jI (Rat.divInt N1 D).num)) 29 1 (jI ((Rat.divInt N1 D).den : Int)) := ⟨_, rfl⟩
  rw [← hM24] at v24
  have v26 := v24.q (Rat.divInt N2 D * (T0 : Rat))
  have v27 := v24.q (Rat.divInt N2 D * (T0 : Rat) + Rat.divInt N1 D)
  have v29 := v24.q ((Rat.divInt N2 D * (T0 : Rat) + Rat.divInt N1 D) * ((-T0 : Int) : Rat))
  have v30 := v24.q (Rat.divInt N0 D)
  have v32 := v30.w 0 (Rat.divInt N0 D)
  refine ⟨_, ?_, v32.cg ?_⟩
  · rw [z_lt_e, z_lt_e, ← hM18, x0 v18, z_bd_s, x1 v18, z_bd_s, j_add, j_neg, m_timesI _ _ _ 33554432 1048576 288 (rt_bd rfl p1 p5 (by omega)) sn01 (by decide) (by decide), z_bd_s, setQ_n, setQ_d, h8, h8', m_plusR _ _ _ 9663676416 1048576 9697230848 1048576 (rt_bd e1 p1 (by omega) (by omega)) (rt_bd rfl p1 (by omega) (by omega)) (by decide) (by decide), z_bd_s, setQ_2, e2, z_lt_e, z_lt_e, setQ_n, sJ_n _ (show (22 : Nat) ≠ 28 by omega), setQ_d, ← hM24, x0 v24, z_bd_s, m_timesI _ _ _ 33554432 1048576 144 (rt_bd rfl p1 p5 (by omega)) t0 (by decide) (by decide), z_bd_s, setQ_n, setQ_d, (v26.2.2 1 (by omega)).1, (v26.2.2 1 (by omega)).2]
    rw [show updR (updR c 2 (Rat.divInt N2 D)) 1 (Rat.divInt N1 D) 1 = Rat.divInt N1 D from if_pos rfl]
    rw [m_plusR _ _ _ 4831838208 1048576 33554432 1048576 (rt_bd e3 p1 (by omega) (by omega)) (rt_bd rfl p1 p4 (by omega)) (by decide) (by decide), z_bd_s, setQ_2, x0 v27, z_bd_s, setQ_n, setQ_d, j_neg, m_timesI _ _ _ 4865392640 1048576 144 (rt_bd e4 p1 (by omega) (by omega)) (by omega) (by decide) (by decide), z_bd_s, setQ_2, setQ_n, setQ_d, v29.2.1 24 (by omega) (by omega) (by omega) (by omega), v29.2.1 25 (by omega) (by omega) (by omega) (by omega), a1, a2, m_plusR _ _ _ 700616540160 1048576 134217728 1048576 (rt_bd e5 p1 (by omega) (by omega)) (rt_bd rfl p1 a3 (by omega)) (by decide) (by decide), z_bd_s, setQ_2, e6, z_lt_e, z_lt_e, setQ_n, sJ_n _ (show (22 : Nat) ≠ 28 by omega), setQ_d]
  · intro k hk
    rcases (show k = 0 ∨ k = 1 ∨ k = 2 by omega) with rfl | rfl | rfl <;> rfl
theorem m_through (h : MFit M fi n kd dg P V Z) (hfi : fi < 10) (hn : n ≤ 12) (hf : f ≤ 3) (hK : ∀ j, j < f → K j < n) (hT : ∀ j, j < f → M.1 23 j = nI (K j)) (hI : ThIn M f G D) (hS : Sol f (fun j => tN kd P (K j)) G D N0 N1 N2) (hP : PolOk N0 N1 N2 D) (ht : ∀ j, j < f → (tN kd P (K j)).natAbs ≤ 144) (hu : ∀ i j, i < j → j < f → tN kd P (K i) < tN kd P (K j)) : ∃ M', f_X8_through M (nI fi) (nI f) = some M' ∧ TV M M' (c3 (Rat.divInt N0 D) (Rat.divInt N1 D) (Rat.divInt N2 D)) := by
  obtain ⟨M3, e3, -, -, v3⟩ := m_thr0 M
  obtain ⟨p1, p2, p3, p4, p5⟩ := id hP
  by_cases f0 : f = 0
  · subst f0
    refine ⟨M3, ?_, v3.cg ?_⟩
    · unfold f_X8_through
      rw [e3, z_bd_s, if_pos (show nI 0 = (0 : Int32) from rfl)]
    · intro k hk
      rw [hS.2.2.1 (by omega), hS.2.2.2.1 (by omega), hS.2.2.2.2 rfl, Rat.zero_divInt]
      unfold c3
      by_cases q : k = 0
      · rw [if_pos q]
      · rw [if_neg q]
        by_cases q2 : k = 1
        · rw [if_pos q2]
        · rw [if_neg q2]
  · have v7 := v3.w 0 (Rat.divInt (G 0) D)
    obtain ⟨M7, hM7⟩ : ∃ z, z = sJ (sJ M3 28 0 (jI (Rat.divInt (G 0) D).num)) 29 0 (jI ((Rat.divInt (G 0) D).den : Int)) := ⟨_, rfl⟩
    rw [← hM7] at v7
    obtain ⟨a1, a2, a3⟩ := hI 0 (by omega)
    have i7 := hI.tv v7
    have m7 : MFit M7 fi n kd dg P V Z := h.eq1 v7.1
    have T7 : ∀ j, j < f → M7.1 23 j = nI (K j) := fun j hj => by rw [v7.1]; exact hT j hj
    have hne0 : ¬ nI f = (0 : Int32) := by rw [show (0 : Int32) = nI 0 from rfl, n_eq (by omega) (by omega)]; exact f0
    have c0e : (0 : Int32).toNatClampNeg = 0 := c_0
    by_cases f1 : f = 1
    · subst f1
      have g0 := hS.2.1 0 (by omega)
      dsimp only at g0
      rw [hS.2.2.1 (by omega), hS.2.2.2.1 (by omega), Int.zero_mul, Int.zero_mul, Int.add_zero, Int.add_zero] at g0
      refine ⟨M7, ?_, v7.cg ?_⟩
      · unfold f_X8_through
        simp only [c_0]
        rw [e3, z_bd_s, if_neg hne0, z_lt_e, z_lt_e, v3.2.1 24 (by omega) (by omega) (by omega) (by omega), sJ_n _ (show (25 : Nat) ≠ 28 by omega), v3.2.1 25 (by omega) (by omega) (by omega) (by omega), a1, a2, ← hM7, if_pos (show nI 1 = (1 : Int32) from rfl)]
      · intro k hk
        rw [hS.2.2.1 (by omega), hS.2.2.2.1 (by omega), g0, Rat.zero_divInt]
        rcases (show k = 0 ∨ k = 1 ∨ k = 2 by omega) with rfl | rfl | rfl <;> rfl
    · have hne1 : ¬ nI f = (1 : Int32) := by rw [show (1 : Int32) = nI 1 from rfl, n_eq (by omega) (by omega)]; exact f1
      have sl : f_X8_slope M7 (nI fi) (0 : Int32) (1 : Int32) = some (setQ M7 (Rat.divInt (N1 + N2 * (tN kd P (K 0) + tN kd P (K 1))) D)) := m_slope m7 hfi hn hf hK T7 i7 hS hP ht (i := 0) (k := 1) (by omega) (by omega) (hu 0 1 (by omega) (by omega))
      obtain ⟨M8, hM8⟩ : ∃ z, z = setQ M7 (Rat.divInt (N1 + N2 * (tN kd P (K 0) + tN kd P (K 1))) D) := ⟨_, rfl⟩
      rw [← hM8] at sl
      have v8 := v7.q (Rat.divInt (N1 + N2 * (tN kd P (K 0) + tN kd P (K 1))) D)
      rw [← hM8] at v8
      have h8 : M8.2 21 0 = jI (Rat.divInt (N1 + N2 * (tN kd P (K 0) + tN kd P (K 1))) D).num := by rw [hM8, setQ_n]
      have h8' : M8.2 22 0 = jI ((Rat.divInt (N1 + N2 * (tN kd P (K 0) + tN kd P (K 1))) D).den : Int) := by rw [hM8, setQ_d]
      unfold f_X8_through
      simp only [c_0, c_1, c_2]
      rw [e3, z_bd_s, if_neg hne0, z_lt_e, z_lt_e, v3.2.1 24 (by omega) (by omega) (by omega) (by omega), sJ_n _ (show (25 : Nat) ≠ 28 by omega), v3.2.1 25 (by omega) (by omega) (by omega) (by omega), a1, a2, ← hM7, if_neg hne1, sl, z_bd_s]
      by_cases f2 : f = 2
      · subst f2
        obtain ⟨M', r1, r2⟩ := m_thrT h hfi hn hf (by omega) hK hT hI hS hP ht v8 h8 h8'
        refine ⟨M', ?_, r2⟩
        rw [hS.2.2.1 (by omega), Rat.zero_divInt] at r1
        rw [if_neg (by decide), z_bd3_s]
        exact r1
      · have f3 : f = 3 := by omega
        subst f3
        have t0 := ht 0 (by omega)
        have t1 := ht 1 (by omega)
        have t2 := ht 2 (by omega)
        have u01 := hu 0 1 (by omega) (by omega)
        have u12 := hu 1 2 (by omega) (by omega)
        have m8 : MFit M8 fi n kd dg P V Z := h.eq1 v8.1
        have T8 : ∀ j, j < 3 → M8.1 23 j = nI (K j) := fun j hj => by rw [v8.1]; exact hT j hj
        have sl2 : f_X8_slope M8 (nI fi) (1 : Int32) (2 : Int32) = some (setQ M8 (Rat.divInt (N1 + N2 * (tN kd P (K 1) + tN kd P (K 2))) D)) := m_slope m8 hfi hn hf hK T8 (hI.tv v8) hS hP ht (i := 1) (k := 2) (by omega) (by omega) u12
        have x0 : ∀ {X : MS} {cc : Nat → Rat}, TV M X cc → f_X8_t X (nI fi) (0 : Int32) = some (jI (tN kd P (K 0))) := fun {X cc} hX => m_t (h.eq1 hX.1) hfi hn (i := 0) (by omega) (hK 0 (by omega)) (by rw [hX.1]; exact hT 0 (by omega))
        have x2 : ∀ {X : MS} {cc : Nat → Rat}, TV M X cc → f_X8_t X (nI fi) (2 : Int32) = some (jI (tN kd P (K 2))) := fun {X cc} hX => m_t (h.eq1 hX.1) hfi hn (i := 2) (by omega) (hK 2 (by omega)) (by rw [hX.1]; exact hT 2 (by omega))
        have v11 := v8.q (Rat.divInt N2 D)
        obtain ⟨M', r1, r2⟩ := m_thrT h hfi hn hf (by omega) hK hT hI hS hP ht v11 h8 h8'
        refine ⟨M', ?_, r2⟩
        generalize hT0 : tN kd P (K 0) = T0 at *
        generalize hT1 : tN kd P (K 1) = T1 at *
        generalize hT2 : tN kd P (K 2) = T2 at *
        have en : -Rat.divInt (N1 + N2 * (T0 + T1)) D = Rat.divInt (-(N1 + N2 * (T0 + T1))) D := dv_neg
        have e4 : Rat.divInt (N1 + N2 * (T1 + T2)) D + -Rat.divInt (N1 + N2 * (T0 + T1)) D = Rat.divInt ((T2 - T0) * N2) D := by
          rw [en, dv_add p1]
          congr 1
          grind
        have b1 := b_add p4 (b_mul p5 (show (T1 + T2).natAbs ≤ 288 by omega))
        have b2 := b_add p4 (b_mul p5 (show (T0 + T1).natAbs ≤ 288 by omega))
        have b3 := b_mul (show (T2 - T0).natAbs ≤ 288 by omega) p5
        have nb := rt_bd (r := -Rat.divInt (N1 + N2 * (T0 + T1)) D) (A := 9697230848) (B := 1048576) en p1 (by omega) (by omega)
        rw [h8, h8'] at r1
        rw [if_pos (by decide), sl2, z_bd_s, setQ_n, setQ_d, h8, h8', j_neg, ← (rt_neg (Rat.divInt (N1 + N2 * (T0 + T1)) D)).1]
        rw [show jI (((Rat.divInt (N1 + N2 * (T0 + T1)) D).den : Nat) : Int) = jI (((-Rat.divInt (N1 + N2 * (T0 + T1)) D).den : Nat) : Int) by rw [(rt_neg (Rat.divInt (N1 + N2 * (T0 + T1)) D)).2]]
        rw [m_plusR _ _ _ 9697230848 1048576 9697230848 1048576 (rt_bd rfl p1 (by omega) (by omega)) nb (by decide) (by decide), z_bd_s, setQ_2, x2 (v8.q _), z_bd_s, x0 (v8.q _), z_bd_s, setQ_n, setQ_d, j_sub, m_timesD _ _ _ 9663676416 1048576 288 (rt_bd e4 p1 (by omega) (by omega)) (by omega) (by omega) (by decide) (by decide), z_bd_s, setQ_2, e4, dv_divI (by omega), setQ_n, setQ_d, z_bd3_s]
        rw [(rt_neg (Rat.divInt (N1 + N2 * (T0 + T1)) D)).2]
        exact r1
end TH
