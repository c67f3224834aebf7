/-! the class's fractions: lowestTerms, Polynomial -/
theorem q_parts {a b : Int} (hb : 0 < b) : ∃ x y : Int, a = ((Int.gcd a b : Nat) : Int) * x ∧ b = ((Int.gcd a b : Nat) : Int) * y ∧ (Rat.divInt a b).num = x ∧ ((Rat.divInt a b).den : Int) = y ∧ 0 < ((Int.gcd a b : Nat) : Int) := by
  have hg : Int.gcd a b ≠ 0 := by
    intro e
    have := (Int.gcd_eq_zero_iff.mp e).2
    omega
  have hg0 : ((Int.gcd a b : Nat) : Int) ≠ 0 := by omega
  obtain ⟨x, hx⟩ : ((Int.gcd a b : Nat) : Int) ∣ a := Int.gcd_dvd_left a b
  obtain ⟨y, hy⟩ : ((Int.gcd a b : Nat) : Int) ∣ b := Int.gcd_dvd_right a b
  refine ⟨x, y, hx, hy, ?_, ?_, by omega⟩
  · rw [Rat.num_divInt, Int.gcd_comm, Int.sign_eq_one_of_pos hb, Int.one_mul]
    have h := Int.mul_ediv_cancel_left x hg0
    rw [← hx] at h
    exact h
  · rw [Rat.den_divInt, if_neg (by omega), Int.gcd_comm, Int.natCast_ediv, show (b.natAbs : Int) = b by omega]
    have h := Int.mul_ediv_cancel_left y hg0
    rw [← hy] at h
    exact h
theorem p_lowest {a b : Int} (hb : 0 < b) (h1 : a.natAbs < 9223372036854775808) (h2 : b < 9223372036854775808) (w : Int32) : f_X7_lowestTerms (jI a) (jI b) w = some (if w = 0 then jI (Rat.divInt a b).num else if w = 1 then jI ((Rat.divInt a b).den : Int) else -1000000000000) := by
  obtain ⟨x, y, hx, hy, hn, hd, hg⟩ := q_parts (a := a) hb
  have hle : Int.gcd a b ≤ b.natAbs := Nat.le_of_dvd (by omega) (Nat.gcd_dvd_right _ _)
  have fin : ∀ z u : Int, z = ((Int.gcd a b : Nat) : Int) * u → z.natAbs < 9223372036854775808 → (if lg_cmp (jI ((Int.gcd a b : Nat) : Int)) 1 ≤ 0 then some (jI z) else z_chk (¬ jI ((Int.gcd a b : Nat) : Int) = 0) (some (jI z / jI ((Int.gcd a b : Nat) : Int)))) = some (jI u) := by
    intro z u hz hzb
    rw [show (1 : Int64) = jI 1 from rfl, show (0 : Int64) = jI 0 from rfl]
    by_cases q : ((Int.gcd a b : Nat) : Int) ≤ 1
    · rw [if_pos (by rw [j_cmple (by omega) (by omega) (by omega) (by omega)]; exact q)]
      have e : ((Int.gcd a b : Nat) : Int) = 1 := by omega
      rw [e, Int.one_mul] at hz
      rw [hz]
    · rw [if_neg (by rw [j_cmple (by omega) (by omega) (by omega) (by omega)]; exact q), z_chk_t (by rw [j_eq (by omega) (by omega) (by omega) (by omega)]; omega), j_div (by omega) (by omega) (by omega) (by omega)]
      have h := Int.mul_tdiv_cancel_left u (show ((Int.gcd a b : Nat) : Int) ≠ 0 by omega)
      rw [← hz] at h
      rw [h]
  unfold f_X7_lowestTerms
  rw [p_gcd (by omega) (by omega) (by omega) h2]
  by_cases c0 : w = 0
  · simp only [if_pos c0, z_bd_s]
    rw [fin a x hx (by omega), hn]
  · by_cases c1 : w = 1
    · simp only [if_neg c0, if_pos c1, z_bd_s]
      rw [fin b y hy (by omega), hd]
    · simp only [if_neg c0, if_neg c1]
/-- a Polynomial at a -/
def PolAt (S : GS) (a : Nat) (c0 c1 c2 d : Int) : Prop := S.1 a = some (e_o 4 [.long (jI c0), .long (jI c1), .long (jI c2), .long (jI d)])
theorem PolAt.p {S : GS} {a : Nat} {c0 c1 c2 d : Int} (h : PolAt S a c0 c1 c2 d) (x : Int) : (∃ S', g_put S 4 0 a (.long (jI x)) = some S' ∧ PolAt S' a x c1 c2 d ∧ Same S S' a 1) ∧ (∃ S', g_put S 4 1 a (.long (jI x)) = some S' ∧ PolAt S' a c0 x c2 d ∧ Same S S' a 1) ∧ (∃ S', g_put S 4 2 a (.long (jI x)) = some S' ∧ PolAt S' a c0 c1 x d ∧ Same S S' a 1) ∧ ∃ S', g_put S 4 3 a (.long (jI x)) = some S' ∧ PolAt S' a c0 c1 c2 x ∧ Same S S' a 1 := by
  refine ⟨⟨_, g_put_e _ h (Nat.le_of_ble_eq_true rfl), ?_, Same.up (by omega)⟩, ⟨_, g_put_e _ h (Nat.le_of_ble_eq_true rfl), ?_, Same.up (by omega)⟩, ⟨_, g_put_e _ h (Nat.le_of_ble_eq_true rfl), ?_, Same.up (by omega)⟩, ⟨_, g_put_e _ h (Nat.le_of_ble_eq_true rfl), ?_, Same.up (by omega)⟩⟩
  all_goals (unfold PolAt; rw [g_up_s]; rfl)
theorem PolAt.g {S : GS} {a : Nat} {c0 c1 c2 d : Int} (h : PolAt S a c0 c1 c2 d) : g_l S 4 0 a = some (jI c0) ∧ g_l S 4 1 a = some (jI c1) ∧ g_l S 4 2 a = some (jI c2) ∧ g_l S 4 3 a = some (jI d) := ⟨g_l_e h rfl, g_l_e h rfl, g_l_e h rfl, g_l_e h rfl⟩
/-- the greatest number that divides all four -/
def gc4 (c0 c1 c2 d : Int) : Nat := Nat.gcd (Int.gcd c0 c1) (Int.gcd c2 d)
theorem p_become {S : GS} {a : Nat} {u0 u1 u2 u3 c0 c1 c2 d : Int} (h : PolAt S a u0 u1 u2 u3) (hd : 0 < d) (b0 : c0.natAbs < 9223372036854775808) (b1 : c1.natAbs < 9223372036854775808) (b2 : c2.natAbs < 9223372036854775808) (b3 : d < 9223372036854775808) : ∃ S', f_X4_become S a (jI c0) (jI c1) (jI c2) (jI d) = some S' ∧ PolAt S' a (c0.tdiv (gc4 c0 c1 c2 d)) (c1.tdiv (gc4 c0 c1 c2 d)) (c2.tdiv (gc4 c0 c1 c2 d)) (d.tdiv (gc4 c0 c1 c2 d)) ∧ Same S S' a 1 := by
  obtain ⟨S1, e1, h1, s1⟩ := (h.p c0).1
  obtain ⟨S2, e2, h2, s2⟩ := (h1.p c1).2.1
  obtain ⟨S3, e3, h3, s3⟩ := (h2.p c2).2.2.1
  obtain ⟨S4, e4, h4, s4⟩ := (h3.p d).2.2.2
  obtain ⟨g0, g1, g2, g3⟩ := h4.g
  have s5 := ((s1.tr s2).tr s3).tr s4
  have hdg : Int.gcd c2 d ≠ 0 := by
    intro e
    have := (Int.gcd_eq_zero_iff.mp e).2
    omega
  have hdl : Int.gcd c2 d ≤ d.natAbs := Nat.le_of_dvd (by omega) (Nat.gcd_dvd_right _ _)
  have hcl : (Int.gcd c0 c1 : Nat) < 9223372036854775808 := by
    rcases Nat.eq_zero_or_pos c0.natAbs with q | q
    · have : Int.gcd c0 c1 = c1.natAbs := by
        unfold Int.gcd
        rw [q, Nat.gcd_zero_left]
      omega
    · have := Nat.le_of_dvd q (Nat.gcd_dvd_left c0.natAbs c1.natAbs)
      have e : Int.gcd c0 c1 = Nat.gcd c0.natAbs c1.natAbs := rfl
      omega
  have hG : gc4 c0 c1 c2 d ≠ 0 := by
    intro e
    have := (Nat.gcd_eq_zero_iff.mp e).2
    exact hdg this
  have hGl : gc4 c0 c1 c2 d ≤ Int.gcd c2 d := Nat.le_of_dvd (by omega) (Nat.gcd_dvd_right _ _)
  have eG : f_X7_commonDivisor (jI ((Int.gcd c0 c1 : Nat) : Int)) (jI ((Int.gcd c2 d : Nat) : Int)) = some (jI ((gc4 c0 c1 c2 d : Nat) : Int)) := by
    rw [p_gcd (by omega) (by omega) (by omega) (by omega)]
    rfl
  have base : f_X4_become S a (jI c0) (jI c1) (jI c2) (jI d) = (if lg_cmp (jI ((gc4 c0 c1 c2 d : Nat) : Int)) 1 ≤ 0 then some S4 else z_bd (g_l S4 4 0 a) fun f_12 => z_chk (¬ jI ((gc4 c0 c1 c2 d : Nat) : Int) = 0) (z_bd (g_put S4 4 0 a (.long (f_12 / jI ((gc4 c0 c1 c2 d : Nat) : Int)))) fun S_13 => z_bd (g_l S_13 4 1 a) fun f_14 => z_chk (¬ jI ((gc4 c0 c1 c2 d : Nat) : Int) = 0) (z_bd (g_put S_13 4 1 a (.long (f_14 / jI ((gc4 c0 c1 c2 d : Nat) : Int)))) fun S_15 => z_bd (g_l S_15 4 2 a) fun f_16 => z_chk (¬ jI ((gc4 c0 c1 c2 d : Nat) : Int) = 0) (z_bd (g_put S_15 4 2 a (.long (f_16 / jI ((gc4 c0 c1 c2 d : Nat) : Int)))) fun S_17 => z_bd (g_l S_17 4 3 a) fun f_18 => z_chk (¬ jI ((gc4 c0 c1 c2 d : Nat) : Int) = 0) (z_bd (g_put S_17 4 3 a (.long (f_18 / jI ((gc4 c0 c1 c2 d : Nat) : Int)))) fun S_19 => some S_19))))) := by
    unfold f_X4_become
    rw [e1, z_bd_s, e2, z_bd_s, e3, z_bd_s, e4, z_bd_s, g0, z_bd_s, g1, z_bd_s, p_gcd (by omega) (by omega) (by omega) (by omega), z_bd_s, g2, z_bd_s, g3, z_bd_s, p_gcd (by omega) (by omega) (by omega) b3, z_bd_s, eG, z_bd_s]
  rw [base, show (1 : Int64) = jI 1 from rfl, show (0 : Int64) = jI 0 from rfl]
  by_cases q : ((gc4 c0 c1 c2 d : Nat) : Int) ≤ 1
  · have e : gc4 c0 c1 c2 d = 1 := by omega
    refine ⟨S4, by rw [if_pos (by rw [j_cmple (by omega) (by omega) (by omega) (by omega)]; exact q)], ?_, s5⟩
    rw [e]
    simp only [Int.natCast_one, Int.tdiv_one]
    exact h4
  · have n0 : ¬ jI ((gc4 c0 c1 c2 d : Nat) : Int) = jI 0 := by rw [j_eq (by omega) (by omega) (by omega) (by omega)]; omega
    obtain ⟨T1, k1, m1, t1⟩ := (h4.p (c0.tdiv (gc4 c0 c1 c2 d))).1
    obtain ⟨T2, k2, m2, t2⟩ := (m1.p (c1.tdiv (gc4 c0 c1 c2 d))).2.1
    obtain ⟨T3, k3, m3, t3⟩ := (m2.p (c2.tdiv (gc4 c0 c1 c2 d))).2.2.1
    obtain ⟨T4, k4, m4, t4⟩ := (m3.p (d.tdiv (gc4 c0 c1 c2 d))).2.2.2
    refine ⟨T4, ?_, m4, (((s5.tr t1).tr t2).tr t3).tr t4⟩
    rw [if_neg (by rw [j_cmple (by omega) (by omega) (by omega) (by omega)]; exact q)]
    simp only [z_chk_t n0]
    rw [g0, z_bd_s, j_div (by omega) (by omega) (by omega) (by omega), k1, z_bd_s, m1.g.2.1, z_bd_s, j_div (by omega) (by omega) (by omega) (by omega), k2, z_bd_s, m2.g.2.2.1, z_bd_s, j_div (by omega) (by omega) (by omega) (by omega), k3, z_bd_s, m3.g.2.2.2, z_bd_s, j_div (by omega) (by omega) (by omega) (by omega), k4, z_bd_s]
