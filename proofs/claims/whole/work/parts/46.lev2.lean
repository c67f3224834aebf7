/-! the class's Leveller: solve, passThroughAll -/
theorem ev_int (x0 x1 x2 : Int) (a : Int) : ev (x0 : Rat) (x1 : Rat) (x2 : Rat) a = ((x0 + x1 * a + x2 * (a * a) : Int) : Rat) := by
  unfold ev
  rw [Rat.intCast_add, Rat.intCast_add, Rat.intCast_mul, Rat.intCast_mul, Rat.intCast_mul]
  grind
theorem uqI {m : Nat} (hm : m ≤ 3) {t : Nat → Int} (ht : ∀ i j, i < j → j < m → t i < t j) {A0 A1 A2 B0 B1 B2 : Int} (hA : (m < 3 → A2 = 0) ∧ (m < 2 → A1 = 0) ∧ (m = 0 → A0 = 0)) (hB : (m < 3 → B2 = 0) ∧ (m < 2 → B1 = 0) ∧ (m = 0 → B0 = 0)) (h : ∀ i, i < m → A0 + A1 * t i + A2 * (t i * t i) = B0 + B1 * t i + B2 * (t i * t i)) : A0 = B0 ∧ A1 = B1 ∧ A2 = B2 := by
  by_cases q : m = 0
  · rw [hA.1 (by omega), hA.2.1 (by omega), hA.2.2 q, hB.1 (by omega), hB.2.1 (by omega), hB.2.2 q]
    exact ⟨rfl, rfl, rfl⟩
  · have c0 : ∀ {x : Int}, x = 0 → (x : Rat) = 0 := by intro x hx; rw [hx]; rfl
    have e := iq (f := m) (by omega) ht (x0 := (A0 : Rat)) (x1 := (A1 : Rat)) (x2 := (A2 : Rat)) (y0 := (B0 : Rat)) (y1 := (B1 : Rat)) (y2 := (B2 : Rat)) ⟨fun z => c0 (hA.1 z), fun z => c0 (hA.2.1 z)⟩ ⟨fun z => c0 (hB.1 z), fun z => c0 (hB.2.1 z)⟩ (fun i hi => by rw [ev_int, ev_int, h i hi])
    exact ⟨by exact_mod_cast e.1, by exact_mod_cast e.2.1, by exact_mod_cast e.2.2⟩
theorem rt_x1 {N D t : Rat} : N / D * t = N * t / D := by grind
theorem ev_dv {N0 N1 N2 D : Int} (hD : 0 < D) (a : Int) : ev (Rat.divInt N0 D) (Rat.divInt N1 D) (Rat.divInt N2 D) a = Rat.divInt (N0 + N1 * a + N2 * (a * a)) D := by
  rw [(ev_div hD a).2.2.2]
  congr 1
  grind
theorem tp_1 {v w s A B g : Rat} (hB : B ≠ 0) (h : w * s = 12) (hg : g * g = 1) : g * (w * (v - (v * B - g * s * A) / B)) = 12 * A / B := by
  have e : v - (v * B - g * s * A) / B = g * s * A / B := by grind
  rw [e]
  have e2 : g * (w * (g * s * A / B)) = (g * g) * ((w * s) * (A / B)) := by grind
  rw [e2, hg, h]
  grind
theorem sol_turn {f : Nat} {t v w s : Nat → Int} {N0 N1 N2 : Int} (h : Row f t w s) (hS : Sol f t (fun i => v i * blw t s (f + 1) - sg1 i * s i * abv t v (f + 1)) (blw t s (f + 1)) N0 N1 N2) : Dg f (Rat.divInt N1 (blw t s (f + 1))) (Rat.divInt N2 (blw t s (f + 1))) ∧ ∀ i, i ≤ f → er t v w (Rat.divInt N0 (blw t s (f + 1))) (Rat.divInt N1 (blw t s (f + 1))) (Rat.divInt N2 (blw t s (f + 1))) i = hh f t v s := by
  have hD := r_Bz h
  have hD' := r_B h
  have dg : Dg f (Rat.divInt N1 (blw t s (f + 1))) (Rat.divInt N2 (blw t s (f + 1))) := by
    constructor
    · intro q; rw [hS.2.2.1 q, Rat.zero_divInt]
    · intro q; rw [hS.2.2.2.1 q, Rat.zero_divInt]
  refine ⟨dg, vq_last h dg (fun i hi => ?_)⟩
  unfold er hh
  rw [ev_dv hD, hS.2.1 i hi, Rat.divInt_eq_div, Rat.divInt_eq_div]
  simp only [Rat.intCast_mul, Rat.intCast_sub]
  refine tp_1 (s := (s i : Rat)) (by grind) ?_ ?_
  · rw [← Rat.intCast_mul, (h.2.2 i (by omega)).2.2]; rfl
  · rw [← Rat.intCast_mul]
    unfold sg1
    by_cases q : i % 2 = 0
    · rw [if_pos q]; rfl
    · rw [if_neg q]; rfl
section LV
variable {S : GS} {b : Nat} {t v w : Nat → Int} {K : Nat → Nat} {H B U : Nat → Int} {sz fr sq : Int32} {c0 c1 c2 d : Int}
theorem p_interp (h : LvAt S b t v w K H B U sz fr sq c0 c1 c2 d) {m : Nat} (hm : m ≤ 3) (hK : ∀ j, j < m → K j < 12) {C D N0 N1 N2 : Int} {G : Nat → Int} (hC : 0 < C) (hCb : C ≤ 1048576) (hV : 0 < spr (fun j => t (K j)) 9 m) (hVb : spr (fun j => t (K j)) 9 m ≤ 16384) (ht : ∀ i j, i < j → j < m → t (K i) < t (K j)) (hS : Sol m (fun j => t (K j)) G D N0 N1 N2) (hP : PolOk N0 N1 N2 D) (hH : ∀ i, i < m → H i * D = G i * C) : ∃ (S' : GS) (B' U' : Nat → Int) (x0 x1 x2 y : Int), f_X2_interpolate S b (nI m) (jI C) = some S' ∧ LvAt S' b t v w K H B' U' sz fr sq x0 x1 x2 y ∧ Same S S' b 9 ∧ PolOk x0 x1 x2 y ∧ gc4 x0 x1 x2 y = 1 ∧ Rat.divInt x0 y = Rat.divInt N0 D ∧ Rat.divInt x1 y = Rat.divInt N1 D ∧ Rat.divInt x2 y = Rat.divInt N2 D := by
  obtain ⟨S1, k1, h1, s1⟩ := h.wu (i := 0) (by omega) 0
  obtain ⟨S2, k2, h2, s2⟩ := h1.wu (i := 1) (by omega) 0
  obtain ⟨S3, k3, h3, s3⟩ := h2.wu (i := 2) (by omega) 0
  obtain ⟨S4, B', U', r1, r2, r3, r4⟩ := p_int_lp hm hK m 0 S3 _ _ (by omega) h3
  have r5 : (U' 0, U' 1, U' 2) = inF (fun a => t (K a)) H m 0 0 0 0 m := r4
  have u0 : U' 0 = (inF (fun a => t (K a)) H m 0 0 0 0 m).1 := by rw [← r5]
  have u1 : U' 1 = (inF (fun a => t (K a)) H m 0 0 0 0 m).2.1 := by rw [← r5]
  have u2 : U' 2 = (inF (fun a => t (K a)) H m 0 0 0 0 m).2.2 := by rw [← r5]
  obtain ⟨i1, i2, i3, i4⟩ := inF_ev hm (fun a => t (K a)) H
  rw [← u0, ← u1, ← u2] at i1
  rw [← u2] at i2
  rw [← u1] at i3
  rw [← u0] at i4
  have hd0 : 0 < C * spr (fun j => t (K j)) 9 m := Int.mul_pos hC hV
  have uq := uqI hm ht (A0 := U' 0 * D) (A1 := U' 1 * D) (A2 := U' 2 * D) (B0 := N0 * (C * spr (fun j => t (K j)) 9 m)) (B1 := N1 * (C * spr (fun j => t (K j)) 9 m)) (B2 := N2 * (C * spr (fun j => t (K j)) 9 m)) ⟨fun z => by rw [i2 z, Int.zero_mul], fun z => by rw [i3 z, Int.zero_mul], fun z => by rw [i4 z, Int.zero_mul]⟩ ⟨fun z => by rw [hS.2.2.1 z, Int.zero_mul], fun z => by rw [hS.2.2.2.1 z, Int.zero_mul], fun z => by rw [hS.2.2.2.2 z, Int.zero_mul]⟩ (fun i hi => by
    have a1 := i1 i hi
    have a2 := hS.2.1 i hi
    have a3 := hH i hi
    have e1 : U' 0 * D + U' 1 * D * t (K i) + U' 2 * D * (t (K i) * t (K i)) = (U' 0 + U' 1 * t (K i) + U' 2 * (t (K i) * t (K i))) * D := by grind
    have e2 : N0 * (C * spr (fun j => t (K j)) 9 m) + N1 * (C * spr (fun j => t (K j)) 9 m) * t (K i) + N2 * (C * spr (fun j => t (K j)) 9 m) * (t (K i) * t (K i)) = (N0 + N1 * t (K i) + N2 * (t (K i) * t (K i))) * C * spr (fun j => t (K j)) 9 m := by grind
    rw [e1, e2, a1, a2, ← a3, Int.mul_assoc, Int.mul_assoc, Int.mul_comm D])
  have bd : ∀ {u N : Int}, u * D = N * (C * spr (fun j => t (K j)) 9 m) → N.natAbs ≤ 33554432 → u.natAbs < 9223372036854775808 := by
    intro u N e hN
    have e1 := b_mul hN (b_mul (show C.natAbs ≤ 1048576 by omega) (show (spr (fun j => t (K j)) 9 m).natAbs ≤ 16384 by omega))
    rw [← e, Int.natAbs_mul] at e1
    have hD0 := hP.1
    have e2 : u.natAbs ≤ u.natAbs * D.natAbs := Nat.le_mul_of_pos_right _ (by omega)
    omega
  have bd2 := b_mul (show C.natAbs ≤ 1048576 by omega) (show (spr (fun j => t (K j)) 9 m).natAbs ≤ 16384 by omega)
  obtain ⟨S5, x0, x1, x2, y, q1, q2, q3, q4, q5, q6, q7, q8⟩ := p_become2 r2.pol hd0 (bd uq.1 hP.2.2.1) (bd uq.2.1 hP.2.2.2.1) (bd uq.2.2 hP.2.2.2.2) (by omega) hP uq.1 uq.2.1 uq.2.2
  have s5 : Same S4 S5 b 9 := ⟨q3.1, fun z hz => q3.2 z (by omega)⟩
  refine ⟨S5, B', U', x0, x1, x2, y, ?_, r2.pp q2 q3, (((s1.tr s2).tr s3).tr r3).tr s5, q4, q5, q6, q7, q8⟩
  unfold f_X2_interpolate
  rw [h.r6, z_bd_s, show (0 : Int32) = nI 0 from rfl, show (0 : Int64) = jI 0 from rfl, k1, z_bd_s, h1.r6, z_bd_s, show (1 : Int32) = nI 1 from rfl, k2, z_bd_s, h2.r6, z_bd_s, show (2 : Int32) = nI 2 from rfl, k3, z_bd_s, r1, z_bd_s, r2.r7, z_bd_s, r2.r6, z_bd_s, r2.du (i := 0) (by omega), z_bd_s, z_bd_s, r2.du (i := 1) (by omega), z_bd_s, z_bd_s, r2.du (i := 2) (by omega), z_bd_s, z_chk_t r2.is, show -nI 1 = (-1 : Int32) from rfl, p_spread r2 (by omega) hK (sp_m (by omega)), z_bd_s, z_chk_t (g_is_e r2.pol), j_mul, q1, z_bd_s]
/-- above and below of the turns' number -/
theorem p_sol_lp {f : Nat} (h : LvAt S b t v w K H B U sz (nI f) sq c0 c1 c2 d) (hf : f ≤ 3) (hK : ∀ j, j ≤ f → K j < 12) (hw : ∀ j, j ≤ f → 1 ≤ w (K j) ∧ w (K j) ≤ 4) : ∀ (k i : Nat) (A Z : Int), i + k = f + 1 → z_lp (fun x => f_X2_solve_L7 S b x.1 x.2.1 x.2.2) (jI A, jI Z, nI i) = some (jI (smA (fun i => sg1 i * spr (fun j => t (K j)) i (f + 1) * v (K i)) A i k), jI (smA (fun i => spr (fun j => t (K j)) i (f + 1) * sW w (K i)) Z i k)) := by
  intro k
  induction k with
  | zero =>
    intro i A Z hi
    apply z_lp_x
    show f_X2_solve_L7 S b (jI A) (jI Z) (nI i) = _
    unfold f_X2_solve_L7
    rw [h.gf, z_bd_s, if_pos (by rw [n_lt (by omega) (by omega)]; omega)]
    rfl
  | succ k ih =>
    intro i A Z hi
    obtain ⟨x, hx, hx2⟩ := p_sign (i := i) (by omega)
    rw [smA, smA, ← ih (i + 1) _ _ (by omega)]
    apply z_lp_n
    show f_X2_solve_L7 S b (jI A) (jI Z) (nI i) = _
    unfold f_X2_solve_L7
    rw [h.gf, z_bd_s, if_neg (by rw [n_lt (by omega) (by omega)]; omega), show (4 : Int32) = nI 4 from rfl, if_neg (by rw [n_le (by omega) (by omega)]; omega), z_bd_s, z_chk_t h.is, show (1 : Int32) = nI 1 from rfl, n_add, p_spread h (m := f + 1) (by omega) (fun j hj => hK j (by omega)) (sp_i (by omega) (by omega)), z_bd_s, hx, z_bd_s, h.r1, z_bd_s, h.r3, z_bd_s, h.dk (by omega), z_bd_s, h.dv (hK i (by omega)), z_bd_s, z_bd_s, h.dk (by omega), z_bd_s, z_chk_t h.is, p_share h (hK i (by omega)) (hw i (by omega)), z_bd_s, hx2, j_mul, j_mul, j_add, j_mul, j_add, n_add]
theorem p_hgt_lp {f : Nat} (hf : f ≤ 3) (hK : ∀ j, j ≤ f → K j < 12) (hw : ∀ j, j ≤ f → 1 ≤ w (K j) ∧ w (K j) ≤ 4) (A Z : Int) : ∀ (k i : Nat) (S : GS) (H : Nat → Int), i + k = f → LvAt S b t v w K H B U sz (nI f) sq c0 c1 c2 d → (∀ j, j < i → H j = v (K j) * Z - sg1 j * sW w (K j) * A) → ∃ (S' : GS) (H' : Nat → Int), z_lp (fun x => f_X2_solve_L87 b (jI A) (jI Z) x.1 x.2) (nI i, S) = some S' ∧ LvAt S' b t v w K H' B U sz (nI f) sq c0 c1 c2 d ∧ Same S S' b 9 ∧ ∀ j, j < f → H' j = v (K j) * Z - sg1 j * sW w (K j) * A := by
  intro k
  induction k with
  | zero =>
    intro i S H hi h hH
    refine ⟨S, H, z_lp_x ?_, h, Same.rf, fun j hj => hH j (by omega)⟩
    show f_X2_solve_L87 b (jI A) (jI Z) (nI i) S = _
    unfold f_X2_solve_L87
    rw [h.gf, z_bd_s, if_pos (by rw [n_le (by omega) (by omega)]; omega)]
  | succ k ih =>
    intro i S H hi h hH
    obtain ⟨x, hx, hx2⟩ := p_sign (i := i) (by omega)
    obtain ⟨S1, k1, h1, s1⟩ := h.wh (i := i) (by omega) (v (K i) * Z - sg1 i * sW w (K i) * A)
    obtain ⟨S', H', r1, r2, r3, r4⟩ := ih (i + 1) S1 _ (by omega) h1 (by
      intro j hj
      by_cases q : j = i
      · rw [q, updZ_s]
      · rw [updZ_n _ q]; exact hH j (by omega))
    refine ⟨S', H', ?_, r2, s1.tr r3, r4⟩
    rw [← r1]
    apply z_lp_n
    show f_X2_solve_L87 b (jI A) (jI Z) (nI i) S = _
    unfold f_X2_solve_L87
    rw [h.gf, z_bd_s, if_neg (by rw [n_le (by omega) (by omega)]; omega), show (4 : Int32) = nI 4 from rfl, if_neg (by rw [n_le (by omega) (by omega)]; omega), h.r4, z_bd_s, h.r1, z_bd_s, h.r3, z_bd_s, h.dk (by omega), z_bd_s, h.dv (hK i (by omega)), z_bd_s, hx, z_bd_s, z_bd_s, h.dk (by omega), z_bd_s, z_chk_t h.is, p_share h (hK i (by omega)) (hw i (by omega)), z_bd_s, hx2, j_mul, j_mul, j_mul, j_sub, k1, z_bd_s, show nI i + 1 = nI (i + 1) from n_add i 1]
end LV
