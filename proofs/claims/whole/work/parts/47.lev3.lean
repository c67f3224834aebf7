/-! the class's Leveller: solved turns; through all points -/
/-- the polynomial c / d is that of the turns -/
def TurnP (f : Nat) (t v w s : Nat → Int) (c0 c1 c2 d : Int) : Prop := Dg f (Rat.divInt c1 d) (Rat.divInt c2 d) ∧ ∀ i, i ≤ f → er t v w (Rat.divInt c0 d) (Rat.divInt c1 d) (Rat.divInt c2 d) i = hh f t v s
/-- bounds of some points -/
def Bds (f : Nat) (t v w : Nat → Int) : Prop := ∀ i, i ≤ f → (v i).natAbs ≤ 60 ∧ (1 ≤ w i ∧ w i ≤ 4) ∧ (t i).natAbs ≤ 144 ∧ (f = 3 → (t i).natAbs ≤ 12)
theorem sW_w {w : Nat → Int} {j : Nat} (h : 1 ≤ w j ∧ w j ≤ 4) : 0 < sW w j ∧ w j * sW w j = 12 ∧ (sW w j).natAbs ≤ 12 := by
  unfold sW
  rcases (show w j = 1 ∨ w j = 2 ∨ w j = 3 ∨ w j = 4 by omega) with q | q | q | q <;> rw [q] <;> decide
theorem row_of {f : Nat} {t v w : Nat → Int} (hf : f = 1 ∨ f = 2 ∨ f = 3) (hu : Upw f t) (hb : Bds f t v w) : Row f t w (sW w) := ⟨hf, hu, fun i hi => ⟨by have := (hb i hi).2.1; omega, (sW_w (hb i hi).2.1).1, (sW_w (hb i hi).2.1).2.1⟩⟩
theorem upw_lt {f : Nat} {t : Nat → Int} (h : Upw f t) : ∀ j i, i < j → j ≤ f → t i < t j := by
  intro j
  induction j with
  | zero => intro i hi; omega
  | succ j ih =>
    intro i hi hj
    have h1 := h j (by omega)
    by_cases q : i = j
    · rw [q]; exact h1
    · have := ih i (by omega) (by omega)
      omega
theorem spr9 {m : Nat} (hm : m ≤ 3) {t : Nat → Int} (ht : ∀ i j, i < j → j < m → t i < t j) (hb : ∀ i, i < m → (t i).natAbs ≤ 144 ∧ (m = 3 → (t i).natAbs ≤ 12)) : 0 < spr t 9 m ∧ spr t 9 m ≤ 16384 := by
  rcases (show m = 0 ∨ m = 1 ∨ m = 2 ∨ m = 3 by omega) with rfl | rfl | rfl | rfl
  · rw [(sp1 t).2.2]; decide
  · rw [(sp1 t).2.1]; decide
  · rw [(sp2 t).2.2]
    have h := ht 0 1 (by omega) (by omega)
    have b0 := (hb 0 (by omega)).1
    have b1 := (hb 1 (by omega)).1
    omega
  · rw [show spr t 9 3 = vd (t 0) (t 1) (t 2) from (sp3 t).2.2.2]
    have h0 := ht 0 1 (by omega) (by omega)
    have h1 := ht 1 2 (by omega) (by omega)
    have b0 := (hb 0 (by omega)).2 rfl
    have b1 := (hb 1 (by omega)).2 rfl
    have b2 := (hb 2 (by omega)).2 rfl
    have hp : 0 < vd (t 0) (t 1) (t 2) := Int.mul_pos (Int.mul_pos (by omega) (by omega)) (by omega)
    have := bd_vd b0 b1 b2
    omega
/-- through all points -/
def PassP (m : Nat) (t v : Nat → Int) (c0 c1 c2 d : Int) : Prop := (m < 3 → Rat.divInt c2 d = 0) ∧ (m < 2 → Rat.divInt c1 d = 0) ∧ (m = 0 → Rat.divInt c0 d = 0) ∧ ∀ i, i < m → ev (Rat.divInt c0 d) (Rat.divInt c1 d) (Rat.divInt c2 d) (t i) = (v i : Rat)
section LV
variable {S : GS} {b : Nat} {t v w : Nat → Int} {K : Nat → Nat} {H B U : Nat → Int} {sz fr sq : Int32} {c0 c1 c2 d : Int}
theorem p_solve {f : Nat} (h : LvAt S b t v w K H B U sz (nI f) sq c0 c1 c2 d) (hf : f = 1 ∨ f = 2 ∨ f = 3) (hK : ∀ j, j ≤ f → K j < 12) (hu : Upw f (fun j => t (K j))) (hb : Bds f (fun j => t (K j)) (fun j => v (K j)) (fun j => w (K j))) : ∃ (S' : GS) (H' B' U' : Nat → Int) (x0 x1 x2 y : Int), f_X2_solve S b = some S' ∧ LvAt S' b t v w K H' B' U' sz (nI f) sq x0 x1 x2 y ∧ Same S S' b 9 ∧ PolOk x0 x1 x2 y ∧ gc4 x0 x1 x2 y = 1 ∧ TurnP f (fun j => t (K j)) (fun j => v (K j)) (fun j => w (K j)) (sW (fun j => w (K j))) x0 x1 x2 y := by
  have hR := row_of hf hu hb
  have hw : ∀ j, j ≤ f → 1 ≤ w (K j) ∧ w (K j) ≤ 4 := fun j hj => (hb j hj).2.1
  obtain ⟨N0, N1, N2, hS, hP, hA, hH⟩ := cram (v := fun j => v (K j)) hR (fun i hi => (hb i hi).1) (fun i hi => (sW_w (hb i hi).2.1).2.2) (fun i hi => (hb i hi).2.2)
  obtain ⟨S1, H', r1, r2, r3, r4⟩ := p_hgt_lp (t := t) (v := v) (w := w) (B := B) (U := U) (sz := sz) (sq := sq) (c0 := c0) (c1 := c1) (c2 := c2) (d := d) (b := b) (by omega) hK hw (abv (fun j => t (K j)) (fun j => v (K j)) (f + 1)) (blw (fun j => t (K j)) (sW (fun j => w (K j))) (f + 1)) f 0 S H (by omega) h (fun j hj => by omega)
  have e1 := p_sol_lp h (by omega) hK hw (f + 1) 0 0 0 (by omega)
  have h9 := spr9 (m := f) (t := fun j => t (K j)) (by omega) (fun i j h1 h2 => upw_lt hu j i h1 (by omega)) (fun i hi => (hb i (by omega)).2.2)
  obtain ⟨S2, B', U', x0, x1, x2, y, q1, q2, q3, q4, q5, q6, q7, q8⟩ := p_interp r2 (m := f) (by omega) (fun j hj => hK j (by omega)) (r_Bz hR) hP.2.1 h9.1 h9.2 (fun i j h1 h2 => upw_lt hu j i h1 (by omega)) hS hP (fun i hi => by rw [r4 i hi]; rfl)
  refine ⟨S2, H', B', U', x0, x1, x2, y, ?_, q2, r3.tr q3, q4, q5, ?_⟩
  · unfold f_X2_solve
    rw [show ((0 : Int64), (0 : Int64), (0 : Int32)) = (jI 0, jI 0, nI 0) from rfl, e1, z_bd2_s, show (0 : Int32) = nI 0 from rfl]
    show z_bd (z_lp (fun x => f_X2_solve_L87 b (jI (abv (fun j => t (K j)) (fun j => v (K j)) (f + 1))) (jI (blw (fun j => t (K j)) (sW (fun j => w (K j))) (f + 1))) x.1 x.2) (nI 0, S)) _ = _
    rw [r1, z_bd_s, r2.gf, z_bd_s, z_chk_t r2.is]
    show z_bd (f_X2_interpolate S1 b (nI f) (jI (blw (fun j => t (K j)) (sW (fun j => w (K j))) (f + 1)))) _ = _
    rw [q1, z_bd_s]
  · unfold TurnP
    rw [q6, q7, q8]
    exact sol_turn hR hS
theorem p_pass_lp {m : Nat} (hm : m ≤ 3) : ∀ (k i : Nat) (S : GS) (H : Nat → Int), i + k = m → LvAt S b t v w K H B U (nI m) fr sq c0 c1 c2 d → (∀ j, j < i → H j = v j) → ∃ (S' : GS) (H' : Nat → Int), z_lp (fun x => f_X2_passThroughAll_L2 b x.1 x.2) (nI i, S) = some S' ∧ LvAt S' b t v w K H' B U (nI m) fr sq c0 c1 c2 d ∧ Same S S' b 9 ∧ ∀ j, j < m → H' j = v j := by
  intro k
  induction k with
  | zero =>
    intro i S H hi h hH
    refine ⟨S, H, z_lp_x ?_, h, Same.rf, fun j hj => hH j (by omega)⟩
    show f_X2_passThroughAll_L2 b (nI i) S = _
    unfold f_X2_passThroughAll_L2
    rw [h.gs, z_bd_s, if_pos (by rw [n_le (by omega) (by omega)]; omega)]
  | succ k ih =>
    intro i S H hi h hH
    obtain ⟨S1, k1, h1, s1⟩ := h.wh (i := i) (by omega) (v i)
    obtain ⟨S', H', r1, r2, r3, r4⟩ := ih (i + 1) S1 _ (by omega) h1 (by
      intro j hj
      by_cases q : j = i
      · rw [q, updZ_s]
      · rw [updZ_n _ q]; exact hH j (by omega))
    refine ⟨S', H', ?_, r2, s1.tr r3, r4⟩
    rw [← r1]
    apply z_lp_n
    show f_X2_passThroughAll_L2 b (nI i) S = _
    unfold f_X2_passThroughAll_L2
    rw [h.gs, z_bd_s, if_neg (by rw [n_le (by omega) (by omega)]; omega), show (4 : Int32) = nI 4 from rfl, if_neg (by rw [n_le (by omega) (by omega)]; omega), h.r4, z_bd_s, h.r1, z_bd_s, h.dv (by omega), z_bd_s, k1, z_bd_s, show nI i + 1 = nI (i + 1) from n_add i 1]
theorem sol_pass {m : Nat} {t v : Nat → Int} {V N0 N1 N2 : Int} (hS : Sol m t (fun i => v i * V) V N0 N1 N2) : PassP m t v N0 N1 N2 V := by
  refine ⟨fun q => by rw [hS.2.2.1 q, Rat.zero_divInt], fun q => by rw [hS.2.2.2.1 q, Rat.zero_divInt], fun q => by rw [hS.2.2.2.2 q, Rat.zero_divInt], fun i hi => ?_⟩
  rw [ev_dv hS.1, hS.2.1 i hi, ← rt_d1 (v i)]
  exact dI_eq hS.1 (by decide) (by rw [Int.mul_one])
theorem p_pass {m : Nat} (h : LvAt S b t v w K H B U (nI m) fr sq c0 c1 c2 d) (hm : m ≤ 3) (hK : ∀ j, j < m → K j = j) (hu : ∀ i j, i < j → j < m → t i < t j) (hb : ∀ i, i < m → (v i).natAbs ≤ 60 ∧ (t i).natAbs ≤ 144 ∧ (m = 3 → (t i).natAbs ≤ 12)) : ∃ (S' : GS) (H' B' U' : Nat → Int) (x0 x1 x2 y : Int), f_X2_passThroughAll S b = some S' ∧ LvAt S' b t v w K H' B' U' (nI m) fr sq x0 x1 x2 y ∧ Same S S' b 9 ∧ PolOk x0 x1 x2 y ∧ gc4 x0 x1 x2 y = 1 ∧ PassP m t v x0 x1 x2 y := by
  have hu' : ∀ i j, i < j → j < m → t (K i) < t (K j) := fun i j h1 h2 => by rw [hK i (by omega), hK j h2]; exact hu i j h1 h2
  have hb' : ∀ i, i < m → (t (K i)).natAbs ≤ 144 ∧ (m = 3 → (t (K i)).natAbs ≤ 12) := fun i hi => by rw [hK i hi]; exact (hb i hi).2
  obtain ⟨N0, N1, N2, hS, hP, -⟩ := pass (t := fun j => t (K j)) (v := fun j => v (K j)) hm (fun i hi => hu' i (i + 1) (by omega) hi) (fun i hi => by rw [hK i hi]; exact (hb i hi).1) hb'
  obtain ⟨S1, H', r1, r2, r3, r4⟩ := p_pass_lp hm m 0 S H (by omega) h (fun j hj => by omega)
  have h9 := spr9 (m := m) (t := fun j => t (K j)) hm hu' hb'
  obtain ⟨S2, B', U', x0, x1, x2, y, q1, q2, q3, q4, q5, q6, q7, q8⟩ := p_interp r2 (m := m) (C := 1) hm (fun j hj => by rw [hK j hj]; omega) (by omega) (by omega) h9.1 h9.2 hu' hS hP (fun i hi => by rw [r4 i hi, hK i hi, Int.mul_one])
  refine ⟨S2, H', B', U', x0, x1, x2, y, ?_, q2, r3.tr q3, q4, q5, ?_⟩
  · unfold f_X2_passThroughAll
    rw [show (0 : Int32) = nI 0 from rfl, r1, z_bd_s, r2.gs, z_bd_s, z_chk_t r2.is, show (1 : Int64) = jI 1 from rfl, q1, z_bd_s]
  · have := sol_pass hS
    unfold PassP at this ⊢
    rw [q6, q7, q8]
    refine ⟨this.1, this.2.1, this.2.2.1, fun i hi => ?_⟩
    have e := this.2.2.2 i hi
    dsimp only at e
    rw [hK i hi] at e
    exact e
/-- what stands above the line in a miss -/
def ma (t v w : Nat → Int) (c0 c1 c2 d : Int) (i : Nat) : Int := w i * (v i * d - (c0 + (c1 + c2 * t i) * t i))
theorem p_missA (h : LvAt S b t v w K H B U sz fr sq c0 c1 c2 d) {i : Nat} (hi : i < 12) : f_X2_missAbove S b (nI i) = some (jI (ma t v w c0 c1 c2 d i)) := by
  unfold f_X2_missAbove f_X4_aboveAt
  rw [h.r2, z_bd_s, h.dw hi, z_bd_s, h.r1, z_bd_s, h.dv hi, z_bd_s, h.r7, z_bd_s, h.pol.g.2.2.2, z_bd_s, z_bd_s, h.r0, z_bd_s, h.dt hi, z_bd_s, z_chk_t (g_is_e h.pol), h.pol.g.1, z_bd_s, h.pol.g.2.1, z_bd_s, h.pol.g.2.2.1, z_bd_s, z_bd_s]
  simp only [j_mul, j_add, j_sub]
  rfl
theorem p_absL {a : Int} (h : a.natAbs < 9223372036854775808) : f_J9_abs_067f4 (jI a) = some (jI (a.natAbs : Int)) := j_abs (by omega) (by omega)
theorem ma_bd {t v w : Nat → Int} {c0 c1 c2 d : Int} {i : Nat} (hP : PolOk c0 c1 c2 d) (hv : (v i).natAbs ≤ 60) (hw : 1 ≤ w i ∧ w i ≤ 4) (ht : (t i).natAbs ≤ 144) : (ma t v w c0 c1 c2 d i).natAbs ≤ 4611686018427 := by
  obtain ⟨p1, p2, p3, p4, p5⟩ := hP
  have k := b_mul (show (w i).natAbs ≤ 4 by omega) (b_sub (b_mul hv (show d.natAbs ≤ 1048576 by omega)) (b_add p3 (b_mul (b_add p4 (b_mul p5 ht)) ht)))
  unfold ma
  omega
theorem ma_rat {t v w : Nat → Int} {c0 c1 c2 d : Int} (hd : 0 < d) (i : Nat) : Rat.divInt (ma t v w c0 c1 c2 d i) d = (w i : Rat) * ((v i : Rat) - ev (Rat.divInt c0 d) (Rat.divInt c1 d) (Rat.divInt c2 d) (t i)) := by
  have h : (d : Rat) ≠ 0 := d_ne (by omega)
  unfold ma
  rw [(ev_div hd (t i)).2.2.2, Rat.divInt_eq_div, Rat.divInt_eq_div]
  simp only [Rat.intCast_mul, Rat.intCast_sub, Rat.intCast_add]
  generalize (d : Rat) = D at *
  grind
end LV
