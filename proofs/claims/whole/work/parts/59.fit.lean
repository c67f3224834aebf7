/-! FITS: the class's picture, the reference's, and what they say -/
abbrev Pol4 : Type := Int × Int × Int × Int
def PolA (S : GS) (p : Nat) (c : Pol4) : Prop := PolAt S p c.1 c.2.1 c.2.2.1 c.2.2.2
def PolK (c : Pol4) : Prop := PolOk c.1 c.2.1 c.2.2.1 c.2.2.2 ∧ gc4 c.1 c.2.1 c.2.2.1 c.2.2.2 = 1
def q0F (c : Pol4) : Rat := Rat.divInt c.1 c.2.2.2
def q1F (c : Pol4) : Rat := Rat.divInt c.2.1 c.2.2.2
def q2F (c : Pol4) : Rat := Rat.divInt c.2.2.1 c.2.2.2
def FitAt (S : GS) (a fi : Nat) (kd dg : Int32) (n : Nat) (P V Z : Nat → Int32) (pc : Nat) (bg : Nat → Nat) (C : Nat → Pol4) (len : Nat) : Prop := FObj S a (nI fi) kd dg (nI pc) ∧ PtsAt S (a + 1) n P V Z ∧ ∃ (rm : Nat) (G : Nat → Option Nat) (Bg : Nat → Int32), 1 ≤ rm ∧ rm ≤ 12 ∧ pc ≤ rm ∧ S.1 (a + 5) = some (e_q 3 rm G) ∧ S.1 (a + 6) = some (e_i rm Bg) ∧ (∀ j, j < pc → Bg j = nI (bg j)) ∧ ∀ j, j < pc ∨ j = 0 → ∃ p, G j = some p ∧ a + 7 ≤ p ∧ p < a + len ∧ PolA S p (C j)
def FitOk (kd : Int32) (n : Nat) (P V Z : Nat → Int32) (pc : Nat) (bg : Nat → Nat) (C : Nat → Pol4) : Prop := PtsOk n P V Z ∧ (∀ j, j < pc ∨ j = 0 → PolK (C j)) ∧ (kd = 4 ∨ pc = 1) ∧ (∀ j, 1 ≤ j → j < pc → bg j < n ∧ bg (j - 1) < bg j) ∧ (pc = 0 → C 0 = (0, 0, 0, 1)) ∧ pc ≤ 12 ∧ (kd = 0 ∨ kd = 1 ∨ kd = 2 ∨ kd = 3 ∨ kd = 4) ∧ (pc = 0 → n = 0)
def MPol (M : MS) (at_ : Nat) (c : Pol4) : Prop := (M.2 13 at_ = jI (q0F c).num ∧ M.2 14 at_ = jI ((q0F c).den : Int)) ∧ (M.2 13 (at_ + 1) = jI (q1F c).num ∧ M.2 14 (at_ + 1) = jI ((q1F c).den : Int)) ∧ M.2 13 (at_ + 2) = jI (q2F c).num ∧ M.2 14 (at_ + 2) = jI ((q2F c).den : Int)
def FitM (M : MS) (fi : Nat) (kd dg : Int32) (n : Nat) (P V Z : Nat → Int32) (pc : Nat) (bg : Nat → Nat) (C : Nat → Pol4) : Prop := MFit M fi n kd dg P V Z ∧ M.1 11 fi = nI pc ∧ ∀ j, j < pc → M.1 12 (12 * fi + j) = nI (bg j) ∧ MPol M (36 * fi + 3 * j) (C j)
theorem FitM.scr {M M' : MS} {fi : Nat} {kd dg : Int32} {n : Nat} {P V Z : Nat → Int32} {pc : Nat} {bg : Nat → Nat} {C : Nat → Pol4} (h : FitM M fi kd dg n P V Z pc bg C) (hs : Scr M M') : FitM M' fi kd dg n P V Z pc bg C := by
  refine ⟨h.1.scr hs, by rw [hs.1 11 (by omega)]; exact h.2.1, fun j hj => ?_⟩
  unfold MPol
  rw [hs.1 12 (by omega), hs.2.1, hs.2.2]
  exact h.2.2 j hj
/-- which part tells at x, of the parts 0 .. k -/
def pfn (bg : Nat → Nat) (P : Nat → Int32) (x : Int32) : Nat → Nat
  | 0 => 0
  | k + 1 => if x < P (bg (k + 1)) then pfn bg P x k else k + 1
theorem pfn_le (bg : Nat → Nat) (P : Nat → Int32) (x : Int32) : ∀ k, pfn bg P x k ≤ k := by
  intro k
  induction k with
  | zero => exact Nat.le_refl _
  | succ k ih =>
    rw [pfn]
    by_cases q : x < P (bg (k + 1))
    · rw [if_pos q]; omega
    · rw [if_neg q]; omega
section FT
variable {S : GS} {M : MS} {a fi n pc len : Nat} {kd dg : Int32} {P V Z : Nat → Int32} {bg : Nat → Nat} {C : Nat → Pol4}
theorem FitOk.plt (h : FitOk kd n P V Z pc bg C) (x : Int32) : pfn bg P x (pc - 1) < pc ∨ pfn bg P x (pc - 1) = 0 := by
  have := pfn_le bg P x (pc - 1)
  omega
theorem FitOk.pol (h : FitOk kd n P V Z pc bg C) (x : Int32) : PolK (C (pfn bg P x (pc - 1))) := h.2.1 _ (h.plt x)
theorem FitOk.mono (h : FitOk kd n P V Z pc bg C) : ∀ j i, i < j → j < pc → bg i < bg j := by
  intro j
  induction j with
  | zero => intro i hi; omega
  | succ j ih =>
    intro i hi hj
    have h1 := (h.2.2.2.1 (j + 1) (by omega) hj).2
    rw [show j + 1 - 1 = j by omega] at h1
    by_cases q : i = j
    · rw [q]; exact h1
    · have := ih i (by omega) (by omega)
      omega
theorem p_partFor (h : FitAt S a fi kd dg n P V Z pc bg C len) (hO : FitOk kd n P V Z pc bg C) (x : Int32) : ∃ p, f_X1_partFor S a x = some (some p) ∧ PolA S p (C (pfn bg P x (pc - 1))) := by
  obtain ⟨hF, hp, rm, G, Bg, r1, r2, r3, r4, r5, r6, r7⟩ := h
  have hn := hO.1.1
  have hlp : z_lp (fun y => f_X1_partFor_L4 S x a y.1 y.2) ((0 : Int32), (1 : Int32)) = some (nI (pfn bg P x (pc - 1))) := by
    have hc := z_lp_count (b := fun y : Int32 × Int32 => f_X1_partFor_L4 S x a y.1 y.2) (fun k => (nI (pfn bg P x k), nI (k + 1))) (pc - 1) (e := nI (pfn bg P x (pc - 1))) (fun k hk => ?_) ?_
    · exact hc
    · show f_X1_partFor_L4 S x a (nI (pfn bg P x k)) (nI (k + 1)) = _
      have hb := (hO.2.2.2.1 (k + 1) (by omega) (by omega)).1
      unfold f_X1_partFor_L4
      rw [hF.i6, z_bd_s, if_neg (by rw [n_le (by omega) (by omega)]; omega), hF.r3, z_bd_s, hp.r0, z_bd_s, hF.r5, z_bd_s, g_rI_e r5 (by rw [n_in (by omega)]; omega), z_bd_s, n_cl (by omega), r6 (k + 1) (by omega), hp.d0 (by omega), z_bd_s, show nI (k + 1) + 1 = nI (k + 1 + 1) from n_add (k + 1) 1]
      show _ = some (Sum.inr (nI (pfn bg P x (k + 1)), nI (k + 1 + 1)))
      rw [pfn]
      by_cases q : x < P (bg (k + 1))
      · rw [if_pos q, if_pos q]
      · rw [if_neg q, if_neg q]
    · show f_X1_partFor_L4 S x a (nI (pfn bg P x (pc - 1))) (nI (pc - 1 + 1)) = _
      unfold f_X1_partFor_L4
      rw [hF.i6, z_bd_s, if_pos (by rw [n_le (by omega) (by omega)]; omega)]
  have hl := pfn_le bg P x (pc - 1)
  obtain ⟨p, p1, p2, p3, p4⟩ := r7 _ (hO.plt x)
  refine ⟨p, ?_, p4⟩
  unfold f_X1_partFor
  rw [hlp, z_bd_s, hF.r4, z_bd_s, g_rQ_e r4 (by rw [n_in (by omega)]; omega), z_bd_s, n_cl (by omega), p1]
/-- a miss: above and below the line -/
def mAF (P V Z : Nat → Int32) (pc : Nat) (bg : Nat → Nat) (C : Nat → Pol4) (i : Nat) : Int := ma (iN P) (iN V) (iN Z) (C (pfn bg P (P i) (pc - 1))).1 (C (pfn bg P (P i) (pc - 1))).2.1 (C (pfn bg P (P i) (pc - 1))).2.2.1 (C (pfn bg P (P i) (pc - 1))).2.2.2 i
def dF (P : Nat → Int32) (pc : Nat) (bg : Nat → Nat) (C : Nat → Pol4) (i : Nat) : Int := (C (pfn bg P (P i) (pc - 1))).2.2.2
def mF (P V Z : Nat → Int32) (pc : Nat) (bg : Nat → Nat) (C : Nat → Pol4) (i : Nat) : Rat := Rat.divInt (mAF P V Z pc bg C i) (dF P pc bg C i)
theorem mF_bd (hO : FitOk kd n P V Z pc bg C) {i : Nat} (hi : i < n) : (mAF P V Z pc bg C i).natAbs ≤ 4398046511103 ∧ 0 < dF P pc bg C i ∧ dF P pc bg C i ≤ 1048576 := by
  obtain ⟨⟨p1, p2, p3, p4, p5⟩, -⟩ := hO.pol (P i)
  obtain ⟨r1, r2, r3⟩ := hO.1.rg hi
  refine ⟨?_, p1, p2⟩
  have k := b_mul (show (iN Z i).natAbs ≤ 4 by unfold iN; omega) (b_sub (b_mul (show (iN V i).natAbs ≤ 60 by unfold iN; omega) (show (C (pfn bg P (P i) (pc - 1))).2.2.2.natAbs ≤ 1048576 by omega)) (b_add p3 (b_mul (b_add p4 (b_mul p5 (show (iN P i).natAbs ≤ 12 by unfold iN; omega))) (show (iN P i).natAbs ≤ 12 by unfold iN; omega))))
  unfold mAF ma
  omega
theorem p_missAboveF (h : FitAt S a fi kd dg n P V Z pc bg C len) (hO : FitOk kd n P V Z pc bg C) {i : Nat} (hi : i < n) : f_X1_missAbove S a (nI i) = some (jI (mAF P V Z pc bg C i)) := by
  obtain ⟨p, e1, e2⟩ := p_partFor h hO (P i)
  obtain ⟨hF, hp, -⟩ := h
  have hn := hO.1.1
  obtain ⟨g0, g1, g2, g3⟩ := PolAt.g e2
  unfold f_X1_missAbove f_X4_aboveAt
  rw [hF.r3, z_bd_s, z_chk_t hp.is, p_hasN hp hn (by omega), z_bd_s, if_pos hi, if_neg z_10, z_bd_s, hp.r0, z_bd_s, hp.d0 (by omega), z_bd_s, z_chk_t hF.is, e1, z_bd_s, z_bd_s, hp.r2, z_bd_s, hp.d2 (by omega), z_bd_s, z_bd_s, hp.r1, z_bd_s, hp.d1 (by omega), z_bd_s, z_bd_s, g3, z_bd_s, z_chk_t (g_is_e e2), g0, z_bd_s, g1, z_bd_s, g2, z_bd_s, z_bd_s]
  simp only [z_i64, j_mul, j_add, j_sub]
  rfl
theorem p_missBelowF (h : FitAt S a fi kd dg n P V Z pc bg C len) (hO : FitOk kd n P V Z pc bg C) {i : Nat} (hi : i < n) : f_X1_missBelow S a (nI i) = some (jI (dF P pc bg C i)) := by
  obtain ⟨p, e1, e2⟩ := p_partFor h hO (P i)
  obtain ⟨hF, hp, -⟩ := h
  have hn := hO.1.1
  obtain ⟨g0, g1, g2, g3⟩ := PolAt.g e2
  unfold f_X1_missBelow
  rw [hF.r3, z_bd_s, z_chk_t hp.is, p_hasN hp hn (by omega), z_bd_s, if_pos hi, if_neg z_10, z_bd_s, hp.r0, z_bd_s, hp.d0 (by omega), z_bd_s, z_chk_t hF.is, e1, z_bd_s, z_bd_s, g3, z_bd_s]
  rfl
theorem p_missSizeF (h : FitAt S a fi kd dg n P V Z pc bg C len) (hO : FitOk kd n P V Z pc bg C) {i : Nat} (hi : i < n) : f_X1_missSize S a (nI i) = some (jI ((mAF P V Z pc bg C i).natAbs : Int)) := by
  have hb := mF_bd hO hi
  unfold f_X1_missSize
  rw [z_chk_t h.1.is, p_missAboveF h hO hi, z_bd_s, p_absL (by omega), z_bd_s]
theorem mF_cmp {x y c d : Int} (hc : 0 < c) (hd : 0 < d) : ((Rat.divInt x c).abs < (Rat.divInt y d).abs) = ((x.natAbs : Int) * d < (y.natAbs : Int) * c) ∧ ((Rat.divInt x c).abs = (Rat.divInt y d).abs) = ((x.natAbs : Int) * d = (y.natAbs : Int) * c) := by
  have e1 : (Rat.divInt x c).abs = Rat.divInt ((x.natAbs : Int) * d) (c * d) := by
    rw [dv_abs hc]
    exact dI_eq hc (Int.mul_pos hc hd) (by grind)
  have e2 : (Rat.divInt y d).abs = Rat.divInt ((y.natAbs : Int) * c) (c * d) := by
    rw [dv_abs hd]
    exact dI_eq hd (Int.mul_pos hc hd) (by grind)
  rw [e1, e2]
  have hcd := Int.mul_pos hc hd
  refine ⟨propext (dv_lt hcd), propext ⟨fun h => ?_, fun h => by rw [h]⟩⟩
  have h1 := (dv_le (a := (x.natAbs : Int) * d) (b := (y.natAbs : Int) * c) hcd).mp (by rw [h]; exact Rat.le_refl)
  have h2 := (dv_le (a := (y.natAbs : Int) * c) (b := (x.natAbs : Int) * d) hcd).mp (by rw [h]; exact Rat.le_refl)
  omega
theorem j_cmpL {x y : Int} (hx : x.natAbs < 9223372036854775808) (hy : y.natAbs < 9223372036854775808) : f_J13_compare_74951 (jI x) (jI y) = some (if x < y then -1 else if x = y then 0 else 1) := by
  unfold f_J13_compare_74951
  simp only [j_cmpge (a := x) (b := y) (by omega) (by omega) (by omega) (by omega), j_cmp0 (a := x) (b := y) (by omega) (by omega) (by omega) (by omega)]
  by_cases q : x < y
  · rw [if_pos q, if_neg (by omega)]
  · rw [if_neg q, if_pos (by omega)]
    by_cases q2 : x = y
    · rw [if_pos q2, if_pos q2]
    · rw [if_neg q2, if_neg q2]
theorem mF_pr {x d : Int} (hx : x.natAbs ≤ 4398046511103) (hd : 0 < d) (hd2 : d ≤ 1048576) : ((x.natAbs : Int) * d).natAbs < 9223372036854775808 := by
  have := b_mul (x := (x.natAbs : Int)) (y := d) (B := 4398046511103) (C := 1048576) (by omega) (by omega)
  omega
theorem p_cmpM (h : FitAt S a fi kd dg n P V Z pc bg C len) (hO : FitOk kd n P V Z pc bg C) {i j : Nat} (hi : i < n) (hj : j < n) : f_X1_compareMisses S a (nI i) (nI j) = some (if (mF P V Z pc bg C i).abs < (mF P V Z pc bg C j).abs then -1 else if (mF P V Z pc bg C i).abs = (mF P V Z pc bg C j).abs then 0 else 1) := by
  obtain ⟨b1, b2, b3⟩ := mF_bd hO hi
  obtain ⟨c1, c2, c3⟩ := mF_bd hO hj
  obtain ⟨e1, e2⟩ := mF_cmp (x := mAF P V Z pc bg C i) (y := mAF P V Z pc bg C j) b2 c2
  unfold f_X1_compareMisses
  rw [z_chk_t h.1.is, p_missSizeF h hO hi, z_bd_s, z_chk_t h.1.is, p_missBelowF h hO hj, z_bd_s, z_chk_t h.1.is, p_missSizeF h hO hj, z_bd_s, z_chk_t h.1.is, p_missBelowF h hO hi, z_bd_s, j_mul, j_mul, j_cmpL (mF_pr b1 c2 c3) (mF_pr c1 b2 b3), z_bd_s]
  unfold mF
  simp only [e1, e2]
/-- the first that is farthest -/
def FarR (n : Nat) (m : Nat → Rat) (r : Nat) : Prop := r < n ∧ (∀ i, i < n → (m i).abs ≤ (m r).abs) ∧ ∀ i, i < r → (m i).abs < (m r).abs
theorem p_farthestF (h : FitAt S a fi kd dg n P V Z pc bg C len) (hO : FitOk kd n P V Z pc bg C) (hn0 : 0 < n) : ∃ r, f_X1_farthest S a = some (nI r) ∧ FarR n (mF P V Z pc bg C) r := by
  have hn := hO.1.1
  have hF := h.1
  have hp := h.2.1
  have key : ∀ (k i r : Nat), i + k = n → r < i → (∀ j, j < i → (mF P V Z pc bg C j).abs ≤ (mF P V Z pc bg C r).abs) → (∀ j, j < r → (mF P V Z pc bg C j).abs < (mF P V Z pc bg C r).abs) → ∃ r', z_lp (fun x => f_X1_farthest_L18 S a x.1 x.2) (nI r, nI i) = some (nI r') ∧ FarR n (mF P V Z pc bg C) r' := by
    intro k
    induction k with
    | zero =>
      intro i r hi hr h1 h2
      refine ⟨r, z_lp_x ?_, by omega, fun j hj => h1 j (by omega), h2⟩
      show f_X1_farthest_L18 S a (nI r) (nI i) = _
      unfold f_X1_farthest_L18
      rw [hF.r3, z_bd_s, hp.sz, z_bd_s, if_pos (by rw [n_le (by omega) (by omega)]; omega)]
    | succ k ih =>
      intro i r hi hr h1 h2
      have hd : f_X1_farthest_L18 S a (nI r) (nI i) = (if (mF P V Z pc bg C i).abs ≤ (mF P V Z pc bg C r).abs then some (.inr (nI r, nI (i + 1))) else some (.inr (nI i, nI (i + 1)))) := by
        unfold f_X1_farthest_L18
        rw [hF.r3, z_bd_s, hp.sz, z_bd_s, if_neg (by rw [n_le (by omega) (by omega)]; omega), z_chk_t hF.is, p_cmpM h hO (show i < n by omega) (show r < n by omega), z_bd_s, show nI i + 1 = nI (i + 1) from n_add i 1]
        by_cases q : (mF P V Z pc bg C i).abs < (mF P V Z pc bg C r).abs
        · rw [if_pos q, if_pos (by decide), if_pos (Rat.le_of_lt q)]
        · rw [if_neg q]
          by_cases q2 : (mF P V Z pc bg C i).abs = (mF P V Z pc bg C r).abs
          · rw [if_pos q2, if_pos (by decide), if_pos (by rw [q2]; exact Rat.le_refl)]
          · rw [if_neg q2, if_neg (by decide), if_neg (fun z => by
              rcases r_loe z with y | y
              · exact q y
              · exact q2 y)]
      by_cases q : (mF P V Z pc bg C i).abs ≤ (mF P V Z pc bg C r).abs
      · obtain ⟨r', a1, a2⟩ := ih (i + 1) r (by omega) (by omega) (fun j hj => by
          by_cases z : j = i
          · rw [z]; exact q
          · exact h1 j (by omega)) h2
        refine ⟨r', ?_, a2⟩
        rw [← a1]
        apply z_lp_n
        show f_X1_farthest_L18 S a (nI r) (nI i) = _
        rw [hd, if_pos q]
      · have q' : (mF P V Z pc bg C r).abs < (mF P V Z pc bg C i).abs := Rat.not_le.mp q
        obtain ⟨r', a1, a2⟩ := ih (i + 1) i (by omega) (by omega) (fun j hj => by
          by_cases z : j = i
          · rw [z]; exact Rat.le_refl
          · have := h1 j (by omega); grind) (fun j hj => by have := h1 j hj; grind)
        refine ⟨r', ?_, a2⟩
        rw [← a1]
        apply z_lp_n
        show f_X1_farthest_L18 S a (nI r) (nI i) = _
        rw [hd, if_neg q]
  obtain ⟨r, a1, a2⟩ := key (n - 1) 1 0 (by omega) (by omega) (fun j hj => by rw [show j = 0 by omega]; exact Rat.le_refl) (fun j hj => by omega)
  refine ⟨r, ?_, a2⟩
  unfold f_X1_farthest
  rw [hF.r3, z_bd_s, hp.sz, z_bd_s, show (0 : Int32) = nI 0 from rfl, if_neg (by rw [n_le (by omega) (by omega)]; omega), z_bd_s, show (1 : Int32) = nI 1 from rfl, a1, z_bd_s]
theorem p_farthest0 (h : FitAt S a fi kd dg 0 P V Z pc bg C len) : f_X1_farthest S a = some (-1) := by
  have hF := h.1
  have hp := h.2.1
  unfold f_X1_farthest
  rw [hF.r3, z_bd_s, hp.sz, z_bd_s, if_pos (by decide), z_bd_s, z_lp_x (e := (-1 : Int32)), z_bd_s]
  show f_X1_farthest_L18 S a (-1) 1 = _
  unfold f_X1_farthest_L18
  rw [hF.r3, z_bd_s, hp.sz, z_bd_s, if_pos (by decide)]
end FT
