/-! the reference: nodes, the number of turns, the polynomial through points -/
def MFit (M : MS) (fi n : Nat) (kd dg : Int32) (P V Z : Nat → Int32) : Prop := M.1 5 fi = kd ∧ M.1 6 fi = dg ∧ M.1 7 fi = nI n ∧ ∀ i, i < n → M.1 8 (12 * fi + i) = P i ∧ M.1 9 (12 * fi + i) = V i ∧ M.1 10 (12 * fi + i) = Z i
/-- only what is worked with has changed -/
def Scr (M M' : MS) : Prop := (∀ k, k ≠ 23 → M'.1 k = M.1 k) ∧ M'.2 13 = M.2 13 ∧ M'.2 14 = M.2 14
theorem Scr.rf {M : MS} : Scr M M := ⟨fun _ _ => rfl, rfl, rfl⟩
theorem Scr.tr {M M1 M2 : MS} (h1 : Scr M M1) (h2 : Scr M1 M2) : Scr M M2 := ⟨fun k hk => (h2.1 k hk).trans (h1.1 k hk), h2.2.1.trans h1.2.1, h2.2.2.trans h1.2.2⟩
theorem Scr.of {M M' : MS} (h1 : M'.1 = M.1) (h2 : M'.2 13 = M.2 13) (h3 : M'.2 14 = M.2 14) : Scr M M' := ⟨fun k _ => by rw [h1], h2, h3⟩
theorem MFit.scr {M M' : MS} {fi n : Nat} {kd dg : Int32} {P V Z : Nat → Int32} (h : MFit M fi n kd dg P V Z) (hs : Scr M M') : MFit M' fi n kd dg P V Z := by
  unfold MFit
  rw [hs.1 5 (by omega), hs.1 6 (by omega), hs.1 7 (by omega), hs.1 8 (by omega), hs.1 9 (by omega), hs.1 10 (by omega)]
  exact h
theorem MFit.eq1 {M M' : MS} {fi n : Nat} {kd dg : Int32} {P V Z : Nat → Int32} (h : MFit M fi n kd dg P V Z) (hs : M'.1 = M.1) : MFit M' fi n kd dg P V Z := by
  unfold MFit
  rw [hs]
  exact h
section MT
variable {M : MS} {fi n : Nat} {kd dg : Int32} {P V Z : Nat → Int32} {K : Nat → Nat}
theorem m_t (h : MFit M fi n kd dg P V Z) (hfi : fi < 10) (hn : n ≤ 12) {i : Nat} (hi : i < 12) (hK : K i < n) (hT : M.1 23 i = nI (K i)) : f_X8_t M (nI fi) (nI i) = some (jI (nd kd (P (K i)))) := by
  unfold f_X8_t f_X8_argument
  rw [z_chk_t (by rw [n_in (by omega)]; exact hfi), z_chk_t (by rw [n_in (by omega)]; exact hi), n_cl (by omega), hT, show (12 : Int32) = nI 12 from rfl, n_mul, n_add, z_chk_t (by rw [n_in (by omega)]; omega), n_cl (by omega), n_cl (by omega), h.1, (h.2.2.2 _ hK).1]
  unfold nd
  by_cases q : kd = 2
  · rw [if_pos q, if_pos q, z_bd_s, z_i64, j_mul]
  · rw [if_neg q, if_neg q, z_bd_s, z_i64]
theorem m_fhB (h : MFit M fi n kd dg P V Z) (hfi : fi < 10) (hn : n ≤ 12) {m i a : Nat} (hm : m ≤ 12) (hK : ∀ j, j < m → K j < n) (hT : ∀ j, j < m → M.1 23 j = nI (K j)) (hi : i < m) (ha : a < m) : ∀ (k c : Nat) (g : Int), c + k = m → z_lp (fun x => f_X8_findHigh_L32 M (nI fi) (nI m) (nI a) (nI i) x.1 x.2) (jI g, nI c) = some (jI (spB (fun j => nd kd (P (K j))) i a g c k)) := by
  intro k
  induction k with
  | zero =>
    intro c g hc
    apply z_lp_x
    show f_X8_findHigh_L32 M (nI fi) (nI m) (nI a) (nI i) (jI g) (nI c) = _
    unfold f_X8_findHigh_L32
    rw [if_pos (by rw [n_le (by omega) (by omega)]; omega)]
    rfl
  | succ k ih =>
    intro c g hc
    rw [spB, ← ih (c + 1) _ (by omega)]
    apply z_lp_n
    show f_X8_findHigh_L32 M (nI fi) (nI m) (nI a) (nI i) (jI g) (nI c) = _
    unfold f_X8_findHigh_L32
    rw [if_neg (by rw [n_le (by omega) (by omega)]; omega), show nI c + 1 = nI (c + 1) from n_add c 1]
    simp only [n_eq (show a < 2147483648 by omega) (show i < 2147483648 by omega), n_eq (show c < 2147483648 by omega) (show i < 2147483648 by omega)]
    by_cases q1 : a = i
    · rw [if_pos q1, if_pos q1, z_bd_s, show (1 : Int64) = jI 1 from rfl, j_mul, Int.mul_one]
    · rw [if_neg q1, if_neg q1]
      by_cases q2 : c = i
      · rw [if_pos q2, if_pos q2, z_bd_s, show (1 : Int64) = jI 1 from rfl, j_mul, Int.mul_one]
      · rw [if_neg q2, if_neg q2, m_t h hfi hn (by omega) (hK c (by omega)) (hT c (by omega)), z_bd_s, m_t h hfi hn (by omega) (hK a ha) (hT a ha), z_bd_s, z_bd_s, j_sub, j_mul]
theorem m_fhA (h : MFit M fi n kd dg P V Z) (hfi : fi < 10) (hn : n ≤ 12) {m i : Nat} (hm : m ≤ 12) (hK : ∀ j, j < m → K j < n) (hT : ∀ j, j < m → M.1 23 j = nI (K j)) (hi : i < m) : z_lp (fun x => f_X8_findHigh_L20 M (nI fi) (nI m) (nI i) x.1 x.2) ((1 : Int64), (0 : Int32)) = some (jI (spr (fun j => nd kd (P (K j))) i m)) := by
  have key : ∀ (k a : Nat) (g : Int), a + k = m → z_lp (fun x => f_X8_findHigh_L20 M (nI fi) (nI m) (nI i) x.1 x.2) (jI g, nI a) = some (jI (spA (fun j => nd kd (P (K j))) i m g a k)) := by
    intro k
    induction k with
    | zero =>
      intro a g ha
      apply z_lp_x
      show f_X8_findHigh_L20 M (nI fi) (nI m) (nI i) (jI g) (nI a) = _
      unfold f_X8_findHigh_L20
      rw [if_pos (by rw [n_le (by omega) (by omega)]; omega)]
      rfl
    | succ k ih =>
      intro a g ha
      rw [spA, ← ih (a + 1) _ (by omega)]
      apply z_lp_n
      show f_X8_findHigh_L20 M (nI fi) (nI m) (nI i) (jI g) (nI a) = _
      unfold f_X8_findHigh_L20
      rw [if_neg (by rw [n_le (by omega) (by omega)]; omega), show nI a + (1 : Int32) = nI (a + 1) from n_add a 1, m_fhB h hfi hn hm hK hT hi (by omega) (m - (a + 1)) (a + 1) g (by omega), z_bd_s]
  exact key m 0 1 (by omega)
theorem m_12w {x : Int32} (h : 1 ≤ x.toInt ∧ x.toInt ≤ 4) : ¬ x = 0 ∧ ((12 : Int32) / x).toInt64 = jI (12 / x.toInt) := by
  obtain ⟨a, a1, rfl⟩ := n_of (x := x) (by rw [Int32.le_iff_toInt_le]; have e : (0 : Int32).toInt = 0 := by decide
                                           omega)
  rw [n_toInt a1] at h ⊢
  rcases (show a = 1 ∨ a = 2 ∨ a = 3 ∨ a = 4 by omega) with rfl | rfl | rfl | rfl <;> decide
theorem m_fhS (h : MFit M fi n kd dg P V Z) (hO : PtsOk n P V Z) (hfi : fi < 10) {m : Nat} (hm : m ≤ 4) (hK : ∀ j, j < m → K j < n) (hT : ∀ j, j < m → M.1 23 j = nI (K j)) : ∀ (k i : Nat) (A Q : Int), i + k = m → z_lp (fun x => f_X8_findHigh_L8 M (nI fi) (nI m) x.1 x.2.1 x.2.2) (jI (12 * A), jI Q, nI i) = some (jI (12 * smA (fun i => sg1 i * spr (fun j => nd kd (P (K j))) i m * (V (K i)).toInt) A i k), jI (smA (fun i => spr (fun j => nd kd (P (K j))) i m * (12 / (Z (K i)).toInt)) Q i k)) := by
  intro k
  induction k with
  | zero =>
    intro i A Q hi
    apply z_lp_x
    show f_X8_findHigh_L8 M (nI fi) (nI m) (jI (12 * A)) (jI Q) (nI i) = _
    unfold f_X8_findHigh_L8
    rw [if_pos (by rw [n_le (by omega) (by omega)]; omega)]
    rfl
  | succ k ih =>
    intro i A Q hi
    have hn := hO.1
    have hKi := hK i (by omega)
    obtain ⟨w1, w2⟩ := m_12w (hO.rg hKi).2.2
    rw [smA, smA, ← ih (i + 1) _ _ (by omega)]
    apply z_lp_n
    show f_X8_findHigh_L8 M (nI fi) (nI m) (jI (12 * A)) (jI Q) (nI i) = _
    have hsg : (if nI i - nI i / (2 : Int32) * (2 : Int32) = 0 then some (jI (spr (fun j => nd kd (P (K j))) i m)) else some (-jI (spr (fun j => nd kd (P (K j))) i m))) = some (jI (sg1 i * spr (fun j => nd kd (P (K j))) i m)) := by
      rw [n_m2 (by omega)]
      unfold sg1
      rcases (show i % 2 = 0 ∨ i % 2 = 1 by omega) with q | q
      · rw [q, if_pos (by decide), if_pos rfl, Int.one_mul]
      · rw [q, if_neg (by decide), if_neg (by decide), j_neg, Int.neg_one_mul]
    have hat : (12 : Int32) * nI fi + M.1 23 i = nI (12 * fi + K i) := by rw [hT i (by omega), show (12 : Int32) = nI 12 from rfl, n_mul, n_add]
    have q120 : z_in (nI (12 * fi + K i)) 120 := by rw [n_in (by omega)]; omega
    unfold f_X8_findHigh_L8
    rw [if_neg (by rw [n_le (by omega) (by omega)]; omega), m_fhA h hfi hn (by omega) hK hT (by omega), z_bd_s, z_chk_t (by rw [n_in (by omega)]; omega), hsg, z_bd_s, n_cl (show i < 2147483648 by omega), hat, z_chk_t q120, z_chk_t q120, n_cl (by omega), (h.2.2.2 _ hKi).2.1, (h.2.2.2 _ hKi).2.2, z_chk_t w1, w2, z_i64, show (12 : Int64) = jI 12 from rfl, j_mul, j_mul, j_add, j_mul, j_add, show nI i + 1 = nI (i + 1) from n_add i 1]
    congr 4
    grind
/-- turns of the reference's fit, as rational data -/
def tN (kd : Int32) (P : Nat → Int32) : Nat → Int := fun i => nd kd (P i)
def iN (V : Nat → Int32) : Nat → Int := fun i => (V i).toInt
theorem tN_Ld (kd : Int32) (P V Z : Nat → Int32) (n : Nat) : Ld kd P V Z 0 n (tN kd P) (iN V) (iN Z) := by
  intro j _
  rw [Nat.zero_add]
  exact ⟨rfl, rfl, rfl⟩
theorem m_findHigh (h : MFit M fi n kd dg P V Z) (hO : PtsOk n P V Z) (hfi : fi < 10) {f : Nat} (hR : Rw f n (tN kd P) (iN V) (iN Z)) (hI : Inc f n K) (hT : ∀ j, j < f + 1 → M.1 23 j = nI (K j)) : f_X8_findHigh M (nI fi) (nI (f + 1)) = some (sJ (sJ (setQ M (hK f (tN kd P) (iN V) (iN Z) K)) 26 0 (jI (hK f (tN kd P) (iN V) (iN Z) K).num)) 27 0 (jI ((hK f (tN kd P) (iN V) (iN Z) K).den : Int))) := by
  have hf := hR.1
  have hs := m_fhS h hO hfi (m := f + 1) (by omega) (fun j hj => hI.1 j (by omega)) hT (f + 1) 0 0 0 (by omega)
  have hr := hI.row hR
  have hB := r_Bz hr
  have hbd := hI.bds hR
  obtain ⟨N0, N1, N2, hS, hP, hA, -⟩ := cram (v := fun j => iN V (K j)) hr (fun i hi => (hbd i hi).1) (fun i hi => (sW_w (hbd i hi).2.1).2.2) (fun i hi => (hbd i hi).2.2)
  have hP2 := hP.2.1
  unfold f_X8_findHigh
  rw [show ((0 : Int64), (0 : Int64), (0 : Int32)) = (jI (12 * 0), jI 0, nI 0) from rfl, hs, z_bd2_s]
  show z_bd (f_X8_is M (jI (12 * abv (fun j => tN kd P (K j)) (fun j => iN V (K j)) (f + 1))) (jI (blw (fun j => tN kd P (K j)) (sW (fun j => iN Z (K j))) (f + 1)))) _ = _
  rw [m_is M (by omega) (by omega) (by omega), z_bd_s, z_lt_e, z_lt_e, setQ_n]
  show some (sJ (sJ (setQ M (hK f (tN kd P) (iN V) (iN Z) K)) 26 0 (jI (hK f (tN kd P) (iN V) (iN Z) K).num)) 27 0 ((sJ (setQ M (hK f (tN kd P) (iN V) (iN Z) K)) 26 0 (jI (hK f (tN kd P) (iN V) (iN Z) K).num)).2 22 0)) = _
  rw [sJ_n _ (by omega), setQ_d]
end MT
/-- the state of through: what has changed, and the numbers -/
def TV (M0 M : MS) (c : Nat → Rat) : Prop := M.1 = M0.1 ∧ (∀ k, k ≠ 21 → k ≠ 22 → k ≠ 28 → k ≠ 29 → M.2 k = M0.2 k) ∧ ∀ k, k < 3 → M.2 28 k = jI (c k).num ∧ M.2 29 k = jI ((c k).den : Int)
def updR (c : Nat → Rat) (k : Nat) (r : Rat) : Nat → Rat := fun j => if j = k then r else c j
theorem TV.q {M0 M : MS} {c : Nat → Rat} (h : TV M0 M c) (r : Rat) : TV M0 (setQ M r) c := by
  refine ⟨h.1, fun k a1 a2 a3 a4 => by rw [setQ_k a1 a2]; exact h.2.1 k a1 a2 a3 a4, fun k hk => ?_⟩
  rw [setQ_k (by omega) (by omega), setQ_k (by omega) (by omega)]
  exact h.2.2 k hk
theorem TV.w {M0 M : MS} {c : Nat → Rat} (h : TV M0 M c) (k : Nat) (r : Rat) : TV M0 (sJ (sJ M 28 k (jI r.num)) 29 k (jI (r.den : Int))) (updR c k r) := by
  refine ⟨h.1, fun j a1 a2 a3 a4 => by rw [sJ_n _ a4, sJ_n _ a3]; exact h.2.1 j a1 a2 a3 a4, fun j hj => ?_⟩
  rw [sJ_n _ (by omega), sJ_s, sJ_s, sJ_n _ (by omega)]
  unfold updR
  by_cases q : j = k
  · rw [q, updL_s, updL_s, if_pos rfl]; exact ⟨rfl, rfl⟩
  · rw [updL_n _ q, updL_n _ q, if_neg q]; exact h.2.2 j hj
theorem c_0 : (0 : Int32).toNatClampNeg = 0 := by decide
theorem c_1 : (1 : Int32).toNatClampNeg = 1 := by decide
theorem c_2 : (2 : Int32).toNatClampNeg = 2 := by decide
theorem m_thr0 (M : MS) : ∃ M', z_lp (fun x => f_X8_through_L2 x.1 x.2) ((0 : Int32), M) = some M' ∧ M'.1 = M.1 ∧ (∀ k, k ≠ 28 → k ≠ 29 → M'.2 k = M.2 k) ∧ TV M M' (fun _ => 0) := by
  have hn : jI (0 : Rat).num = (0 : Int64) := rfl
  have hd : jI (((0 : Rat).den : Nat) : Int) = (1 : Int64) := rfl
  have st : ∀ (k : Nat) (M : MS), k < 3 → z_lp (fun x => f_X8_through_L2 x.1 x.2) (nI k, M) = z_lp (fun x => f_X8_through_L2 x.1 x.2) (nI (k + 1), sJ (sJ M 28 k (0 : Int64)) 29 k (1 : Int64)) := by
    intro k M hk
    apply z_lp_n
    show f_X8_through_L2 (nI k) M = _
    unfold f_X8_through_L2
    rw [show (3 : Int32) = nI 3 from rfl, if_neg (by rw [n_le (by omega) (by omega)]; omega), z_chk_t (by rw [n_in (by omega)]; exact hk), z_lt_e, z_chk_t (by rw [n_in (by omega)]; exact hk), z_lt_e, n_cl (by omega), show nI k + 1 = nI (k + 1) from n_add k 1]
  refine ⟨sJ (sJ (sJ (sJ (sJ (sJ M 28 0 (0 : Int64)) 29 0 (1 : Int64)) 28 1 (0 : Int64)) 29 1 (1 : Int64)) 28 2 (0 : Int64)) 29 2 (1 : Int64), ?_, rfl, fun k k1 k2 => ?_, rfl, fun k k1 k2 k3 k4 => ?_, fun k hk => ?_⟩
  · rw [show ((0 : Int32), M) = (nI 0, M) from rfl, st 0 _ (by omega), st 1 _ (by omega), st 2 _ (by omega)]
    apply z_lp_x
    rfl
  · rw [sJ_n _ k2, sJ_n _ k1, sJ_n _ k2, sJ_n _ k1, sJ_n _ k2, sJ_n _ k1]
  · rw [sJ_n _ k4, sJ_n _ k3, sJ_n _ k4, sJ_n _ k3, sJ_n _ k4, sJ_n _ k3]
  · dsimp only
    rw [hn, hd]
    rcases (show k = 0 ∨ k = 1 ∨ k = 2 by omega) with rfl | rfl | rfl <;> exact ⟨rfl, rfl⟩
theorem dv_add {a b d : Int} (hd : 0 < d) : Rat.divInt a d + Rat.divInt b d = Rat.divInt (a + b) d := by
  have h : (d : Rat) ≠ 0 := d_ne (by omega)
  rw [Rat.divInt_eq_div, Rat.divInt_eq_div, Rat.divInt_eq_div, Rat.intCast_add]
  generalize (d : Rat) = D at *
  grind
theorem dv_mulI {a d : Int} (c : Int) : Rat.divInt a d * (c : Rat) = Rat.divInt (a * c) d := by
  rw [Rat.divInt_eq_div, Rat.divInt_eq_div, Rat.intCast_mul]
  generalize (d : Rat) = D at *
  grind
theorem dv_divI {a d e : Int} (he : e ≠ 0) : Rat.divInt (e * a) d / (e : Rat) = Rat.divInt a d := by
  have h : (e : Rat) ≠ 0 := d_ne he
  rw [Rat.divInt_eq_div, Rat.divInt_eq_div, Rat.intCast_mul]
  generalize (d : Rat) = D at *
  generalize (e : Rat) = E at *
  grind
section TH
variable {M M0 : MS} {fi n f : Nat} {kd dg : Int32} {P V Z : Nat → Int32} {K : Nat → Nat} {G : Nat → Int} {D N0 N1 N2 : Int}
/-- what through is told -/
def ThIn (M : MS) (f : Nat) (G : Nat → Int) (D : Int) : Prop := ∀ j, j < f → M.2 24 j = jI (Rat.divInt (G j) D).num ∧ M.2 25 j = jI ((Rat.divInt (G j) D).den : Int) ∧ (G j).natAbs ≤ 134217728
theorem ThIn.tv {c : Nat → Rat} (h : ThIn M0 f G D) (hv : TV M0 M c) : ThIn M f G D := by
  intro j hj
  rw [hv.2.1 24 (by omega) (by omega) (by omega) (by omega), hv.2.1 25 (by omega) (by omega) (by omega) (by omega)]
  exact h j hj
theorem m_slope (h : MFit M fi n kd dg P V Z) (hfi : fi < 10) (hn : n ≤ 12) (hf : f ≤ 3) (hK : ∀ j, j < f → K j < n) (hT : ∀ j, j < f → M.1 23 j = nI (K j)) (hI : ThIn M f G D) (hS : Sol f (fun j => tN kd P (K j)) G D N0 N1 N2) (hP : PolOk N0 N1 N2 D) (ht : ∀ j, j < f → (tN kd P (K j)).natAbs ≤ 144) {i k : Nat} (hi : i < f) (hk : k < f) (hlt : tN kd P (K i) < tN kd P (K k)) : f_X8_slope M (nI fi) (nI i) (nI k) = some (setQ M (Rat.divInt (N1 + N2 * (tN kd P (K i) + tN kd P (K k))) D)) := by
  obtain ⟨p1, p2, p3, p4, p5⟩ := hP
  obtain ⟨a1, a2, a3⟩ := hI k hk
  obtain ⟨b1, b2, b3⟩ := hI i hi
  have q1 : z_in (nI k) 3 := by rw [n_in (by omega)]; omega
  have q2 : z_in (nI i) 3 := by rw [n_in (by omega)]; omega
  have e1 : -Rat.divInt (G i) D = Rat.divInt (-G i) D := dv_neg
  have g1 := hS.2.1 k hk
  have g2 := hS.2.1 i hi
  have tk := ht k hk
  have ti := ht i hi
  have eG : Rat.divInt (G k) D + -Rat.divInt (G i) D = Rat.divInt ((tN kd P (K k) - tN kd P (K i)) * (N1 + N2 * (tN kd P (K i) + tN kd P (K k)))) D := by
    rw [e1, dv_add p1]
    congr 1
    dsimp only at g1 g2
    rw [← g1, ← g2]
    grind
  have eG2 : Rat.divInt (G k) D + -Rat.divInt (G i) D = Rat.divInt (G k + -G i) D := by rw [e1, dv_add p1]
  have bG := rt_bd (A := 268435456) (B := 1048576) eG2 p1 (by omega) (by omega)
  have nb := rt_bd (r := -Rat.divInt (G i) D) (A := 134217728) (B := 1048576) e1 p1 (by omega) (by omega)
  have nd2 : (tN kd P (K k) - tN kd P (K i)) ≠ 0 := by omega
  unfold f_X8_slope
  rw [z_chk_t q1, z_chk_t q1, z_chk_t q2, z_chk_t q2, n_cl (show k < 2147483648 by omega), n_cl (show i < 2147483648 by omega), a1, a2, b1, b2, j_neg, ← (rt_neg (Rat.divInt (G i) D)).1]
  rw [show jI (((Rat.divInt (G i) D).den : Nat) : Int) = jI (((-Rat.divInt (G i) D).den : Nat) : Int) by rw [(rt_neg (Rat.divInt (G i) D)).2]]
  rw [m_plusR M _ _ 134217728 1048576 134217728 1048576 (rt_bd rfl p1 a3 (by omega)) nb (by decide) (by decide), z_bd_s]
  have hq : MFit (setQ M (Rat.divInt (G k) D + -Rat.divInt (G i) D)) fi n kd dg P V Z := h.eq1 rfl
  rw [m_t hq hfi hn (by omega) (hK k hk) (hT k hk), z_bd_s, m_t hq hfi hn (by omega) (hK i hi) (hT i hi), z_bd_s, setQ_n, setQ_d, j_sub]
  show z_bd (f_X8_times _ _ _ (1 : Int64) (jI (tN kd P (K k) - tN kd P (K i)))) _ = _
  rw [m_timesD _ _ _ 268435456 1048576 288 bG nd2 (by omega) (by decide) (by decide), z_bd_s, setQ_2, eG, dv_divI nd2]
end TH
