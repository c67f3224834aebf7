/-! the reference: study -/
theorem Scr.mR (M : MS) (T : Nat → Int32) : Scr M (mR M 23 T) := ⟨fun k hk => mR_n T hk, rfl, rfl⟩
theorem st_eq {v g w s A B hn hd : Int} (hB : 0 < B) (hw : 0 < w) (hws : w * s = 12) (hhd : 0 < hd) (hh : Rat.divInt hn hd = Rat.divInt (12 * A) B) : Rat.divInt v 1 + Rat.divInt (-g * hn) (hd * w) = Rat.divInt (v * B - g * s * A) B := by
  have e1 : (B : Rat) ≠ 0 := d_ne (by omega)
  have e2 : (w : Rat) ≠ 0 := d_ne (by omega)
  have e3 : (hd : Rat) ≠ 0 := d_ne (by omega)
  have e4 : (w : Rat) * (s : Rat) = 12 := by rw [← Rat.intCast_mul, hws]; rfl
  rw [Rat.divInt_eq_div, Rat.divInt_eq_div] at hh
  rw [Rat.divInt_eq_div, Rat.divInt_eq_div, Rat.divInt_eq_div]
  simp only [Rat.intCast_mul, Rat.intCast_sub, Rat.intCast_neg] at hh ⊢
  rw [show ((12 : Int) : Rat) = 12 from rfl] at hh
  rw [show ((1 : Int) : Rat) = 1 from rfl]
  generalize (v : Rat) = V at *
  generalize (g : Rat) = G at *
  generalize (w : Rat) = W at *
  generalize (s : Rat) = S at *
  generalize (A : Rat) = A' at *
  generalize (B : Rat) = B' at *
  generalize (hn : Rat) = Hn at *
  generalize (hd : Rat) = Hd at *
  have h1 : Hn = W * S * A' / B' * Hd := by
    rw [e4, ← hh]
    clear hh e4
    grind
  rw [h1]
  clear h1 hh e4
  grind
section ST
variable {M : MS} {fi n : Nat} {kd dg : Int32} {P V Z : Nat → Int32} {bb : Nat}
theorem m_st1 (h : MFit M fi n kd dg P V Z) (hfi : fi < 10) (hn : n ≤ 12) (hb : bb < 4096) : ∀ (k i p : Nat) (T : Nat → Int32) (K : Nat → Nat), i + k = n → (∀ j, j < p → T j = nI (K j)) → Enum bb i p K → ∃ (T' : Nat → Int32) (K' : Nat → Nat), z_lp (fun x => f_X8_study_L5 (nI fi) (nI bb) x.1 x.2.1 x.2.2) (nI p, nI i, mR M 23 T) = some (nI (pcn bb n), mR M 23 T') ∧ (∀ j, j < pcn bb n → T' j = nI (K' j)) ∧ Enum bb n (pcn bb n) K' := by
  intro k
  induction k with
  | zero =>
    intro i p T K hi hT hE
    rw [show i = n by omega] at hE ⊢
    have hp := hE.2.2.2
    refine ⟨T, K, z_lp_x ?_, by rw [← hp]; exact hT, by rw [← hp]; exact hE⟩
    show f_X8_study_L5 (nI fi) (nI bb) (nI p) (nI n) (mR M 23 T) = _
    unfold f_X8_study_L5
    rw [z_chk_t (by rw [n_in (by omega)]; exact hfi), n_cl (by omega), mR_n T (by omega), h.2.2.1, if_pos (by rw [n_le (by omega) (by omega)]; omega), hp]
  | succ k ih =>
    intro i p T K hi hT hE
    have hp := hE.2.2.2
    have hpl := pcn_le bb i
    have hd : f_X8_study_L5 (nI fi) (nI bb) (nI p) (nI i) (mR M 23 T) = (if bb.testBit i = true then some (.inr (nI (p + 1), nI (i + 1), mR M 23 (upd T p (nI i)))) else some (.inr (nI p, nI (i + 1), mR M 23 T))) := by
      unfold f_X8_study_L5
      rw [z_chk_t (by rw [n_in (by omega)]; exact hfi), n_cl (by omega), mR_n T (by omega), h.2.2.1, if_neg (by rw [n_le (by omega) (by omega)]; omega), m_has1 hb (by omega), z_bd_s, show nI i + 1 = nI (i + 1) from n_add i 1]
      by_cases q : bb.testBit i = true
      · rw [if_pos q, if_neg z_10, if_pos q, z_chk_t (by rw [n_in (by omega)]; omega), z_lt_e, n_cl (by omega), mR_w, show nI p + 1 = nI (p + 1) from n_add p 1]
      · rw [if_neg q, if_pos rfl, if_neg q]
    by_cases q : bb.testBit i = true
    · obtain ⟨T', K', r1, r2, r3⟩ := ih (i + 1) (p + 1) (upd T p (nI i)) (updN K p i) (by omega) (by
        intro j hj
        by_cases z : j = p
        · rw [z, upd_s, updN_s]
        · rw [upd_n _ z, updN_n _ z]; exact hT j (by omega)) (hE.s1 q)
      refine ⟨T', K', ?_, r2, r3⟩
      rw [← r1]
      apply z_lp_n
      show f_X8_study_L5 (nI fi) (nI bb) (nI p) (nI i) (mR M 23 T) = _
      rw [hd, if_pos q]
    · obtain ⟨T', K', r1, r2, r3⟩ := ih (i + 1) p T K (by omega) hT (hE.s0 q)
      refine ⟨T', K', ?_, r2, r3⟩
      rw [← r1]
      apply z_lp_n
      show f_X8_study_L5 (nI fi) (nI bb) (nI p) (nI i) (mR M 23 T) = _
      rw [hd, if_neg q]
end ST
def SV (M5 : MS) (h : Rat) (G : Nat → Int) (D : Int) (i : Nat) (X : MS) : Prop := X.1 = M5.1 ∧ X.2 13 = M5.2 13 ∧ X.2 14 = M5.2 14 ∧ X.2 26 0 = jI h.num ∧ X.2 27 0 = jI (h.den : Int) ∧ ∀ j, j < i → X.2 24 j = jI (Rat.divInt (G j) D).num ∧ X.2 25 j = jI ((Rat.divInt (G j) D).den : Int)
section ST
variable {M : MS} {fi n f : Nat} {kd dg : Int32} {P V Z : Nat → Int32} {K : Nat → Nat}
/-- above, below and heights of turns -/
def aK (f : Nat) (t v w : Nat → Int) (K : Nat → Nat) : Int := abv (fun j => t (K j)) (fun j => v (K j)) (f + 1)
def bK (f : Nat) (t v w : Nat → Int) (K : Nat → Nat) : Int := blw (fun j => t (K j)) (sW (fun j => w (K j))) (f + 1)
def gK (f : Nat) (t v w : Nat → Int) (K : Nat → Nat) : Nat → Int := fun i => v (K i) * bK f t v w K - sg1 i * sW (fun j => w (K j)) i * aK f t v w K
theorem hK_e (f : Nat) (t v w : Nat → Int) (K : Nat → Nat) : hK f t v w K = Rat.divInt (12 * aK f t v w K) (bK f t v w K) := rfl
theorem cramK {t v w : Nat → Int} (hR : Rw f n t v w) (hI : Inc f n K) : ∃ N0 N1 N2, Sol f (fun j => t (K j)) (gK f t v w K) (bK f t v w K) N0 N1 N2 ∧ PolOk N0 N1 N2 (bK f t v w K) ∧ (12 * aK f t v w K).natAbs ≤ 67108864 ∧ (∀ i, i < f → (gK f t v w K i).natAbs ≤ 134217728) ∧ TurnQ f t v w K (Rat.divInt N0 (bK f t v w K)) (Rat.divInt N1 (bK f t v w K)) (Rat.divInt N2 (bK f t v w K)) := by
  have hr := hI.row hR
  have hbd := hI.bds hR
  obtain ⟨N0, N1, N2, hS, hP, hA, hG⟩ := cram (v := fun j => v (K j)) hr (fun i hi => (hbd i hi).1) (fun i hi => (sW_w (hbd i hi).2.1).2.2) (fun i hi => (hbd i hi).2.2)
  exact ⟨N0, N1, N2, hS, hP, hA, hG, sol_turn hr hS⟩
theorem m_st2 {M5 : MS} (h : MFit M5 fi n kd dg P V Z) (hO : PtsOk n P V Z) (hfi : fi < 10) (hR : Rw f n (tN kd P) (iN V) (iN Z)) (hI : Inc f n K) (hT : ∀ j, j < f + 1 → M5.1 23 j = nI (K j)) : ∀ (k i : Nat) (X : MS), i + k = f → SV M5 (hK f (tN kd P) (iN V) (iN Z) K) (gK f (tN kd P) (iN V) (iN Z) K) (bK f (tN kd P) (iN V) (iN Z) K) i X → ∃ X', z_lp (fun x => f_X8_study_L51 (nI fi) (nI (f + 1)) x.1 x.2) (nI i, X) = some X' ∧ SV M5 (hK f (tN kd P) (iN V) (iN Z) K) (gK f (tN kd P) (iN V) (iN Z) K) (bK f (tN kd P) (iN V) (iN Z) K) f X' := by
  have hf3 := hR.1
  have hn := hO.1
  obtain ⟨N0, N1, N2, hS, hP, hA, hG, -⟩ := cramK hR hI
  have hB := hP.1
  have hB2 := hP.2.1
  have hhb := rt_bd (A := 67108864) (B := 1048576) (hK_e f (tN kd P) (iN V) (iN Z) K) hB hA (by omega)
  have hrow := hI.row hR
  intro k
  induction k with
  | zero =>
    intro i X hi hX
    rw [show i = f by omega] at hX ⊢
    refine ⟨X, z_lp_x ?_, hX⟩
    show f_X8_study_L51 (nI fi) (nI (f + 1)) (nI f) X = _
    unfold f_X8_study_L51
    rw [show nI f + (1 : Int32) = nI (f + 1) from n_add f 1, if_pos (by rw [n_le (by omega) (by omega)]; omega)]
  | succ k ih =>
    intro i X hi hX
    obtain ⟨x1, x2, x3, x4, x5, x6⟩ := hX
    have hKi := hI.1 i (by omega)
    obtain ⟨r1, r2, r3⟩ := hO.rg hKi
    have hws := (hrow.2.2 i (by omega))
    have hdp := (hK f (tN kd P) (iN V) (iN Z) K).den_pos
    obtain ⟨hh, hhe⟩ : ∃ z, z = hK f (tN kd P) (iN V) (iN Z) K := ⟨_, rfl⟩
    have e := st_eq (v := (V (K i)).toInt) (g := sg1 i) (w := (Z (K i)).toInt) (s := sW (fun j => iN Z (K j)) i) (A := aK f (tN kd P) (iN V) (iN Z) K) (B := bK f (tN kd P) (iN V) (iN Z) K) (hn := (hK f (tN kd P) (iN V) (iN Z) K).num) (hd := ((hK f (tN kd P) (iN V) (iN Z) K).den : Int)) hB (by omega) hws.2.2 (by omega) (by rw [rt_self]; rfl)
    have sgb : (sg1 i).natAbs ≤ 1 := by
      unfold sg1
      by_cases q : i % 2 = 0
      · rw [if_pos q]; decide
      · rw [if_neg q]; decide
    have k1 := b_mul (show (-sg1 i).natAbs ≤ 1 by omega) hhb.1
    have k2 := b_mul hhb.2 (show (Z (K i)).toInt.natAbs ≤ 4 by omega)
    have k0 : ((hK f (tN kd P) (iN V) (iN Z) K).den : Int) * (Z (K i)).toInt ≠ 0 := Int.mul_ne_zero (by omega) (by omega)
    have hsg : (if nI i - nI i / (2 : Int32) * (2 : Int32) = 0 then some (-jI (hK f (tN kd P) (iN V) (iN Z) K).num) else some (jI (hK f (tN kd P) (iN V) (iN Z) K).num)) = some (jI (-sg1 i * (hK f (tN kd P) (iN V) (iN Z) K).num)) := by
      rw [n_m2 (by omega)]
      unfold sg1
      rcases (show i % 2 = 0 ∨ i % 2 = 1 by omega) with q | q
      · rw [q, if_pos (by decide), if_pos rfl, j_neg, Int.neg_one_mul]
      · rw [q, if_neg (by decide), if_neg (by decide), Int.neg_neg, Int.one_mul]
    have hat : (12 : Int32) * nI fi + X.1 23 (nI i).toNatClampNeg = nI (12 * fi + K i) := by rw [n_cl (by omega), x1, hT i (by omega), show (12 : Int32) = nI 12 from rfl, n_mul, n_add]
    have q120 : z_in ((12 : Int32) * nI fi + X.1 23 (nI i).toNatClampNeg) 120 := by rw [hat, n_in (by omega)]; omega
    obtain ⟨r, hr⟩ : ∃ z, z = Rat.divInt (gK f (tN kd P) (iN V) (iN Z) K i) (bK f (tN kd P) (iN V) (iN Z) K) := ⟨_, rfl⟩
    have stp : f_X8_study_L51 (nI fi) (nI (f + 1)) (nI i) X = some (.inr (nI (i + 1), sJ (sJ (setQ X r) 24 i (jI r.num)) 25 i (jI (r.den : Int)))) := by
      have q3 : z_in (nI i) 3 := by rw [n_in (by omega)]; omega
      unfold f_X8_study_L51
      simp only [z_chk_t q3]
      rw [show nI i + (1 : Int32) = nI (i + 1) from n_add i 1, if_neg (by rw [n_le (by omega) (by omega)]; omega), z_chk_t (by rw [n_in (by omega)]; omega), z_chk_t q120, x4, hsg, z_bd_s, z_chk_t q120, hat, n_cl (show 12 * fi + K i < 2147483648 by omega), n_cl (show i < 2147483648 by omega), x1, (h.2.2.2 _ hKi).2.1, (h.2.2.2 _ hKi).2.2, z_i64, z_i64, x5, j_mul, show (1 : Int64) = jI 1 from rfl, m_plus2 X 60 1 67108864 4194304 (by decide) k0 (by omega) (by decide) (by omega) (by omega) (by decide) (by decide), z_bd_s, e]
      show (z_lt (sJ (setQ X (Rat.divInt (gK f (tN kd P) (iN V) (iN Z) K i) (bK f (tN kd P) (iN V) (iN Z) K))) 24 i _) _) = _
      rw [← hr, z_lt_e, z_lt_e, setQ_n, sJ_n _ (show (22 : Nat) ≠ 24 by omega), setQ_d, hr]
      rfl
    obtain ⟨X', y1, y2⟩ := ih (i + 1) (sJ (sJ (setQ X r) 24 i (jI r.num)) 25 i (jI (r.den : Int))) (by omega) (by
      refine ⟨x1, ?_, ?_, ?_, ?_, fun j hj => ?_⟩
      · rw [sJ_n _ (by omega), sJ_n _ (by omega), setQ_k (by omega) (by omega)]; exact x2
      · rw [sJ_n _ (by omega), sJ_n _ (by omega), setQ_k (by omega) (by omega)]; exact x3
      · rw [sJ_n _ (by omega), sJ_n _ (by omega), setQ_k (by omega) (by omega)]; exact x4
      · rw [sJ_n _ (by omega), sJ_n _ (by omega), setQ_k (by omega) (by omega)]; exact x5
      · rw [sJ_n _ (by omega), sJ_s, sJ_s, sJ_n _ (by omega), setQ_k (by omega) (by omega), setQ_k (by omega) (by omega)]
        by_cases q : j = i
        · rw [q, updL_s, updL_s, hr]; exact ⟨rfl, rfl⟩
        · rw [updL_n _ q, updL_n _ q]; exact x6 j (by omega))
    refine ⟨X', ?_, y2⟩
    rw [← y1]
    apply z_lp_n
    exact stp
def xq1 (kd : Int32) (q1 : Rat) : Rat := if kd = 2 then 0 else q1
def xq2 (kd : Int32) (q1 q2 : Rat) : Rat := if kd = 2 then q1 else q2
/-- the reference's c, e -/
def CQ (M : MS) (kd : Int32) (q0 q1 q2 : Rat) : Prop := (M.2 28 0 = jI q0.num ∧ M.2 29 0 = jI (q0.den : Int)) ∧ (M.2 28 1 = jI (xq1 kd q1).num ∧ M.2 29 1 = jI ((xq1 kd q1).den : Int)) ∧ M.2 28 2 = jI (xq2 kd q1 q2).num ∧ M.2 29 2 = jI ((xq2 kd q1 q2).den : Int)
theorem m_ofX {M0 M : MS} {q0 q1 q2 : Rat} (h5 : M.1 5 fi = kd) (hfi : fi < 10) (hv : TV M0 M (c3 q0 q1 q2)) : ∃ M', f_X8_ofX M (nI fi) = some M' ∧ M'.1 = M.1 ∧ (∀ k, k ≠ 28 → k ≠ 29 → M'.2 k = M.2 k) ∧ CQ M' kd q0 q1 q2 := by
  have v0 := hv.2.2 0 (by omega)
  have v1 := hv.2.2 1 (by omega)
  have v2 := hv.2.2 2 (by omega)
  by_cases q : kd = 2
  · refine ⟨sJ (sJ (sJ (sJ M 28 2 (M.2 28 1)) 29 2 (M.2 29 1)) 28 1 (0 : Int64)) 29 1 (1 : Int64), ?_, rfl, fun k k1 k2 => ?_, ?_⟩
    · unfold f_X8_ofX
      rw [z_chk_t (by rw [n_in (by omega)]; exact hfi), n_cl (by omega), h5, if_pos q, z_lt_e, z_lt_e, z_lt_e, z_lt_e, c_1, c_2, sJ_n _ (show (29 : Nat) ≠ 28 by omega)]
    · rw [sJ_n _ k2, sJ_n _ k1, sJ_n _ k2, sJ_n _ k1]
    · unfold CQ xq1 xq2
      rw [if_pos q, if_pos q]
      exact ⟨v0, ⟨rfl, rfl⟩, v1⟩
  · refine ⟨M, ?_, rfl, fun _ _ _ => rfl, ?_⟩
    · unfold f_X8_ofX
      rw [z_chk_t (by rw [n_in (by omega)]; exact hfi), n_cl (by omega), h5, if_neg q]
    · unfold CQ xq1 xq2
      rw [if_neg q, if_neg q]
      exact ⟨v0, v1, v2⟩
/-- what study leaves -/
def Studied (M' : MS) (bb n f : Nat) (kd : Int32) (P V Z : Nat → Int32) : Prop := ∃ (K : Nat → Nat) (N0 N1 N2 D : Int), Enum bb n (f + 1) K ∧ (∀ j, j < f + 1 → M'.1 23 j = nI (K j)) ∧ M'.2 26 0 = jI (hK f (tN kd P) (iN V) (iN Z) K).num ∧ M'.2 27 0 = jI ((hK f (tN kd P) (iN V) (iN Z) K).den : Int) ∧ PolOk N0 N1 N2 D ∧ TurnQ f (tN kd P) (iN V) (iN Z) K (Rat.divInt N0 D) (Rat.divInt N1 D) (Rat.divInt N2 D) ∧ CQ M' kd (Rat.divInt N0 D) (Rat.divInt N1 D) (Rat.divInt N2 D) ∧ ((hK f (tN kd P) (iN V) (iN Z) K).num.natAbs ≤ 67108864 ∧ (hK f (tN kd P) (iN V) (iN Z) K).den ≤ 1048576)
theorem m_study {bb : Nat} (h : MFit M fi n kd dg P V Z) (hO : PtsOk n P V Z) (hfi : fi < 10) (hR : Rw f n (tN kd P) (iN V) (iN Z)) (hb : bb < 2 ^ n) (hc : pcn bb 12 = f + 1) : ∃ M', f_X8_study M (nI fi) (nI bb) = some M' ∧ Scr M M' ∧ Studied M' bb n f kd P V Z := by
  have hn := hO.1
  have hf3 := hR.1
  have hb12 : bb < 4096 := Nat.lt_of_lt_of_le hb (show 2 ^ _ ≤ 2 ^ 12 from Nat.pow_le_pow_right (by decide) hn)
  have hcn : pcn bb n = f + 1 := by rw [← pcn_top hb 12 hn]; exact hc
  obtain ⟨T, K, e1, e2, e3⟩ := m_st1 h hfi hn hb12 n 0 0 (M.1 23) (fun _ => 0) (by omega) (fun j hj => by omega) (Enum.z bb _)
  rw [hcn] at e1 e2 e3
  rw [mR_self] at e1
  have hI := e3.inc
  obtain ⟨N0, N1, N2, hS, hP, hA, hG, hQ⟩ := cramK hR hI
  have hhb := rt_bd (A := 67108864) (B := 1048576) (hK_e f (tN kd P) (iN V) (iN Z) K) hP.1 hA (by have := hP.2.1; have := hP.1; omega)
  have h5 : MFit (mR M 23 T) fi n kd dg P V Z := h.scr (Scr.mR M T)
  have hT5 : ∀ j, j < f + 1 → (mR M 23 T).1 23 j = nI (K j) := fun j hj => by rw [mR_s]; exact e2 j hj
  have e4 := m_findHigh h5 hO hfi hR hI hT5
  obtain ⟨M8, hM8⟩ : ∃ z, z = sJ (sJ (setQ (mR M 23 T) (hK f (tN kd P) (iN V) (iN Z) K)) 26 0 (jI (hK f (tN kd P) (iN V) (iN Z) K).num)) 27 0 (jI ((hK f (tN kd P) (iN V) (iN Z) K).den : Int)) := ⟨_, rfl⟩
  rw [← hM8] at e4
  have s8 : SV (mR M 23 T) (hK f (tN kd P) (iN V) (iN Z) K) (gK f (tN kd P) (iN V) (iN Z) K) (bK f (tN kd P) (iN V) (iN Z) K) 0 M8 := by
    refine ⟨by rw [hM8]; rfl, ?_, ?_, ?_, ?_, fun j hj => by omega⟩
    · rw [hM8, sJ_n _ (by omega), sJ_n _ (by omega), setQ_k (by omega) (by omega)]
    · rw [hM8, sJ_n _ (by omega), sJ_n _ (by omega), setQ_k (by omega) (by omega)]
    · rw [hM8, sJ_n _ (by omega), sJ_s, updL_s]
    · rw [hM8, sJ_s, updL_s]
  obtain ⟨M11, e5, s1, s2, s3, s4, s5, s6⟩ := m_st2 h5 hO hfi hR hI hT5 f 0 M8 (by omega) s8
  have h11 : MFit M11 fi n kd dg P V Z := h5.eq1 s1
  have hT11 : ∀ j, j < f + 1 → M11.1 23 j = nI (K j) := fun j hj => by rw [s1]; exact hT5 j hj
  obtain ⟨M16, e6, v6⟩ := m_through h11 hfi hn (by omega) (fun j hj => hI.1 j (by omega)) (fun j hj => hT11 j (by omega)) (fun j hj => ⟨(s6 j hj).1, (s6 j hj).2, hG j hj⟩) hS hP (fun j hj => (hR.2.2.1 _ (hI.1 j (by omega))).2.2.1) (fun i j hij hj => hR.2.2.2 _ _ (hI.lt j i hij (by omega)) (hI.1 j (by omega)))
  obtain ⟨M17, e7, w1, w2, w3⟩ := m_ofX (M := M16) (kd := kd) (by rw [v6.1]; exact h11.1) hfi v6
  refine ⟨M17, ?_, ⟨fun k hk => ?_, ?_, ?_⟩, K, N0, N1, N2, bK f (tN kd P) (iN V) (iN Z) K, e3, fun j hj => ?_, ?_, ?_, hP, hQ, w3, by omega⟩
  · unfold f_X8_study
    rw [show ((0 : Int32), (0 : Int32), M) = (nI 0, nI 0, M) from rfl, e1, z_bd2_s, e4, z_bd_s, show (0 : Int32) = nI 0 from rfl, e5, z_bd_s, show (1 : Int32) = nI 1 from rfl, n_sub (by omega), show f + 1 - 1 = f by omega, e6, z_bd_s, e7, z_bd_s]
  · rw [w1, v6.1, s1, mR_n _ hk]
  · rw [w2 13 (by omega) (by omega), v6.2.1 13 (by omega) (by omega) (by omega) (by omega), s2]; rfl
  · rw [w2 14 (by omega) (by omega), v6.2.1 14 (by omega) (by omega) (by omega) (by omega), s3]; rfl
  · rw [w1, v6.1]; exact hT11 j hj
  · rw [w2 26 (by omega) (by omega), v6.2.1 26 (by omega) (by omega) (by omega) (by omega)]; exact s4
  · rw [w2 27 (by omega) (by omega), v6.2.1 27 (by omega) (by omega) (by omega) (by omega)]; exact s5
end ST
