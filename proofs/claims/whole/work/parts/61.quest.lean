/-! FITS side by side; questions about them -/
def FitX (kd dg : Int32) (n : Nat) (P V Z : Nat → Int32) (c : Pol4) : Prop := kd = 1 ∨ kd = 2 → ∃ f, frN kd dg f ∧ (f = 1 ∨ f = 2 ∨ f = 3) ∧ (kd = 2 → f = 2) ∧ PtsEv kd n P ∧ (f < n → ∃ (q0 q1 q2 : Rat) (K : Nat → Nat), q0F c = q0 ∧ q1F c = xq1 kd q1 ∧ q2F c = xq2 kd q1 q2 ∧ Inc f n K ∧ TurnQ f (tN kd P) (iN V) (iN Z) K q0 q1 q2 ∧ Stay f n (tN kd P) (iN V) (iN Z) K q0 q1 q2)
def FitIs (S : GS) (M : MS) (o fi a len : Nat) : Prop := o + 68 ≤ a ∧ a + len ≤ S.2 ∧ 8 ≤ len ∧ ∃ (kd dg : Int32) (n : Nat) (P V Z : Nat → Int32) (pc : Nat) (bg : Nat → Nat) (C : Nat → Pol4), FitAt S a fi kd dg n P V Z pc bg C len ∧ FitOk kd n P V Z pc bg C ∧ FitM M fi kd dg n P V Z pc bg C ∧ FitX kd dg n P V Z (C 0)
def FitsOk (S : GS) (M : MS) (o cnt : Nat) (F : Nat → Option Nat) (ln : Nat → Nat) : Prop := S.1 (o + 2) = some (e_q 1 10 F) ∧ M.1 4 0 = nI cnt ∧ cnt ≤ 10 ∧ (∀ f, f < cnt → ∃ a, F f = some a ∧ FitIs S M o f a (ln f)) ∧ ∀ f, cnt ≤ f → f < 10 → F f = none
theorem FitIs.scr {S : GS} {M M' : MS} {o fi a len : Nat} (h : FitIs S M o fi a len) (hs : Scr M M') : FitIs S M' o fi a len := by
  obtain ⟨h1, h2, h3, kd, dg, n, P, V, Z, pc, bg, C, h4, h5, h6, h7⟩ := h
  exact ⟨h1, h2, h3, kd, dg, n, P, V, Z, pc, bg, C, h4, h5, h6.scr hs, h7⟩
theorem FitsOk.scr {S : GS} {M M' : MS} {o cnt : Nat} {F : Nat → Option Nat} {ln : Nat → Nat} (h : FitsOk S M o cnt F ln) (hs : Scr M M') : FitsOk S M' o cnt F ln := by
  obtain ⟨h1, h2, h3, h4, h5⟩ := h
  refine ⟨h1, by rw [hs.1 4 (by omega)]; exact h2, h3, fun f hf => ?_, h5⟩
  obtain ⟨a, a1, a2⟩ := h4 f hf
  exact ⟨a, a1, a2.scr hs⟩
theorem z_fit {S : GS} {M : MS} {o cnt : Nat} {st : Int32} {F : Nat → Option Nat} {ln : Nat → Nat} (hT : TopAt S o (nI cnt) st) (hF : FitsOk S M o cnt F ln) (a0 : Int32) : (f_X8_isFit M a0 = some 0 ∧ f_X7_fitAt S o a0 = some none) ∨ ∃ f a, f < cnt ∧ f < 10 ∧ a0 = nI f ∧ f_X8_isFit M a0 = some 1 ∧ f_X7_fitAt S o a0 = some (some a) ∧ FitIs S M o f a (ln f) := by
  obtain ⟨h1, h2, h3, h4, h5⟩ := hF
  have at10 : ∀ k, k < 10 → f_X7_fitAt S o (nI k) = some (F k) := by
    intro k hk
    unfold f_X7_fitAt
    rw [show (0 : Int32) = nI 0 from rfl, if_neg (by rw [n_lt (by omega) (by omega)]; omega), show (10 : Int32) = nI 10 from rfl, if_neg (by rw [n_le (by omega) (by omega)]; omega), g_r_e (k := 1) hT rfl, z_bd_s, g_rQ_e h1 (by rw [n_in (by omega)]; exact hk), z_bd_s, n_cl (by omega)]
  unfold f_X8_isFit
  rw [h2]
  rcases z_idx cnt (by omega) a0 with ⟨g1, g2⟩ | ⟨k, g1, g2, g3⟩
  · left
    refine ⟨by rw [g2, z_bd_s, z_chk_t (Or.inl rfl)], ?_⟩
    by_cases z0 : a0 < 0
    · unfold f_X7_fitAt
      rw [if_pos z0]
    · have z1 : 0 ≤ a0 := by
        rw [Int32.lt_iff_toInt_lt] at z0
        rw [Int32.le_iff_toInt_le]
        omega
      obtain ⟨k, hk, rfl⟩ := n_of z1
      rcases g1 with g1 | g1
      · exact absurd g1 z0
      · rw [n_le (by omega) hk] at g1
        by_cases z2 : k < 10
        · rw [at10 k z2, h5 k g1 z2]
        · unfold f_X7_fitAt
          rw [if_neg z0, show (10 : Int32) = nI 10 from rfl, if_pos (by rw [n_le (by omega) hk]; omega)]
  · right
    obtain ⟨a, a1, a2⟩ := h4 k g1
    exact ⟨k, a, g1, by omega, g2, by rw [g3, z_bd_s, z_chk_t (Or.inr rfl)], by rw [g2, at10 k (by omega), a1], a2⟩
/-- how many of the first k are far -/
def fc (m : Nat → Rat) (L : Rat) : Nat → Nat
  | 0 => 0
  | k + 1 => fc m L k + (if (m k).abs = L then 1 else 0)
theorem fc_le (m : Nat → Rat) (L : Rat) : ∀ k, fc m L k ≤ k := by
  intro k
  induction k with
  | zero => exact Nat.le_refl _
  | succ k ih =>
    rw [fc]
    by_cases q : (m k).abs = L
    · rw [if_pos q]; omega
    · rw [if_neg q]; omega
theorem cmp_0 {x y : Rat} : ((if x < y then (-1 : Int32) else if x = y then 0 else 1) = 0) = (x = y) := by
  apply propext
  by_cases q : x < y
  · rw [if_pos q]
    exact ⟨fun z => absurd z (by decide), fun z => by rw [z] at q; exact absurd q Rat.lt_irrefl⟩
  · rw [if_neg q]
    by_cases q2 : x = y
    · rw [if_pos q2]; exact ⟨fun _ => q2, fun _ => rfl⟩
    · rw [if_neg q2]; exact ⟨fun z => absurd z (by decide), fun z => absurd z q2⟩
section QF
variable {S : GS} {M : MS} {a fi n pc len : Nat} {kd dg : Int32} {P V Z : Nat → Int32} {bg : Nat → Nat} {C : Nat → Pol4}
theorem p_farCount (h : FitAt S a fi kd dg n P V Z pc bg C len) (hO : FitOk kd n P V Z pc bg C) : f_X1_farCount S a = some (nI (fc (mF P V Z pc bg C) (mx (mF P V Z pc bg C) n) n)) := by
  have hn := hO.1.1
  have hF := h.1
  have hp := h.2.1
  have go : ∀ r : Int32, f_X1_farthest S a = some r → (∀ i, i < n → f_X1_compareMisses S a (nI i) r = some (if (mF P V Z pc bg C i).abs < mx (mF P V Z pc bg C) n then -1 else if (mF P V Z pc bg C i).abs = mx (mF P V Z pc bg C) n then 0 else 1)) → f_X1_farCount S a = some (nI (fc (mF P V Z pc bg C) (mx (mF P V Z pc bg C) n) n)) := by
    intro r hr hc
    have hh := z_lp_count (b := fun x : Int32 × Int32 => f_X1_farCount_L9 S a r x.1 x.2) (fun k => (nI (fc (mF P V Z pc bg C) (mx (mF P V Z pc bg C) n) k), nI k)) n (e := nI (fc (mF P V Z pc bg C) (mx (mF P V Z pc bg C) n) n)) (fun k hk => ?_) ?_
    · unfold f_X1_farCount
      rw [z_chk_t hF.is, hr, z_bd_s, show ((0 : Int32), (0 : Int32)) = (nI (fc (mF P V Z pc bg C) (mx (mF P V Z pc bg C) n) 0), nI 0) from rfl, hh, z_bd_s]
    · show f_X1_farCount_L9 S a r (nI (fc (mF P V Z pc bg C) (mx (mF P V Z pc bg C) n) k)) (nI k) = some (Sum.inr (nI (fc (mF P V Z pc bg C) (mx (mF P V Z pc bg C) n) (k + 1)), nI (k + 1)))
      unfold f_X1_farCount_L9
      rw [hF.r3, z_bd_s, hp.sz, z_bd_s, if_neg (by rw [n_le (by omega) (by omega)]; omega), z_chk_t hF.is, hc k hk, z_bd_s, fc, show nI k + 1 = nI (k + 1) from n_add k 1]
      simp only [cmp_0]
      by_cases q : (mF P V Z pc bg C k).abs = mx (mF P V Z pc bg C) n
      · rw [if_pos q, if_pos q]; exact congrArg (fun z => some (Sum.inr (z, nI (k + 1)))) (n_add _ 1)
      · rw [if_neg q, if_neg q]; rfl
    · show f_X1_farCount_L9 S a r (nI (fc (mF P V Z pc bg C) (mx (mF P V Z pc bg C) n) n)) (nI n) = _
      unfold f_X1_farCount_L9
      rw [hF.r3, z_bd_s, hp.sz, z_bd_s, if_pos (by rw [n_le (by omega) (by omega)]; omega)]
  by_cases z : n = 0
  · subst z
    exact go (-1) (p_farthest0 h) (fun i hi => by omega)
  · obtain ⟨r, r1, r2⟩ := p_farthestF h hO (by omega)
    refine go (nI r) r1 (fun i hi => ?_)
    rw [p_cmpM h hO hi r2.1, r2.mx]
theorem m_fars (h : FitM M fi kd dg n P V Z pc bg C) (hO : FitOk kd n P V Z pc bg C) (hfi : fi < 10) : ∃ M', f_X8_fars M (nI fi) = some (nI (fc (mF P V Z pc bg C) (mx (mF P V Z pc bg C) n) n), M') ∧ Scr M M' := by
  have hn := hO.1.1
  have q10 : z_in (nI fi) 10 := by rw [n_in (by omega)]; exact hfi
  obtain ⟨M1, e1, s1, l1⟩ := m_findLevel h hO hfi
  have key : ∀ (k i : Nat) (X : MS), i + k = n → Scr M X → LvlM X (mx (mF P V Z pc bg C) n) → ∃ M', z_lp (fun x => f_X8_fars_L9 (nI fi) x.1 x.2.1 x.2.2) (nI (fc (mF P V Z pc bg C) (mx (mF P V Z pc bg C) n) i), nI i, X) = some (nI (fc (mF P V Z pc bg C) (mx (mF P V Z pc bg C) n) n), M') ∧ Scr M M' := by
    intro k
    induction k with
    | zero =>
      intro i X hi hX hL
      rw [show i = n by omega]
      refine ⟨X, z_lp_x ?_, hX⟩
      show f_X8_fars_L9 (nI fi) _ (nI n) X = _
      unfold f_X8_fars_L9
      rw [z_chk_t q10, n_cl (by omega), (h.1.scr hX).2.2.1, if_pos (by rw [n_le (by omega) (by omega)]; omega)]
    | succ k ih =>
      intro i X hi hX hL
      obtain ⟨M', r1, r2⟩ := ih (i + 1) (setQ X (mF P V Z pc bg C i)) (by omega) (hX.tr ⟨fun _ _ => rfl, rfl, rfl⟩) hL
      refine ⟨M', ?_, r2⟩
      rw [← r1]
      apply z_lp_n
      show f_X8_fars_L9 (nI fi) _ (nI i) X = _
      unfold f_X8_fars_L9
      rw [z_chk_t q10, n_cl (by omega), (h.1.scr hX).2.2.1, if_neg (by rw [n_le (by omega) (by omega)]; omega), m_isFar (h.scr hX) hO hfi hL (by omega), z_bd2_s, fc, show nI i + 1 = nI (i + 1) from n_add i 1]
      by_cases q : (mF P V Z pc bg C i).abs = mx (mF P V Z pc bg C) n
      · rw [if_pos q, if_pos q, if_neg z_10, z_bd_s]; exact congrArg (fun z => some (Sum.inr (z, nI (i + 1), setQ X (mF P V Z pc bg C i)))) (n_add _ 1)
      · rw [if_neg q, if_neg q, if_pos rfl, z_bd_s, Int32.add_zero]; rfl
  obtain ⟨M', r1, r2⟩ := key n 0 M1 (by omega) s1 l1
  refine ⟨M', ?_, r2⟩
  unfold f_X8_fars
  rw [e1, z_bd_s, show ((0 : Int32), (0 : Int32), M1) = (nI (fc (mF P V Z pc bg C) (mx (mF P V Z pc bg C) n) 0), nI 0, M1) from rfl, r1, z_bd2_s]
/-- the class's level -/
theorem p_levelF (h : FitAt S a fi kd dg n P V Z pc bg C len) (hO : FitOk kd n P V Z pc bg C) : ∃ (r : Int32) (x d : Int), f_X1_farthest S a = some r ∧ f_X1_missSize S a r = some (jI x) ∧ f_X1_missBelow S a r = some (jI d) ∧ 0 ≤ x ∧ x ≤ 4398046511103 ∧ 0 < d ∧ d ≤ 1048576 ∧ Rat.divInt x d = mx (mF P V Z pc bg C) n := by
  by_cases z : n = 0
  · subst z
    have hF := h.1
    have hp := h.2.1
    have h0 : f_X3_has S (a + 1) (-1) = some 0 := p_has0 hp (by omega) (Or.inl (by decide))
    refine ⟨-1, 0, 1, p_farthest0 h, ?_, ?_, by decide, by decide, by decide, by decide, ?_⟩
    · unfold f_X1_missSize f_X1_missAbove
      rw [z_chk_t hF.is, hF.r3, z_bd_s, z_chk_t hp.is, h0, z_bd_s, if_pos rfl, z_bd_s]
      rfl
    · unfold f_X1_missBelow
      rw [hF.r3, z_bd_s, z_chk_t hp.is, h0, z_bd_s, if_pos rfl]
      rfl
    · rw [Rat.zero_divInt]; rfl
  · obtain ⟨r, r1, r2⟩ := p_farthestF h hO (by omega)
    obtain ⟨b1, b2, b3⟩ := mF_bd hO r2.1
    refine ⟨nI r, _, _, r1, p_missSizeF h hO r2.1, p_missBelowF h hO r2.1, by omega, by omega, b2, b3, ?_⟩
    rw [← r2.mx]
    unfold mF
    rw [dv_abs b2]
theorem p_cmpN (h : FitAt S a fi kd dg n P V Z pc bg C len) (hO : FitOk kd n P V Z pc bg C) {r : Int32} (hr : f_X1_farthest S a = some r) {i : Nat} (hi : i < n) : f_X1_compareMisses S a (nI i) r = some (if (mF P V Z pc bg C i).abs < mx (mF P V Z pc bg C) n then -1 else if (mF P V Z pc bg C i).abs = mx (mF P V Z pc bg C) n then 0 else 1) := by
  obtain ⟨r', r1, r2⟩ := p_farthestF h hO (by omega)
  rw [hr] at r1
  cases r1
  rw [p_cmpM h hO hi r2.1, r2.mx]
/-- far: class and reference -/
theorem c_farK (h : FitAt S a fi kd dg n P V Z pc bg C len) (hO : FitOk kd n P V Z pc bg C) (hM : FitM M fi kd dg n P V Z pc bg C) (hfi : fi < 10) (k : Int32) : ∃ (r : Int32) (M' : MS), f_X1_farPoint S a k = some r ∧ Scr M M' ∧ (z_bd (f_X8_findLevel M (nI fi)) fun M_2 => z_bs (z_lp (fun x => f_X8_far_L20 (nI fi) x.1 x.2.1 x.2.2) (k, (0 : Int32), M_2)) fun y => some ((-1 : Int32), y)) = some (r, M') := by
  have hn := hO.1.1
  have hF := h.1
  have hp := h.2.1
  have q10 : z_in (nI fi) 10 := by rw [n_in (by omega)]; exact hfi
  obtain ⟨M1, e1, s1, l1⟩ := m_findLevel hM hO hfi
  obtain ⟨r, x, d, g1, -⟩ := p_levelF h hO
  have cl : ∀ (b i : Nat), i < n → b ≤ i → f_X1_farPoint_L10 S k a r (nI b) (nI i) = (if (mF P V Z pc bg C i).abs = mx (mF P V Z pc bg C) n then (if nI b = k then some (.inl (.inl (nI i))) else some (.inr (nI (b + 1), nI (i + 1)))) else some (.inr (nI b, nI (i + 1)))) := by
    intro b i hi hb
    unfold f_X1_farPoint_L10
    rw [hF.r3, z_bd_s, hp.sz, z_bd_s, if_neg (by rw [n_le (by omega) (by omega)]; omega), z_chk_t hF.is, p_cmpN h hO g1 hi, z_bd_s, show nI i + 1 = nI (i + 1) from n_add i 1, show nI b + 1 = nI (b + 1) from n_add b 1]
    simp only [cmp_0]
  have clE : ∀ (b : Nat), f_X1_farPoint_L10 S k a r (nI b) (nI n) = some (.inl (.inr ())) := by
    intro b
    unfold f_X1_farPoint_L10
    rw [hF.r3, z_bd_s, hp.sz, z_bd_s, if_pos (by rw [n_le (by omega) (by omega)]; omega)]
  have fin : ∀ (o1 : Int32 ⊕ Unit) (o2 : (Int32 × MS) ⊕ MS), z_lp (fun x => f_X1_farPoint_L10 S k a r x.1 x.2) ((0 : Int32), (0 : Int32)) = some o1 → z_lp (fun x => f_X8_far_L20 (nI fi) x.1 x.2.1 x.2.2) (k, (0 : Int32), M1) = some o2 → ((∃ x M', o1 = .inl x ∧ o2 = .inl (x, M') ∧ Scr M M') ∨ (∃ M', o1 = .inr () ∧ o2 = .inr M' ∧ Scr M M')) → ∃ (r : Int32) (M' : MS), f_X1_farPoint S a k = some r ∧ Scr M M' ∧ (z_bd (f_X8_findLevel M (nI fi)) fun M_2 => z_bs (z_lp (fun x => f_X8_far_L20 (nI fi) x.1 x.2.1 x.2.2) (k, (0 : Int32), M_2)) fun y => some ((-1 : Int32), y)) = some (r, M') := by
    intro o1 o2 w1 w2 w3
    unfold f_X1_farPoint
    rw [z_chk_t hF.is, g1, z_bd_s, w1, e1, z_bd_s, w2]
    rcases w3 with ⟨x, M', y1, y2, y3⟩ | ⟨M', y1, y2, y3⟩
    · rw [y1, y2]; exact ⟨x, M', rfl, y3, rfl⟩
    · rw [y1, y2]; exact ⟨-1, M', rfl, y3, rfl⟩
  by_cases k0 : k < 0
  · have w1 : z_lp (fun x => f_X1_farPoint_L10 S k a r x.1 x.2) ((0 : Int32), (0 : Int32)) = some (.inr ()) := by
      have key : ∀ (dd i b : Nat), i + dd = n → b ≤ i → z_lp (fun x => f_X1_farPoint_L10 S k a r x.1 x.2) (nI b, nI i) = some (.inr ()) := by
        intro dd
        induction dd with
        | zero =>
          intro i b hi hb
          rw [show i = n by omega]
          exact z_lp_x (clE b)
        | succ dd ih =>
          intro i b hi hb
          have hk : ¬ nI b = k := by
            intro e
            rw [← e, show (0 : Int32) = nI 0 from rfl, n_lt (by omega) (by omega)] at k0
            omega
          have c := cl b i (by omega) hb
          by_cases q : (mF P V Z pc bg C i).abs = mx (mF P V Z pc bg C) n
          · rw [if_pos q, if_neg hk] at c
            rw [← ih (i + 1) (b + 1) (by omega) (by omega)]
            exact z_lp_n c
          · rw [if_neg q] at c
            rw [← ih (i + 1) b (by omega) (by omega)]
            exact z_lp_n c
      exact key n 0 0 (by omega) (Nat.le_refl _)
    have w2 : z_lp (fun x => f_X8_far_L20 (nI fi) x.1 x.2.1 x.2.2) (k, (0 : Int32), M1) = some (.inr M1) := by
      apply z_lp_x
      show f_X8_far_L20 (nI fi) k 0 M1 = _
      unfold f_X8_far_L20
      rw [z_chk_t q10]
      by_cases q : M1.1 7 (nI fi).toNatClampNeg ≤ 0
      · rw [if_pos q]
      · rw [if_neg q, if_pos k0]
    exact fin _ _ w1 w2 (Or.inr ⟨M1, rfl, rfl, s1⟩)
  · have k1 : 0 ≤ k := by
      rw [Int32.lt_iff_toInt_lt] at k0
      rw [Int32.le_iff_toInt_le]
      omega
    obtain ⟨kk, hk, rfl⟩ := n_of k1
    have key : ∀ (dd i b : Nat) (X : MS), i + dd = n → b ≤ i → b ≤ kk → Scr M X → LvlM X (mx (mF P V Z pc bg C) n) → ∃ (o1 : Int32 ⊕ Unit) (o2 : (Int32 × MS) ⊕ MS), z_lp (fun x => f_X1_farPoint_L10 S (nI kk) a r x.1 x.2) (nI b, nI i) = some o1 ∧ z_lp (fun x => f_X8_far_L20 (nI fi) x.1 x.2.1 x.2.2) (nI (kk - b), nI i, X) = some o2 ∧ ((∃ x M', o1 = .inl x ∧ o2 = .inl (x, M') ∧ Scr M M') ∨ (∃ M', o1 = .inr () ∧ o2 = .inr M' ∧ Scr M M')) := by
      intro dd
      induction dd with
      | zero =>
        intro i b X hi hb hbk hX hL
        rw [show i = n by omega]
        refine ⟨.inr (), .inr X, z_lp_x (clE b), z_lp_x ?_, Or.inr ⟨X, rfl, rfl, hX⟩⟩
        show f_X8_far_L20 (nI fi) (nI (kk - b)) (nI n) X = _
        unfold f_X8_far_L20
        rw [z_chk_t q10, n_cl (by omega), (hM.1.scr hX).2.2.1, if_pos (by rw [n_le (by omega) (by omega)]; omega)]
      | succ dd ih =>
        intro i b X hi hb hbk hX hL
        have c := cl b i (by omega) hb
        have hX2 : Scr M (setQ X (mF P V Z pc bg C i)) := hX.tr ⟨fun _ _ => rfl, rfl, rfl⟩
        have rf : f_X8_far_L20 (nI fi) (nI (kk - b)) (nI i) X = (if (mF P V Z pc bg C i).abs = mx (mF P V Z pc bg C) n then (if b = kk then some (.inl (.inl (nI i, setQ X (mF P V Z pc bg C i)))) else some (.inr (nI (kk - (b + 1)), nI (i + 1), setQ X (mF P V Z pc bg C i)))) else some (.inr (nI (kk - b), nI (i + 1), setQ X (mF P V Z pc bg C i)))) := by
          unfold f_X8_far_L20
          rw [z_chk_t q10, n_cl (by omega), (hM.1.scr hX).2.2.1, if_neg (by rw [n_le (by omega) (by omega)]; omega), if_neg (by rw [show (0 : Int32) = nI 0 from rfl, n_lt (by omega) (by omega)]; omega), m_isFar (hM.scr hX) hO hfi hL (by omega), z_bd2_s, show nI i + 1 = nI (i + 1) from n_add i 1]
          by_cases q : (mF P V Z pc bg C i).abs = mx (mF P V Z pc bg C) n
          · rw [if_pos q, if_pos q, if_neg z_10]
            by_cases q2 : b = kk
            · rw [if_pos q2, if_pos (by rw [q2, Nat.sub_self]; rfl)]
            · rw [if_neg q2, if_neg (by rw [show (0 : Int32) = nI 0 from rfl, n_eq (by omega) (by omega)]; omega)]
              have e : nI (kk - b) + -1 = nI (kk - (b + 1)) := by
                rw [show kk - b = (kk - (b + 1)) + 1 by omega]
                exact n_dec _
              rw [e]
          · rw [if_neg q, if_neg q, if_pos rfl]
        by_cases q : (mF P V Z pc bg C i).abs = mx (mF P V Z pc bg C) n
        · rw [if_pos q] at c rf
          by_cases q2 : b = kk
          · rw [if_pos (by rw [q2])] at c
            rw [if_pos q2] at rf
            exact ⟨.inl (nI i), .inl (nI i, _), z_lp_x c, z_lp_x rf, Or.inl ⟨nI i, _, rfl, rfl, hX2⟩⟩
          · rw [if_neg (by rw [n_eq (by omega) hk]; exact q2)] at c
            rw [if_neg q2] at rf
            obtain ⟨o1, o2, y1, y2, y3⟩ := ih (i + 1) (b + 1) _ (by omega) (by omega) (by omega) hX2 hL
            exact ⟨o1, o2, (z_lp_n c).trans y1, (z_lp_n rf).trans y2, y3⟩
        · rw [if_neg q] at c rf
          obtain ⟨o1, o2, y1, y2, y3⟩ := ih (i + 1) b _ (by omega) (by omega) hbk hX2 hL
          exact ⟨o1, o2, (z_lp_n c).trans y1, (z_lp_n rf).trans y2, y3⟩
    obtain ⟨o1, o2, y1, y2, y3⟩ := key n 0 0 M1 (by omega) (Nat.le_refl _) (Nat.zero_le _) s1 l1
    exact fin o1 o2 y1 y2 y3
end QF
