/-! shorts: the reference, and both -/
section SH3
variable {M : MS} {fi n : Nat} {P V Z : Nat → Int32} {kd dg a1 a2 : Int32} {T m : Int}
theorem m_shA (hM : MFit M fi n kd dg P V Z) (hf : fi < 10) (hO : PtsOk n P V Z) (hB : Bt a2 T) {x y : Int} (hx : x.natAbs ≤ 256) (hy : y.natAbs ≤ 32) : z_lp (fun s => f_X8_shorts_L125 M a2 (nI fi) (kI x) (kI y) s.1 s.2) ((0 : Int32), ((12 : Int32) * nI fi)) = some (kI (sF P V Z T n x y)) := by
  have hn := hO.1
  obtain ⟨-, -, m7, mi⟩ := hM
  have q10 : z_in (nI fi) 10 := by rw [n_in (by omega)]; exact hf
  have e12 : ((12 : Int32) * nI fi) = nI (12 * fi) := by rw [show (12 : Int32) = nI 12 from rfl, n_mul]
  have := z_lp_count (b := fun s : Int32 × Int32 => f_X8_shorts_L125 M a2 (nI fi) (kI x) (kI y) s.1 s.2) (fun k => (kI (sF P V Z T k x y), nI (12 * fi + k))) n (e := kI (sF P V Z T n x y)) (fun k hk => by
    have q : z_in (nI (12 * fi + k)) 120 := by rw [n_in (by omega)]; omega
    have g := sF_b hO hB.1 hx hy k (by omega)
    have g1 := sF_b hO hB.1 hx hy (k + 1) (by omega)
    obtain ⟨i1, i2, i3, i4⟩ := hO.i hk
    have r := rest_b hO hB.1 hy hk
    obtain ⟨w, hw⟩ : ∃ w, w = (tI V k * T - y * tI P k) - x := ⟨_, rfl⟩
    have hwb : w.natAbs ≤ 1000 := by omega
    have zz := zb i3 i4 hwb
    have e : Z k * (((kI T * V k) - kI x) - kI y * P k) = kI ((Z k).toInt * w) := by
      rw [hw, show (tI V k * T - y * tI P k) - x = (T * (V k).toInt - x) - y * (P k).toInt by show ((V k).toInt * T - y * (P k).toInt) - x = _; rw [Int.mul_comm]; omega, ← k_mul, ← k_sub, ← k_sub, ← k_mul T, ← k_mul y, ← k_of, ← k_of, ← k_of]
    have eabs : (((Z k).toInt * w).natAbs : Int) = (Z k).toInt * (w.natAbs : Int) := by
      rw [Int.natAbs_mul, Int.natCast_mul, show (((Z k).toInt.natAbs : Nat) : Int) = (Z k).toInt by omega]
    obtain ⟨u, hu⟩ : ∃ u, u = (Z k).toInt * w := ⟨_, rfl⟩
    rw [← hu] at e eabs
    have ev : (if 0 ≤ kI u then some (kI u) else some (-kI u)) = some (kI (u.natAbs : Int)) := by
      by_cases z : 0 ≤ u
      · rw [if_pos (by rw [show (0 : Int32) = kI 0 from rfl, k_le (by omega) (by omega)]; exact z), show (u.natAbs : Int) = u by omega]
      · rw [if_neg (by rw [show (0 : Int32) = kI 0 from rfl, k_le (by omega) (by omega)]; exact z), k_neg, show (u.natAbs : Int) = -u by omega]
    have es : sF P V Z T (k + 1) x y = max (sF P V Z T k x y) (u.natAbs : Int) := by
      rw [eabs, hw]
      rfl
    show f_X8_shorts_L125 M a2 (nI fi) (kI x) (kI y) (kI (sF P V Z T k x y)) (nI (12 * fi + k)) = _
    unfold f_X8_shorts_L125
    simp only [z_chk_t q10, z_chk_t q]
    rw [n_cl (by omega), m7, e12, n_add, if_neg (by rw [n_le (by omega) (by omega)]; omega), n_cl (by omega), (mi k hk).1, (mi k hk).2.1, (mi k hk).2.2, hB.2.2.2.2.1, e, ev, z_bd_s, show nI (12 * fi + k) + (1 : Int32) = nI (12 * fi + (k + 1)) from n_add (12 * fi + k) 1, es]
    by_cases z : (u.natAbs : Int) ≤ sF P V Z T k x y
    · rw [if_pos (by rw [k_le (by omega) (by omega)]; exact z), show max (sF P V Z T k x y) (u.natAbs : Int) = sF P V Z T k x y by omega]
    · rw [if_neg (by rw [k_le (by omega) (by omega)]; exact z), show max (sF P V Z T k x y) (u.natAbs : Int) = (u.natAbs : Int) by omega]) (by
    show f_X8_shorts_L125 M a2 (nI fi) (kI x) (kI y) (kI (sF P V Z T n x y)) (nI (12 * fi + n)) = _
    unfold f_X8_shorts_L125
    rw [z_chk_t q10, n_cl (by omega), m7, e12, n_add, if_pos (by rw [n_le (by omega) (by omega)]; omega)])
  rw [e12]
  exact this
def mD (T m c0 c1 : Int) : Int → Int → Prop := fun x y => -(64 * T) ≤ x ∧ (-m ≤ y ∧ y ≤ m) ∧ (x < c0 ∨ (x = c0 ∧ y < c1))
theorem m_shB (hM : MFit M fi n kd dg P V Z) (hf : fi < 10) (hO : PtsOk n P V Z) (hB : Bt a2 T) (hm : m = if a1 = 0 then 0 else 8 * T) (hm2 : 0 ≤ m ∧ m ≤ 32) {x : Int} (hx : -(64 * T) ≤ x ∧ x ≤ 64 * T) : ∀ (k : Nat) (y l b0 b1 : Int), -m ≤ y → y ≤ m + 1 → (m + 1 - y).toNat = k → -1 ≤ l → l ≤ 4000 → Seen (sF P V Z T n) (mD T m x y) l b0 b1 → ∃ l' c0 c1, z_lp (fun s => f_X8_shorts_L97 M a1 a2 (nI fi) (kI x) s.1 s.2.1 s.2.2.1 s.2.2.2) (kI l, kI b0, kI b1, kI y) = some (kI l', kI c0, kI c1) ∧ -1 ≤ l' ∧ l' ≤ 4000 ∧ Seen (sF P V Z T n) (mD T m x (m + 1)) l' c0 c1 := by
  have hT := hB.1
  have ev : (if a1 = 0 then some ((0 : Int32)) else some (((8 : Int32) * ((1 : Int32) <<< (a2 &&& 31))))) = some (kI m) := by
    rw [hm]
    by_cases z : a1 = 0
    · rw [if_pos z, if_pos z]; rfl
    · rw [if_neg z, if_neg z, hB.2.2.2.2.1, show (8 : Int32) = kI 8 from rfl, k_mul]
  intro k
  induction k with
  | zero =>
    intro y l b0 b1 h1 h2 h3 h4 h5 h6
    have ey : y = m + 1 := by omega
    subst ey
    refine ⟨l, b0, b1, z_lp_x ?_, h4, h5, h6⟩
    show f_X8_shorts_L97 M a1 a2 (nI fi) (kI x) (kI l) (kI b0) (kI b1) (kI (m + 1)) = _
    unfold f_X8_shorts_L97
    rw [ev, z_bd_s, if_pos (by rw [k_lt (by omega) (by omega)]; omega)]
  | succ k ih =>
    intro y l b0 b1 h1 h2 h3 h4 h5 h6
    have A := m_shA hM hf hO hB (x := x) (y := y) (by omega) (by omega)
    have bF := sF_b hO hT (x := x) (y := y) (by omega) (by omega) n (Nat.le_refl _)
    have e1 : ∀ u v, mD T m x (y + 1) u v ↔ (mD T m x y u v ∨ (u = x ∧ v = y)) := fun u v => by unfold mD; omega
    have ey : kI y + (1 : Int32) = kI (y + 1) := k_add y 1
    have hd : f_X8_shorts_L97 M a1 a2 (nI fi) (kI x) (kI l) (kI b0) (kI b1) (kI y) = if kI l = (-1 : Int32) then some (.inr (kI (sF P V Z T n x y), kI x, kI y, kI (y + 1))) else if kI l ≤ kI (sF P V Z T n x y) then some (.inr (kI l, kI b0, kI b1, kI (y + 1))) else some (.inr (kI (sF P V Z T n x y), kI x, kI y, kI (y + 1))) := by
      unfold f_X8_shorts_L97
      rw [ev, z_bd_s, if_neg (by rw [k_lt (by omega) (by omega)]; omega), A, z_bd_s, ey]
    by_cases w : l = -1 ∨ sF P V Z T n x y < l
    · have hd2 : f_X8_shorts_L97 M a1 a2 (nI fi) (kI x) (kI l) (kI b0) (kI b1) (kI y) = some (.inr (kI (sF P V Z T n x y), kI x, kI y, kI (y + 1))) := by
        rw [hd]
        by_cases z : l = -1
        · rw [if_pos (by rw [z]; rfl)]
        · rw [if_neg (by rw [show (-1 : Int32) = kI (-1) from rfl, k_eq (by omega) (by omega)]; exact z), if_neg (by rw [k_le (by omega) (by omega)]; omega)]
      rw [z_lp_n (y := (kI (sF P V Z T n x y), kI x, kI y, kI (y + 1))) hd2]
      exact ih (y + 1) _ x y (by omega) (by omega) (by omega) (by omega) (by omega) (seen_new h6 (fun _ _ _ => lvA_0 _ _ _ _) e1 w)
    · have hd2 : f_X8_shorts_L97 M a1 a2 (nI fi) (kI x) (kI l) (kI b0) (kI b1) (kI y) = some (.inr (kI l, kI b0, kI b1, kI (y + 1))) := by
        rw [hd, if_neg (by rw [show (-1 : Int32) = kI (-1) from rfl, k_eq (by omega) (by omega)]; omega), if_pos (by rw [k_le (by omega) (by omega)]; omega)]
      rw [z_lp_n (y := (kI l, kI b0, kI b1, kI (y + 1))) hd2]
      exact ih (y + 1) l b0 b1 (by omega) (by omega) (by omega) h4 h5 (seen_old h6 e1 (fun u v huv => huv.2.2) (by omega) (by omega))
theorem m_shC (hM : MFit M fi n kd dg P V Z) (hf : fi < 10) (hO : PtsOk n P V Z) (hB : Bt a2 T) (hm : m = if a1 = 0 then 0 else 8 * T) (hm2 : 0 ≤ m ∧ m ≤ 32) : ∀ (k : Nat) (x l b0 b1 : Int), -(64 * T) ≤ x → x ≤ 64 * T + 1 → (64 * T + 1 - x).toNat = k → -1 ≤ l → l ≤ 4000 → Seen (sF P V Z T n) (mD T m x (-m)) l b0 b1 → ∃ l' c0 c1, z_lp (fun s => f_X8_shorts_L72 M a1 a2 (nI fi) s.1 s.2.1 s.2.2.1 s.2.2.2) (kI l, kI b0, kI b1, kI x) = some (kI c0, kI c1) ∧ Seen (sF P V Z T n) (fun u v => (-(64 * T) ≤ u ∧ u ≤ 64 * T) ∧ -m ≤ v ∧ v ≤ m) l' c0 c1 := by
  have hT := hB.1
  have e64 : ((64 : Int32) * ((1 : Int32) <<< (a2 &&& 31))) = kI (64 * T) := by rw [hB.2.2.2.2.1, show (64 : Int32) = kI 64 from rfl, k_mul]
  have ev : (if a1 = 0 then some ((0 : Int32)) else some (((-8 : Int32) * ((1 : Int32) <<< (a2 &&& 31))))) = some (kI (-m)) := by
    rw [hm]
    by_cases z : a1 = 0
    · rw [if_pos z, if_pos z]; rfl
    · rw [if_neg z, if_neg z, hB.2.2.2.2.1, show (-8 : Int32) = kI (-8) from rfl, k_mul, show -8 * T = -(8 * T) by omega]
  intro k
  induction k with
  | zero =>
    intro x l b0 b1 h1 h2 h3 h4 h5 h6
    have ex : x = 64 * T + 1 := by omega
    subst ex
    refine ⟨l, b0, b1, z_lp_x ?_, h6.cg (fun u v => by unfold mD; omega)⟩
    show f_X8_shorts_L72 M a1 a2 (nI fi) (kI l) (kI b0) (kI b1) (kI (64 * T + 1)) = _
    unfold f_X8_shorts_L72
    rw [e64, if_pos (by rw [k_lt (by omega) (by omega)]; omega)]
  | succ k ih =>
    intro x l b0 b1 h1 h2 h3 h4 h5 h6
    obtain ⟨l', c0, c1, g1, g2, g3, g4⟩ := m_shB hM hf hO hB hm hm2 (x := x) ⟨h1, by omega⟩ _ (-m) l b0 b1 (by omega) (by omega) rfl h4 h5 h6
    have hd : f_X8_shorts_L72 M a1 a2 (nI fi) (kI l) (kI b0) (kI b1) (kI x) = some (.inr (kI l', kI c0, kI c1, kI (x + 1))) := by
      unfold f_X8_shorts_L72
      rw [e64, if_neg (by rw [k_lt (by omega) (by omega)]; omega), ev, z_bd_s, g1, z_bd3_s, show kI x + (1 : Int32) = kI (x + 1) from k_add x 1]
    rw [z_lp_n (y := (kI l', kI c0, kI c1, kI (x + 1))) hd]
    exact ih (x + 1) l' c0 c1 (by omega) (by omega) (by omega) g2 g3 (g4.cg (fun u v => by unfold mD; omega))
end SH3
section SH4
variable {S : GS} {M : MS} {o cnt : Nat} {st : Int32} {F : Nat → Option Nat} {ln : Nat → Nat}
theorem g_good2 (a1 a2 : Int32) : ∃ g : Int32, (z_bd (f_X8_in a1 (0 : Int32) (1 : Int32)) fun r_1 => (if r_1 = 0 then some ((0 : Int32)) else z_bd (f_X8_in a2 (0 : Int32) (2 : Int32)) fun r_3 => if r_3 = 0 then some ((0 : Int32)) else some ((1 : Int32)))) = some g ∧ ((g = 0 ∧ (f_X8_in a1 0 1 = some 0 ∨ (f_X8_in a1 0 1 = some 1 ∧ f_X8_in a2 0 2 = some 0))) ∨ (¬ g = 0 ∧ f_X8_in a1 0 1 = some 1 ∧ f_X8_in a2 0 2 = some 1 ∧ (a1 = 0 ∨ a1 = 1) ∧ (a2 = 0 ∨ a2 = 1 ∨ a2 = 2))) := by
  rcases z_in2v a1 with ⟨h, -⟩ | ⟨h, h1⟩
  · exact ⟨0, by rw [h, z_bd_s, if_pos rfl], Or.inl ⟨rfl, Or.inl h⟩⟩
  · rcases z_in2 a2 with ⟨k, -⟩ | ⟨k, k1⟩
    · exact ⟨0, by rw [h, z_bd_s, if_neg z_10, k, z_bd_s, if_pos rfl], Or.inl ⟨rfl, Or.inr ⟨h, k⟩⟩⟩
    · exact ⟨1, by rw [h, z_bd_s, if_neg z_10, k, z_bd_s, if_neg z_10], Or.inr ⟨z_10, h, k, h1, k1⟩⟩
theorem c_shorts (hT : TopAt S o (nI cnt) st) (hA : SetsArr S o) (hO : SetsOk S M o) (hF : FitsOk S M o cnt F ln) (hL : LvOk S o) (hX : SsOk S o) (h68 : o + 68 ≤ S.2) (a0 a1 a2 : Int32) : ∃ r S' M', f_X7_shorts S o a0 a1 a2 = some (r, S') ∧ f_X8_shorts M a0 a1 a2 = some (r, M') ∧ NewRes S S' M M' o cnt F ln := by
  have hi := t_is hT
  have hc10 := hF.2.2.1
  obtain ⟨S1, e1, e2, e3⟩ := n_ref (M := M) hT hF hL hX 1
  obtain ⟨S2, d1, d2, d3⟩ := n_ref (M := M) hT hF hL hX 2
  obtain ⟨g, gg, gv⟩ := g_good2 a1 a2
  unfold f_X7_shorts f_X8_shorts
  simp only [z_chk_t hi]
  simp only [z_within]
  rw [z_bd_as (f_X8_in a1 0 1), gg, z_bd_s]
  obtain ⟨wn1, wn2, wn3⟩ := m_whyNot (M := M) (cnt := cnt) (a0 := a0) (g := g) hF.2.1 hc10
  rcases z_in05 a0 with ⟨h1, h2⟩ | ⟨s, hs, rfl, h1⟩
  · exact ⟨-1, S1, _, by rw [t_setAt0 h2, z_bd_s, z_mt_N, e1, z_bd2_s], by rw [wn1 h1, z_bd_s, if_neg z_10, e2, z_bd2_s], e3⟩
  · rw [t_setAt hT hA hs, z_bd_s, z_mt_S]
    rcases gv with ⟨g0, gv | ⟨gv1, gv2⟩⟩ | ⟨g0, gv1, gv2, gv3, gv4⟩
    · exact ⟨-1, S1, _, by rw [gv, z_bd_s, if_pos rfl, e1, z_bd2_s], by rw [wn2 h1 g0, z_bd_s, if_neg z_10, e2, z_bd2_s], e3⟩
    · exact ⟨-1, S1, _, by rw [gv1, z_bd_s, if_neg z_10, gv2, z_bd_s, if_pos rfl, e1, z_bd2_s], by rw [wn2 h1 g0, z_bd_s, if_neg z_10, e2, z_bd2_s], e3⟩
    · rw [gv1, z_bd_s, if_neg z_10, gv2, z_bd_s, if_neg z_10, g_i_e (k := 6) hT rfl, z_bd_s, wn3 h1 g0, z_bd_s]
      by_cases hc : cnt = 10
      · exact ⟨-1, S2, _, by rw [if_neg (by rw [hc]; decide), d1, z_bd2_s], by rw [if_pos hc, if_neg (by decide), d2, z_bd2_s], d3⟩
      · have hc9 : cnt < 10 := by omega
        rw [if_pos (by rw [show (10 : Int32) = nI 10 from rfl, n_lt (by omega) (by omega)]; exact hc9), if_neg hc, if_pos rfl]
        obtain ⟨n, P, V, Z, p1, p2, p3, p4⟩ := hO s hs
        obtain ⟨S3, S6, k1, k2, k3, k4, k5⟩ := p_make hT hs p1 p2.1 h68 3 a1
        have hfa := fitL_at k5 p2.1
        rw [if_neg (show ¬ (3 : Int32) = 4 by decide)] at hfa
        have hT6 : TopAt S6 o (nI cnt) st := (k5.2.2 o (by omega)).trans hT
        obtain ⟨T, hB⟩ := bt_of gv4
        obtain ⟨m, hm⟩ : ∃ m : Int, m = if a1 = 0 then 0 else 8 * T := ⟨_, rfl⟩
        have hT3 := hB.1
        have hm2 : 0 ≤ m ∧ m ≤ 32 := by
          rw [hm]
          by_cases z : a1 = 0
          · rw [if_pos z]; omega
          · rw [if_neg z]; omega
        obtain ⟨R, u0, u1, x13, x14⟩ := hX.new k5 h68
        obtain ⟨S7, c0, c1, R', l, f1, f2, f3, f4, f5⟩ := p_search (b := o + 13) p2 hB hfa.2.1 (by omega) x13 x14 hm
        have hfa7 : FitAt S7 S.2 cnt 3 a1 n P V Z 1 (fun _ => 0) (fun _ => (0, 0, 0, 1)) 8 := by
          obtain ⟨h1, h2, rm, G, Bg, r1, r2, r3, r4, r5, r6, r7⟩ := hfa
          refine ⟨h1.same f2 (by omega), h2.same f2 (by omega), rm, G, Bg, r1, r2, r3, (f2.2 _ (by omega)).trans r4, (f2.2 _ (by omega)).trans r5, r6, fun j hj => ?_⟩
          obtain ⟨p, q1, q2, q3, q4⟩ := r7 j hj
          exact ⟨p, q1, q2, q3, (f2.2 _ (by omega)).trans q4⟩
        have hT7 : TopAt S7 o (nI cnt) st := (f2.2 o (by omega)).trans hT6
        obtain ⟨p, w1, w2, w3, w4⟩ := p_first0 hfa7
        have ep : p = S.2 + 7 := by omega
        subst ep
        -- the reference
        obtain ⟨M7, m1, m2, m3, m4, m5, m6, m7⟩ := m_newFit (kd := 3) (dg := a1) hs p2.1 p3 p4 hF.2.1 hc9
        obtain ⟨l', v0, v1, y1, y2⟩ := m_shC m3 hc9 p2 hB hm hm2 _ (-(64 * T)) (-1) 0 0 (by omega) (by omega) rfl (by omega) (by omega) (Or.inl ⟨rfl, fun u v huv => by unfold mD at huv; omega⟩)
        obtain ⟨z1, z2, z3, z4⟩ := f5.uq y2 (x := 0) (y := 0) (by omega)
        subst z1; subst z2
        obtain ⟨S8, x0, x1, x2, y, b1, b2, b3, b4, b5, b6, b7, b8⟩ := p_become2 (c0 := c0) (c1 := c1) (c2 := 0) (d := T) (N0 := c0) (N1 := c1) (N2 := 0) (D := T) w2 (by omega) (by omega) (by omega) (by omega) (by omega) ⟨by omega, by omega, by omega, by omega, by omega⟩ rfl rfl rfl
        have hfb := fit_part hfa7 b3 (c' := (x0, x1, x2, y)) b2
        have hn0 : T ≠ 0 := by omega
        obtain ⟨r0, hr0⟩ : ∃ z, z = Rat.divInt c0 T := ⟨_, rfl⟩
        obtain ⟨r1, hr1⟩ : ∃ z, z = Rat.divInt c1 T := ⟨_, rfl⟩
        obtain ⟨M10, hM10⟩ : ∃ z, z = sJ (sJ (setQ M7 r0) 13 (36 * cnt + 3 * 0 + 0) (jI r0.num)) 14 (36 * cnt + 3 * 0 + 0) (jI (r0.den : Int)) := ⟨_, rfl⟩
        obtain ⟨M12, hM12⟩ : ∃ z, z = sJ (sJ (setQ M10 r1) 13 (36 * cnt + 3 * 0 + 1) (jI r1.num)) 14 (36 * cnt + 3 * 0 + 1) (jI (r1.den : Int)) := ⟨_, rfl⟩
        have g13 : ∀ j, M12.2 13 j = if j = 36 * cnt + 1 then jI r1.num else if j = 36 * cnt then jI r0.num else M7.2 13 j := by
          intro j
          rw [hM12, num_13, setQ_k (by omega) (by omega), hM10, num_13, setQ_k (by omega) (by omega)]
          rfl
        have g14 : ∀ j, M12.2 14 j = if j = 36 * cnt + 1 then jI (r1.den : Int) else if j = 36 * cnt then jI (r0.den : Int) else M7.2 14 j := by
          intro j
          rw [hM12, num_14, setQ_k (by omega) (by omega), hM10, num_14, setQ_k (by omega) (by omega)]
          rfl
        have e12 : M12.1 = M7.1 := by rw [hM12, hM10]; rfl
        have hpol : MPol M12 (36 * cnt) (x0, x1, x2, y) := by
          obtain ⟨-, -, n5, n6⟩ := m6
          have q2 : q2F (0, 0, 0, 1) = q2F (x0, x1, x2, y) := by
            unfold q2F
            dsimp only
            rw [b8, Rat.zero_divInt, Rat.zero_divInt]
          rw [q2] at n5 n6
          unfold MPol q0F q1F
          dsimp only
          rw [b6, b7, ← hr0, ← hr1]
          refine ⟨⟨?_, ?_⟩, ⟨?_, ?_⟩, ?_, ?_⟩
          · rw [g13, if_neg (show ¬ 36 * cnt = 36 * cnt + 1 by omega), if_pos rfl]
          · rw [g14, if_neg (show ¬ 36 * cnt = 36 * cnt + 1 by omega), if_pos rfl]
          · rw [g13, if_pos rfl]
          · rw [g14, if_pos rfl]
          · rw [g13, if_neg (show ¬ 36 * cnt + 2 = 36 * cnt + 1 by omega), if_neg (show ¬ 36 * cnt + 2 = 36 * cnt by omega)]; exact n5
          · rw [g14, if_neg (show ¬ 36 * cnt + 2 = 36 * cnt + 1 by omega), if_neg (show ¬ 36 * cnt + 2 = 36 * cnt by omega)]; exact n6
        have hKN : KeepN M7 M12 cnt := KeepN.num e12 (fun j hj => by rw [g13, g14, if_neg (by omega), if_neg (by omega), if_neg (by omega), if_neg (by omega)]; exact ⟨rfl, rfl⟩)
        have hcell : ∀ b, b < S.2 → (b < o + 4 ∨ o + 15 ≤ b) → S8.1 b = S.1 b := fun b hb h2 => by rw [b3.2 b (by omega), f2.2 b (by omega)]; exact k5.2.2 b hb
        have hL8 : LvOk S8 o := ((hL.new k5 h68).same f2 (by omega)).same b3 (by omega)
        have hX8 : SsOk S8 o := ⟨R', kI c0, kI c1, (b3.2 _ (by omega)).trans f3, (b3.2 _ (by omega)).trans f4⟩
        obtain ⟨S9, n1, n2⟩ := n_keep (S := S8) (M := M12) (a := S.2) (len := 8) (cnt := cnt) hT hF hc9 h68 rfl (by omega) (by rw [b3.1, f2.1, k5.1]; exact Nat.le_refl _) hcell hL8 hX8 hfb (ok_zero p2 (Or.inr (Or.inr (Or.inr (Or.inl rfl)))) (by decide) _ ⟨b4, b5⟩) ⟨m3.eq1 e12, by rw [e12]; exact m4, fun j hj => by
          rw [show j = 0 by omega]
          exact ⟨by rw [e12]; exact m5, hpol⟩⟩ (fitX_no (by decide)) (by rw [e12]; exact m2) (m7.tr hKN)
        have hT8 : TopAt S8 o (nI cnt) st := (b3.2 o (by omega)).trans hT7
        have t0 : (kI c0).toInt64 = jI c0 := by rw [z_i64, k_to (by omega)]
        have t1 : (kI c1).toInt64 = jI c1 := by rw [z_i64, k_to (by omega)]
        refine ⟨nI cnt, S9, _, ?_, ?_, n2⟩
        · rw [z_lt_e, show (.inr (.inr (.inr (1, [.int 0, .int 0, .int 0, .null, .null, .null, .int 0]))) : PE) = fo0 from rfl, k1, z_bd_s, z_chk_t k2, k3, z_bd2_s, z_bd_s, k4, z_bd_s, g_r_e (k := 4) hT6 rfl, z_bd_s, hfa.1.r3, z_bd_s, z_chk_t (g_is_e x13), f1, z_bd_s, z_chk_t hfa7.1.is, w1, z_bd_s, g_r_e (k := 4) hT7 rfl, z_bd_s, g_i_e (k := 1) f3 rfl, z_bd_s, z_bd_s, g_i_e (k := 2) f3 rfl, z_bd_s, z_bd_s, z_chk_t (g_is_e w2), t0, t1, hB.2.2.2.2.2.1, show (0 : Int64) = jI 0 from rfl, b1, z_bd_s, z_chk_t (t_is hT8), n1, z_bd2_s]
        · have em : ((-64 : Int32) * ((1 : Int32) <<< (a2 &&& 31))) = kI (-(64 * T)) := by rw [hB.2.2.2.2.1, show (-64 : Int32) = kI (-64) from rfl, k_mul, show -64 * T = -(64 * T) by omega]
          rw [m1, z_bd2_s, em, show (((-1 : Int32), (0 : Int32), (0 : Int32), kI (-(64 * T))) : Int32 × Int32 × Int32 × Int32) = (kI (-1), kI 0, kI 0, kI (-(64 * T))) from rfl, y1, z_bd2_s, t0, t1, hB.2.2.2.2.1, hB.2.2.2.2.2.2, m_is M7 hn0 (by omega) (by omega), ← hr0, z_bd_s, setQ_n, setQ_d, show (0 : Int32) = nI 0 from rfl, m_number hc9 (by omega) (by omega), z_bd_s, ← hM10, m_is M10 hn0 (by omega) (by omega), ← hr1, z_bd_s, setQ_n, setQ_d, show (1 : Int32) = nI 1 from rfl, m_number hc9 (by omega) (by omega), z_bd_s, ← hM12, m_done, z_bd2_s]
          rfl
end SH4
