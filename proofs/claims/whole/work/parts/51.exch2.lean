/-! the class's Leveller: exchange -/
theorem ex_par {a r : Int} (ha : a.natAbs ≤ 4611686018427) (hb : r.natAbs ≤ 4611686018427) (hr : r ≠ 0) : ∃ par : Nat, (par = 0 ∨ par = 1) ∧ (∀ {β : Type} (k : Int32 → Option β), z_bd (if (lg_cmp (jI a) (0 : Int64)) < 0 then some ((0 : Int32)) else some ((1 : Int32))) (fun v8 => z_bd (if (lg_cmp (jI r) (0 : Int64)) ≤ 0 then some ((0 : Int32)) else some ((1 : Int32))) fun v9 => z_bd (if v8 = v9 then some ((0 : Int32)) else some ((1 : Int32))) k) = k (nI par)) ∧ ((par = 0 ∧ (0 ≤ a ∧ 0 < r ∨ a < 0 ∧ r < 0)) ∨ (par = 1 ∧ (0 ≤ a ∧ r < 0 ∨ a < 0 ∧ 0 < r))) := by
  have e1 : (lg_cmp (jI a) (0 : Int64) < 0) = (a < 0) := by rw [show (0 : Int64) = jI 0 from rfl, j_cmplt (by omega) (by omega) (by omega) (by omega)]
  have e2 : (lg_cmp (jI r) (0 : Int64) ≤ 0) = (r ≤ 0) := by rw [show (0 : Int64) = jI 0 from rfl, j_cmple (by omega) (by omega) (by omega) (by omega)]
  simp only [e1, e2]
  by_cases q1 : a < 0
  · by_cases q2 : r ≤ 0
    · refine ⟨0, Or.inl rfl, fun k => ?_, Or.inl ⟨rfl, Or.inr ⟨q1, by omega⟩⟩⟩
      rw [if_pos q1, z_bd_s, if_pos q2, z_bd_s, if_pos rfl, z_bd_s]; rfl
    · refine ⟨1, Or.inr rfl, fun k => ?_, Or.inr ⟨rfl, Or.inr ⟨q1, by omega⟩⟩⟩
      rw [if_pos q1, z_bd_s, if_neg q2, z_bd_s, if_neg (by decide), z_bd_s]; rfl
  · by_cases q2 : r ≤ 0
    · refine ⟨1, Or.inr rfl, fun k => ?_, Or.inr ⟨rfl, Or.inl ⟨by omega, by omega⟩⟩⟩
      rw [if_neg q1, z_bd_s, if_pos q2, z_bd_s, if_neg (by decide), z_bd_s]; rfl
    · refine ⟨0, Or.inl rfl, fun k => ?_, Or.inl ⟨rfl, Or.inl ⟨by omega, by omega⟩⟩⟩
      rw [if_neg q1, z_bd_s, if_neg q2, z_bd_s, if_pos rfl, z_bd_s]; rfl
/-- q is the polynomial of the turns K -/
def TurnQ (f : Nat) (t v w : Nat → Int) (K : Nat → Nat) (q0 q1 q2 : Rat) : Prop := Dg f q1 q2 ∧ ∀ j, j ≤ f → ((sg1 j : Int) : Rat) * mr t v w q0 q1 q2 (K j) = hK f t v w K
/-- the turns stay as they are -/
def Stay (f n : Nat) (t v w : Nat → Int) (K : Nat → Nat) (q0 q1 q2 : Rat) : Prop := ∀ i, i < n → (mr t v w q0 q1 q2 i).abs ≤ (hK f t v w K).abs
/-- r comes in -/
def SwOk (f n : Nat) (t v w : Nat → Int) (K : Nat → Nat) (q0 q1 q2 : Rat) (r nx par : Nat) : Prop := r < n ∧ (∀ i, i < n → (mr t v w q0 q1 q2 i).abs ≤ (mr t v w q0 q1 q2 r).abs) ∧ (∀ i, i < r → (mr t v w q0 q1 q2 i).abs < (mr t v w q0 q1 q2 r).abs) ∧ (hK f t v w K).abs < (mr t v w q0 q1 q2 r).abs ∧ Nx f K r nx ∧ ((par = 0 ∧ (0 ≤ hK f t v w K ∧ 0 < mr t v w q0 q1 q2 r ∨ hK f t v w K < 0 ∧ mr t v w q0 q1 q2 r < 0)) ∨ (par = 1 ∧ (0 ≤ hK f t v w K ∧ mr t v w q0 q1 q2 r < 0 ∨ hK f t v w K < 0 ∧ 0 < mr t v w q0 q1 q2 r)))
theorem TurnQ.abs {f : Nat} {t v w : Nat → Int} {K : Nat → Nat} {q0 q1 q2 : Rat} (h : TurnQ f t v w K q0 q1 q2) : ∀ j, j ≤ f → (mr t v w q0 q1 q2 (K j)).abs = (hK f t v w K).abs := by
  intro j hj
  have e := sg_2 (h.2 j hj)
  rcases sgR j with ⟨-, q⟩ | ⟨-, q⟩
  · rw [e, q, Rat.one_mul]
  · rw [e, q, ← a_neg]
    congr 1
    grind
theorem TurnQ.z {f : Nat} {t v w : Nat → Int} {K : Nat → Nat} {q0 q1 q2 : Rat} (h : TurnQ f t v w K q0 q1 q2) : mr t v w q0 q1 q2 (K 0) = hK f t v w K := by
  have e := h.2 0 (by omega)
  rw [show ((sg1 0 : Int) : Rat) = 1 from rfl, Rat.one_mul] at e
  exact e
theorem SwOk.par {f n : Nat} {t v w : Nat → Int} {K : Nat → Nat} {q0 q1 q2 : Rat} {r nx par : Nat} (h : SwOk f n t v w K q0 q1 q2 r nx par) : par = 0 ∨ par = 1 := by
  rcases h.2.2.2.2.2 with z | z
  · exact Or.inl z.1
  · exact Or.inr z.1
section LV
variable {S : GS} {b : Nat} {t v w : Nat → Int} {K : Nat → Nat} {H B U : Nat → Int} {sq : Int32} {c0 c1 c2 d : Int} {f n : Nat}
theorem p_exch (h : LvAt S b t v w K H B U (nI n) (nI f) sq c0 c1 c2 d) (hR : Rw f n t v w) (hI : Inc f n K) (hP : PolOk c0 c1 c2 d) (hT : TurnQ f t v w K (Rat.divInt c0 d) (Rat.divInt c1 d) (Rat.divInt c2 d)) : (f_X2_exchange S b = some (0, S) ∧ Stay f n t v w K (Rat.divInt c0 d) (Rat.divInt c1 d) (Rat.divInt c2 d)) ∨ ∃ (r nx par : Nat) (S' : GS), f_X2_exchange S b = some (1, S') ∧ LvAt S' b t v w (swK f K r nx par) H B U (nI n) (nI f) sq c0 c1 c2 d ∧ Same S S' b 9 ∧ SwOk f n t v w K (Rat.divInt c0 d) (Rat.divInt c1 d) (Rat.divInt c2 d) r nx par := by
  have hn12 := hR.2.1
  have hd := hP.1
  have hf3 : f ≤ 3 := by have := hR.1; omega
  have hK0 := hI.1 0 (by omega)
  obtain ⟨r, r1, r2, r3, r4⟩ := p_far h hR hP (by omega)
  have bK := hR.ma hP hK0
  have br := hR.ma hP r1
  have hlow := p_low h (by omega) bK
  by_cases q : (ma t v w c0 c1 c2 d r).natAbs ≤ (ma t v w c0 c1 c2 d (K 0)).natAbs
  · refine Or.inl ⟨?_, fun i hi => ?_⟩
    · unfold f_X2_exchange
      rw [z_chk_t h.is, r2, z_bd_s, z_chk_t h.is, p_missA h (show r < 12 by omega), z_bd_s, p_absL (by omega), z_bd_s, z_chk_t h.is, hlow, z_bd_s, if_neg (by rw [j_cmpgt (by omega) (by omega) (by omega) (by omega)]; omega)]
    · rw [← hT.z, ma_mr hd, ma_mr hd, dv_ale hd]
      have := r3 i hi
      omega
  · have hg : (hK f t v w K).abs < (mr t v w (Rat.divInt c0 d) (Rat.divInt c1 d) (Rat.divInt c2 d) r).abs := by
      rw [← hT.z, ma_mr hd, ma_mr hd, dv_alt hd]
      omega
    have hne : ∀ j, j ≤ f → K j ≠ r := by
      intro j hj e
      have := hT.abs j hj
      rw [e] at this
      rw [this] at hg
      exact absurd hg Rat.lt_irrefl
    obtain ⟨nx, n1, n2⟩ := p_nx h hf3 hI hn12 r1 hne
    obtain ⟨par, p1, p2, p3⟩ := ex_par bK br (by omega)
    refine Or.inr ?_
    have main : ∃ S', f_X2_exchange S b = some (1, S') ∧ LvAt S' b t v w (swK f K r nx par) H B U (nI n) (nI f) sq c0 c1 c2 d ∧ Same S S' b 9 := by
      have hn2 := n2.1
      unfold f_X2_exchange
      rw [z_chk_t h.is, r2, z_bd_s, z_chk_t h.is, p_missA h (show r < 12 by omega), z_bd_s, p_absL (by omega), z_bd_s, z_chk_t h.is, hlow, z_bd_s, if_pos (by rw [j_cmpgt (by omega) (by omega) (by omega) (by omega)]; omega), h.r3, z_bd_s, show (0 : Int32) = nI 0 from rfl, h.dk (by omega), z_bd_s, z_chk_t h.is, p_missA h (by omega), z_bd_s, ← show (0 : Int32) = nI 0 from rfl, p2, n1, z_bd_s, h.gf, z_bd_s]
      unfold swK
      have hm : ∀ i, i < 13 → (nI i - nI i / 2 * 2 = nI par) = (i % 2 = par) := by
        intro i hi
        rw [n_m2 hi, n_eq (by omega) (by omega)]
      have e1 : 0 < nx → nI nx - 1 = nI (nx - 1) := fun z => by rw [show (1 : Int32) = nI 1 from rfl, n_sub z]
      have hz : (nI nx = (0 : Int32)) = (nx = 0) := by rw [show (0 : Int32) = nI 0 from rfl, n_eq (by omega) (by omega)]
      have hz2 : (nI nx ≤ (0 : Int32)) = (nx = 0) := by
        rw [show (0 : Int32) = nI 0 from rfl, n_le (by omega) (by omega)]
        apply propext
        omega
      have hlt : (nI f < nI nx) = (f < nx) := n_lt (by omega) (by omega)
      simp only [hz, hz2, hlt]
      by_cases c1 : f < nx
      · rw [if_pos c1, if_neg (show ¬ nx = 0 by omega), if_neg (show ¬ (nx ≤ f ∧ nx % 2 = par) by omega), e1 (by omega)]
        by_cases c2 : (nx - 1) % 2 = par
        · rw [if_pos (show 0 < nx ∧ (nx - 1) % 2 = par from ⟨by omega, c2⟩), if_pos (by rw [hm _ (by omega)]; exact c2)]
          obtain ⟨S1, k1, h1, s1⟩ := h.wk (i := nx - 1) (by omega) r
          exact ⟨S1, by rw [z_bd_s, k1, z_bd_s], h1, s1⟩
        · rw [if_neg (show ¬ (0 < nx ∧ (nx - 1) % 2 = par) from fun z => c2 z.2), if_neg (show ¬ nx = 0 by omega), if_neg (by rw [hm _ (by omega)]; exact c2), if_neg (show ¬ nx = 0 by omega), z_chk_t h.is]
          obtain ⟨S1, k1, h1, s1⟩ := p_last h hf3 r
          exact ⟨S1, by rw [k1, z_bd_s], h1, s1⟩
      · rw [if_neg c1]
        by_cases c2 : nx % 2 = par
        · rw [if_pos (show nx ≤ f ∧ nx % 2 = par from ⟨by omega, c2⟩), if_pos (by rw [hm _ (by omega)]; exact c2)]
          obtain ⟨S1, k1, h1, s1⟩ := h.wk (i := nx) (by omega) r
          exact ⟨S1, by rw [z_bd_s, k1, z_bd_s], h1, s1⟩
        · rw [if_neg (show ¬ (nx ≤ f ∧ nx % 2 = par) from fun z => c2 z.2), if_neg (show ¬ nI nx - nI nx / 2 * 2 = nI par by rw [hm _ (by omega)]; exact c2)]
          by_cases c3 : nx = 0
          · rw [if_pos c3, if_pos c3, if_neg (show ¬ (0 < nx ∧ (nx - 1) % 2 = par) by omega), if_pos c3, z_chk_t h.is]
            obtain ⟨S1, k1, h1, s1⟩ := p_first h hf3 r
            exact ⟨S1, by rw [k1, z_bd_s], h1, s1⟩
          · have c4 : (nx - 1) % 2 = par := by
              rcases Nat.decEq ((nx - 1) % 2) par with z | z
              · exact (sw_par p1 (by omega) c2 z).elim
              · exact z
            rw [if_neg c3, e1 (by omega), if_pos (show 0 < nx ∧ (nx - 1) % 2 = par from ⟨by omega, c4⟩), if_pos (by rw [hm _ (by omega)]; exact c4)]
            obtain ⟨S1, k1, h1, s1⟩ := h.wk (i := nx - 1) (by omega) r
            exact ⟨S1, by rw [z_bd_s, k1, z_bd_s], h1, s1⟩
    obtain ⟨S', k1, k2, k3⟩ := main
    refine ⟨r, nx, par, S', k1, k2, k3, r1, fun i hi => ?_, fun i hi => ?_, hg, n2, ?_⟩
    · rw [ma_mr hd, ma_mr hd, dv_ale hd]; exact r3 i hi
    · rw [ma_mr hd, ma_mr hd, dv_alt hd]; exact r4 i hi
    · rw [← hT.z, ma_mr hd, ma_mr hd]
      have z1 : ∀ x : Int, (0 ≤ Rat.divInt x d) = (0 ≤ x) := fun x => by rw [← dv_0 d]; exact propext (dv_le hd)
      have z2 : ∀ x : Int, (0 < Rat.divInt x d) = (0 < x) := fun x => by rw [← dv_0 d]; exact propext (dv_lt hd)
      have z3 : ∀ x : Int, (Rat.divInt x d < 0) = (x < 0) := fun x => by rw [← dv_0 d]; exact propext (dv_lt hd)
      simp only [z1, z2, z3]
      exact p3
end LV
/-- m swaps in a row -/
def SwN (f n : Nat) (t v w : Nat → Int) : Nat → (Nat → Nat) → (Nat → Nat) → Prop
  | 0, K, K' => K' = K
  | m + 1, K, K' => ∃ (q0 q1 q2 : Rat) (r nx par : Nat), TurnQ f t v w K q0 q1 q2 ∧ SwOk f n t v w K q0 q1 q2 r nx par ∧ SwN f n t v w m (swK f K r nx par) K'
theorem Inc.k12 {f n : Nat} {K : Nat → Nat} {t v w : Nat → Int} (h : Inc f n K) (hR : Rw f n t v w) : Inc f 12 K := ⟨fun j hj => by have := h.1 j hj; have := hR.2.1; omega, h.2⟩
section LV
variable {b : Nat} {t v w : Nat → Int} {sq : Int32} {f n : Nat}
/-- turns solved -/
def Solved (S : GS) (b f n : Nat) (t v w : Nat → Int) (sq : Int32) (K : Nat → Nat) (c0 c1 c2 d : Int) : Prop := (∃ H B U : Nat → Int, LvAt S b t v w K H B U (nI n) (nI f) sq c0 c1 c2 d) ∧ Inc f n K ∧ PolOk c0 c1 c2 d ∧ gc4 c0 c1 c2 d = 1 ∧ TurnQ f t v w K (Rat.divInt c0 d) (Rat.divInt c1 d) (Rat.divInt c2 d)
theorem p_solve2 {S : GS} {K : Nat → Nat} {H B U : Nat → Int} {c0 c1 c2 d : Int} (h : LvAt S b t v w K H B U (nI n) (nI f) sq c0 c1 c2 d) (hR : Rw f n t v w) (hI : Inc f n K) : ∃ (S' : GS) (x0 x1 x2 y : Int), f_X2_solve S b = some S' ∧ Same S S' b 9 ∧ Solved S' b f n t v w sq K x0 x1 x2 y := by
  obtain ⟨S', H', B', U', x0, x1, x2, y, e1, e2, e3, e4, e5, e6⟩ := p_solve h hR.1 (fun j hj => by have := hI.1 j hj; have := hR.2.1; omega) (hI.upw hR) (hI.bds hR)
  exact ⟨S', x0, x1, x2, y, e1, e3, ⟨H', B', U', e2⟩, hI, e4, e5, e6⟩
theorem p_settle (hR : Rw f n t v w) : ∀ (g c : Nat) (S : GS) (K : Nat → Nat) (c0 c1 c2 d : Int), phi f t v w (hK f t v w K).abs ≤ g → c + g ≤ 900 → Solved S b f n t v w sq K c0 c1 c2 d → ∃ (S' : GS) (m : Nat) (K' : Nat → Nat) (x0 x1 x2 y : Int), z_lp (fun x => f_X2_settle_L2 b x.1 x.2) (nI c, S) = some (.inl (nI (c + m), S')) ∧ m ≤ g ∧ Same S S' b 9 ∧ Solved S' b f n t v w sq K' x0 x1 x2 y ∧ Stay f n t v w K' (Rat.divInt x0 y) (Rat.divInt x1 y) (Rat.divInt x2 y) ∧ SwN f n t v w m K K' := by
  intro g
  induction g with
  | zero =>
    intro c S K c0 c1 c2 d hg hc hS
    obtain ⟨⟨H, B, U, h⟩, hI, hP, hG, hT⟩ := id hS
    rcases p_exch h hR hI hP hT with ⟨e1, e2⟩ | ⟨r, nx, par, S1, e1, e2, e3, e4⟩
    · refine ⟨S, 0, K, c0, c1, c2, d, z_lp_x ?_, Nat.le_refl _, Same.rf, hS, e2, rfl⟩
      show f_X2_settle_L2 b (nI c) S = _
      unfold f_X2_settle_L2
      rw [show (1000 : Int32) = nI 1000 from rfl, if_neg (by rw [n_le (by omega) (by omega)]; omega), z_chk_t h.is, e1, z_bd2_s, if_pos rfl]
      rfl
    · have hl := sw_low hR hI e4.1 e4.2.2.2.2.1 hT.1 hT.2 e4.2.2.2.1 e4.2.2.2.2.2
      have hp := phi_lt hR.1 ((sw_inc hI e4.1 e4.2.2.2.2.1 e4.par).k12 hR) hl
      omega
  | succ g ih =>
    intro c S K c0 c1 c2 d hg hc hS
    obtain ⟨⟨H, B, U, h⟩, hI, hP, hG, hT⟩ := id hS
    rcases p_exch h hR hI hP hT with ⟨e1, e2⟩ | ⟨r, nx, par, S1, e1, e2, e3, e4⟩
    · refine ⟨S, 0, K, c0, c1, c2, d, z_lp_x ?_, Nat.zero_le _, Same.rf, hS, e2, rfl⟩
      show f_X2_settle_L2 b (nI c) S = _
      unfold f_X2_settle_L2
      rw [show (1000 : Int32) = nI 1000 from rfl, if_neg (by rw [n_le (by omega) (by omega)]; omega), z_chk_t h.is, e1, z_bd2_s, if_pos rfl]
      rfl
    · have hI1 := sw_inc hI e4.1 e4.2.2.2.2.1 e4.par
      have hl := sw_low hR hI e4.1 e4.2.2.2.2.1 hT.1 hT.2 e4.2.2.2.1 e4.2.2.2.2.2
      have hp := phi_lt hR.1 (hI1.k12 hR) hl
      obtain ⟨S2, x0, x1, x2, y, k1, k2, k3⟩ := p_solve2 e2 hR hI1
      obtain ⟨S', m, K', y0, y1, y2, y3, m1, m2, m3, m4, m5, m6⟩ := ih (c + 1) S2 _ x0 x1 x2 y (by omega) (by omega) k3
      refine ⟨S', m + 1, K', y0, y1, y2, y3, ?_, by omega, (e3.tr k2).tr m3, m4, m5, _, _, _, r, nx, par, hT, e4, m6⟩
      rw [show c + (m + 1) = c + 1 + m by omega, ← m1]
      apply z_lp_n
      show f_X2_settle_L2 b (nI c) S = _
      unfold f_X2_settle_L2
      rw [show (1000 : Int32) = nI 1000 from rfl, if_neg (by rw [n_le (by omega) (by omega)]; omega), z_chk_t h.is, e1, z_bd2_s, if_neg (by decide), z_chk_t e2.is, k1, z_bd_s, show nI c + 1 = nI (c + 1) from n_add c 1]
theorem p_settled (hR : Rw f n t v w) {S : GS} {K : Nat → Nat} {c0 c1 c2 d : Int} (hS : Solved S b f n t v w sq K c0 c1 c2 d) : ∃ (S' : GS) (m : Nat) (K' : Nat → Nat) (x0 x1 x2 y : Int), f_X2_settle S b = some (nI m, S') ∧ m ≤ 495 ∧ Same S S' b 9 ∧ Solved S' b f n t v w sq K' x0 x1 x2 y ∧ Stay f n t v w K' (Rat.divInt x0 y) (Rat.divInt x1 y) (Rat.divInt x2 y) ∧ SwN f n t v w m K K' := by
  have hp := phi_le hR.1 t v w (hK f t v w K).abs
  obtain ⟨S', m, K', x0, x1, x2, y, e1, e2, e3⟩ := p_settle hR 495 0 S K c0 c1 c2 d hp (by omega) hS
  refine ⟨S', m, K', x0, x1, x2, y, ?_, e2, e3⟩
  unfold f_X2_settle
  rw [show (0 : Int32) = nI 0 from rfl, e1, z_bs_l, Nat.zero_add]
end LV
