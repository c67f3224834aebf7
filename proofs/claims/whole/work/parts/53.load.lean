/-! the class's Leveller: load, levelRow, takeTurns, turnBits, levelIsAtMost, hand -/
def FObj (S : GS) (a : Nat) (num kd dg pc : Int32) : Prop := S.1 a = some (e_o 1 [.int num, .int kd, .int dg, .ref (a + 1), .ref (a + 5), .ref (a + 6), .int pc])
def nd (kd p : Int32) : Int := if kd = 2 then p.toInt * p.toInt else p.toInt
def sqI (kd : Int32) : Int32 := if kd = 2 then 1 else 0
section FO
variable {S : GS} {a : Nat} {num kd dg pc : Int32}
theorem FObj.is (h : FObj S a num kd dg pc) : g_is S 1 a := g_is_e h
theorem FObj.i0 (h : FObj S a num kd dg pc) : g_i S 1 0 a = some num := g_i_e h rfl
theorem FObj.i1 (h : FObj S a num kd dg pc) : g_i S 1 1 a = some kd := g_i_e h rfl
theorem FObj.i2 (h : FObj S a num kd dg pc) : g_i S 1 2 a = some dg := g_i_e h rfl
theorem FObj.i6 (h : FObj S a num kd dg pc) : g_i S 1 6 a = some pc := g_i_e h rfl
theorem FObj.r3 (h : FObj S a num kd dg pc) : g_r S 1 3 a = some (a + 1) := g_r_e h rfl
theorem FObj.r4 (h : FObj S a num kd dg pc) : g_r S 1 4 a = some (a + 5) := g_r_e h rfl
theorem FObj.r5 (h : FObj S a num kd dg pc) : g_r S 1 5 a = some (a + 6) := g_r_e h rfl
theorem FObj.same {S' : GS} {c m : Nat} (h : FObj S a num kd dg pc) (hs : Same S S' c m) (hd : a + 1 ≤ c ∨ c + m ≤ a) : FObj S' a num kd dg pc := (hs.2 _ (by omega)).trans h
theorem FObj.free (h : FObj S a num kd dg pc) : f_X1_freeNumbers S a = some (if kd = 2 then 2 else dg + 1) := by
  unfold f_X1_freeNumbers
  rw [h.i1, z_bd_s, h.i2, z_bd_s]
  by_cases q : kd = 2
  · rw [if_pos q, if_pos q]
  · rw [if_neg q, if_neg q]
end FO
theorem p_min {x y : Nat} (hx : x < 2147483648) (hy : y < 2147483648) : f_J9_min_7cf53 (nI x) (nI y) = some (nI (min x y)) := by
  unfold f_J9_min_7cf53
  by_cases q : y < x
  · rw [if_pos (by rw [n_lt hy hx]; exact q)]
    congr 2
    omega
  · rw [if_neg (by rw [n_lt hy hx]; exact q)]
    congr 2
    omega
section LD
variable {a b n : Nat} {P V Z : Nat → Int32} {num kd dg pc : Int32}
/-- the row of points from .. is loaded -/
def Ld (kd : Int32) (P V Z : Nat → Int32) (fr m : Nat) (t v w : Nat → Int) : Prop := ∀ j, j < m → t j = nd kd (P (fr + j)) ∧ v j = (V (fr + j)).toInt ∧ w j = (Z (fr + j)).toInt
theorem p_load_lp (hd : a + 5 ≤ b ∨ b + 9 ≤ a) (hn : n ≤ 12) {fr to : Nat} (hto : to ≤ n) {K : Nat → Nat} {H B U : Nat → Int} {fN : Int32} {c0 c1 c2 d : Int} : ∀ (k i : Nat) (S : GS) (t v w : Nat → Int), i + k = to → fr ≤ i → FObj S a num kd dg pc → PtsAt S (a + 1) n P V Z → LvAt S b t v w K H B U (nI (i - fr)) fN (sqI kd) c0 c1 c2 d → Ld kd P V Z fr (i - fr) t v w → ∃ (S' : GS) (t' v' w' : Nat → Int), z_lp (fun x => f_X2_load_L33 a (nI to) b x.1 x.2) (nI i, S) = some S' ∧ LvAt S' b t' v' w' K H B U (nI (to - fr)) fN (sqI kd) c0 c1 c2 d ∧ Same S S' b 9 ∧ Ld kd P V Z fr (to - fr) t' v' w' := by
  intro k
  induction k with
  | zero =>
    intro i S t v w hi hfi hF hp h hL
    rw [show i = to by omega] at h hL ⊢
    refine ⟨S, t, v, w, z_lp_x ?_, h, Same.rf, hL⟩
    show f_X2_load_L33 a (nI to) b (nI to) S = _
    unfold f_X2_load_L33
    rw [if_pos (by rw [n_le (by omega) (by omega)]; omega)]
  | succ k ih =>
    intro i S t v w hi hfi hF hp h hL
    obtain ⟨S1, k1, h1, s1⟩ := h.wt (i := i - fr) (by omega) (nd kd (P i))
    obtain ⟨S2, k2, h2, s2⟩ := h1.wv (i := i - fr) (by omega) (V i).toInt
    obtain ⟨S3, k3, h3, s3⟩ := h2.ww (i := i - fr) (by omega) (Z i).toInt
    obtain ⟨S4, k4, h4, s4⟩ := h3.ps (nI (i - fr) + 1)
    have e1 : nI (i - fr) + 1 = nI (i + 1 - fr) := by rw [show (1 : Int32) = nI 1 from rfl, n_add]; congr 1; omega
    rw [e1] at h4 k4
    have hs := ((s1.tr s2).tr s3).tr s4
    have hF1 := hF.same s1 (by omega)
    have hF2 := hF1.same s2 (by omega)
    have hF3 := hF2.same s3 (by omega)
    have hp1 := hp.same s1 (by omega)
    have hp2 := hp1.same s2 (by omega)
    obtain ⟨S', t', v', w', r1, r2, r3, r4⟩ := ih (i + 1) S4 _ _ _ (by omega) (by omega) (hF3.same s4 (by omega)) ((hp2.same s3 (by omega)).same s4 (by omega)) h4 (by
      intro j hj
      by_cases q : j = i - fr
      · rw [q, updZ_s, updZ_s, updZ_s, show fr + (i - fr) = i by omega]
        exact ⟨rfl, rfl, rfl⟩
      · rw [updZ_n _ q, updZ_n _ q, updZ_n _ q]
        exact hL j (by omega))
    refine ⟨S', t', v', w', ?_, r2, hs.tr r3, r4⟩
    rw [← r1]
    apply z_lp_n
    show f_X2_load_L33 a (nI to) b (nI i) S = _
    have hv : (if sqI kd = 0 then some ((P i).toInt64) else some ((P i).toInt64 * (P i).toInt64)) = some (jI (nd kd (P i))) := by
      unfold sqI nd
      rw [z_i64]
      by_cases q : kd = 2
      · rw [if_pos q, if_neg (by decide), if_pos q, j_mul]
      · rw [if_neg q, if_pos rfl, if_neg q]
    unfold f_X2_load_L33
    rw [if_neg (by rw [n_le (by omega) (by omega)]; omega), hF.r3, z_bd_s, z_chk_t hp.is, p_hasN hp hn (by omega), z_bd_s, if_pos (show i < n by omega), if_neg z_10, h.gs, z_bd_s, show (12 : Int32) = nI 12 from rfl, if_neg (by rw [n_le (by omega) (by omega)]; omega), z_bd_s, hp.r0, z_bd_s, hp.d0 (by omega), z_bd_s, h.r0, z_bd_s, z_bd_s, h.gq, z_bd_s, hv, z_bd_s, k1, z_bd_s, h1.r1, z_bd_s, h1.gs, z_bd_s, hF1.r3, z_bd_s, hp1.r1, z_bd_s, hp1.d1 (by omega), z_bd_s, z_i64, k2, z_bd_s, h2.r2, z_bd_s, h2.gs, z_bd_s, hF2.r3, z_bd_s, hp2.r2, z_bd_s, hp2.d2 (by omega), z_bd_s, z_i64, k3, z_bd_s, h3.gs, z_bd_s, e1, k4, z_bd_s, show nI i + 1 = nI (i + 1) from n_add i 1]
/-- how many free numbers -/
def frN (kd dg : Int32) (f : Nat) : Prop := (if kd = 2 then (2 : Int32) else dg + 1) = nI f
theorem p_load {S : GS} {t v w : Nat → Int} {K : Nat → Nat} {H B U : Nat → Int} {sz fN sq : Int32} {c0 c1 c2 d : Int} (hd : a + 5 ≤ b ∨ b + 9 ≤ a) (hn : n ≤ 12) {fr to f : Nat} (hto : to ≤ n) (hfr : fr ≤ to) (hF : FObj S a num kd dg pc) (hp : PtsAt S (a + 1) n P V Z) (hf : frN kd dg f) (h : LvAt S b t v w K H B U sz fN sq c0 c1 c2 d) : ∃ (S' : GS) (t' v' w' : Nat → Int), f_X2_load S b a (nI fr) (nI to) = some S' ∧ LvAt S' b t' v' w' K H B U (nI (to - fr)) (nI f) (sqI kd) c0 c1 c2 d ∧ Same S S' b 9 ∧ Ld kd P V Z fr (to - fr) t' v' w' := by
  obtain ⟨S1, k1, h1, s1⟩ := h.pf (nI f)
  obtain ⟨S2, k2, h2, s2⟩ := h1.pq (sqI kd)
  obtain ⟨S3, k3, h3, s3⟩ := h2.ps 0
  have hF1 := hF.same s1 (by omega)
  have hF3 := (hF1.same s2 (by omega)).same s3 (by omega)
  have hp3 := ((hp.same s1 (by omega)).same s2 (by omega)).same s3 (by omega)
  rw [show (0 : Int32) = nI (fr - fr) by rw [Nat.sub_self]; rfl] at h3
  obtain ⟨S', t', v', w', r1, r2, r3, r4⟩ := p_load_lp hd hn hto (to - fr) fr S3 t v w (by omega) (Nat.le_refl _) hF3 hp3 h3 (fun j hj => by omega)
  refine ⟨S', t', v', w', ?_, r2, ((s1.tr s2).tr s3).tr r3, r4⟩
  have hv : (if kd = (2 : Int32) then some ((1 : Int32)) else some ((0 : Int32))) = some (sqI kd) := by
    unfold sqI
    by_cases q : kd = 2
    · rw [if_pos q, if_pos q]
    · rw [if_neg q, if_neg q]
  have hc : sqI kd = 0 ∨ sqI kd = 1 := by
    unfold sqI
    by_cases q : kd = 2
    · rw [if_pos q]; exact Or.inr rfl
    · rw [if_neg q]; exact Or.inl rfl
  unfold f_X2_load
  rw [z_chk_t hF.is, hF.free, z_bd_s, show (if kd = 2 then (2 : Int32) else dg + 1) = nI f from hf, k1, z_bd_s, hF1.i1, z_bd_s, hv, z_bd_s, z_chk_t hc, k2, z_bd_s, k3, z_bd_s, r1, z_bd_s]
/-- the points of a row are well -/
def PtsEv (kd : Int32) (n : Nat) (P : Nat → Int32) : Prop := kd = 2 → ∀ i, i < n → 0 ≤ P i
theorem i_rng {x lo hi : Int32} {l h : Int} (h1 : lo ≤ x) (h2 : x ≤ hi) (e1 : lo.toInt = l) (e2 : hi.toInt = h) : l ≤ x.toInt ∧ x.toInt ≤ h := by
  rw [Int32.le_iff_toInt_le] at h1 h2
  omega
theorem PtsOk.rg (h : PtsOk n P V Z) {i : Nat} (hi : i < n) : (-12 ≤ (P i).toInt ∧ (P i).toInt ≤ 12) ∧ (-60 ≤ (V i).toInt ∧ (V i).toInt ≤ 60) ∧ (1 ≤ (Z i).toInt ∧ (Z i).toInt ≤ 4) := by
  obtain ⟨⟨a1, a2⟩, ⟨b1, b2⟩, ⟨c1, c2⟩⟩ := h.2.1 i hi
  exact ⟨i_rng a1 a2 (by decide) (by decide), i_rng b1 b2 (by decide) (by decide), i_rng c1 c2 (by decide) (by decide)⟩
theorem Ld.rw {f fr m : Nat} {t v w : Nat → Int} (h : Ld kd P V Z fr m t v w) (hO : PtsOk n P V Z) (hE : PtsEv kd n P) (hm : fr + m ≤ n) (hf : f = 1 ∨ f = 2 ∨ f = 3) (hk : kd = 2 → f = 2) : Rw f m t v w := by
  have hn := hO.1
  refine ⟨hf, by omega, fun i hi => ?_, fun i j hij hj => ?_⟩
  · obtain ⟨e1, e2, e3⟩ := h i hi
    obtain ⟨r1, r2, r3⟩ := hO.rg (i := fr + i) (by omega)
    rw [e1, e2, e3]
    refine ⟨by omega, r3, ?_, fun q => ?_⟩
    · unfold nd
      by_cases q : kd = 2
      · rw [if_pos q]
        exact b_mul (B := 12) (C := 12) (by omega) (by omega)
      · rw [if_neg q]; omega
    · unfold nd
      rw [if_neg (fun z => by have := hk z; omega)]
      omega
  · rw [(h i (by omega)).1, (h j hj).1]
    have hlt := hO.2.2 (fr + i) (fr + j) (by omega) (by omega)
    rw [Int32.lt_iff_toInt_lt] at hlt
    unfold nd
    by_cases q : kd = 2
    · rw [if_pos q, if_pos q]
      have h0 := hE q (fr + i) (by omega)
      rw [Int32.le_iff_toInt_le] at h0
      have e0 : (0 : Int32).toInt = 0 := by decide
      rw [e0] at h0
      have a1 : (P (fr + i)).toInt * (P (fr + i)).toInt ≤ (P (fr + i)).toInt * (P (fr + j)).toInt := Int.mul_le_mul_of_nonneg_left (by omega) h0
      have a2 : (P (fr + i)).toInt * (P (fr + j)).toInt < (P (fr + j)).toInt * (P (fr + j)).toInt := Int.mul_lt_mul_of_pos_right hlt (by omega)
      omega
    · rw [if_neg q, if_neg q]
      exact hlt
end LD
section LV
variable {b : Nat} {t v w : Nat → Int} {sq : Int32} {f n : Nat}
theorem p_pick_lp {S : GS} {H B U : Nat → Int} {sz fr : Int32} {c0 c1 c2 d : Int} {m : Nat} (hm : m ≤ 4) : ∀ (k i : Nat) (S : GS) (K : Nat → Nat), i + k = m → LvAt S b t v w K H B U sz fr sq c0 c1 c2 d → (∀ j, j < i → K j = j) → ∃ (S' : GS) (K' : Nat → Nat), z_lp (fun x => f_X2_levelRow_L25 b (nI m) x.1 x.2) (nI i, S) = some S' ∧ LvAt S' b t v w K' H B U sz fr sq c0 c1 c2 d ∧ Same S S' b 9 ∧ ∀ j, j < m → K' j = j := by
  intro k
  induction k with
  | zero =>
    intro i S K hi h hK
    refine ⟨S, K, z_lp_x ?_, h, Same.rf, fun j hj => hK j (by omega)⟩
    show f_X2_levelRow_L25 b (nI m) (nI i) S = _
    unfold f_X2_levelRow_L25
    rw [if_pos (by rw [n_le (by omega) (by omega)]; omega)]
  | succ k ih =>
    intro i S K hi h hK
    obtain ⟨S1, k1, h1, s1⟩ := h.wk (i := i) (by omega) i
    obtain ⟨S', K', r1, r2, r3, r4⟩ := ih (i + 1) S1 _ (by omega) h1 (by
      intro j hj
      by_cases q : j = i
      · rw [q, updN_s]
      · rw [updN_n _ q]; exact hK j (by omega))
    refine ⟨S', K', ?_, r2, s1.tr r3, r4⟩
    rw [← r1]
    apply z_lp_n
    show f_X2_levelRow_L25 b (nI m) (nI i) S = _
    unfold f_X2_levelRow_L25
    rw [if_neg (by rw [n_le (by omega) (by omega)]; omega), show (4 : Int32) = nI 4 from rfl, if_neg (by rw [n_le (by omega) (by omega)]; omega), h.r3, z_bd_s, k1, z_bd_s, show nI i + 1 = nI (i + 1) from n_add i 1]
/-- the row's polynomial of the least level stands in the Leveller -/
def Levelled (S : GS) (b f n : Nat) (t v w : Nat → Int) (sq : Int32) (c0 c1 c2 d : Int) : Prop := PolOk c0 c1 c2 d ∧ gc4 c0 c1 c2 d = 1 ∧ ∃ K : Nat → Nat, (∃ H B U : Nat → Int, LvAt S b t v w K H B U (nI n) (nI f) sq c0 c1 c2 d) ∧ ((n ≤ f ∧ PassP n t v c0 c1 c2 d) ∨ (f < n ∧ Inc f n K ∧ TurnQ f t v w K (Rat.divInt c0 d) (Rat.divInt c1 d) (Rat.divInt c2 d) ∧ Stay f n t v w K (Rat.divInt c0 d) (Rat.divInt c1 d) (Rat.divInt c2 d)))
theorem p_levelRow {a m : Nat} {P V Z : Nat → Int32} {num kd dg pc : Int32} {S : GS} {K : Nat → Nat} {H B U : Nat → Int} {t0 v0 w0 : Nat → Int} {sz fN sq0 : Int32} {c0 c1 c2 d : Int} (hd : a + 5 ≤ b ∨ b + 9 ≤ a) {fr to : Nat} (hto : to ≤ m) (hfr : fr ≤ to) (hF : FObj S a num kd dg pc) (hp : PtsAt S (a + 1) m P V Z) (hO : PtsOk m P V Z) (hE : PtsEv kd m P) (hf : frN kd dg f) (hf3 : f = 1 ∨ f = 2 ∨ f = 3) (hk : kd = 2 → f = 2) (h : LvAt S b t0 v0 w0 K H B U sz fN sq0 c0 c1 c2 d) : ∃ (S' : GS) (t v w : Nat → Int) (x0 x1 x2 y : Int), f_X2_levelRow S b a (nI fr) (nI to) = some S' ∧ Same S S' b 9 ∧ Ld kd P V Z fr (to - fr) t v w ∧ Levelled S' b f (to - fr) t v w (sqI kd) x0 x1 x2 y := by
  have hm12 := hO.1
  obtain ⟨S1, t, v, w, l1, l2, l3, l4⟩ := p_load hd hO.1 hto hfr hF hp hf h
  have hR := l4.rw hO hE (by omega) hf3 hk
  have hmin : min (to - fr) (f + 1) ≤ 4 := by omega
  obtain ⟨S2, K2, k1, k2, k3, k4⟩ := p_pick_lp (m := min (to - fr) (f + 1)) (S := S1) hmin _ 0 S1 K (Nat.zero_add _) l2 (fun j hj => by omega)
  have head : f_X2_levelRow S b a (nI fr) (nI to) = (if nI (to - fr) ≤ nI f then z_chk (g_is S2 2 b) (z_bd (f_X2_passThroughAll S2 b ) fun S_12 => some S_12) else z_chk (g_is S2 2 b) (z_bd (f_X2_solve S2 b ) fun S_13 => z_chk (g_is S_13 2 b) (z_bd2 (f_X2_settle S_13 b ) fun r_15 S_14 => some S_14))) := by
    unfold f_X2_levelRow
    rw [z_chk_t h.is, l1, z_bd_s, l2.gs, z_bd_s, l2.gf, z_bd_s, show (1 : Int32) = nI 1 from rfl, n_add, p_min (by omega) (by omega), z_bd_s, show (0 : Int32) = nI 0 from rfl, k1, z_bd_s, k2.gs, z_bd_s, k2.gf, z_bd_s]
  by_cases q : to - fr ≤ f
  · obtain ⟨S3, H3, B3, U3, x0, x1, x2, y, e1, e2, e3, e4, e5, e6⟩ := p_pass k2 (by omega) (fun j hj => k4 j (by omega)) hR.2.2.2 (fun i hi => by
      obtain ⟨z1, z2, z3, z4⟩ := hR.2.2.1 i hi
      exact ⟨z1, z3, fun z => z4 (by omega)⟩)
    refine ⟨S3, t, v, w, x0, x1, x2, y, ?_, (l3.tr k3).tr e3, l4, e4, e5, K2, ⟨H3, B3, U3, e2⟩, Or.inl ⟨q, e6⟩⟩
    rw [head, if_pos (by rw [n_le (by omega) (by omega)]; exact q), z_chk_t k2.is, e1, z_bd_s]
  · have hI : Inc f (to - fr) K2 := ⟨fun j hj => by rw [k4 j (by omega)]; omega, fun j hj => by rw [k4 j (by omega), k4 (j + 1) (by omega)]; omega⟩
    obtain ⟨S3, x0, x1, x2, y, e1, e2, e3⟩ := p_solve2 k2 hR hI
    obtain ⟨S4, mm, K4, y0, y1, y2, y3, f1, f2, f3, f4, f5, f6⟩ := p_settled hR e3
    obtain ⟨⟨H3, B3, U3, e4⟩, -⟩ := id e3
    obtain ⟨g1, g2, g3, g4, g5⟩ := f4
    refine ⟨S4, t, v, w, y0, y1, y2, y3, ?_, ((l3.tr k3).tr e2).tr f3, l4, g3, g4, K4, g1, Or.inr ⟨by omega, g2, g5, f5⟩⟩
    rw [head, if_neg (by rw [n_le (by omega) (by omega)]; exact q), z_chk_t k2.is, e1, z_bd_s, z_chk_t e4.is, f1, z_bd2_s]
theorem p_take_lp {H B U : Nat → Int} {fr : Int32} {c0 c1 c2 d : Int} {bb n : Nat} (hb : bb < 4096) (hn : n ≤ 12) (hc : pcn bb n ≤ 4) : ∀ (k i p : Nat) (S : GS) (K : Nat → Nat), i + k = n → LvAt S b t v w K H B U (nI n) fr sq c0 c1 c2 d → Enum bb i p K → ∃ (S' : GS) (K' : Nat → Nat), z_lp (fun x => f_X2_takeTurns_L18 (nI bb) b x.1 x.2.1 x.2.2) (nI p, nI i, S) = some S' ∧ LvAt S' b t v w K' H B U (nI n) fr sq c0 c1 c2 d ∧ Same S S' b 9 ∧ Enum bb n (pcn bb n) K' := by
  have mono : ∀ (i j : Nat), i ≤ j → pcn bb i ≤ pcn bb j := by
    intro i j hij
    induction hij with
    | refl => exact Nat.le_refl _
    | step _ ih => rw [pcn]; omega
  intro k
  induction k with
  | zero =>
    intro i p S K hi h hE
    rw [show i = n by omega] at hE ⊢
    have hp := hE.2.2.2
    refine ⟨S, K, z_lp_x ?_, h, Same.rf, by rw [← hp]; exact hE⟩
    show f_X2_takeTurns_L18 (nI bb) b (nI p) (nI n) S = _
    unfold f_X2_takeTurns_L18
    rw [h.gs, z_bd_s, if_pos (by rw [n_le (by omega) (by omega)]; omega)]
  | succ k ih =>
    intro i p S K hi h hE
    have hp := hE.2.2.2
    have hm1 := mono i n (by omega)
    by_cases q4 : p = 4
    · -- all are found
      have hfin : ∀ j, i ≤ j → j ≤ n → Enum bb j p K := by
        intro j hij
        induction hij with
        | refl => intro _; exact hE
        | @step j hij ih2 =>
          intro hj
          have h3 := ih2 (by omega)
          refine h3.s0 (fun z => ?_)
          have h4 := (h3.s1 z).2.2.2
          have h5 := mono (j + 1) n hj
          omega
      have hE2 := hfin n (by omega) (Nat.le_refl _)
      refine ⟨S, K, z_lp_x ?_, h, Same.rf, by rw [← hE2.2.2.2]; exact hE2⟩
      show f_X2_takeTurns_L18 (nI bb) b (nI p) (nI i) S = _
      unfold f_X2_takeTurns_L18
      rw [h.gs, z_bd_s, if_neg (by rw [n_le (by omega) (by omega)]; omega), show (4 : Int32) = nI 4 from rfl, if_pos (by rw [n_le (by omega) (by omega)]; omega)]
    · have hp4 : p < 4 := by omega
      by_cases q : bb.testBit i = true
      · obtain ⟨S1, k1, h1, s1⟩ := h.wk (i := p) hp4 i
        obtain ⟨S', K', r1, r2, r3, r4⟩ := ih (i + 1) (p + 1) S1 _ (by omega) h1 (hE.s1 q)
        refine ⟨S', K', ?_, r2, s1.tr r3, r4⟩
        rw [← r1]
        apply z_lp_n
        show f_X2_takeTurns_L18 (nI bb) b (nI p) (nI i) S = _
        unfold f_X2_takeTurns_L18
        rw [h.gs, z_bd_s, if_neg (by rw [n_le (by omega) (by omega)]; omega), show (4 : Int32) = nI 4 from rfl, if_neg (by rw [n_le (by omega) (by omega)]; omega), if_pos (by rw [bt_has hb (by omega)]; exact q), h.r3, z_bd_s, k1, z_bd_s, show nI p + 1 = nI (p + 1) from n_add p 1, show nI i + 1 = nI (i + 1) from n_add i 1]
      · obtain ⟨S', K', r1, r2, r3, r4⟩ := ih (i + 1) p S K (by omega) h (hE.s0 q)
        refine ⟨S', K', ?_, r2, r3, r4⟩
        rw [← r1]
        apply z_lp_n
        show f_X2_takeTurns_L18 (nI bb) b (nI p) (nI i) S = _
        unfold f_X2_takeTurns_L18
        rw [h.gs, z_bd_s, if_neg (by rw [n_le (by omega) (by omega)]; omega), show (4 : Int32) = nI 4 from rfl, if_neg (by rw [n_le (by omega) (by omega)]; omega), if_neg (by rw [bt_has hb (by omega)]; exact q), show nI i + 1 = nI (i + 1) from n_add i 1]
theorem p_takeTurns {a m bb : Nat} {P V Z : Nat → Int32} {num kd dg pc : Int32} {S : GS} {K : Nat → Nat} {H B U : Nat → Int} {t0 v0 w0 : Nat → Int} {sz fN sq0 : Int32} {c0 c1 c2 d : Int} (hd : a + 5 ≤ b ∨ b + 9 ≤ a) (hF : FObj S a num kd dg pc) (hp : PtsAt S (a + 1) m P V Z) (hO : PtsOk m P V Z) (hE : PtsEv kd m P) (hf : frN kd dg f) (hf3 : f = 1 ∨ f = 2 ∨ f = 3) (hk : kd = 2 → f = 2) (hb : bb < 2 ^ m) (hc : pcn bb 12 = f + 1) (h : LvAt S b t0 v0 w0 K H B U sz fN sq0 c0 c1 c2 d) : ∃ (S' : GS) (t v w : Nat → Int) (K' : Nat → Nat) (x0 x1 x2 y : Int), f_X2_takeTurns S b a (nI bb) = some S' ∧ Same S S' b 9 ∧ Ld kd P V Z 0 m t v w ∧ Enum bb m (f + 1) K' ∧ Solved S' b f m t v w (sqI kd) K' x0 x1 x2 y := by
  have hm12 := hO.1
  have hb12 : bb < 4096 := Nat.lt_of_lt_of_le hb (show 2 ^ _ ≤ 2 ^ 12 from Nat.pow_le_pow_right (by decide) hm12)
  have hcm : pcn bb m = f + 1 := by rw [← pcn_top hb 12 hm12]; exact hc
  obtain ⟨S1, t, v, w, l1, l2, l3, l4⟩ := p_load (fr := 0) hd hO.1 (Nat.le_refl m) (Nat.zero_le _) hF hp hf h
  rw [Nat.sub_zero] at l2 l4
  have hR := l4.rw hO hE (by omega) hf3 hk
  obtain ⟨S2, K2, k1, k2, k3, k4⟩ := p_take_lp hb12 hm12 (by omega) m 0 0 S1 K (by omega) l2 (Enum.z bb K)
  rw [hcm] at k4
  obtain ⟨S3, x0, x1, x2, y, e1, e2, e3⟩ := p_solve2 k2 hR k4.inc
  refine ⟨S3, t, v, w, K2, x0, x1, x2, y, ?_, (l3.tr k3).tr e2, l4, k4, e3⟩
  unfold f_X2_takeTurns
  rw [hF.r3, z_bd_s, hp.sz, z_bd_s, z_chk_t h.is, show (0 : Int32) = nI 0 from rfl, l1, z_bd_s, k1, z_bd_s, z_chk_t k2.is, e1, z_bd_s]
theorem p_turnBits {S : GS} {K : Nat → Nat} {H B U : Nat → Int} {sz : Int32} {c0 c1 c2 d : Int} (h : LvAt S b t v w K H B U sz (nI f) sq c0 c1 c2 d) (hf : f ≤ 3) (hI : Inc f n K) (hn : n ≤ 12) : f_X2_turnBits S b = some (nI (bsum K (f + 1))) := by
  have hh := z_lp_count (b := fun x : Int32 × Int32 => f_X2_turnBits_L4 S b x.1 x.2) (fun k => (nI (bsum K k), nI k)) (f + 1) (e := nI (bsum K (f + 1))) (fun k hk => ?_) ?_
  · unfold f_X2_turnBits
    rw [show ((0 : Int32), (0 : Int32)) = (nI (bsum K 0), nI 0) from rfl, hh, z_bd_s]
  · show f_X2_turnBits_L4 S b (nI (bsum K k)) (nI k) = _
    have hKk := hI.1 k (by omega)
    unfold f_X2_turnBits_L4
    rw [h.gf, z_bd_s, if_neg (by rw [n_lt (by omega) (by omega)]; omega), show (4 : Int32) = nI 4 from rfl, if_neg (by rw [n_le (by omega) (by omega)]; omega), h.r3, z_bd_s, h.dk (by omega), z_bd_s, bt_or (bsum_bits hI hn k (by omega)).1 (by omega), show nI k + 1 = nI (k + 1) from n_add k 1]
    rfl
  · show f_X2_turnBits_L4 S b (nI (bsum K (f + 1))) (nI (f + 1)) = _
    unfold f_X2_turnBits_L4
    rw [h.gf, z_bd_s, if_pos (by rw [n_lt (by omega) (by omega)]; omega)]
end LV
