/-! pieces: the level of a row; the class's rows -/
def sh (P : Nat → Int32) (fr : Nat) : Nat → Int32 := fun j => P (fr + j)
/-- the polynomial of the least level of a row, and that level -/
def LvX (f m : Nat) (t v w : Nat → Int) (q0 q1 q2 x : Rat) : Prop := (m ≤ f ∧ PassQ m t v q0 q1 q2 ∧ x = 0) ∨ (f < m ∧ ∃ K : Nat → Nat, Inc f m K ∧ TurnQ f t v w K q0 q1 q2 ∧ Stay f m t v w K q0 q1 q2 ∧ x = (hK f t v w K).abs)
theorem r_abs0 (r : Rat) : 0 ≤ r.abs := by
  rw [← Rat.num_nonneg, (abs_nd r).1]
  omega
theorem Rw.pre {f m m' : Nat} {t v w : Nat → Int} (hR : Rw f m' t v w) (h : m ≤ m') : Rw f m t v w := ⟨hR.1, by have := hR.2.1; omega, fun i hi => hR.2.2.1 i (by omega), fun i j hij hj => hR.2.2.2 i j hij (by omega)⟩
theorem lvx_0 {f m : Nat} {t v w : Nat → Int} {q0 q1 q2 x : Rat} (h : LvX f m t v w q0 q1 q2 x) : 0 ≤ x := by
  rcases h with ⟨-, -, h⟩ | ⟨-, K, -, -, -, h⟩
  · rw [h]; exact Rat.le_refl
  · rw [h]; exact r_abs0 _
theorem lvx_mono {f m m' : Nat} {t v w : Nat → Int} {q0 q1 q2 x p0 p1 p2 y : Rat} (hR : Rw f m' t v w) (hm : m ≤ m') (h : LvX f m t v w q0 q1 q2 x) (h' : LvX f m' t v w p0 p1 p2 y) : x ≤ y := by
  have y0 := lvx_0 h'
  rcases h with ⟨-, -, h⟩ | ⟨h1, K, h2, h3, h4, h5⟩
  · rw [h]; exact y0
  · rcases h' with ⟨k1, -⟩ | ⟨k1, K', k2, k3, k4, k5⟩
    · omega
    · rw [h5]
      refine stay_max (hR.pre hm) h2 k3.1 (q0 := p0) (fun i hi => ?_)
      rw [k5]
      exact k4 i (by omega)
theorem lvx_lvq {f m : Nat} {t v w : Nat → Int} {q0 q1 q2 x : Rat} (h : LvX f m t v w q0 q1 q2 x) : LvQ f m t v w q0 q1 q2 := by
  rcases h with ⟨h1, h2, -⟩ | ⟨h1, K, h2, h3, h4, -⟩
  · exact Or.inl ⟨h1, h2⟩
  · exact Or.inr ⟨h1, K, h2, h3, h4⟩
abbrev RowX (f fr m : Nat) (P V Z : Nat → Int32) (q0 q1 q2 x : Rat) : Prop := LvX f m (tN 1 (sh P fr)) (iN (sh V fr)) (iN (sh Z fr)) q0 q1 q2 x
theorem PtsOk.sh {n fr m : Nat} {P V Z : Nat → Int32} (h : PtsOk n P V Z) (hm : fr + m ≤ n) : PtsOk m (sh P fr) (sh V fr) (sh Z fr) := ⟨by have := h.1; omega, fun i hi => h.2.1 (fr + i) (by omega), fun i j hij hj => h.2.2 (fr + i) (fr + j) (by omega) (by omega)⟩
theorem row_rw {n fr m f : Nat} {P V Z : Nat → Int32} (h : PtsOk n P V Z) (hm : fr + m ≤ n) (hf3 : f = 1 ∨ f = 2 ∨ f = 3) : Rw f m (tN 1 (sh P fr)) (iN (sh V fr)) (iN (sh Z fr)) := (tN_Ld 1 (sh P fr) (sh V fr) (sh Z fr) m).rw (h.sh hm) (fun z => absurd z (by decide)) (by omega) hf3 (fun z => absurd z (by decide))
theorem ld_sh {fr m : Nat} {P V Z : Nat → Int32} {t v w : Nat → Int} (h : Ld 4 P V Z fr m t v w) : Agr m t v w (tN 1 (sh P fr)) (iN (sh V fr)) (iN (sh Z fr)) := fun i hi => by
  obtain ⟨h1, h2, h3⟩ := h i hi
  refine ⟨?_, h2, h3⟩
  rw [h1]
  unfold tN nd sh
  rw [if_neg (by decide), if_neg (by decide)]
section PX
variable {S : GS} {b f fr m n : Nat} {P V Z : Nat → Int32} {t v w : Nat → Int} {c0 c1 c2 d : Int} {p q : Int32}
theorem p_rowX (hL : Levelled S b f m t v w 0 c0 c1 c2 d) (hLd : Ld 4 P V Z fr m t v w) (hO : PtsOk n P V Z) (hm : fr + m ≤ n) (hf3 : f = 1 ∨ f = 2 ∨ f = 3) (hp : 0 ≤ p.toInt ∧ p.toInt ≤ 10000) (hq : 1 ≤ q.toInt ∧ q.toInt ≤ 1000) : ∃ x, RowX f fr m P V Z (Rat.divInt c0 d) (Rat.divInt c1 d) (Rat.divInt c2 d) x ∧ f_X2_levelIsAtMost S b p q = some (if Rat.divInt p.toInt q.toInt < x then 0 else 1) := by
  have hn := hO.1
  obtain ⟨hP, hG, K, ⟨H, B, U, hV⟩, hh⟩ := hL
  have ha := ld_sh hLd
  have hd := hP.1
  have hd2 := hP.2.1
  unfold f_X2_levelIsAtMost
  rw [hV.gs, z_bd_s, hV.gf, z_bd_s]
  rcases hh with ⟨h1, h2⟩ | ⟨h1, hI, hQ, hS⟩
  · refine ⟨0, Or.inl ⟨h1, ⟨h2.1, h2.2.1, h2.2.2.1, fun i hi => ?_⟩, rfl⟩, ?_⟩
    · rw [← (ha i hi).1, ← (ha i hi).2.1]
      exact h2.2.2.2 i hi
    · rw [if_pos (by rw [n_le (by omega) (by omega)]; exact h1), if_neg]
      rw [Rat.not_lt, ← Rat.zero_divInt q.toInt, dv_le (by omega)]
      exact hp.1
  · have hR := hLd.rw hO (fun z => absurd z (by decide)) hm hf3 (fun z => absurd z (by decide))
    have bK := hR.ma hP (hI.1 0 (by omega))
    have hK0 := hI.1 0 (by omega)
    have hlow := p_low hV (by omega) bK
    refine ⟨_, Or.inr ⟨h1, K, hI, ag_turn ha hf3 hI hQ, ag_stay ha hf3 hI hS, rfl⟩, ?_⟩
    have hval : Rat.divInt ((ma t v w c0 c1 c2 d (K 0)).natAbs : Int) d = (hK f (tN 1 (sh P fr)) (iN (sh V fr)) (iN (sh Z fr)) K).abs := by
      rw [← dv_abs hd, ← ma_mr hd, hQ.z, ag_hK ha hf3 hI]
    have hc := (mF_cmp (x := p.toInt) (y := ((ma t v w c0 c1 c2 d (K 0)).natAbs : Int)) (c := q.toInt) (by omega) hd).1
    rw [dv_abs (by omega), dv_abs hd, Int.natAbs_natCast, hval, show ((p.toInt.natAbs : Nat) : Int) = p.toInt by omega] at hc
    obtain ⟨L, hL⟩ : ∃ L, L = (ma t v w c0 c1 c2 d (K 0)).natAbs := ⟨_, rfl⟩
    rw [← hL] at hc hlow bK
    have b1 : (L : Int) * q.toInt ≤ 4611686018427 * 1000 := Int.mul_le_mul (by omega) hq.2 (by omega) (by omega)
    have b2 : 0 ≤ (L : Int) * q.toInt := Int.mul_nonneg (by omega) (by omega)
    have b3 : p.toInt * d ≤ 10000 * 1048576 := Int.mul_le_mul hp.2 hd2 (by omega) (by omega)
    have b4 : 0 ≤ p.toInt * d := Int.mul_nonneg (by omega) (by omega)
    rw [if_neg (by rw [n_le (by omega) (by omega)]; omega), z_chk_t hV.is, hlow, z_bd_s, hV.r7, z_bd_s, hV.pol.g.2.2.2, z_bd_s, z_i64, z_i64, j_mul, j_mul]
    by_cases z : p.toInt * d < (L : Int) * q.toInt
    · rw [if_pos (by rw [j_cmpgt (by omega) (by omega) (by omega) (by omega)]; exact z), if_pos (by rw [hc]; exact z)]
    · rw [if_neg (by rw [j_cmpgt (by omega) (by omega) (by omega) (by omega)]; exact z), if_neg (by rw [hc]; exact z)]
end PX
/-- a FIT of pieces as it grows -/
def PcAt (S : GS) (a fi : Nat) (dg : Int32) (n : Nat) (P V Z : Nat → Int32) (pc : Nat) (bg : Nat → Nat) (C : Nat → Pol4) : Prop := FObj S a (nI fi) 4 dg (nI pc) ∧ PtsAt S (a + 1) n P V Z ∧ ∃ (G : Nat → Option Nat) (Bg : Nat → Int32), S.1 (a + 5) = some (e_q 3 (max n 1) G) ∧ S.1 (a + 6) = some (e_i (max n 1) Bg) ∧ (∀ j, j < pc → Bg j = nI (bg j) ∧ G j = some (a + 8 + j) ∧ PolA S (a + 8 + j) (C j)) ∧ (pc = 0 → G 0 = some (a + 7) ∧ PolA S (a + 7) (C 0))
section PC
variable {S : GS} {a fi n pc : Nat} {dg : Int32} {P V Z : Nat → Int32} {bg : Nat → Nat} {C : Nat → Pol4}
theorem PcAt.same {S' : GS} {c m : Nat} (h : PcAt S a fi dg n P V Z pc bg C) (hs : Same S S' c m) (hd : c + m ≤ a) : PcAt S' a fi dg n P V Z pc bg C := by
  obtain ⟨h1, h2, G, Bg, h3, h4, h5, h6⟩ := h
  exact ⟨h1.same hs (by omega), h2.same hs (by omega), G, Bg, (hs.2 _ (by omega)).trans h3, (hs.2 _ (by omega)).trans h4, fun j hj => ⟨(h5 j hj).1, (h5 j hj).2.1, (hs.2 _ (by omega)).trans (h5 j hj).2.2⟩, fun z => ⟨(h6 z).1, (hs.2 _ (by omega)).trans (h6 z).2⟩⟩
theorem PcAt.fit (h : PcAt S a fi dg n P V Z pc bg C) (hn : n ≤ 12) (hp : pc ≤ max n 1) : FitAt S a fi 4 dg n P V Z pc bg C (8 + pc) := by
  obtain ⟨h1, h2, G, Bg, h3, h4, h5, h6⟩ := h
  refine ⟨h1, h2, max n 1, G, Bg, by omega, by omega, hp, h3, h4, fun j hj => (h5 j hj).1, fun j hj => ?_⟩
  by_cases z : j < pc
  · exact ⟨a + 8 + j, (h5 j z).2.1, by omega, by omega, (h5 j z).2.2⟩
  · have e : j = 0 := by omega
    subst e
    exact ⟨a + 7, (h6 (by omega)).1, by omega, by omega, (h6 (by omega)).2⟩
/-- the last part becomes another -/
theorem PcAt.last {S' : GS} {c : Pol4} (h : PcAt S a fi dg n P V Z (pc + 1) bg C) (hs : Same S S' (a + 8 + pc) 1) (hp : PolA S' (a + 8 + pc) c) : PcAt S' a fi dg n P V Z (pc + 1) bg (va_up C pc c) := by
  obtain ⟨h1, h2, G, Bg, h3, h4, h5, h6⟩ := h
  refine ⟨h1.same hs (by omega), h2.same hs (by omega), G, Bg, (hs.2 _ (by omega)).trans h3, (hs.2 _ (by omega)).trans h4, fun j hj => ⟨(h5 j hj).1, (h5 j hj).2.1, ?_⟩, fun z => by omega⟩
  by_cases z : j = pc
  · rw [z, va_up_s]; exact hp
  · rw [va_up_n _ z]
    exact (hs.2 _ (by omega)).trans (h5 j hj).2.2
theorem g_lQ_e {S : GS} {t a n : Nat} {f : Nat → Option Nat} (h : S.1 a = some (e_q t n f)) : g_lQ S t a = some (nI n) := by
  unfold g_lQ
  rw [g_aq_e h, z_bd2_s]
  rfl
theorem p_addPart (h : PcAt S a fi dg n P V Z pc bg C) (hn : n ≤ 12) (hp : pc < max n 1) (hS : S.2 = a + 8 + pc) (fr : Nat) : ∃ S', f_X1_addPart S a (nI fr) = some (some (a + 8 + pc), S') ∧ S'.2 = a + 8 + (pc + 1) ∧ (∀ b, b < a → S'.1 b = S.1 b) ∧ PcAt S' a fi dg n P V Z (pc + 1) (va_up bg pc fr) (va_up C pc (0, 0, 0, 1)) := by
  obtain ⟨h1, h2, G, Bg, h3, h4, h5, h6⟩ := h
  obtain ⟨S1, hS1⟩ : ∃ z, z = g_nw S (e_o 4 [.long 0, .long 0, .long 0, .long 0]) := ⟨_, rfl⟩
  have x1 : S1.1 (a + 8 + pc) = some (e_o 4 [.long 0, .long 0, .long 0, .long 0]) := by rw [hS1, ← hS]; exact g_nw_s _ _
  have n1 : ∀ b, b < a + 8 + pc → S1.1 b = S.1 b := fun b hb => by rw [hS1]; exact g_nw_n _ (by omega)
  have s1 : S1.2 = a + 8 + (pc + 1) := by rw [hS1]; show S.2 + 1 = _; omega
  have u1 := g_put_e (k := 0) (.long 0) x1 (Nat.le_of_ble_eq_true rfl)
  obtain ⟨S2, hS2⟩ : ∃ z, z = g_up S1 (a + 8 + pc) (e_o 4 ([Value.long 0, .long 0, .long 0, .long 0].set 0 (.long 0))) := ⟨_, rfl⟩
  rw [← hS2] at u1
  have x2 : S2.1 (a + 8 + pc) = some (e_o 4 [.long 0, .long 0, .long 0, .long 0]) := by rw [hS2]; exact g_up_s _ _ _
  have u2 := g_put_e (k := 1) (.long 0) x2 (Nat.le_of_ble_eq_true rfl)
  obtain ⟨S3, hS3⟩ : ∃ z, z = g_up S2 (a + 8 + pc) (e_o 4 ([Value.long 0, .long 0, .long 0, .long 0].set 1 (.long 0))) := ⟨_, rfl⟩
  rw [← hS3] at u2
  have x3 : S3.1 (a + 8 + pc) = some (e_o 4 [.long 0, .long 0, .long 0, .long 0]) := by rw [hS3]; exact g_up_s _ _ _
  have u3 := g_put_e (k := 2) (.long 0) x3 (Nat.le_of_ble_eq_true rfl)
  obtain ⟨S4, hS4⟩ : ∃ z, z = g_up S3 (a + 8 + pc) (e_o 4 ([Value.long 0, .long 0, .long 0, .long 0].set 2 (.long 0))) := ⟨_, rfl⟩
  rw [← hS4] at u3
  have x4 : S4.1 (a + 8 + pc) = some (e_o 4 [.long 0, .long 0, .long 0, .long 0]) := by rw [hS4]; exact g_up_s _ _ _
  have u4 := g_put_e (k := 3) (.long 1) x4 (Nat.le_of_ble_eq_true rfl)
  obtain ⟨S5, hS5⟩ : ∃ z, z = g_up S4 (a + 8 + pc) (e_o 4 ([Value.long 0, .long 0, .long 0, .long 0].set 3 (.long 1))) := ⟨_, rfl⟩
  rw [← hS5] at u4
  have x5 : PolA S5 (a + 8 + pc) (0, 0, 0, 1) := by unfold PolA PolAt; rw [hS5, g_up_s]; rfl
  have n5 : ∀ b, b < a + 8 + pc → S5.1 b = S.1 b := fun b hb => by rw [hS5, g_up_n _ (by omega), hS4, g_up_n _ (by omega), hS3, g_up_n _ (by omega), hS2, g_up_n _ (by omega)]; exact n1 b hb
  have s5 : S5.2 = a + 8 + (pc + 1) := by rw [hS5, hS4, hS3, hS2]; exact s1
  have f5 : FObj S5 a (nI fi) 4 dg (nI pc) := (n5 _ (by omega)).trans h1
  have q5 : S5.1 (a + 5) = some (e_q 3 (max n 1) G) := (n5 _ (by omega)).trans h3
  have i5 : S5.1 (a + 6) = some (e_i (max n 1) Bg) := (n5 _ (by omega)).trans h4
  have qin : z_in (nI pc) (max n 1) := by rw [n_in (by omega)]; exact hp
  have e6 : g_wQ S5 3 (a + 5) (nI pc) (some (a + 8 + pc)) = some (g_up S5 (a + 5) (e_q 3 (max n 1) (va_up G pc (some (a + 8 + pc))))) := by rw [g_wQ_e _ q5 qin, n_cl (by omega)]
  obtain ⟨S6, hS6⟩ : ∃ z, z = g_up S5 (a + 5) (e_q 3 (max n 1) (va_up G pc (some (a + 8 + pc)))) := ⟨_, rfl⟩
  rw [← hS6] at e6
  have f6 : FObj S6 a (nI fi) 4 dg (nI pc) := by unfold FObj; rw [hS6, g_up_n _ (by omega)]; exact f5
  have i6 : S6.1 (a + 6) = some (e_i (max n 1) Bg) := by rw [hS6, g_up_n _ (by omega)]; exact i5
  have e7 : g_wI S6 (a + 6) (nI pc) (nI fr) = some (g_up S6 (a + 6) (e_i (max n 1) (upd Bg pc (nI fr)))) := by rw [g_wI_e _ i6 qin, n_cl (by omega)]
  obtain ⟨S7, hS7⟩ : ∃ z, z = g_up S6 (a + 6) (e_i (max n 1) (upd Bg pc (nI fr))) := ⟨_, rfl⟩
  rw [← hS7] at e7
  have f7 : FObj S7 a (nI fi) 4 dg (nI pc) := by unfold FObj; rw [hS7, g_up_n _ (by omega)]; exact f6
  have e8 := g_put_e (k := 6) (.int (nI (pc + 1))) f7 (Nat.le_of_ble_eq_true rfl)
  obtain ⟨S8, hS8⟩ : ∃ z, z = g_up S7 a (e_o 1 ([Value.int (nI fi), .int 4, .int dg, .ref (a + 1), .ref (a + 5), .ref (a + 6), .int (nI pc)].set 6 (.int (nI (pc + 1))))) := ⟨_, rfl⟩
  rw [← hS8] at e8
  have k8 : ∀ b, b ≠ a → b ≠ a + 5 → b ≠ a + 6 → S8.1 b = S5.1 b := fun b b1 b2 b3 => by rw [hS8, g_up_n _ b1, hS7, g_up_n _ b3, hS6, g_up_n _ b2]
  refine ⟨S8, ?_, by rw [hS8, hS7, hS6]; exact s5, fun b hb => (k8 b (by omega) (by omega) (by omega)).trans (n5 b (by omega)), ?_, ?_, va_up G pc (some (a + 8 + pc)), upd Bg pc (nI fr), ?_, ?_, fun j hj => ?_, fun z => by omega⟩
  · unfold f_X1_addPart f_X4_init
    rw [z_lt_e, show g_nw S (.inr (.inr (.inr (4, [.long 0, .long 0, .long 0, .long 0])))) = S1 from hS1.symm, hS, u1, z_bd_s, u2, z_bd_s, u3, z_bd_s, u4, z_bd_s, z_bd_s, f5.i6, z_bd_s, f5.r4, z_bd_s, g_lQ_e q5, z_bd_s, if_neg (by rw [n_le (by omega) (by omega)]; omega), z_bd_s, z_bd_s, z_chk_t (g_is_e x5), e6, z_bd_s, f6.r5, z_bd_s, f6.i6, z_bd_s, e7, z_bd_s, f7.i6, z_bd_s, show nI pc + (1 : Int32) = nI (pc + 1) from n_add pc 1, e8, z_bd_s]
  · unfold FObj; rw [hS8, g_up_s]; rfl
  · have k9 : ∀ b, a + 1 ≤ b → b < a + 5 → S8.1 b = S.1 b := fun b b1 b2 => (k8 b (by omega) (by omega) (by omega)).trans (n5 b (by omega))
    exact ⟨(k9 _ (by omega) (by omega)).trans h2.1, (k9 _ (by omega) (by omega)).trans h2.2.1, (k9 _ (by omega) (by omega)).trans h2.2.2.1, (k9 _ (by omega) (by omega)).trans h2.2.2.2⟩
  · rw [hS8, g_up_n _ (by omega), hS7, g_up_n _ (by omega), hS6, g_up_s]
  · rw [hS8, g_up_n _ (by omega), hS7, g_up_s]
  · by_cases z : j = pc
    · subst z
      rw [upd_s, va_up_s, va_up_s, va_up_s]
      exact ⟨rfl, rfl, (k8 _ (by omega) (by omega) (by omega)).trans x5⟩
    · rw [upd_n _ z, va_up_n _ z, va_up_n _ z, va_up_n _ z]
      obtain ⟨y1, y2, y3⟩ := h5 j (by omega)
      exact ⟨y1, y2, (k8 _ (by omega) (by omega) (by omega)).trans ((n5 _ (by omega)).trans y3)⟩
end PC
