/-! low, swap, swaps: class and reference -/
def LvOk (S : GS) (o : Nat) : Prop := ∃ (t v w : Nat → Int) (K : Nat → Nat) (H B U : Nat → Int) (sz fr sq : Int32) (c0 c1 c2 d : Int), LvAt S (o + 4) t v w K H B U sz fr sq c0 c1 c2 d
section LW
variable {S : GS} {M : MS} {a n f : Nat} {num kd dg pc : Int32} {P V Z : Nat → Int32}
theorem p_hasT (hF : FObj S a num kd dg pc) (hp : PtsAt S (a + 1) n P V Z) (hn : n ≤ 12) (hk : kd = 1 ∨ kd = 2) (hf : frN kd dg f) (hf3 : f ≤ 3) : f_X1_hasTurns S a = some (if n ≤ f then 0 else 1) := by
  unfold f_X1_hasTurns
  rw [hF.i1, z_bd_s, hF.r3, z_bd_s, hp.sz, z_bd_s, z_chk_t hF.is, hF.free, z_bd_s, z_bd_s, show (if kd = 2 then (2 : Int32) else dg + 1) = nI f from hf]
  simp only [n_le (show n < 2147483648 by omega) (show f < 2147483648 by omega)]
  by_cases y : n ≤ f
  · simp only [if_pos y]
    rcases hk with z | z
    · rw [if_pos z]
    · rw [if_neg (by rw [z]; decide), if_pos z]
  · simp only [if_neg y]
    rcases hk with z | z
    · rw [if_pos z]
    · rw [if_neg (by rw [z]; decide), if_pos z]
theorem IsT.lt {bb : Nat} (h : IsT f n bb) (hn : n ≤ 12) : f < n := by
  have h1 := pcn_top h.1 12 hn
  have h2 := pcn_le bb n
  have := h.2
  omega
theorem p_areT (hF : FObj S a num kd dg pc) (hp : PtsAt S (a + 1) n P V Z) (hn : n ≤ 12) (hk : kd = 1 ∨ kd = 2) (hf : frN kd dg f) (hf3 : f ≤ 3) (x : Int32) : ((¬ ∃ bb, x = nI bb ∧ IsT f n bb) → f_X1_areTurns S a x = some 0) ∧ ∀ bb, IsT f n bb → f_X1_areTurns S a (nI bb) = some 1 := by
  have hh := p_hasT hF hp hn hk hf hf3
  have go : ∀ b : Nat, b < 4096 → b < 2 ^ n → ¬ n ≤ f → f_X1_areTurns S a (nI b) = some (if pcn b 12 = f + 1 then 1 else 0) := by
    intro b hb hb2 hnf
    have hpc := pcn_le b 12
    obtain ⟨b', hb', e', hs⟩ := bt_shr (x := nI b) (by rw [show (0 : Int32) = nI 0 from rfl, n_le (by omega) (by omega)]; omega) hn
    rw [n_eq (by omega) hb'] at e'
    subst e'
    unfold f_X1_areTurns
    rw [z_chk_t hF.is, hh, if_neg hnf, z_bd_s, if_neg z_10, show (0 : Int32) = nI 0 from rfl, if_neg (by rw [n_lt (by omega) (by omega)]; omega), hF.r3, z_bd_s, hp.sz, z_bd_s, ← show (0 : Int32) = nI 0 from rfl, if_pos (by rw [hs]; exact hb2), p_bitCount hb, z_bd_s, z_chk_t hF.is, hF.free, z_bd_s, show (if kd = 2 then (2 : Int32) else dg + 1) = nI f from hf, show nI f + (1 : Int32) = nI (f + 1) from n_add f 1]
    by_cases z : pcn b 12 = f + 1
    · rw [if_pos z, if_pos (by rw [z])]
    · rw [if_neg z, if_neg (by rw [n_eq (by omega) (by omega)]; exact z)]
  refine ⟨fun hx => ?_, fun bb hT => ?_⟩
  · by_cases y : n ≤ f
    · unfold f_X1_areTurns
      rw [z_chk_t hF.is, hh, if_pos y, z_bd_s, if_pos rfl]
    · by_cases z0 : x < 0
      · unfold f_X1_areTurns
        rw [z_chk_t hF.is, hh, if_neg y, z_bd_s, if_neg z_10, if_pos z0]
      · have z1 : 0 ≤ x := by
          rw [Int32.lt_iff_toInt_lt] at z0
          rw [Int32.le_iff_toInt_le]
          omega
        obtain ⟨b, hb, e, hs⟩ := bt_shr z1 hn
        by_cases z2 : b < 2 ^ n
        · have hb12 : b < 4096 := Nat.lt_of_lt_of_le z2 (show 2 ^ _ ≤ 2 ^ 12 from Nat.pow_le_pow_right (by decide) hn)
          rw [e, go b hb12 z2 y, if_neg (fun w => hx ⟨b, e, z2, w⟩)]
        · unfold f_X1_areTurns
          rw [z_chk_t hF.is, hh, if_neg y, z_bd_s, if_neg z_10, if_neg z0, hF.r3, z_bd_s, hp.sz, z_bd_s, if_neg (by rw [hs]; exact z2)]
  · have hb12 : bb < 4096 := Nat.lt_of_lt_of_le hT.1 (show 2 ^ _ ≤ 2 ^ 12 from Nat.pow_le_pow_right (by decide) hn)
    have := hT.lt hn
    rw [go bb hb12 hT.1 (by omega), if_pos hT.2]
theorem p_areN (hF : FObj S a num kd dg pc) (hk : ¬ (kd = 1 ∨ kd = 2)) (x : Int32) : f_X1_areTurns S a x = some 0 := by
  unfold f_X1_areTurns f_X1_hasTurns
  rw [z_chk_t hF.is, hF.i1, z_bd_s, if_neg (fun z => hk (Or.inl z)), z_bd_s, if_neg (fun z => hk (Or.inr z)), z_bd_s, if_pos rfl]
theorem m_areN {fi cnt : Nat} (h5 : M.1 5 fi = kd) (h4 : M.1 4 0 = nI cnt) (hfi : fi < cnt) (hc : cnt ≤ 10) (hk : ¬ (kd = 1 ∨ kd = 2)) (x : Int32) : f_X8_areTurns M (nI fi) x = some 0 := by
  unfold f_X8_areTurns
  have q : z_in (nI fi) 10 := by rw [n_in (by omega)]; omega
  simp only [z_chk_t q]
  rw [m_isFit h4 hfi hc, z_bd_s, if_neg z_10, n_cl (by omega), h5, if_neg (fun z => hk (Or.inl z)), if_neg (fun z => hk (Or.inr z)), z_bd_s, if_pos rfl]
end LW
section C3
variable {S : GS} {M : MS} {o cnt : Nat} {st : Int32} {F : Nat → Option Nat} {ln : Nat → Nat}
/-- a call about TURNS: they are none, or the Leveller has them -/
theorem z_turns (hT : TopAt S o (nI cnt) st) (hF : FitsOk S M o cnt F ln) (hL : LvOk S o) (a0 a1 : Int32) : ((f_X7_fitAt S o a0 = some none ∨ ∃ a, f_X7_fitAt S o a0 = some (some a) ∧ g_is S 1 a ∧ f_X1_areTurns S a a1 = some 0) ∧ f_X8_areTurns M a0 a1 = some 0) ∨ ∃ (fi a n f bb : Nat) (kd dg : Int32) (P V Z : Nat → Int32) (S1 : GS) (t v w : Nat → Int) (K : Nat → Nat) (x0 x1 x2 y : Int), a0 = nI fi ∧ a1 = nI bb ∧ fi < 10 ∧ f_X7_fitAt S o a0 = some (some a) ∧ g_is S 1 a ∧ f_X1_areTurns S a a1 = some 1 ∧ f_X8_areTurns M a0 a1 = some 1 ∧ MFit M fi n kd dg P V Z ∧ PtsOk n P V Z ∧ Rw f n (tN kd P) (iN V) (iN Z) ∧ (kd = 2 → f = 2) ∧ IsT f n bb ∧ f_X2_takeTurns S (o + 4) a (nI bb) = some S1 ∧ Same S S1 (o + 4) 9 ∧ Rw f n t v w ∧ Agr n t v w (tN kd P) (iN V) (iN Z) ∧ Enum bb n (f + 1) K ∧ Solved S1 (o + 4) f n t v w (sqI kd) K x0 x1 x2 y := by
  rcases z_fit hT hF a0 with ⟨h1, h2⟩ | ⟨fi, a, f1, f2, rfl, f3, f4, f5⟩
  · left
    refine ⟨Or.inl h2, ?_⟩
    unfold f_X8_areTurns
    rw [h1, z_bd_s, if_pos rfl, z_bd_s, if_pos rfl]
  · obtain ⟨g1, g2, g3, kd, dg, n, P, V, Z, pc, bg, C, g4, g5, g6, g7⟩ := f5
    have hn := g5.1.1
    by_cases hk : kd = 1 ∨ kd = 2
    · obtain ⟨f, x1, x2, x3, x4, x5⟩ := g7 hk
      rcases m_areT g6.1 hn hF.2.1 f1 hF.2.2.1 hk x1 (by omega) a1 with ⟨y1, y2⟩ | ⟨bb, rfl, y1, y2⟩
      · exact Or.inl ⟨Or.inr ⟨a, f4, g4.1.is, (p_areT g4.1 g4.2.1 hn hk x1 (by omega) a1).1 y1⟩, y2⟩
      · right
        obtain ⟨t0, v0, w0, K0, H0, B0, U0, sz, fr, sq, c0, c1, c2, d, hLv⟩ := hL
        obtain ⟨S1, t, v, w, K, z0, z1, z2, z3, e1, e2, e3, e4, e5⟩ := p_takeTurns (b := o + 4) (by omega) g4.1 g4.2.1 g5.1 x4 x1 x2 x3 y1.1 y1.2 hLv
        exact ⟨fi, a, n, f, bb, kd, dg, P, V, Z, S1, t, v, w, K, z0, z1, z2, z3, rfl, rfl, f2, f4, g4.1.is, (p_areT g4.1 g4.2.1 hn hk x1 (by omega) (nI bb)).2 bb y1, y2, g6.1, g5.1, (tN_Ld kd P V Z n).rw g5.1 x4 (by omega) x2 x3, x3, y1, e1, e2, e3.rw g5.1 x4 (by omega) x2 x3, e3.agr, e4, e5⟩
    · exact Or.inl ⟨Or.inr ⟨a, f4, g4.1.is, p_areN g4.1 hk a1⟩, m_areN g6.1.1 hF.2.1 f1 hF.2.2.1 hk a1⟩
theorem lv_ok {f n : Nat} {t v w : Nat → Int} {sq : Int32} {K : Nat → Nat} {c0 c1 c2 d : Int} (h : Solved S (o + 4) f n t v w sq K c0 c1 c2 d) : LvOk S o := by
  obtain ⟨⟨H, B, U, h1⟩, -⟩ := h
  exact ⟨t, v, w, K, H, B, U, _, _, sq, c0, c1, c2, d, h1⟩
theorem c_low (hT : TopAt S o (nI cnt) st) (hF : FitsOk S M o cnt F ln) (hL : LvOk S o) (a0 a1 a2 : Int32) : ∃ r S' M', f_X7_low S o a0 a1 a2 = some (r, S') ∧ f_X8_low M a0 a1 a2 = some (r, M') ∧ Same S S' (o + 4) 9 ∧ LvOk S' o ∧ Scr M M' := by
  unfold f_X7_low f_X8_low
  rw [z_chk_t (t_is hT)]
  rcases z_turns hT hF hL a0 a1 with ⟨h1, h2⟩ | ⟨fi, a, n, f, bb, kd, dg, P, V, Z, S1, t, v, w, K, x0, x1, x2, y, rfl, rfl, f1, f2, f3, f4, f5, f6, f7, f8, f9, f10, f11, f12, f13, f14, f15, f16⟩
  · refine ⟨_, S, M, ?_, by rw [h2, z_bd_s, if_pos rfl], Same.rf, hL, Scr.rf⟩
    rcases h1 with h1 | ⟨a, h1, h3, h4⟩
    · rw [h1, z_bd_s, z_mt_N]
    · rw [h1, z_bd_s, z_mt_S, z_chk_t h3, h4, z_bd_s, if_pos rfl]
  · obtain ⟨t0, v0, w0, K0, H0, B0, U0, sz, fr, sq, c0, c1, c2, d, hLv⟩ := id hL
    obtain ⟨⟨H, B, U, hV⟩, hI, hP, hG, hQ⟩ := id f16
    have hn := f13.2.1
    have hT1 : TopAt S1 o (nI cnt) st := (f12.2 o (by omega)).trans hT
    have hd := hP.1
    have bK := f13.ma hP (hI.1 0 (by omega))
    have hK0 := hI.1 0 (by omega)
    have hlow := p_low hV (by omega) bK
    have hlo := hP.2.1
    obtain ⟨M1, s1, s2, K1, N0, N1, N2, D, u1, u2, u3, u4, u5, u6, u7, u8⟩ := m_study f6 f7 f1 f8 f10.1 f10.2
    have eK : ∀ j, j ≤ f → K1 j = K j := fun j hj => (u1.uq f15).2 j (by omega)
    rw [hK_cg f8.1 eK] at u3 u4 u8
    have hval : Rat.divInt ((ma t v w x0 x1 x2 y (K 0)).natAbs : Int) y = (hK f (tN kd P) (iN V) (iN Z) K).abs := by
      rw [← dv_abs hd, ← ma_mr hd, hQ.z, ag_hK f14 f8.1 hI]
    obtain ⟨a3, a4⟩ := abs_nd (hK f (tN kd P) (iN V) (iN Z) K)
    have hcl : f_X7_lowestTerms (jI ((ma t v w x0 x1 x2 y (K 0)).natAbs : Int)) (jI y) a2 = some (if a2 = 0 then jI (hK f (tN kd P) (iN V) (iN Z) K).abs.num else if a2 = 1 then jI ((hK f (tN kd P) (iN V) (iN Z) K).abs.den : Int) else -1000000000000) := by
      rw [p_lowest hd (by omega) (by omega), hval]
    have hcls : (z_bd (f_X7_fitAt S o (nI fi)) fun q_1 => z_mt q_1 (some ((-1000000000000 : Int64), S)) fun a_2 => z_chk (g_is S 1 a_2) (z_bd (f_X1_areTurns S a_2 (nI bb)) fun r_3 => if r_3 = 0 then some ((-1000000000000 : Int64), S) else z_bd (g_r S 7 3 o) fun f_4 => z_chk (g_is S 2 f_4) (z_bd (f_X2_takeTurns S f_4 a_2 (nI bb)) fun S_5 => z_bd (g_r S_5 7 3 o) fun f_6 => z_chk (g_is S_5 2 f_6) (z_bd (f_X2_lowAbove S_5 f_6 ) fun r_7 => z_bd (g_r S_5 7 3 o) fun f_8 => z_bd (g_r S_5 2 7 f_8) fun f_9 => z_bd (g_l S_5 4 3 f_9) fun f_10 => z_bd (f_X7_lowestTerms r_7 f_10 a2) fun r_11 => some (r_11, S_5))))) = some (if a2 = 0 then jI (hK f (tN kd P) (iN V) (iN Z) K).abs.num else if a2 = 1 then jI ((hK f (tN kd P) (iN V) (iN Z) K).abs.den : Int) else -1000000000000, S1) := by
      rw [f2, z_bd_s, z_mt_S, z_chk_t f3, f4, z_bd_s, if_neg z_10, g_r_e (k := 3) hT rfl, z_bd_s, z_chk_t hLv.is, f11, z_bd_s, g_r_e (k := 3) hT1 rfl, z_bd_s, z_chk_t hV.is, hlow, z_bd_s, z_bd_s, hV.r7, z_bd_s, hV.pol.g.2.2.2, z_bd_s, hcl, z_bd_s]
    rw [hcls, f5, z_bd_s, if_neg z_10]
    rcases z_in2v a2 with ⟨w1, w2, w3⟩ | ⟨w1, w2⟩
    · exact ⟨_, S1, M, by rw [if_neg w2, if_neg w3], by rw [w1, z_bd_s, if_pos rfl], f12, lv_ok f16, Scr.rf⟩
    · rw [w1, z_bd_s, if_neg z_10, s1, z_bd_s, u3, u4]
      rcases w2 with rfl | rfl
      · have hv := m_absH (r := hK f (tN kd P) (iN V) (iN Z) K) (by omega)
        refine ⟨_, S1, M1, by rw [if_pos rfl], ?_, f12, lv_ok f16, s2⟩
        rw [if_pos rfl]
        by_cases z : 0 ≤ lg_cmp (jI (hK f (tN kd P) (iN V) (iN Z) K).num) (0 : Int64)
        · rw [if_pos z] at hv ⊢
          rw [Option.some.inj hv]
        · rw [if_neg z] at hv ⊢
          rw [Option.some.inj hv]
      · exact ⟨_, S1, M1, by rw [if_neg z_10, if_pos rfl], by rw [if_neg z_10, a4], f12, lv_ok f16, s2⟩
theorem c_swap (hT : TopAt S o (nI cnt) st) (hF : FitsOk S M o cnt F ln) (hL : LvOk S o) (a0 a1 : Int32) : ∃ r S' M', f_X7_swap S o a0 a1 = some (r, S') ∧ f_X8_swap M a0 a1 = some (r, M') ∧ Same S S' (o + 4) 9 ∧ LvOk S' o ∧ Scr M M' := by
  unfold f_X7_swap f_X8_swap
  rw [z_chk_t (t_is hT)]
  rcases z_turns hT hF hL a0 a1 with ⟨h1, h2⟩ | ⟨fi, a, n, f, bb, kd, dg, P, V, Z, S1, t, v, w, K, x0, x1, x2, y, rfl, rfl, f1, f2, f3, f4, f5, f6, f7, f8, f9, f10, f11, f12, f13, f14, f15, f16⟩
  · refine ⟨_, S, M, ?_, by rw [h2, z_bd_s, if_pos rfl], Same.rf, hL, Scr.rf⟩
    rcases h1 with h1 | ⟨a, h1, h3, h4⟩
    · rw [h1, z_bd_s, z_mt_N]
    · rw [h1, z_bd_s, z_mt_S, z_chk_t h3, h4, z_bd_s, if_pos rfl]
  · obtain ⟨t0, v0, w0, K0, H0, B0, U0, sz, fr, sq, c0, c1, c2, d, hLv⟩ := id hL
    obtain ⟨⟨H, B, U, hV⟩, hI, hP, hG, hQ⟩ := id f16
    have hn := f13.2.1
    have hf3 : f ≤ 3 := by have := f13.1; omega
    have hT1 : TopAt S1 o (nI cnt) st := (f12.2 o (by omega)).trans hT
    have hsw := m_swapped f6 f7 f1 f8 f9 f10 f15 (ag_turn f14 f8.1 hI hQ)
    rw [f2, z_bd_s, z_mt_S, z_chk_t f3, f4, z_bd_s, if_neg z_10, g_r_e (k := 3) hT rfl, z_bd_s, z_chk_t hLv.is, f11, z_bd_s, g_r_e (k := 3) hT1 rfl, z_bd_s, z_chk_t hV.is, f5, z_bd_s, if_neg z_10]
    rcases p_exch hV f13 hI hP hQ with ⟨e1, e2⟩ | ⟨r, nx, par, S2, e1, e2, e3, e4⟩
    · obtain ⟨M', m1, m2⟩ := hsw.1 (ag_stay f14 f8.1 hI e2)
      have hb : bsum K (f + 1) = bb := (bsum_of hI hn).uq (f15.bits f10.1 hn)
      exact ⟨nI bb, S1, M', by rw [e1, z_bd2_s, g_r_e (k := 3) hT1 rfl, z_bd_s, z_chk_t hV.is, p_turnBits hV hf3 hI hn, z_bd_s, hb], by rw [m1, z_bd2_s], f12, lv_ok f16, m2⟩
    · obtain ⟨b', M', m1, m2, m3⟩ := hsw.2 r nx par (ag_sw f14 f8.1 hI e4)
      have hI1 := sw_inc hI e4.1 e4.2.2.2.2.1 e4.par
      have hb : bsum (swK f K r nx par) (f + 1) = b' := (bsum_of hI1 hn).uq m3
      have hT2 : TopAt S2 o (nI cnt) st := (e3.2 o (by omega)).trans hT1
      exact ⟨nI b', S2, M', by rw [e1, z_bd2_s, g_r_e (k := 3) hT2 rfl, z_bd_s, z_chk_t e2.is, p_turnBits e2 hf3 hI1 hn, z_bd_s, hb], by rw [m1, z_bd2_s], f12.tr e3, ⟨t, v, w, _, H, B, U, _, _, _, _, _, _, _, e2⟩, m2⟩
theorem c_swaps (hT : TopAt S o (nI cnt) st) (hF : FitsOk S M o cnt F ln) (hL : LvOk S o) (a0 a1 : Int32) : ∃ r S' M', f_X7_swaps S o a0 a1 = some (r, S') ∧ f_X8_swaps M a0 a1 = some (r, M') ∧ Same S S' (o + 4) 9 ∧ LvOk S' o ∧ Scr M M' := by
  unfold f_X7_swaps f_X8_swaps
  rw [z_chk_t (t_is hT)]
  rcases z_turns hT hF hL a0 a1 with ⟨h1, h2⟩ | ⟨fi, a, n, f, bb, kd, dg, P, V, Z, S1, t, v, w, K, x0, x1, x2, y, rfl, rfl, f1, f2, f3, f4, f5, f6, f7, f8, f9, f10, f11, f12, f13, f14, f15, f16⟩
  · refine ⟨_, S, M, ?_, by rw [h2, z_bd_s, if_pos rfl], Same.rf, hL, Scr.rf⟩
    rcases h1 with h1 | ⟨a, h1, h3, h4⟩
    · rw [h1, z_bd_s, z_mt_N]
    · rw [h1, z_bd_s, z_mt_S, z_chk_t h3, h4, z_bd_s, if_pos rfl]
  · obtain ⟨t0, v0, w0, K0, H0, B0, U0, sz, fr, sq, c0, c1, c2, d, hLv⟩ := id hL
    obtain ⟨⟨H, B, U, hV⟩, hI, hP, hG, hQ⟩ := id f16
    have hn := f13.2.1
    have hT1 : TopAt S1 o (nI cnt) st := (f12.2 o (by omega)).trans hT
    obtain ⟨S2, m, K', y0, y1, y2, y3, e1, e2, e3, e4, e5, e6⟩ := p_settled f13 f16
    obtain ⟨-, hI', -, -, hQ'⟩ := id e4
    have aQ := ag_turn f14 f8.1 hI' hQ'
    have aS := ag_stay f14 f8.1 hI' e5
    have aN := ag_swN f14 f8.1 m K hI e6
    rw [f2, z_bd_s, z_mt_S, z_chk_t f3, f4, z_bd_s, if_neg z_10, g_r_e (k := 3) hT rfl, z_bd_s, z_chk_t hLv.is, f11, z_bd_s, g_r_e (k := 3) hT1 rfl, z_bd_s, z_chk_t hV.is, f5, z_bd_s, if_neg z_10, e1, z_bd2_s]
    cases m with
    | zero =>
      have eK : K' = K := aN
      rw [eK] at aQ aS
      obtain ⟨M', m1, m2⟩ := (m_swapped f6 f7 f1 f8 f9 f10 f15 aQ).1 aS
      refine ⟨nI 0, S2, M', rfl, ?_, f12.tr e3, lv_ok e4, m2⟩
      rw [m1, z_bd2_s, z_lp_x (e := ((0 : Int32), M')), z_bd2_s]
      · rfl
      · show f_X8_swaps_L25 (nI fi) 0 (nI bb) (nI bb) M' = _
        unfold f_X8_swaps_L25
        rw [if_pos rfl]
    | succ m =>
      obtain ⟨p0, p1, p2, r, nx, par, t1, t2, t3⟩ := aN
      obtain ⟨b1, M1, m1, m2, hB1⟩ := (m_swapped f6 f7 f1 f8 f9 f10 f15 t1).2 r nx par t2
      have hI1 := sw_inc hI t2.1 t2.2.2.2.2.1 t2.par
      obtain ⟨hlt1, hE1⟩ := enum_of hI1 hB1
      have hT1' : IsT f n b1 := ⟨hlt1, by rw [pcn_top hlt1 12 hn]; exact hE1.2.2.2.symm⟩
      have hb12 : bb < 4096 := Nat.lt_of_lt_of_le f10.1 (show 2 ^ _ ≤ 2 ^ 12 from Nat.pow_le_pow_right (by decide) hn)
      have hne1 : bb ≠ b1 := by
        intro e
        have h1 : b1.testBit r = true := (hB1.2 r).mpr ((sw_mem hI t2.2.2.2.2.1 t2.par r).mpr (Or.inl rfl))
        rw [← e] at h1
        obtain ⟨j, j1, j2⟩ := ((f15.bits f10.1 hn).2 r).mp h1
        have h3 := t1.abs j j1
        rw [j2] at h3
        have h4 := t2.2.2.2.1
        rw [h3] at h4
        exact absurd h4 Rat.lt_irrefl
      obtain ⟨M2, m3, m4⟩ := m_swapsL (dg := dg) f7 f1 f8 f9 aQ aS m 0 b1 bb _ M1 (by omega) (f6.scr m2) hT1' hE1 t3 hb12 hne1
      refine ⟨nI (m + 1), S2, M2, rfl, ?_, f12.tr e3, lv_ok e4, m2.tr m4⟩
      rw [m1, z_bd2_s, show ((0 : Int32), nI bb, nI b1, M1) = (nI 0, nI bb, nI b1, M1) from rfl, m3, z_bd2_s, show 0 + 1 + m = m + 1 by omega]
end C3
