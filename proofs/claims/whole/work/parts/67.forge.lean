/-! forge -/
theorem fm_d10 : ∀ a : Fin 201, ∃ k : Fin 10, f_J9_floorMod_7cf53 (nI a.val - 100) 10 = some (nI k.val) ∧ f_X8_modulo (nI a.val - 100) 10 = some (nI k.val) := by
  unfold f_J9_floorMod_7cf53 f_X8_modulo
  decide +kernel
theorem fm_d4 : ∀ a : Fin 201, ∃ k : Fin 4, f_J9_floorMod_7cf53 (nI a.val - 100) 4 = some (nI k.val) ∧ f_X8_modulo (nI a.val - 100) 4 = some (nI k.val) := by
  unfold f_J9_floorMod_7cf53 f_X8_modulo
  decide +kernel
theorem fm_d5 : ∀ a : Fin 201, ∃ k : Fin 5, f_J9_floorMod_7cf53 (nI a.val - 100) 5 = some (nI k.val) ∧ f_X8_modulo (nI a.val - 100) 5 = some (nI k.val) := by
  unfold f_J9_floorMod_7cf53 f_X8_modulo
  decide +kernel
theorem fm_d2 : ∀ a : Fin 201, (f_J9_floorMod_7cf53 (nI a.val - 100) 2 = some 0 ∧ ((nI a.val - 100) &&& (1 : Int32)) = 0) ∨ (f_J9_floorMod_7cf53 (nI a.val - 100) 2 = some 1 ∧ ¬ ((nI a.val - 100) &&& (1 : Int32)) = 0) := by
  unfold f_J9_floorMod_7cf53
  decide +kernel
theorem fm_x {x : Int32} (h1 : (-100 : Int32) ≤ x) (h2 : x ≤ 100) : ∃ a : Fin 201, x = nI a.val - 100 := by
  have h := i_rng (l := -100) (h := 100) h1 h2 (by decide) (by decide)
  refine ⟨⟨(x.toInt + 100).toNat, by omega⟩, ?_⟩
  apply Int32.toInt_inj.mp
  show x.toInt = (nI (x.toInt + 100).toNat - 100).toInt
  have e : ∀ a : Fin 201, (nI a.val - 100).toInt = (a.val : Int) - 100 := by decide +kernel
  have := e ⟨(x.toInt + 100).toNat, by omega⟩
  rw [this]
  show x.toInt = (((x.toInt + 100).toNat : Nat) : Int) - 100
  omega
theorem ku_d : ∀ i j : Fin 5, z_it (fun x => f_X7_isKindOrUnder_L4 (nI j.val) x.1 x.2) 6 (nI i.val, (0 : Int32)) = some (if j.val = 0 ∨ j.val = i.val ∨ (j.val = 1 ∧ (i.val = 1 ∨ i.val = 2 ∨ i.val = 4)) then .inl 1 else .inr ()) := by decide +kernel
theorem p_kou {S : GS} {i j : Nat} (hi : i < 5) (hj : j < 5) : f_X7_isKindOrUnder S (nI i) (nI j) = some (if j = 0 ∨ j = i ∨ (j = 1 ∧ (i = 1 ∨ i = 2 ∨ i = 4)) then 1 else 0) := by
  have h := ku_d ⟨i, hi⟩ ⟨j, hj⟩
  unfold f_X7_isKindOrUnder
  rw [z_lp_of h]
  dsimp only
  by_cases q : j = 0 ∨ j = i ∨ (j = 1 ∧ (i = 1 ∨ i = 2 ∨ i = 4))
  · rw [if_pos q, if_pos q]; rfl
  · rw [if_neg q, if_neg q]; rfl
theorem Kd.n {kd : Int32} (h : Kd kd) : ∃ i, i < 5 ∧ kd = nI i := by
  rcases h with h | h | h | h | h
  · exact ⟨0, by omega, h⟩
  · exact ⟨1, by omega, h⟩
  · exact ⟨2, by omega, h⟩
  · exact ⟨3, by omega, h⟩
  · exact ⟨4, by omega, h⟩
section FG
variable {S : GS} {M : MS} {o cnt : Nat} {st : Int32} {F : Nat → Option Nat} {ln : Nat → Nat} {q : Nat → Option Nat}
/-- both sides: a status, an answer, nothing else -/
def StOnly (S S' : GS) (M M' : MS) (o cnt : Nat) : Prop := ∃ w, TopAt S' o (nI cnt) w ∧ Same S S' o 1 ∧ M' = sI M 18 0 w
theorem f_ref (hT : TopAt S o (nI cnt) st) (w : Int32) : ∃ S', f_X7_refuse S o w = some (-1, S') ∧ f_X8_refused M w = some (-1, sI M 18 0 w) ∧ StOnly S S' M (sI M 18 0 w) o cnt := by
  obtain ⟨S', e, h1, h2⟩ := t_refuse hT w
  exact ⟨S', e, rfl, w, h1, h2, rfl⟩
theorem f_don (hT : TopAt S o (nI cnt) st) (r : Int32) : ∃ S', f_X7_done S o r = some (r, S') ∧ f_X8_done M r = some (r, sI M 18 0 0) ∧ StOnly S S' M (sI M 18 0 0) o cnt := by
  obtain ⟨S', e, h1, h2⟩ := t_done hT r
  exact ⟨S', e, rfl, 0, h1, h2, rfl⟩
theorem g_isLine {f : Nat} {kd : Int32} (hf : f < 10) (h5 : M.1 5 f = kd) {i : Nat} (hi : i < 5) (hk : kd = nI i) : f_X8_isLine M (nI f) = some (if i = 1 ∨ i = 2 ∨ i = 4 then 1 else 0) := by
  rw [r_isLine hf h5, hk]
  rcases (show i = 0 ∨ i = 1 ∨ i = 2 ∨ i = 3 ∨ i = 4 by omega) with rfl | rfl | rfl | rfl | rfl <;> rfl
theorem f_0 (hT : TopAt S o (nI cnt) st) (hF : FitsOk S M o cnt F ln) {k j : Nat} (hk : k < 10) (hj : j < 5) : ∃ r S' M', (z_bd (g_rQ S 1 (o + 2) (nI k)) fun q_7 => f_X7_forgeKind S o q_7 (nI j)) = some (r, S') ∧ f_X8_fitTaken M (nI k) (nI j) = some (r, M') ∧ StOnly S S' M M' o cnt := by
  have hi := t_is hT
  have q10 : z_in (nI k) 10 := by rw [n_in (by omega)]; exact hk
  rw [g_rQ_e hF.1 q10, z_bd_s, n_cl (by omega)]
  unfold f_X7_forgeKind f_X8_fitTaken
  by_cases c : k < cnt
  · obtain ⟨a, a1, g1, g2, g3, kd, dg, n, P, V, Z, pc, bg, C, g4, g5, g6, g7⟩ := hF.2.2.2.1 k c
    obtain ⟨i, hi5, hki⟩ := Kd.n g5.2.2.2.2.2.2.1
    simp only [z_chk_t q10]
    rw [a1, z_mt_S, m_isFit hF.2.1 c hF.2.2.1, z_bd_s, if_neg z_10, g4.1.i1, z_bd_s, n_cl (by omega), g6.1.1, g_isLine hk g6.1.1 hi5 hki, hki, p_kou hi5 hj, z_bd_s, z_bd_s]
    simp only [show (nI j = (0 : Int32)) = (j = 0) from n_eq (b := 0) (by omega) (by omega), show (nI j = (1 : Int32)) = (j = 1) from n_eq (b := 1) (by omega) (by omega), n_eq (show j < 2147483648 by omega) (show i < 2147483648 by omega)]
    by_cases y : j = 0 ∨ j = i ∨ (j = 1 ∧ (i = 1 ∨ i = 2 ∨ i = 4))
    · obtain ⟨S', e1, e2, e3⟩ := f_don (M := M) hT (nI i)
      refine ⟨nI i, S', _, by rw [if_pos y, if_neg z_10, z_chk_t hi, e1, z_bd2_s], ?_, e3⟩
      by_cases y0 : j = 0
      · rw [if_pos y0, e2, z_bd2_s]
      · rw [if_neg y0]
        by_cases y1 : j = i
        · rw [if_pos y1, e2, z_bd2_s]
        · rw [if_neg y1, if_pos (show j = 1 by omega), z_bd_s, if_pos (show i = 1 ∨ i = 2 ∨ i = 4 by omega), if_neg z_10, e2, z_bd2_s]
    · obtain ⟨S', e1, e2, e3⟩ := f_ref (M := M) hT 11
      refine ⟨-1, S', _, by rw [if_neg y, if_pos rfl, z_chk_t hi, e1, z_bd2_s], ?_, e3⟩
      rw [if_neg (show ¬ j = 0 by omega), if_neg (show ¬ j = i by omega)]
      by_cases y1 : j = 1
      · rw [if_pos y1, z_bd_s, if_neg (show ¬ (i = 1 ∨ i = 2 ∨ i = 4) by omega), if_pos rfl, e2, z_bd2_s]
      · rw [if_neg y1, e2, z_bd2_s]
  · obtain ⟨S', e1, e2, e3⟩ := f_ref (M := M) hT 10
    rw [hF.2.2.2.2 k (by omega) hk, z_mt_N]
    refine ⟨-1, S', _, by rw [z_chk_t hi, e1, z_bd2_s], ?_, e3⟩
    have hnf : f_X8_isFit M (nI k) = some 0 := by
      unfold f_X8_isFit
      rw [hF.2.1]
      have := hF.2.2.1
      rcases z_idx cnt (by omega) (nI k) with ⟨w1, w2⟩ | ⟨k', w1, w2, w3⟩
      · rw [w2, z_bd_s, z_chk_t (Or.inl rfl)]
      · rw [n_eq (by omega) (by omega)] at w2; omega
    rw [hnf, z_bd_s, if_pos rfl, e2, z_bd2_s]
theorem f_4 (hT : TopAt S o (nI cnt) st) (hF : FitsOk S M o cnt F ln) {k : Nat} (hk : k < 10) : ∃ r S' M', (z_bd (g_rQ S 1 (o + 2) (nI k)) fun q_7 => f_X7_forgeRowOfLines S o q_7) = some (r, S') ∧ (z_bd (f_X8_isFit M (nI k)) fun r_38 => if r_38 = 0 then z_bd2 (f_X8_done M (0 : Int32)) fun r_45 M_44 => some (r_45, M_44) else z_bd (f_X8_isLine M (nI k)) fun r_39 => if r_39 = 0 then z_bd2 (f_X8_refused M (14 : Int32)) fun r_41 M_40 => some (r_41, M_40) else z_chk (z_in (nI k) 10) (z_bd2 (f_X8_done M (M.1 5 (nI k).toNatClampNeg)) fun r_43 M_42 => some (r_43, M_42))) = some (r, M') ∧ StOnly S S' M M' o cnt := by
  have hi := t_is hT
  have q10 : z_in (nI k) 10 := by rw [n_in (by omega)]; exact hk
  rw [g_rQ_e hF.1 q10, z_bd_s, z_chk_t q10, n_cl (by omega)]
  unfold f_X7_forgeRowOfLines
  by_cases c : k < cnt
  · obtain ⟨a, a1, g1, g2, g3, kd, dg, n, P, V, Z, pc, bg, C, g4, g5, g6, g7⟩ := hF.2.2.2.1 k c
    obtain ⟨i, hi5, hki⟩ := Kd.n g5.2.2.2.2.2.2.1
    rw [a1, z_mt_S, m_isFit hF.2.1 c hF.2.2.1, z_bd_s, if_neg z_10, g4.1.i1, z_bd_s, g6.1.1, g_isLine hk g6.1.1 hi5 hki, hki, show (1 : Int32) = nI 1 from rfl, p_kou hi5 (by omega), z_bd_s, z_bd_s, z_bd_s]
    by_cases y : i = 1 ∨ i = 2 ∨ i = 4
    · obtain ⟨S', e1, e2, e3⟩ := f_don (M := M) hT (nI i)
      exact ⟨nI i, S', _, by rw [if_pos (show 1 = 0 ∨ 1 = i ∨ (1 = 1 ∧ (i = 1 ∨ i = 2 ∨ i = 4)) by omega), if_neg (by decide), z_chk_t hi, e1, z_bd2_s], by rw [if_pos y, if_neg (by decide), e2, z_bd2_s], e3⟩
    · obtain ⟨S', e1, e2, e3⟩ := f_ref (M := M) hT 14
      exact ⟨-1, S', _, by rw [if_neg (show ¬ (1 = 0 ∨ 1 = i ∨ (1 = 1 ∧ (i = 1 ∨ i = 2 ∨ i = 4))) by omega), if_pos rfl, z_chk_t hi, e1, z_bd2_s], by rw [if_neg y, if_pos rfl, e2, z_bd2_s], e3⟩
  · obtain ⟨S', e1, e2, e3⟩ := f_don (M := M) hT 0
    rw [hF.2.2.2.2 k (by omega) hk, z_mt_N]
    refine ⟨0, S', _, by rw [z_chk_t hi, e1, z_bd2_s], ?_, e3⟩
    have hnf : f_X8_isFit M (nI k) = some 0 := by
      unfold f_X8_isFit
      rw [hF.2.1]
      have := hF.2.2.1
      rcases z_idx cnt (by omega) (nI k) with ⟨w1, w2⟩ | ⟨k', w1, w2, w3⟩
      · rw [w2, z_bd_s, z_chk_t (Or.inl rfl)]
      · rw [n_eq (by omega) (by omega)] at w2; omega
    rw [hnf, z_bd_s, if_pos rfl, e2, z_bd2_s]
theorem p_statusOf {a : Nat} {so : Int32} {n : Nat} {C : Nat → Int32} (h : ShAt S a so n C) (x : Int32) : f_X7_statusOf S (some a) x = some (if so = x then 0 else 11) := by
  unfold f_X7_statusOf
  rw [z_mt_S, h.so, z_bd_s]
  by_cases z : so = x
  · rw [if_pos z, if_pos z]
  · rw [if_neg z, if_neg z]
theorem f_2 (hT : TopAt S o (nI cnt) st) (hS : SheetsOk S M o q) {k : Nat} (hk : k < 4) (a1 : Int32) : ∃ r S' M', (z_bd (g_rQ S 2 (o + 3) (nI k)) fun q_17 => f_X7_forgeNumber S o q_17 a1) = some (r, S') ∧ (z_chk (z_in (nI k) 4) (if (M.1 15 (nI k).toNatClampNeg) = (-1 : Int32) then z_bd2 (f_X8_refused M (10 : Int32)) fun r_25 M_24 => some (r_25, M_24) else z_chk (z_in (nI k) 4) (if (M.1 15 (nI k).toNatClampNeg) = (1 : Int32) then z_chk (z_in (nI k) 4) (z_bd (f_X8_in a1 (0 : Int32) ((M.1 16 (nI k).toNatClampNeg) - (1 : Int32))) fun r_17 => if r_17 = 0 then z_bd2 (f_X8_refused M (12 : Int32)) fun r_19 M_18 => some (r_19, M_18) else z_chk (z_in (((40 : Int32) * nI k) + a1) 160) (z_bd2 (f_X8_done M (M.1 17 (((40 : Int32) * nI k) + a1).toNatClampNeg)) fun r_21 M_20 => some (r_21, M_20))) else z_bd2 (f_X8_refused M (11 : Int32)) fun r_23 M_22 => some (r_23, M_22)))) = some (r, M') ∧ StOnly S S' M M' o cnt := by
  have hi := t_is hT
  have q4 : z_in (nI k) 4 := by rw [n_in (by omega)]; exact hk
  simp only [z_chk_t q4]
  rw [g_rQ_e hS.1 q4, z_bd_s, n_cl (by omega)]
  unfold f_X7_forgeNumber
  rcases hS.2.1 k hk with ⟨g1, g2⟩ | ⟨a, so, n, C, g1, g2, g3, g4, g5, g6, g7, g8, g9⟩
  · obtain ⟨S', e1, e2, e3⟩ := f_ref (M := M) hT 10
    rw [g1, g2]
    exact ⟨-1, S', _, by show z_bd (some (10 : Int32)) _ = _; rw [z_bd_s, z_mt_N, z_chk_t hi, e1, z_bd2_s], by rw [if_pos rfl, e2, z_bd2_s], e3⟩
  · rw [g1, p_statusOf g4, z_bd_s, z_mt_S, g7, if_neg g5, g8]
    by_cases y : so = 1
    · rw [if_pos y, if_pos rfl, if_pos y, z_chk_t g4.is]
      rcases z_idx n (by omega) a1 with ⟨k1, k2⟩ | ⟨j, hj, rfl, k2⟩
      · obtain ⟨S', e1, e2, e3⟩ := f_ref (M := M) hT 12
        exact ⟨-1, S', _, by rw [g4.has0 k1, z_bd_s, if_pos rfl, z_chk_t hi, e1, z_bd2_s], by rw [k2, z_bd_s, if_pos rfl, e2, z_bd2_s], e3⟩
      · obtain ⟨S', e1, e2, e3⟩ := f_don (M := M) hT (C j)
        have e0 : ((40 : Int32) * nI k) + nI j = nI (40 * k + j) := by rw [show (40 : Int32) = nI 40 from rfl, n_mul, n_add]
        exact ⟨C j, S', _, by rw [g4.has1 g6 hj, z_bd_s, if_neg z_10, g4.r, z_bd_s, g4.d hj g6, z_bd_s, z_chk_t hi, e1, z_bd2_s], by rw [k2, z_bd_s, if_neg z_10, z_chk_t (by rw [e0, n_in (by omega)]; omega), e0, n_cl (by omega), g9 j hj, e2, z_bd2_s], e3⟩
    · obtain ⟨S', e1, e2, e3⟩ := f_ref (M := M) hT 11
      exact ⟨-1, S', _, by rw [if_neg y, if_neg (by decide), z_chk_t hi, e1, z_bd2_s], by rw [if_neg y, e2, z_bd2_s], e3⟩
/-- a sum of the first numbers of a sheet -/
def sC (C : Nat → Int32) : Nat → Int32
  | 0 => 0
  | k + 1 => sC C k + C (k + 1)
theorem f_3 (hT : TopAt S o (nI cnt) st) (hS : SheetsOk S M o q) {k : Nat} (hk : k < 4) (a1 : Int32) (hr : (-100 : Int32) ≤ a1 ∧ a1 ≤ 100) : ∃ r S' M', (z_bd (g_rQ S 2 (o + 3) (nI k)) fun q_22 => f_X7_forgeCopy S o q_22 a1) = some (r, S') ∧ (z_chk (z_in (nI k) 4) (if (M.1 15 (nI k).toNatClampNeg) = (-1 : Int32) then z_bd2 (f_X8_refused M (10 : Int32)) fun r_37 M_36 => some (r_37, M_36) else z_chk (z_in (nI k) 4) (if (M.1 15 (nI k).toNatClampNeg) = 0 then z_bd (f_X8_in a1 (0 : Int32) (3 : Int32)) fun r_26 => if r_26 = 0 then z_bd2 (f_X8_refused M (12 : Int32)) fun r_28 M_27 => some (r_28, M_27) else z_chk (z_in (nI k) 4) (if (M.1 16 (nI k).toNatClampNeg) < ((1 : Int32) + a1) then z_bd2 (f_X8_refused M (12 : Int32)) fun r_30 M_29 => some (r_30, M_29) else z_bd (f_X8_copied M (nI k) a1) fun r_31 => z_bd2 (f_X8_done M r_31) fun r_33 M_32 => some (r_33, M_32)) else z_bd2 (f_X8_refused M (11 : Int32)) fun r_35 M_34 => some (r_35, M_34)))) = some (r, M') ∧ StOnly S S' M M' o cnt := by
  have hi := t_is hT
  have q4 : z_in (nI k) 4 := by rw [n_in (by omega)]; exact hk
  simp only [z_chk_t q4]
  rw [g_rQ_e hS.1 q4, z_bd_s, n_cl (by omega)]
  unfold f_X7_forgeCopy
  rcases hS.2.1 k hk with ⟨g1, g2⟩ | ⟨a, so, n, C, g1, g2, g3, g4, g5, g6, g7, g8, g9⟩
  · obtain ⟨S', e1, e2, e3⟩ := f_ref (M := M) hT 10
    rw [g1, g2]
    exact ⟨-1, S', _, by show z_bd (some (10 : Int32)) _ = _; rw [z_bd_s, z_mt_N, z_chk_t hi, e1, z_bd2_s], by rw [if_pos rfl, e2, z_bd2_s], e3⟩
  · rw [g1, p_statusOf g4, z_bd_s, z_mt_S, g7, if_neg g5, g8]
    by_cases y : so = 0
    · rw [if_pos y, if_pos rfl, if_pos y]
      unfold g_lI
      rw [g4.r, z_bd_s, g_ai_e g4.2, z_bd2_s, z_bd_s, show Int32.ofNat n = nI n from rfl]
      obtain ⟨S', e1, e2, e3⟩ := f_ref (M := M) hT 12
      by_cases z0 : a1 < 0
      · refine ⟨-1, S', _, by rw [if_pos z0, z_chk_t hi, e1, z_bd2_s], ?_, e3⟩
        unfold f_X8_in
        rw [if_pos z0, z_bd_s, if_pos rfl, e2, z_bd2_s]
      · rw [if_neg z0]
        have z1 : 0 ≤ a1 := by
          rw [Int32.lt_iff_toInt_lt] at z0
          rw [Int32.le_iff_toInt_le]
          omega
        obtain ⟨j, hj, rfl⟩ := n_of z1
        have hj100 : j ≤ 100 := by
          have := hr.2
          rw [show (100 : Int32) = nI 100 from rfl, n_le hj (by omega)] at this
          exact this
        rw [show (1 : Int32) + nI j = nI (1 + j) from n_add 1 j, n_add]
        simp only [n_lt (show n < 2147483648 by omega) (show 1 + j < 2147483648 by omega), show (nI (j + j) ≤ (6 : Int32)) = (j + j ≤ 6) from n_le (b := 6) (by omega) (by omega)]
        have hin : f_X8_in (nI j) 0 3 = some (if j ≤ 3 then 1 else 0) := by
          unfold f_X8_in
          rw [if_neg z0, show (3 : Int32) = nI 3 from rfl]
          by_cases w : j ≤ 3
          · rw [if_neg (by rw [n_lt (by omega) hj]; omega), if_pos w]
          · rw [if_pos (by rw [n_lt (by omega) hj]; omega), if_neg w]
        rw [hin, z_bd_s]
        by_cases w : n < 1 + j
        · rw [if_pos w]
          refine ⟨-1, S', _, by rw [z_chk_t hi, e1, z_bd2_s], ?_, e3⟩
          by_cases w3 : j ≤ 3
          · rw [if_pos w3, if_neg z_10, if_pos w, e2, z_bd2_s]
          · rw [if_neg w3, if_pos rfl, e2, z_bd2_s]
        · rw [if_neg w]
          by_cases w3 : j ≤ 3
          · rw [if_pos (by omega), if_pos w3, if_neg z_10, if_neg w]
            obtain ⟨S2, d1, d2, d3⟩ := f_don (M := M) hT (sC C j)
            have l1 : z_lp (fun x => f_X7_forgeCopy_L56 S (nI j) a x.1 x.2) ((0 : Int32), (1 : Int32)) = some (sC C j) := by
              have hh := z_lp_count (b := fun x : Int32 × Int32 => f_X7_forgeCopy_L56 S (nI j) a x.1 x.2) (fun i => (sC C i, nI (i + 1))) j (e := sC C j) (fun i hi => ?_) ?_
              · exact hh
              · show f_X7_forgeCopy_L56 S (nI j) a (sC C i) (nI (i + 1)) = some (Sum.inr (sC C (i + 1), nI (i + 1 + 1)))
                unfold f_X7_forgeCopy_L56
                rw [if_neg (by rw [n_lt hj (by omega)]; omega), g4.r, z_bd_s, g4.d (by omega) g6, z_bd_s, show nI (i + 1) + 1 = nI (i + 1 + 1) from n_add _ 1]
                rfl
              · show f_X7_forgeCopy_L56 S (nI j) a (sC C j) (nI (j + 1)) = _
                unfold f_X7_forgeCopy_L56
                rw [if_pos (by rw [n_lt hj (by omega)]; omega)]
            have l2 : f_X8_copied M (nI k) (nI j) = some (sC C j) := by
              unfold f_X8_copied
              have hh := z_lp_count (b := fun x : Int32 × Int32 => f_X8_copied_L5 M (nI k) (nI j) x.1 x.2) (fun i => (sC C i, nI (i + 1))) j (e := sC C j) (fun i hi => ?_) ?_
              · rw [show ((0 : Int32), (1 : Int32)) = (sC C 0, nI (0 + 1)) from rfl, hh, z_bd_s]
              · show f_X8_copied_L5 M (nI k) (nI j) (sC C i) (nI (i + 1)) = some (Sum.inr (sC C (i + 1), nI (i + 1 + 1)))
                have e0 : ((40 : Int32) * nI k) + nI (i + 1) = nI (40 * k + (i + 1)) := by rw [show (40 : Int32) = nI 40 from rfl, n_mul, n_add]
                unfold f_X8_copied_L5
                rw [if_neg (by rw [n_lt hj (by omega)]; omega), z_chk_t (by rw [e0, n_in (by omega)]; omega), e0, n_cl (by omega), g9 (i + 1) (by omega), show nI (i + 1) + 1 = nI (i + 1 + 1) from n_add _ 1]
                rfl
              · show f_X8_copied_L5 M (nI k) (nI j) (sC C j) (nI (j + 1)) = _
                unfold f_X8_copied_L5
                rw [if_pos (by rw [n_lt hj (by omega)]; omega)]
            exact ⟨sC C j, S2, _, by rw [l1, z_bd_s, z_chk_t hi, d1, z_bd2_s], by rw [l2, z_bd_s, d2, z_bd2_s], d3⟩
          · exact ⟨-1, S', _, by rw [if_neg (by omega), z_chk_t hi, e1, z_bd2_s], by rw [if_neg w3, if_pos rfl, e2, z_bd2_s], e3⟩
    · obtain ⟨S', e1, e2, e3⟩ := f_ref (M := M) hT 11
      exact ⟨-1, S', _, by rw [if_neg y, if_neg (by decide), z_chk_t hi, e1, z_bd2_s], by rw [if_neg y, e2, z_bd2_s], e3⟩
theorem c_forge (hT : TopAt S o (nI cnt) st) (hF : FitsOk S M o cnt F ln) (hS : SheetsOk S M o q) (a0 a1 a2 : Int32) : ∃ r S' M', f_X7_forge S o a0 a1 a2 = some (r, S') ∧ f_X8_forge M a0 a1 a2 = some (r, M') ∧ StOnly S S' M M' o cnt := by
  have hi := t_is hT
  obtain ⟨S1, e1, e2, e3⟩ := f_ref (M := M) hT 1
  unfold f_X7_forge f_X8_forge
  rw [z_within, z_within]
  have hin : f_X8_in a0 0 6 = some 0 ∧ (¬ a0 = 0 ∧ ¬ a0 = 1 ∧ ¬ a0 = 2 ∧ ¬ a0 = 3 ∧ ¬ a0 = 4 ∧ ¬ a0 = 5 ∧ ¬ a0 = 6) ∨ f_X8_in a0 0 6 = some 1 ∧ (a0 = 0 ∨ a0 = 1 ∨ a0 = 2 ∨ a0 = 3 ∨ a0 = 4 ∨ a0 = 5 ∨ a0 = 6) := by
    rcases z_idx 7 (by omega) a0 with ⟨h1, h2⟩ | ⟨k, h1, rfl, h2⟩
    · left
      rw [show (nI 7 - 1 : Int32) = 6 by decide] at h2
      refine ⟨h2, ?_, ?_, ?_, ?_, ?_, ?_, ?_⟩ <;> (rintro rfl; revert h1; decide)
    · right
      rw [show (nI 7 - 1 : Int32) = 6 by decide] at h2
      refine ⟨h2, ?_⟩
      rcases (show k = 0 ∨ k = 1 ∨ k = 2 ∨ k = 3 ∨ k = 4 ∨ k = 5 ∨ k = 6 by omega) with rfl | rfl | rfl | rfl | rfl | rfl | rfl <;> decide
  rcases z_in01 a1 (-100) 100 with b1 | ⟨b1, b2, b3⟩
  · refine ⟨-1, S1, _, by rw [b1, z_bd_s, if_pos rfl, z_chk_t hi, e1, z_bd2_s], ?_, e3⟩
    rcases hin with ⟨c1, -⟩ | ⟨c1, -⟩
    · rw [c1, z_bd_s, if_pos rfl, e2, z_bd2_s]
    · rw [c1, z_bd_s, if_neg z_10, b1, z_bd_s, if_pos rfl, e2, z_bd2_s]
  · rcases z_in01 a2 (-100) 100 with d1 | ⟨d1, d2, d3⟩
    · refine ⟨-1, S1, _, by rw [b1, z_bd_s, if_neg z_10, d1, z_bd_s, if_pos rfl, z_chk_t hi, e1, z_bd2_s], ?_, e3⟩
      rcases hin with ⟨c1, -⟩ | ⟨c1, -⟩
      · rw [c1, z_bd_s, if_pos rfl, e2, z_bd2_s]
      · rw [c1, z_bd_s, if_neg z_10, b1, z_bd_s, if_neg z_10, d1, z_bd_s, if_pos rfl, e2, z_bd2_s]
    · rw [b1, z_bd_s, if_neg z_10, d1, z_bd_s, if_neg z_10]
      rcases hin with ⟨c1, n0, n1, n2, n3, n4, n5, n6⟩ | ⟨c1, cc⟩
      · exact ⟨-1, S1, _, by rw [if_neg n0, if_neg n1, if_neg n2, if_neg n3, if_neg n4, if_neg n5, if_neg n6, z_chk_t hi, e1, z_bd2_s], by rw [c1, z_bd_s, if_pos rfl, e2, z_bd2_s], e3⟩
      · obtain ⟨x2, hx2⟩ := fm_x d2 d3
        obtain ⟨x1, hx1⟩ := fm_x b2 b3
        obtain ⟨k10, m1, m2⟩ := fm_d10 x2
        obtain ⟨k4, m3, m4⟩ := fm_d4 x2
        obtain ⟨k5, m5, m6⟩ := fm_d5 x1
        have m7 := fm_d2 x1
        rw [← hx2] at m1 m2 m3 m4
        rw [← hx1] at m5 m6 m7
        rw [c1, z_bd_s, if_neg z_10, z_bd_s, if_neg z_10, z_bd_s, if_neg z_10, m2, z_bd_s, m4, z_bd_s, g_r_e (k := 1) hT rfl, z_bd_s, g_r_e (k := 2) hT rfl, z_bd_s, m1, z_bd_s, m3, z_bd_s, m5, m6]
        have eta2 : ∀ (x : Option (Int32 × GS)), (z_bd2 x fun r_10 S_9 => (some (r_10, S_9) : Option (Int32 × GS))) = x := by intro x; cases x <;> rfl
        have eta3 : ∀ (x : Option (Int32 × MS)), (z_bd2 x fun r_10 S_9 => (some (r_10, S_9) : Option (Int32 × MS))) = x := by intro x; cases x <;> rfl
        simp only [z_chk_t hi, eta2, eta3, z_bd_s]
        rcases cc with rfl | rfl | rfl | rfl | rfl | rfl | rfl
        · obtain ⟨r, S', M', y1, y2, y3⟩ := f_0 hT hF k10.isLt k5.isLt
          exact ⟨r, S', M', by rw [if_pos rfl]; exact y1, by rw [if_pos rfl]; exact y2, y3⟩
        · simp only [if_neg z_10, if_pos (show (1 : Int32) = 1 from rfl)]
          by_cases w : 0 ≤ a1
          · obtain ⟨S', y1, y2, y3⟩ := f_don (M := M) hT a1
            exact ⟨a1, S', _, by rw [if_pos w]; exact y1, by rw [if_pos w]; exact y2, y3⟩
          · obtain ⟨S', y1, y2, y3⟩ := f_ref (M := M) hT 13
            exact ⟨-1, S', _, by rw [if_neg w]; exact y1, by rw [if_neg w]; exact y2, y3⟩
        · obtain ⟨r, S', M', y1, y2, y3⟩ := f_2 hT hS k4.isLt a1
          simp only [eta3] at y2
          exact ⟨r, S', M', by rw [if_neg (by decide), if_neg (by decide), if_pos rfl]; exact y1, by rw [if_neg (by decide), if_neg (by decide), if_pos rfl]; exact y2, y3⟩
        · obtain ⟨r, S', M', y1, y2, y3⟩ := f_3 hT hS k4.isLt a1 ⟨b2, b3⟩
          simp only [eta3] at y2
          exact ⟨r, S', M', by rw [if_neg (by decide), if_neg (by decide), if_neg (by decide), if_pos rfl]; exact y1, by rw [if_neg (by decide), if_neg (by decide), if_neg (by decide), if_pos rfl]; exact y2, y3⟩
        · obtain ⟨r, S', M', y1, y2, y3⟩ := f_4 hT hF k10.isLt
          simp only [eta3] at y2
          exact ⟨r, S', M', by rw [if_neg (by decide), if_neg (by decide), if_neg (by decide), if_neg (by decide), if_pos rfl]; exact y1, by rw [if_neg (by decide), if_neg (by decide), if_neg (by decide), if_neg (by decide), if_pos rfl]; exact y2, y3⟩
        · simp only [if_neg (show ¬ (5 : Int32) = 0 by decide), if_neg (show ¬ (5 : Int32) = 1 by decide), if_neg (show ¬ (5 : Int32) = 2 by decide), if_neg (show ¬ (5 : Int32) = 3 by decide), if_neg (show ¬ (5 : Int32) = 4 by decide), if_pos (show (5 : Int32) = 5 from rfl)]
          by_cases w : a1 = 0
          · obtain ⟨S', y1, y2, y3⟩ := f_ref (M := M) hT 15
            exact ⟨-1, S', _, by rw [if_pos w]; exact y1, by rw [if_pos w]; exact y2, y3⟩
          · obtain ⟨S', y1, y2, y3⟩ := f_don (M := M) hT (1000 / a1)
            exact ⟨_, S', _, by rw [if_neg w, z_chk_t w]; exact y1, by rw [if_neg w, z_chk_t w]; exact y2, y3⟩
        · simp only [if_neg (show ¬ (6 : Int32) = 0 by decide), if_neg (show ¬ (6 : Int32) = 1 by decide), if_neg (show ¬ (6 : Int32) = 2 by decide), if_neg (show ¬ (6 : Int32) = 3 by decide), if_neg (show ¬ (6 : Int32) = 4 by decide), if_neg (show ¬ (6 : Int32) = 5 by decide), if_pos (show (6 : Int32) = 6 from rfl)]
          rcases m7 with ⟨w1, w2⟩ | ⟨w1, w2⟩
          · obtain ⟨S', y1, y2, y3⟩ := f_ref (M := M) hT 10
            exact ⟨-1, S', _, by rw [w1, z_bd_s, if_pos rfl]; exact y1, by rw [if_pos w2]; exact y2, y3⟩
          · obtain ⟨S', y1, y2, y3⟩ := f_don (M := M) hT 1
            exact ⟨1, S', _, by rw [w1, z_bd_s, if_neg z_10]; exact y1, by rw [if_neg w2]; exact y2, y3⟩
end FG
