/-! points: a POINT out of a SHEET -/
theorem z_sub3 {n k : Nat} (hn : n ≤ 40) (hk : k < 2147483648) : (nI k ≤ nI n - 3) = (k + 3 ≤ n) := by
  apply propext
  rcases Nat.lt_or_ge n 3 with q | q
  · rw [Int32.le_iff_toInt_le, n_toInt hk]
    have : (nI n - 3).toInt < 0 := by
      rcases (show n = 0 ∨ n = 1 ∨ n = 2 by omega) with rfl | rfl | rfl <;> decide
    omega
  · rw [show (3 : Int32) = nI 3 from rfl, n_sub q, n_le hk (by omega)]
    omega
theorem c_points {S : GS} {M : MS} {o : Nat} {fc st : Int32} {q : Nat → Option Nat} (hT : TopAt S o fc st) (hA : SetsArr S o) (hO : SetsOk S M o) (hS : SheetsOk S M o q) (a0 a1 a2 a3 : Int32) : ∃ r S' M' st', f_X7_points S o a0 a1 a2 a3 = some (r, S') ∧ f_X8_points M a0 a1 a2 a3 = some (r, M') ∧ TopAt S' o fc st' ∧ M'.1 18 0 = st' ∧ SetsOk S' M' o ∧ KeepS S S' o ∧ KeepM M M' := by
  have hi := t_is hT
  have ref : ∀ w : Int32, ∃ S', f_X7_refuse S o w = some (-1, S') ∧ TopAt S' o fc w ∧ (sI M 18 0 w).1 18 0 = w ∧ SetsOk S' (sI M 18 0 w) o ∧ KeepS S S' o ∧ KeepM M (sI M 18 0 w) := by
    intro w
    obtain ⟨S', e, h1, h2⟩ := t_refuse hT w
    exact ⟨S', e, h1, by rw [sI_s, upd_s], hO.st w h2, KeepS.st h2, KeepM.st M w⟩
  unfold f_X7_points f_X8_points
  rw [z_chk_t hi]
  rcases z_in05 a0 with ⟨h1, h2⟩ | ⟨s, hs, rfl, h1⟩
  · obtain ⟨S', e, r1⟩ := ref 1
    exact ⟨-1, S', _, 1, by rw [t_setAt0 h2, z_bd_s, z_mt_N, z_chk_t hi, e, z_bd2_s], by rw [h1, z_bd_s, if_pos rfl, m_refuse, z_bd2_s], r1⟩
  · rw [h1, z_bd_s, if_neg z_10, t_setAt hT hA hs, z_bd_s, z_mt_S, z_isSheet]
    have q6 : z_in (nI s) 6 := by rw [n_in (by omega)]; exact hs
    obtain ⟨n, P, V, Z, hp⟩ := hO s hs
    obtain ⟨p1, p2, p3, p4⟩ := id hp
    have hn12 := p2.1
    rcases z_in3 a1 with h2 | ⟨t, ht, rfl, h2⟩
    · obtain ⟨S', e, r1⟩ := ref 1
      exact ⟨-1, S', _, 1, by rw [h2, z_bd_s, if_pos rfl, z_chk_t hi, e, z_bd2_s], by rw [h2, z_bd_s, if_pos rfl, m_refuse, z_bd2_s], r1⟩
    · have q4 : z_in (nI t) 4 := by rw [n_in (by omega)]; exact ht
      rw [h2, z_bd_s, z_bd_s, if_neg z_10, if_neg z_10, z_within]
      rcases z_in01 a2 0 2 with h3 | ⟨h3, -, -⟩
      · obtain ⟨S', e, r1⟩ := ref 1
        exact ⟨-1, S', _, 1, by rw [h3, z_bd_s, if_pos rfl, z_chk_t hi, e, z_bd2_s], by rw [h3, z_bd_s, if_pos rfl, m_refuse, z_bd2_s], r1⟩
      · rw [h3, z_bd_s, z_bd_s, if_neg z_10, if_neg z_10]
        simp only [z_chk_t q6, z_chk_t q4]
        rw [n_cl (by omega), p3, show (12 : Int32) = nI 12 from rfl, z_chk_t p1.is, p_full p1 p2.1, z_bd_s]
        by_cases qn : n = 12
        · obtain ⟨S', e, rr⟩ := ref 2
          exact ⟨-1, S', _, 2, by rw [if_pos qn, if_neg z_10, z_chk_t hi, e, z_bd2_s], by rw [if_pos (by rw [qn]), m_refuse, z_bd2_s], rr⟩
        · rw [if_neg qn, if_pos rfl, if_neg (by rw [n_eq (by omega) (by omega)]; exact qn), g_r_e (k := 2) hT rfl, z_bd_s, g_rQ_e hS.1 q4, z_bd_s, n_cl (by omega)]
          rcases hS.2.1 t ht with ⟨g1, g2⟩ | ⟨a, so, m, C, g1, g2, g3, g4, g5, g6, g7, g8, g9⟩
          · obtain ⟨S', e, rr⟩ := ref 10
            refine ⟨-1, S', _, 10, ?_, by rw [g2, if_pos rfl, m_refuse, z_bd2_s], rr⟩
            rw [g1]
            show z_bd (f_X7_statusOf S none a2) _ = _
            rw [show f_X7_statusOf S none a2 = some 10 from rfl, z_bd_s, z_mt_N, z_chk_t hi, e, z_bd2_s]
          · rw [g1, g7, if_neg g5, g8]
            have hst : f_X7_statusOf S (some a) a2 = some (if so = a2 then 0 else 11) := by
              unfold f_X7_statusOf
              rw [z_mt_S, g4.so, z_bd_s]
              by_cases z : so = a2
              · rw [if_pos z, if_pos z]
              · rw [if_neg z, if_neg z]
            rw [hst, z_bd_s, z_mt_S]
            by_cases z : so = a2
            · rw [if_pos z, if_pos z, if_pos rfl, z_chk_t g4.is]
              by_cases z0 : a3 < 0
              · obtain ⟨S', e, rr⟩ := ref (nI 12)
                exact ⟨-1, S', _, nI 12, by rw [g4.has0 (Or.inl z0), z_bd_s, if_pos rfl, z_chk_t hi, e, z_bd2_s], by rw [if_pos z0, m_refuse, z_bd2_s], rr⟩
              · rw [if_neg z0]
                have z1 : 0 ≤ a3 := by
                  rw [Int32.lt_iff_toInt_lt] at z0
                  rw [Int32.le_iff_toInt_le]
                  omega
                obtain ⟨k, hk, rfl⟩ := n_of z1
                rcases Nat.lt_or_ge k m with km | km
                · rw [g4.has1 g6 km, z_bd_s, if_neg z_10, z_chk_t g4.is, show (2 : Int32) = nI 2 from rfl, show nI k + nI 2 = nI (k + 2) from n_add k 2]
                  rcases Nat.lt_or_ge (k + 2) m with km2 | km2
                  · rw [g4.has1 g6 km2, z_bd_s, if_neg z_10, g4.r, z_bd_s, g4.d km g6, z_bd_s, z_bd_s, show (1 : Int32) = nI 1 from rfl, show nI k + nI 1 = nI (k + 1) from n_add k 1, g4.d (i := k + 1) (by omega) g6, z_bd_s, z_bd_s, g4.d km2 g6, z_bd_s, z_allows]
                    rw [if_pos (by rw [z_sub3 g6 hk]; omega)]
                    have e1 : (40 : Int32) * nI t + nI k = nI (40 * t + k) := by rw [show (40 : Int32) = nI 40 from rfl, n_mul, n_add]
                    have e2 : (40 : Int32) * nI t + nI k + nI 1 = nI (40 * t + (k + 1)) := by rw [e1, n_add]; rfl
                    have e3 : (40 : Int32) * nI t + nI k + nI 2 = nI (40 * t + (k + 2)) := by rw [e1, n_add]; rfl
                    have w1 : z_in ((40 : Int32) * nI t + nI k) 160 := by rw [e1, n_in (by omega)]; omega
                    have w2 : z_in ((40 : Int32) * nI t + nI k + nI 1) 160 := by rw [e2, n_in (by omega)]; omega
                    have w3 : z_in ((40 : Int32) * nI t + nI k + nI 2) 160 := by rw [e3, n_in (by omega)]; omega
                    simp only [z_chk_t w1, z_chk_t w2, z_chk_t w3]
                    rw [e3, e2, e1, n_cl (by omega), n_cl (by omega), n_cl (by omega), g9 k km, g9 (k + 1) (by omega), g9 (k + 2) km2]
                    rcases z_isP (C k) (C (k + 1)) (C (k + 2)) with y1 | ⟨y1, r1, r2, r3⟩
                    · obtain ⟨S', e, rr⟩ := ref 3
                      exact ⟨-1, S', _, 3, by rw [y1, z_bd_s, if_pos rfl, z_chk_t hi, e, z_bd2_s], by rw [y1, z_bd_s, if_pos rfl, z_bd_s, if_pos rfl, m_refuse, z_bd2_s], rr⟩
                    · rw [y1, z_bd_s, z_bd_s, if_neg (by decide), if_neg (by decide), z_chk_t p1.is]
                      rcases p_holds p1 p2.1 (C k) with ⟨x1, x2⟩ | ⟨x1, x2⟩
                      · have x3 : f_X8_hasPlace M (nI s) (C k) = some 1 := by
                          rcases m_has hs p2.1 p3 (C k) with ⟨-, k2⟩ | ⟨k1, -⟩
                          · exact k2
                          · obtain ⟨i, i1, i2⟩ := x1
                            exact absurd ⟨i, i1, (p4 i i1).1.trans i2⟩ k1
                        obtain ⟨S', e, rr⟩ := ref 3
                        exact ⟨-1, S', _, 3, by rw [x2, z_bd_s, if_neg (by decide), z_chk_t hi, e, z_bd2_s], by rw [x3, z_bd_s, if_neg (by decide), z_bd_s, if_pos rfl, m_refuse, z_bd2_s], rr⟩
                      · have x3 : f_X8_hasPlace M (nI s) (C k) = some 0 := by
                          rcases m_has hs p2.1 p3 (C k) with ⟨⟨i, i1, i2⟩, -⟩ | ⟨-, k2⟩
                          · exact absurd ⟨i, i1, (p4 i i1).1.symm.trans i2⟩ x1
                          · exact k2
                        obtain ⟨S1, S2, M1, f1, f2, f3, f4, f5, f6, f7, f8, f9⟩ := c_comes hT hO hs hp (by omega) (C k) (C (k + 1)) (C (k + 2)) x1 r1 r2 r3
                        refine ⟨nI (n + 1), S2, M1, 0, ?_, ?_, f5, f6, f7, f8, f9⟩
                        · rw [x2, z_bd_s, if_pos rfl, z_chk_t p1.is, f1, z_bd2_s, z_chk_t f2, f3, z_bd2_s]
                        · rw [x3, z_bd_s, if_pos rfl, z_bd_s, if_neg (by decide), f4, z_bd2_s]
                  · obtain ⟨S', e, rr⟩ := ref (nI 12)
                    refine ⟨-1, S', _, nI 12, ?_, ?_, rr⟩
                    · rw [g4.has0 (Or.inr (by rw [n_le (by omega) (by omega)]; exact km2)), z_bd_s, if_pos rfl, z_chk_t hi, e, z_bd2_s]
                    · rw [if_neg (by rw [z_sub3 g6 hk]; omega), m_refuse, z_bd2_s]
                · obtain ⟨S', e, rr⟩ := ref (nI 12)
                  refine ⟨-1, S', _, nI 12, ?_, ?_, rr⟩
                  · rw [g4.has0 (Or.inr (by rw [n_le (by omega) hk]; exact km)), z_bd_s, if_pos rfl, z_chk_t hi, e, z_bd2_s]
                  · rw [if_neg (by rw [z_sub3 g6 hk]; omega), m_refuse, z_bd2_s]
            · obtain ⟨S', e, rr⟩ := ref 11
              exact ⟨-1, S', _, 11, by rw [if_neg z, if_neg (by decide), z_chk_t hi, e, z_bd2_s], by rw [if_neg z, m_refuse, z_bd2_s], rr⟩
