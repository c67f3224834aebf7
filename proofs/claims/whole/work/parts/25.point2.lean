/-- a new point: both sides, where it may come -/
theorem c_comes {S : GS} {M : MS} {o s n : Nat} {fc st : Int32} {P V Z : Nat → Int32} (hT : TopAt S o fc st) (hO : SetsOk S M o) (hs : s < 6) (hp : SetIs S M o s n P V Z) (hn : n < 12) (x v w : Int32) (hne : ¬ ∃ i, i < n ∧ P i = x) (r1 : -12 ≤ x ∧ x ≤ 12) (r2 : -60 ≤ v ∧ v ≤ 60) (r3 : 1 ≤ w ∧ w ≤ 4) : ∃ S1 S2 M1, f_X3_insert S (o + 17 + 4 * s) x v w = some (nI (n + 1), S1) ∧ g_is S1 7 o ∧ f_X7_done S1 o (nI (n + 1)) = some (nI (n + 1), S2) ∧ f_X8_comes M (nI s) x v w = some (nI (n + 1), M1) ∧ TopAt S2 o fc 0 ∧ M1.1 18 0 = 0 ∧ SetsOk S2 M1 o ∧ KeepS S S2 o ∧ KeepM M M1 := by
  obtain ⟨h1, h2, h3, h4⟩ := hp
  obtain ⟨t, S1, t1, t2, t3, t4, t5, t6⟩ := p_insert h1 hn x v w
  obtain ⟨u, u1, u2, u3, u4⟩ := m_comes hs hn h3 x v w
  have hut : u = t := by
    rcases Nat.lt_trichotomy u t with q | q | q
    · rcases t3 with z | ⟨k, z1, z2⟩
      · omega
      · exact absurd (by rw [(h4 k (by omega)).1]; exact z2) (u2 k (by omega) (by omega))
    · exact q
    · rcases u3 with z | ⟨k, z1, z2⟩
      · omega
      · exact absurd (by rw [← (h4 k (by omega)).1]; exact z2) (t2 k (by omega) (by omega))
  subst hut
  have hT1 : TopAt S1 o fc st := (t6.2 o (by omega)).trans hT
  obtain ⟨S2, e2, hT2, s2⟩ := t_done hT1 (nI (n + 1))
  refine ⟨S1, S2, _, t4, t_is hT1, e2, u4, hT2, ?_, ?_, ⟨s2.1.trans t6.1, fun b b1 b2 => (s2.2 b (by omega)).trans (t6.2 b (by omega))⟩, ⟨rfl, fun k k0 k1 k2 k3 k18 => ?_⟩⟩
  · rw [sI_s, upd_s]
  · refine SetsOk.up hO hs t5 (ok_ins h2 hn t1 t2 t3 hne r1 r2 r3) t6 s2 ?_ ?_ ?_
    · rw [sI_n _ (by omega), mUp_n (by omega) (by omega) (by omega), sI_s, upd_s]
    · intro i hi
      rw [sI_n _ (by omega), sI_n _ (by omega), sI_n _ (by omega), mUp_1, mUp_2, mUp_3]
      exact ⟨insU_at _ _ x t1 (fun i hi => (h4 i hi).1) hi, insU_at _ _ v t1 (fun i hi => (h4 i hi).2.1) hi, insU_at _ _ w t1 (fun i hi => (h4 i hi).2.2) hi⟩
    · intro q hq hqs
      rw [sI_n _ (by omega), sI_n _ (by omega), sI_n _ (by omega), sI_n _ (by omega), mUp_1, mUp_2, mUp_3, mUp_n (by omega) (by omega) (by omega), sI_s, upd_n _ hqs]
      exact ⟨rfl, fun i hi => ⟨insU_off _ _ (by omega) (by omega), insU_off _ _ (by omega) (by omega), insU_off _ _ (by omega) (by omega)⟩⟩
  · rw [sI_n _ k18, mUp_n k1 k2 k3, sI_n _ k0]
theorem c_point {S : GS} {M : MS} {o : Nat} {fc st : Int32} (hT : TopAt S o fc st) (hA : SetsArr S o) (hO : SetsOk S M o) (a0 a1 a2 a3 : Int32) : ∃ r S' M' st', f_X7_point S o a0 a1 a2 a3 = some (r, S') ∧ f_X8_point M a0 a1 a2 a3 = some (r, M') ∧ TopAt S' o fc st' ∧ M'.1 18 0 = st' ∧ SetsOk S' M' o ∧ KeepS S S' o ∧ KeepM M M' := by
  have hi := t_is hT
  have ref : ∀ w : Int32, ∃ S', f_X7_refuse S o w = some (-1, S') ∧ TopAt S' o fc w ∧ (sI M 18 0 w).1 18 0 = w ∧ SetsOk S' (sI M 18 0 w) o ∧ KeepS S S' o ∧ KeepM M (sI M 18 0 w) := by
    intro w
    obtain ⟨S', e, h1, h2⟩ := t_refuse hT w
    exact ⟨S', e, h1, by rw [sI_s, upd_s], hO.st w h2, KeepS.st h2, KeepM.st M w⟩
  unfold f_X7_point f_X8_point
  rw [z_chk_t hi]
  rcases z_in05 a0 with ⟨h1, h2⟩ | ⟨s, hs, rfl, h1⟩
  · obtain ⟨S', e, r1⟩ := ref 1
    refine ⟨-1, S', _, 1, ?_, ?_, r1⟩
    · rw [t_setAt0 h2, z_bd_s, z_mt_N, z_chk_t hi, e, z_bd2_s]
    · rw [h1, z_bd_s, if_pos rfl, m_refuse, z_bd2_s]
  · rw [h1, z_bd_s, if_neg (by decide), t_setAt hT hA hs, z_bd_s, z_mt_S, z_allows]
    obtain ⟨n, P, V, Z, hp⟩ := hO s hs
    obtain ⟨p1, p2, p3, p4⟩ := id hp
    have q6 : z_in (nI s) 6 := by rw [n_in (by omega)]; exact hs
    rcases z_isP a1 a2 a3 with h2 | ⟨h2, r1, r2, r3⟩
    · obtain ⟨S', e, rr⟩ := ref 1
      refine ⟨-1, S', _, 1, ?_, ?_, rr⟩
      · rw [h2, z_bd_s, if_pos rfl, z_chk_t hi, e, z_bd2_s]
      · rw [h2, z_bd_s, if_pos rfl, m_refuse, z_bd2_s]
    · rw [h2, z_bd_s, z_bd_s, if_neg (by decide), if_neg (by decide)]
      simp only [z_chk_t q6]
      rw [n_cl (by omega), p3, show (12 : Int32) = nI 12 from rfl, z_chk_t p1.is, p_full p1 p2.1, z_bd_s]
      by_cases q : n = 12
      · obtain ⟨S', e, rr⟩ := ref 2
        refine ⟨-1, S', _, 2, ?_, ?_, rr⟩
        · rw [if_pos q, if_neg (by decide), z_chk_t hi, e, z_bd2_s]
        · rw [if_pos (by rw [q]), m_refuse, z_bd2_s]
      · rw [if_neg q, if_pos rfl, if_neg (by rw [n_eq (by have := p2.1; omega) (by omega)]; exact q), z_chk_t p1.is]
        rcases p_holds p1 p2.1 a1 with ⟨g1, g2⟩ | ⟨g1, g2⟩
        · have g3 : f_X8_hasPlace M (nI s) a1 = some 1 := by
            rcases m_has hs p2.1 p3 a1 with ⟨-, k2⟩ | ⟨k1, -⟩
            · exact k2
            · obtain ⟨i, i1, i2⟩ := g1
              exact absurd ⟨i, i1, (p4 i i1).1.trans i2⟩ k1
          obtain ⟨S', e, rr⟩ := ref 3
          refine ⟨-1, S', _, 3, ?_, ?_, rr⟩
          · rw [g2, z_bd_s, if_neg (by decide), z_chk_t hi, e, z_bd2_s]
          · rw [g3, z_bd_s, if_neg (by decide), m_refuse, z_bd2_s]
        · have g3 : f_X8_hasPlace M (nI s) a1 = some 0 := by
            rcases m_has hs p2.1 p3 a1 with ⟨⟨i, i1, i2⟩, -⟩ | ⟨-, k2⟩
            · exact absurd ⟨i, i1, (p4 i i1).1.symm.trans i2⟩ g1
            · exact k2
          obtain ⟨S1, S2, M1, e1, e2, e3, e4, e5, e6, e7, e8, e9⟩ := c_comes hT hO hs hp (by have := p2.1; omega) a1 a2 a3 g1 r1 r2 r3
          refine ⟨nI (n + 1), S2, M1, 0, ?_, ?_, e5, e6, e7, e8, e9⟩
          · rw [g2, z_bd_s, if_pos rfl, z_chk_t p1.is, e1, z_bd2_s, z_chk_t e2, e3, z_bd2_s]
          · rw [g3, z_bd_s, if_pos rfl, e4, z_bd2_s]
/-- an index of a row of n: both sides look alike -/
theorem z_idx (n : Nat) (hn : n ≤ 100) (i : Int32) : ((i < 0 ∨ nI n ≤ i) ∧ f_X8_in i 0 (nI n - 1) = some 0) ∨ ∃ k, k < n ∧ i = nI k ∧ f_X8_in i 0 (nI n - 1) = some 1 := by
  unfold f_X8_in
  by_cases h0 : i < 0
  · rw [if_pos h0]; exact Or.inl ⟨Or.inl h0, rfl⟩
  · rw [if_neg h0]
    have h1 : 0 ≤ i := by
      rw [Int32.lt_iff_toInt_lt] at h0
      rw [Int32.le_iff_toInt_le]
      omega
    obtain ⟨k, h2, rfl⟩ := n_of h1
    rcases Nat.eq_zero_or_pos n with q | q
    · subst q
      rw [if_pos (by
        rw [Int32.lt_iff_toInt_lt, n_toInt h2]
        have : (nI 0 - 1).toInt = -1 := by decide
        omega)]
      exact Or.inl ⟨Or.inr (by rw [n_le (by omega) h2]; omega), rfl⟩
    · rw [show (1 : Int32) = nI 1 from rfl, n_sub (by omega)]
      by_cases q2 : k < n
      · rw [if_neg (by rw [n_lt (by omega) h2]; omega)]
        exact Or.inr ⟨k, q2, rfl, rfl⟩
      · rw [if_pos (by rw [n_lt (by omega) h2]; omega)]
        exact Or.inl ⟨Or.inr (by rw [n_le (by omega) h2]; omega), rfl⟩
theorem p_has0 {S : GS} {a n : Nat} {P V Z : Nat → Int32} (h : PtsAt S a n P V Z) (hn : n ≤ 12) {i : Int32} (hi : i < 0 ∨ nI n ≤ i) : f_X3_has S a i = some 0 := by
  rw [p_has h hn]
  by_cases h0 : i < 0
  · rw [if_pos h0]
  · rw [if_neg h0, if_pos (by rcases hi with q | q; exact absurd q h0; exact q)]
theorem c_take {S : GS} {M : MS} {o : Nat} {fc st : Int32} (hT : TopAt S o fc st) (hA : SetsArr S o) (hO : SetsOk S M o) (a0 a1 : Int32) : ∃ r S' M' st', f_X7_take S o a0 a1 = some (r, S') ∧ f_X8_take M a0 a1 = some (r, M') ∧ TopAt S' o fc st' ∧ M'.1 18 0 = st' ∧ SetsOk S' M' o ∧ KeepS S S' o ∧ KeepM M M' := by
  have hi := t_is hT
  have ref : ∀ w : Int32, ∃ S', f_X7_refuse S o w = some (-1, S') ∧ TopAt S' o fc w ∧ (sI M 18 0 w).1 18 0 = w ∧ SetsOk S' (sI M 18 0 w) o ∧ KeepS S S' o ∧ KeepM M (sI M 18 0 w) := by
    intro w
    obtain ⟨S', e, h1, h2⟩ := t_refuse hT w
    exact ⟨S', e, h1, by rw [sI_s, upd_s], hO.st w h2, KeepS.st h2, KeepM.st M w⟩
  unfold f_X7_take
  rw [z_chk_t hi]
  rcases z_in05 a0 with ⟨h1, h2⟩ | ⟨s, hs, rfl, h1⟩
  · obtain ⟨S', e, r1⟩ := ref 1
    refine ⟨-1, S', _, 1, ?_, ?_, r1⟩
    · rw [t_setAt0 h2, z_bd_s, z_mt_N, z_chk_t hi, e, z_bd2_s]
    · unfold f_X8_take
      rw [h1, z_bd_s, if_pos rfl, m_refuse, z_bd2_s]
  · rw [t_setAt hT hA hs, z_bd_s, z_mt_S]
    obtain ⟨n, P, V, Z, hp⟩ := hO s hs
    obtain ⟨p1, p2, p3, p4⟩ := id hp
    have q6 : z_in (nI s) 6 := by rw [n_in (by omega)]; exact hs
    have hn12 := p2.1
    rw [z_chk_t p1.is]
    rcases z_idx n (by omega) a1 with ⟨g1, g2⟩ | ⟨k, hk, rfl, g2⟩
    · obtain ⟨S', e, rr⟩ := ref 1
      refine ⟨-1, S', _, 1, ?_, ?_, rr⟩
      · rw [p_has0 p1 p2.1 g1, z_bd_s, if_pos rfl, z_chk_t hi, e, z_bd2_s]
      · unfold f_X8_take
        rw [h1, z_bd_s, if_neg (by decide)]
        simp only [z_chk_t q6]
        rw [n_cl (by omega), p3, g2, z_bd_s, if_pos rfl, m_refuse, z_bd2_s]
    · obtain ⟨S1, e1, h5, s1⟩ := p_remove p1 p2.1 hk
      have hT1 : TopAt S1 o fc st := (s1.2 o (by omega)).trans hT
      obtain ⟨S2, e2, hT2, s2⟩ := t_done hT1 (nI (n - 1))
      refine ⟨nI (n - 1), S2, _, 0, ?_, m_take hs p2.1 hk p3, hT2, by rw [sI_s, upd_s], ?_, ⟨s2.1.trans s1.1, fun b b1 b2 => (s2.2 b (by omega)).trans (s1.2 b (by omega))⟩, ⟨rfl, fun q k0 k1 k2 k3 k18 => ?_⟩⟩
      · rw [p_hasN p1 p2.1 (by omega), z_bd_s, if_pos hk, if_neg (by decide), z_chk_t p1.is, e1, z_bd2_s, z_chk_t (t_is hT1), e2, z_bd2_s]
      · refine SetsOk.up hO hs h5 (ok_del p2 hk) s1 s2 ?_ ?_ ?_
        · rw [sI_n _ (by omega), mUp_n (by omega) (by omega) (by omega), sI_s, upd_s]
        · intro i hi
          rw [sI_n _ (by omega), sI_n _ (by omega), sI_n _ (by omega), mUp_1, mUp_2, mUp_3]
          exact ⟨shD_at _ _ (fun i hi => (p4 i hi).1) (by omega), shD_at _ _ (fun i hi => (p4 i hi).2.1) (by omega), shD_at _ _ (fun i hi => (p4 i hi).2.2) (by omega)⟩
        · intro q hq hqs
          rw [sI_n _ (by omega), sI_n _ (by omega), sI_n _ (by omega), sI_n _ (by omega), mUp_1, mUp_2, mUp_3, mUp_n (by omega) (by omega) (by omega), sI_s, upd_n _ hqs]
          exact ⟨rfl, fun i hi => ⟨shD_off _ (by omega), shD_off _ (by omega), shD_off _ (by omega)⟩⟩
      · rw [sI_n _ k18, mUp_n k1 k2 k3, sI_n _ k0]
