/-! sheet, points -/
theorem SheetsOk.keep {S S' : GS} {M M' : MS} {o : Nat} {q : Nat → Option Nat} (h : SheetsOk S M o q) (hs : KeepS S S' o) (hm : KeepM M M') : SheetsOk S' M' o q := by
  refine ⟨(hs.2 _ (by omega) (by omega)).trans h.1, fun s h4 => ?_, h.2.2⟩
  rcases h.2.1 s h4 with ⟨h1, h2⟩ | ⟨a, so, n, C, h1, h2, h3, h5, h6, h7, h8, h9, h10⟩
  · exact Or.inl ⟨h1, by rw [hm.2 15 (by omega) (by omega) (by omega) (by omega) (by omega)]; exact h2⟩
  · refine Or.inr ⟨a, so, n, C, h1, h2, by rw [hs.1]; exact h3, ⟨(hs.2 _ (by omega) (by omega)).trans h5.1, (hs.2 _ (by omega) (by omega)).trans h5.2⟩, h6, h7, ?_, ?_, fun i hi => ?_⟩
    · rw [hm.2 15 (by omega) (by omega) (by omega) (by omega) (by omega)]; exact h8
    · rw [hm.2 16 (by omega) (by omega) (by omega) (by omega) (by omega)]; exact h9
    · rw [hm.2 17 (by omega) (by omega) (by omega) (by omega) (by omega)]; exact h10 i hi
/-- a row told anew -/
def mR (M : MS) (k : Nat) (f : Nat → Int32) : MS := (fun q => if q = k then f else M.1 q, M.2)
theorem mR_s (M : MS) (k : Nat) (f : Nat → Int32) : (mR M k f).1 k = f := if_pos rfl
theorem mR_n {M : MS} {k q : Nat} (f : Nat → Int32) (h : q ≠ k) : (mR M k f).1 q = M.1 q := if_neg h
theorem mR_w (M : MS) (k : Nat) (f : Nat → Int32) (i : Nat) (v : Int32) : sI (mR M k f) k i v = mR M k (upd f i v) := by
  refine Prod.ext ?_ rfl
  funext q
  show (if q = k then upd ((mR M k f).1 k) i v else (mR M k f).1 q) = (if q = k then upd f i v else M.1 q)
  by_cases h : q = k
  · rw [if_pos h, if_pos h, mR_s]
  · rw [if_neg h, if_neg h, mR_n f h]
theorem mR_self (M : MS) (k : Nat) : mR M k (M.1 k) = M := by
  refine Prod.ext ?_ rfl
  funext q
  show (if q = k then M.1 k else M.1 q) = M.1 q
  by_cases h : q = k
  · rw [if_pos h, h]
  · rw [if_neg h]
def zr (f : Nat → Int32) (d k : Nat) : Nat → Int32 := fun j => if d ≤ j ∧ j < d + k then 0 else f j
theorem zr_0 (f : Nat → Int32) (d : Nat) : zr f d 0 = f := by
  funext j
  unfold zr
  rw [if_neg (by omega)]
theorem zr_up (f : Nat → Int32) (d k : Nat) : upd (zr f d k) (d + k) 0 = zr f d (k + 1) := by
  funext j
  unfold zr upd
  by_cases q : j = d + k
  · rw [if_pos q, if_pos (by omega)]
  · rw [if_neg q]
    dsimp only
    by_cases q2 : d ≤ j ∧ j < d + k
    · rw [if_pos q2, if_pos (by omega)]
    · rw [if_neg q2, if_neg (by omega)]
theorem m_sheet_lp (M : MS) {s : Nat} (hs : s < 4) : z_lp (fun x => f_X8_sheet_L65 (nI s) x.1 x.2) ((0 : Int32), M) = some (mR M 17 (zr (M.1 17) (40 * s) 40)) := by
  have h := z_lp_count (b := fun x : Int32 × MS => f_X8_sheet_L65 (nI s) x.1 x.2) (fun j => (nI j, mR M 17 (zr (M.1 17) (40 * s) j))) 40 (e := mR M 17 (zr (M.1 17) (40 * s) 40)) (fun k hk => ?_) ?_
  · rw [zr_0, mR_self] at h
    exact h
  · show f_X8_sheet_L65 (nI s) (nI k) (mR M 17 (zr (M.1 17) (40 * s) k)) = _
    unfold f_X8_sheet_L65
    rw [show (40 : Int32) = nI 40 from rfl, if_neg (by rw [n_le (by omega) (by omega)]; omega), n_mul, n_add, z_chk_t (by rw [n_in (by omega)]; omega), z_lt_e, n_cl (by omega), mR_w, zr_up, show nI k + 1 = nI (k + 1) from n_add k 1]
  · show f_X8_sheet_L65 (nI s) (nI 40) _ = _
    unfold f_X8_sheet_L65
    rw [if_pos (by decide)]
/-- what a new sheet leaves as it is -/
def KeepT (S S' : GS) (o : Nat) : Prop := S.2 ≤ S'.2 ∧ ∀ b, b ≠ o → b ≠ o + 3 → b < S.2 → S'.1 b = S.1 b
theorem p_newSheet (S : GS) {sort : Int32} {n : Nat} (hn : n ≤ 40) : ∃ S', f_X5_init (g_nw S (e_o 5 [.int 0, .null])) S.2 sort (nI n) = some S' ∧ ShAt S' S.2 sort n (fun _ => 0) ∧ S'.2 = S.2 + 2 ∧ ∀ b, b < S.2 → S'.1 b = S.1 b := by
  have hmax : f_J9_max_7cf53 (nI n) 0 = some (nI n) := by
    unfold f_J9_max_7cf53
    rw [show (0 : Int32) = nI 0 from rfl, if_neg (by rw [n_lt (by omega) (by omega)]; omega)]
  have hsz : z_sz (nI n) 40 := ⟨by rw [show (0 : Int32) = nI 0 from rfl, n_lt (by omega) (by omega)]; omega, by rw [n_cl (by omega)]; exact hn⟩
  have e1 := g_put_e (k := 0) (.int sort) (g_nw_s S (e_o 5 [.int 0, .null])) (Nat.le_of_ble_eq_true rfl)
  obtain ⟨S1, hS1⟩ : ∃ z, z = g_up (g_nw S (e_o 5 [.int 0, .null])) S.2 (e_o 5 ([Value.int 0, .null].set 0 (.int sort))) := ⟨_, rfl⟩
  rw [← hS1] at e1
  have h12 : S1.2 = S.2 + 1 := by rw [hS1]; rfl
  obtain ⟨S2, hS2⟩ : ∃ z, z = g_nw S1 (e_i n (fun _ => 0)) := ⟨_, rfl⟩
  have h2 : S2.1 S.2 = some (e_o 5 [.int sort, .null]) := by
    rw [hS2, g_nw_n _ (by omega), hS1, g_up_s]
    rfl
  have e2 := g_put_e (k := 1) (.ref S1.2) h2 (Nat.le_of_ble_eq_true rfl)
  refine ⟨g_up S2 S.2 (e_o 5 ([Value.int sort, .null].set 1 (.ref S1.2))), ?_, ⟨?_, ?_⟩, ?_, fun b hb => ?_⟩
  · unfold f_X5_init
    rw [e1, z_bd_s, hmax, z_bd_s, z_chk_t hsz, z_lt_e, n_cl (by omega), show g_nw S1 (.inl (n, fun _ => 0)) = S2 from hS2.symm, e2, z_bd_s]
  · rw [g_up_s, h12]
    rfl
  · rw [g_up_n _ (by omega), hS2, ← h12, g_nw_s]
  · rw [g_up_2, hS2, g_nw_2, h12]
  · rw [g_up_n _ (by omega), hS2, g_nw_n _ (by omega), hS1, g_up_n _ (by omega), g_nw_n _ (by omega)]
theorem va_up_s {α : Type} (f : Nat → α) (k : Nat) (v : α) : va_up f k v k = v := if_pos rfl
theorem va_up_n {α : Type} {f : Nat → α} {k j : Nat} (v : α) (h : j ≠ k) : va_up f k v j = f j := if_neg h
theorem c_sheet {S : GS} {M : MS} {o : Nat} {fc st : Int32} {q : Nat → Option Nat} (hT : TopAt S o fc st) (hS : SheetsOk S M o q) (h68 : o + 68 ≤ S.2) (a0 a1 a2 : Int32) : ∃ r S' M' st' q', f_X7_sheet S o a0 a1 a2 = some (r, S') ∧ f_X8_sheet M a0 a1 a2 = some (r, M') ∧ TopAt S' o fc st' ∧ M'.1 18 0 = st' ∧ SheetsOk S' M' o q' ∧ (∀ s, s < 4 → q' s = none ∨ q' s = q s ∨ q' s = some S.2) ∧ KeepT S S' o ∧ M'.2 = M.2 ∧ ∀ k, k ≠ 15 → k ≠ 16 → k ≠ 17 → k ≠ 18 → M'.1 k = M.1 k := by
  have hi := t_is hT
  have ref : ∀ w : Int32, ∃ S', f_X7_refuse S o w = some (-1, S') ∧ TopAt S' o fc w ∧ (sI M 18 0 w).1 18 0 = w ∧ SheetsOk S' (sI M 18 0 w) o q ∧ (∀ s, s < 4 → q s = none ∨ q s = q s ∨ q s = some S.2) ∧ KeepT S S' o ∧ (sI M 18 0 w).2 = M.2 ∧ ∀ k, k ≠ 15 → k ≠ 16 → k ≠ 17 → k ≠ 18 → (sI M 18 0 w).1 k = M.1 k := by
    intro w
    obtain ⟨S', e, h1, h2⟩ := t_refuse hT w
    exact ⟨S', e, h1, by rw [sI_s, upd_s], hS.st w h2, fun s _ => Or.inr (Or.inl rfl), ⟨by rw [h2.1]; exact Nat.le_refl _, fun b hb _ _ => h2.2 b (by omega)⟩, rfl, fun k _ _ _ h => sI_n w h⟩
  have hr2 : g_r S 7 2 o = some (o + 3) := g_r_e (k := 2) hT rfl
  unfold f_X7_sheet f_X8_sheet
  rw [z_isSheet, z_within]
  rcases z_in3 a0 with h1 | ⟨s, hs, rfl, h1⟩
  · obtain ⟨S', e, r1⟩ := ref 1
    refine ⟨-1, S', _, 1, q, ?_, by rw [h1, z_bd_s, if_pos rfl, m_refuse, z_bd2_s], r1⟩
    by_cases qa : a1 = -1
    · rw [if_pos qa, z_bd_s, h1, z_bd_s, if_pos rfl, z_chk_t hi, e, z_bd2_s]
    · rw [if_neg qa, z_bd_s, h1, z_bd_s, if_pos rfl, z_chk_t hi, e, z_bd2_s]
  · have q4 : z_in (nI s) 4 := by rw [n_in (by omega)]; exact hs
    rw [h1, z_bd_s, if_neg z_10]
    rcases z_in01 a1 (-1) 2 with h2 | ⟨h2, h3, h4⟩
    · obtain ⟨S', e, r1⟩ := ref 1
      refine ⟨-1, S', _, 1, q, ?_, by rw [h2, z_bd_s, if_pos rfl, m_refuse, z_bd2_s], r1⟩
      by_cases qa : a1 = -1
      · rw [if_pos qa, z_bd_s, z_bd_s, if_neg z_10, h2, z_bd_s, if_pos rfl, z_chk_t hi, e, z_bd2_s]
      · rw [if_neg qa, z_bd_s, z_bd_s, if_neg z_10, h2, z_bd_s, if_pos rfl, z_chk_t hi, e, z_bd2_s]
    · rw [h2, z_bd_s, if_neg z_10]
      by_cases qa : a1 = -1
      · subst qa
        have hw := g_wQ_e none hS.1 q4
        rw [n_cl (by omega)] at hw
        obtain ⟨S1, hS1⟩ : ∃ z, z = g_up S (o + 3) (e_q 2 4 (va_up q s none)) := ⟨_, rfl⟩
        rw [← hS1] at hw
        have sm : Same S S1 (o + 3) 1 := by rw [hS1]; exact Same.up (by omega)
        have hT1 : TopAt S1 o fc st := (sm.2 o (by omega)).trans hT
        obtain ⟨S2, e2, hT2, s2⟩ := t_done hT1 1
        refine ⟨1, S2, sI (mR (sI (sI M 15 s (-1)) 16 s 0) 17 (zr (M.1 17) (40 * s) 40)) 18 0 0, 0, va_up q s none, ?_, ?_, hT2, ?_, ?_, ?_, ⟨?_, ?_⟩, ?_, ?_⟩
        · rw [if_pos rfl, z_bd_s, z_bd_s, if_neg z_10, z_bd_s, if_neg z_10, if_pos rfl, hr2, z_bd_s, if_pos rfl, z_bd2_s, z_mt_N, hw, z_bd_s, z_chk_t (t_is hT1), e2, z_bd2_s]
        · rw [if_pos rfl]
          simp only [z_chk_t q4]
          rw [z_lt_e, if_pos trivial, z_bd_s, z_lt_e, n_cl (by omega), m_sheet_lp _ hs, z_bd_s, m_done, z_bd2_s]
          rfl
        · rw [sI_s, upd_s]
        · refine ⟨(s2.2 _ (by omega)).trans (by rw [hS1, g_up_s]), fun t ht => ?_, fun x y a b hx hy hxy ha hb => ?_⟩
          · by_cases hts : t = s
            · subst hts
              refine Or.inl ⟨va_up_s _ _ _, ?_⟩
              rw [sI_n _ (by omega), mR_n _ (by omega), sI_n _ (by omega), sI_s, upd_s]
            · rw [va_up_n _ hts]
              rcases hS.2.1 t ht with ⟨f1, f2⟩ | ⟨a', so', n', C', f1, f2, f3, f4, f5, f6, f7, f8, f9⟩
              · refine Or.inl ⟨f1, ?_⟩
                rw [sI_n _ (by omega), mR_n _ (by omega), sI_n _ (by omega), sI_s, upd_n _ hts]; exact f2
              · refine Or.inr ⟨a', so', n', C', f1, f2, by rw [s2.1, sm.1]; exact f3, (f4.same sm (by omega)).same s2 (by omega), f5, f6, ?_, ?_, fun i hi => ?_⟩
                · rw [sI_n _ (by omega), mR_n _ (by omega), sI_n _ (by omega), sI_s, upd_n _ hts]; exact f7
                · rw [sI_n _ (by omega), mR_n _ (by omega), sI_s, upd_n _ hts, sI_n _ (by omega)]; exact f8
                · rw [sI_n _ (by omega), mR_s]
                  unfold zr
                  rw [if_neg (by omega)]
                  exact f9 i hi
          · by_cases hxs : x = s
            · rw [hxs, va_up_s] at ha; cases ha
            · by_cases hys : y = s
              · rw [hys, va_up_s] at hb; cases hb
              · rw [va_up_n _ hxs] at ha
                rw [va_up_n _ hys] at hb
                exact hS.2.2 x y a b hx hy hxy ha hb
        · intro t _
          by_cases hts : t = s
          · rw [hts, va_up_s]; exact Or.inl rfl
          · rw [va_up_n _ hts]; exact Or.inr (Or.inl rfl)
        · rw [s2.1, sm.1]; exact Nat.le_refl _
        · intro b b1 b2 _
          exact (s2.2 b (by omega)).trans (sm.2 b (by omega))
        · rfl
        · intro k k15 k16 k17 k18
          rw [sI_n _ k18, mR_n _ k17, sI_n _ k16, sI_n _ k15]
      · rw [if_neg qa]
        rcases z_idx 41 (by omega) a2 with ⟨-, g2⟩ | ⟨n, hn, rfl, g2⟩
        · rw [show (nI 41 - 1 : Int32) = 40 by decide] at g2
          obtain ⟨S', e, r1⟩ := ref 1
          refine ⟨-1, S', _, 1, q, ?_, ?_, r1⟩
          · rw [z_bd_s, z_bd_s, if_neg z_10, z_bd_s, if_neg z_10, if_neg z_10, z_within, g2, z_bd_s, if_pos rfl, z_chk_t hi, e, z_bd2_s]
          · rw [if_neg qa, g2, z_bd_s, if_pos rfl, m_refuse, z_bd2_s]
        · rw [show (nI 41 - 1 : Int32) = 40 by decide] at g2
          obtain ⟨S0, e0, h5, h6, h7⟩ := p_newSheet S (sort := a1) (n := n) (by omega)
          have hq0 : S0.1 (o + 3) = some (e_q 2 4 q) := (h7 _ (by omega)).trans hS.1
          have hw := g_wQ_e (some S.2) hq0 q4
          rw [n_cl (by omega)] at hw
          obtain ⟨S1, hS1⟩ : ∃ z, z = g_up S0 (o + 3) (e_q 2 4 (va_up q s (some S.2))) := ⟨_, rfl⟩
          rw [← hS1] at hw
          have sm : Same S0 S1 (o + 3) 1 := by rw [hS1]; exact Same.up (by omega)
          have hT1 : TopAt S1 o fc st := (sm.2 o (by omega)).trans ((h7 o (by omega)).trans hT)
          obtain ⟨S2, e2, hT2, s2⟩ := t_done hT1 1
          refine ⟨1, S2, sI (mR (sI (sI M 15 s a1) 16 s (nI n)) 17 (zr (M.1 17) (40 * s) 40)) 18 0 0, 0, va_up q s (some S.2), ?_, ?_, hT2, ?_, ?_, ?_, ⟨?_, ?_⟩, ?_, ?_⟩
          · rw [z_bd_s, z_bd_s, if_neg z_10, z_bd_s, if_neg z_10, if_neg z_10, z_within, g2, z_bd_s, if_neg z_10, hr2, z_bd_s, if_neg z_10, z_lt_e, e0, z_bd_s, z_bd2_s, z_mt_S, z_chk_t h5.is, hw, z_bd_s, z_chk_t (t_is hT1), e2, z_bd2_s]
          · rw [if_neg qa, g2, z_bd_s, if_neg z_10]
            simp only [z_chk_t q4]
            rw [z_lt_e, if_neg qa, z_bd_s, z_lt_e, n_cl (by omega), show (fun x : Int32 × MS => f_X8_sheet_L65x (nI s) x.1 x.2) = (fun x => f_X8_sheet_L65 (nI s) x.1 x.2) from rfl, m_sheet_lp _ hs, z_bd_s, m_done, z_bd2_s]
            rfl
          · rw [sI_s, upd_s]
          · refine ⟨(s2.2 _ (by omega)).trans (by rw [hS1, g_up_s]), fun t ht => ?_, fun x y a b hx hy hxy ha hb => ?_⟩
            · by_cases hts : t = s
              · subst hts
                refine Or.inr ⟨S.2, a1, n, fun _ => 0, va_up_s _ _ _, h68, by rw [s2.1, sm.1, h6]; exact Nat.le_refl _, (h5.same sm (by omega)).same s2 (by omega), qa, by omega, ?_, ?_, fun i hi => ?_⟩
                · rw [sI_n _ (by omega), mR_n _ (by omega), sI_n _ (by omega), sI_s, upd_s]
                · rw [sI_n _ (by omega), mR_n _ (by omega), sI_s, upd_s]
                · rw [sI_n _ (by omega), mR_s]
                  unfold zr
                  rw [if_pos (by omega)]
              · rw [va_up_n _ hts]
                rcases hS.2.1 t ht with ⟨f1, f2⟩ | ⟨a', so', n', C', f1, f2, f3, f4, f5, f6, f7, f8, f9⟩
                · refine Or.inl ⟨f1, ?_⟩
                  rw [sI_n _ (by omega), mR_n _ (by omega), sI_n _ (by omega), sI_s, upd_n _ hts]; exact f2
                · have f4' : ShAt S0 a' so' n' C' := ⟨(h7 _ (by omega)).trans f4.1, (h7 _ (by omega)).trans f4.2⟩
                  refine Or.inr ⟨a', so', n', C', f1, f2, by rw [s2.1, sm.1, h6]; omega, (f4'.same sm (by omega)).same s2 (by omega), f5, f6, ?_, ?_, fun i hi => ?_⟩
                  · rw [sI_n _ (by omega), mR_n _ (by omega), sI_n _ (by omega), sI_s, upd_n _ hts]; exact f7
                  · rw [sI_n _ (by omega), mR_n _ (by omega), sI_s, upd_n _ hts, sI_n _ (by omega)]; exact f8
                  · rw [sI_n _ (by omega), mR_s]
                    unfold zr
                    rw [if_neg (by omega)]
                    exact f9 i hi
            · have lt : ∀ t c, t < 4 → t ≠ s → q t = some c → c + 2 ≤ S.2 := by
                intro t c ht _ hc
                rcases hS.2.1 t ht with ⟨f1, -⟩ | ⟨a', so', n', C', f1, -, f3, -⟩
                · rw [f1] at hc; cases hc
                · rw [f1] at hc; cases hc; exact f3
              by_cases hxs : x = s
              · rw [hxs, va_up_s] at ha
                rw [va_up_n _ (by omega)] at hb
                cases ha
                exact Or.inr (lt y b hy (by omega) hb)
              · rw [va_up_n _ hxs] at ha
                by_cases hys : y = s
                · rw [hys, va_up_s] at hb
                  cases hb
                  exact Or.inl (lt x a hx hxs ha)
                · rw [va_up_n _ hys] at hb
                  exact hS.2.2 x y a b hx hy hxy ha hb
          · intro t _
            by_cases hts : t = s
            · rw [hts, va_up_s]; exact Or.inr (Or.inr rfl)
            · rw [va_up_n _ hts]; exact Or.inr (Or.inl rfl)
          · rw [s2.1, sm.1, h6]; omega
          · intro b b1 b2 b3
            exact (s2.2 b (by omega)).trans ((sm.2 b (by omega)).trans (h7 b b3))
          · rfl
          · intro k k15 k16 k17 k18
            rw [sI_n _ k18, mR_n _ k17, sI_n _ k16, sI_n _ k15]
