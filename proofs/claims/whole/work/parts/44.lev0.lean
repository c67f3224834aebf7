/-! the class's Leveller: its cells; products of differences -/
def At (S : GS) (b : Nat) (L : List PE) : Prop := ∀ (j : Nat) (x : PE), L[j]? = some x → S.1 (b + j) = some x
theorem At.up {S : GS} {b j : Nat} {L : List PE} (y : PE) (h : At S b L) : At (g_up S (b + j) y) b (L.set j y) := by
  intro k x hk
  by_cases q : k = j
  · subst q
    rcases Nat.lt_or_ge k L.length with z | z
    · rw [List.getElem?_set_self z] at hk
      rw [g_up_s]
      exact hk
    · rw [List.getElem?_eq_none (by rw [List.length_set]; exact z)] at hk
      cases hk
  · rw [List.getElem?_set_ne (by omega)] at hk
    rw [g_up_n _ (by omega)]
    exact h k x hk
theorem At.same {S S' : GS} {b c m : Nat} {L : List PE} (h : At S b L) (hs : Same S S' c m) (hd : b + L.length ≤ c ∨ c + m ≤ b) : At S' b L := by
  intro k x hk
  have hl := (List.getElem?_eq_some_iff.mp hk).1
  rw [hs.2 _ (by omega)]
  exact h k x hk
def updZ (f : Nat → Int) (k : Nat) (x : Int) : Nat → Int := fun j => if j = k then x else f j
theorem updZ_s (f : Nat → Int) (k : Nat) (x : Int) : updZ f k x k = x := if_pos rfl
theorem updZ_n {f : Nat → Int} {k j : Nat} (x : Int) (h : j ≠ k) : updZ f k x j = f j := if_neg h
def updN (f : Nat → Nat) (k : Nat) (x : Nat) : Nat → Nat := fun j => if j = k then x else f j
theorem updN_s (f : Nat → Nat) (k : Nat) (x : Nat) : updN f k x k = x := if_pos rfl
theorem updN_n {f : Nat → Nat} {k j : Nat} (x : Nat) (h : j ≠ k) : updN f k x j = f j := if_neg h
def rJ (n : Nat) (f : Nat → Int) : PE := e_j n (fun i => jI (f i))
def rN (n : Nat) (f : Nat → Nat) : PE := e_i n (fun i => nI (f i))
theorem rJ_up (n : Nat) (f : Nat → Int) (k : Nat) (x : Int) : e_j n (vp_updL (fun i => jI (f i)) k (jI x)) = rJ n (updZ f k x) := by
  unfold rJ
  congr 3
  funext i
  by_cases q : i = k
  · rw [q, updL_s, updZ_s]
  · rw [updL_n _ q, updZ_n _ q]
theorem rN_up (n : Nat) (f : Nat → Nat) (k x : Nat) : e_i n (upd (fun i => nI (f i)) k (nI x)) = rN n (updN f k x) := by
  unfold rN
  congr 2
  funext i
  by_cases q : i = k
  · rw [q, upd_s, updN_s]
  · rw [upd_n _ q, updN_n _ q]
def lvO (b : Nat) (sz fr sq : Int32) : PE := e_o 2 [.ref (b + 1), .ref (b + 2), .ref (b + 3), .ref (b + 4), .ref (b + 5), .ref (b + 6), .ref (b + 7), .ref (b + 8), .int sz, .int fr, .int sq]
def lvP (c0 c1 c2 d : Int) : PE := e_o 4 [.long (jI c0), .long (jI c1), .long (jI c2), .long (jI d)]
def LvAt (S : GS) (b : Nat) (t v w : Nat → Int) (K : Nat → Nat) (H B U : Nat → Int) (sz fr sq : Int32) (c0 c1 c2 d : Int) : Prop := At S b [lvO b sz fr sq, rJ 12 t, rJ 12 v, rJ 12 w, rN 4 K, rJ 4 H, rJ 3 B, rJ 3 U, lvP c0 c1 c2 d]
section LV
variable {S : GS} {b : Nat} {t v w : Nat → Int} {K : Nat → Nat} {H B U : Nat → Int} {sz fr sq : Int32} {c0 c1 c2 d : Int}
theorem LvAt.o (h : LvAt S b t v w K H B U sz fr sq c0 c1 c2 d) : S.1 b = some (lvO b sz fr sq) := h 0 _ rfl
theorem LvAt.is (h : LvAt S b t v w K H B U sz fr sq c0 c1 c2 d) : g_is S 2 b := g_is_e h.o
theorem LvAt.r (h : LvAt S b t v w K H B U sz fr sq c0 c1 c2 d) : g_r S 2 0 b = some (b + 1) ∧ g_r S 2 1 b = some (b + 2) ∧ g_r S 2 2 b = some (b + 3) ∧ g_r S 2 3 b = some (b + 4) ∧ g_r S 2 4 b = some (b + 5) ∧ g_r S 2 5 b = some (b + 6) ∧ g_r S 2 6 b = some (b + 7) ∧ g_r S 2 7 b = some (b + 8) := ⟨g_r_e h.o rfl, g_r_e h.o rfl, g_r_e h.o rfl, g_r_e h.o rfl, g_r_e h.o rfl, g_r_e h.o rfl, g_r_e h.o rfl, g_r_e h.o rfl⟩
theorem LvAt.r0 (h : LvAt S b t v w K H B U sz fr sq c0 c1 c2 d) : g_r S 2 0 b = some (b + 1) := g_r_e h.o rfl
theorem LvAt.r1 (h : LvAt S b t v w K H B U sz fr sq c0 c1 c2 d) : g_r S 2 1 b = some (b + 2) := g_r_e h.o rfl
theorem LvAt.r2 (h : LvAt S b t v w K H B U sz fr sq c0 c1 c2 d) : g_r S 2 2 b = some (b + 3) := g_r_e h.o rfl
theorem LvAt.r3 (h : LvAt S b t v w K H B U sz fr sq c0 c1 c2 d) : g_r S 2 3 b = some (b + 4) := g_r_e h.o rfl
theorem LvAt.r4 (h : LvAt S b t v w K H B U sz fr sq c0 c1 c2 d) : g_r S 2 4 b = some (b + 5) := g_r_e h.o rfl
theorem LvAt.r5 (h : LvAt S b t v w K H B U sz fr sq c0 c1 c2 d) : g_r S 2 5 b = some (b + 6) := g_r_e h.o rfl
theorem LvAt.r6 (h : LvAt S b t v w K H B U sz fr sq c0 c1 c2 d) : g_r S 2 6 b = some (b + 7) := g_r_e h.o rfl
theorem LvAt.r7 (h : LvAt S b t v w K H B U sz fr sq c0 c1 c2 d) : g_r S 2 7 b = some (b + 8) := g_r_e h.o rfl
theorem LvAt.gs (h : LvAt S b t v w K H B U sz fr sq c0 c1 c2 d) : g_i S 2 8 b = some sz := g_i_e h.o rfl
theorem LvAt.gf (h : LvAt S b t v w K H B U sz fr sq c0 c1 c2 d) : g_i S 2 9 b = some fr := g_i_e h.o rfl
theorem LvAt.gq (h : LvAt S b t v w K H B U sz fr sq c0 c1 c2 d) : g_i S 2 10 b = some sq := g_i_e h.o rfl
theorem LvAt.pol (h : LvAt S b t v w K H B U sz fr sq c0 c1 c2 d) : PolAt S (b + 8) c0 c1 c2 d := h 8 _ rfl
theorem rd_J {S : GS} {a n : Nat} {f : Nat → Int} (h : S.1 a = some (rJ n f)) {i : Nat} (hi : i < n) (hn : n ≤ 12) : g_rJ S a (nI i) = some (jI (f i)) := by
  rw [g_rJ_e h (by rw [n_in (by omega)]; exact hi), n_cl (by omega)]
theorem rd_N {S : GS} {a n : Nat} {f : Nat → Nat} (h : S.1 a = some (rN n f)) {i : Nat} (hi : i < n) (hn : n ≤ 12) : g_rI S a (nI i) = some (nI (f i)) := by
  rw [g_rI_e h (by rw [n_in (by omega)]; exact hi), n_cl (by omega)]
theorem LvAt.dt (h : LvAt S b t v w K H B U sz fr sq c0 c1 c2 d) {i : Nat} (hi : i < 12) : g_rJ S (b + 1) (nI i) = some (jI (t i)) := rd_J (h 1 _ rfl) hi (by omega)
theorem LvAt.dv (h : LvAt S b t v w K H B U sz fr sq c0 c1 c2 d) {i : Nat} (hi : i < 12) : g_rJ S (b + 2) (nI i) = some (jI (v i)) := rd_J (h 2 _ rfl) hi (by omega)
theorem LvAt.dw (h : LvAt S b t v w K H B U sz fr sq c0 c1 c2 d) {i : Nat} (hi : i < 12) : g_rJ S (b + 3) (nI i) = some (jI (w i)) := rd_J (h 3 _ rfl) hi (by omega)
theorem LvAt.dk (h : LvAt S b t v w K H B U sz fr sq c0 c1 c2 d) {i : Nat} (hi : i < 4) : g_rI S (b + 4) (nI i) = some (nI (K i)) := rd_N (h 4 _ rfl) hi (by omega)
theorem LvAt.dh (h : LvAt S b t v w K H B U sz fr sq c0 c1 c2 d) {i : Nat} (hi : i < 4) : g_rJ S (b + 5) (nI i) = some (jI (H i)) := rd_J (h 5 _ rfl) hi (by omega)
theorem LvAt.db (h : LvAt S b t v w K H B U sz fr sq c0 c1 c2 d) {i : Nat} (hi : i < 3) : g_rJ S (b + 6) (nI i) = some (jI (B i)) := rd_J (h 6 _ rfl) hi (by omega)
theorem LvAt.du (h : LvAt S b t v w K H B U sz fr sq c0 c1 c2 d) {i : Nat} (hi : i < 3) : g_rJ S (b + 7) (nI i) = some (jI (U i)) := rd_J (h 7 _ rfl) hi (by omega)
theorem wr_J {S : GS} {a n : Nat} {f : Nat → Int} (h : S.1 a = some (rJ n f)) {i : Nat} (hi : i < n) (hn : n ≤ 12) (x : Int) : g_wJ S a (nI i) (jI x) = some (g_up S a (rJ n (updZ f i x))) := by
  rw [g_wJ_e (jI x) h (by rw [n_in (by omega)]; exact hi), n_cl (by omega)]
  congr 2
  exact rJ_up n f i x
theorem wr_N {S : GS} {a n : Nat} {f : Nat → Nat} (h : S.1 a = some (rN n f)) {i : Nat} (hi : i < n) (hn : n ≤ 12) (x : Nat) : g_wI S a (nI i) (nI x) = some (g_up S a (rN n (updN f i x))) := by
  rw [g_wI_e (nI x) h (by rw [n_in (by omega)]; exact hi), n_cl (by omega)]
  congr 2
  exact rN_up n f i x
theorem LvAt.wt (h : LvAt S b t v w K H B U sz fr sq c0 c1 c2 d) {i : Nat} (hi : i < 12) (x : Int) : ∃ S', g_wJ S (b + 1) (nI i) (jI x) = some S' ∧ LvAt S' b (updZ t i x) v w K H B U sz fr sq c0 c1 c2 d ∧ Same S S' b 9 := ⟨_, wr_J (h 1 _ rfl) hi (by omega) x, At.up (j := 1) _ h, Same.up (by omega)⟩
theorem LvAt.wv (h : LvAt S b t v w K H B U sz fr sq c0 c1 c2 d) {i : Nat} (hi : i < 12) (x : Int) : ∃ S', g_wJ S (b + 2) (nI i) (jI x) = some S' ∧ LvAt S' b t (updZ v i x) w K H B U sz fr sq c0 c1 c2 d ∧ Same S S' b 9 := ⟨_, wr_J (h 2 _ rfl) hi (by omega) x, At.up (j := 2) _ h, Same.up (by omega)⟩
theorem LvAt.ww (h : LvAt S b t v w K H B U sz fr sq c0 c1 c2 d) {i : Nat} (hi : i < 12) (x : Int) : ∃ S', g_wJ S (b + 3) (nI i) (jI x) = some S' ∧ LvAt S' b t v (updZ w i x) K H B U sz fr sq c0 c1 c2 d ∧ Same S S' b 9 := ⟨_, wr_J (h 3 _ rfl) hi (by omega) x, At.up (j := 3) _ h, Same.up (by omega)⟩
theorem LvAt.wk (h : LvAt S b t v w K H B U sz fr sq c0 c1 c2 d) {i : Nat} (hi : i < 4) (x : Nat) : ∃ S', g_wI S (b + 4) (nI i) (nI x) = some S' ∧ LvAt S' b t v w (updN K i x) H B U sz fr sq c0 c1 c2 d ∧ Same S S' b 9 := ⟨_, wr_N (h 4 _ rfl) hi (by omega) x, At.up (j := 4) _ h, Same.up (by omega)⟩
theorem LvAt.wh (h : LvAt S b t v w K H B U sz fr sq c0 c1 c2 d) {i : Nat} (hi : i < 4) (x : Int) : ∃ S', g_wJ S (b + 5) (nI i) (jI x) = some S' ∧ LvAt S' b t v w K (updZ H i x) B U sz fr sq c0 c1 c2 d ∧ Same S S' b 9 := ⟨_, wr_J (h 5 _ rfl) hi (by omega) x, At.up (j := 5) _ h, Same.up (by omega)⟩
theorem LvAt.wb (h : LvAt S b t v w K H B U sz fr sq c0 c1 c2 d) {i : Nat} (hi : i < 3) (x : Int) : ∃ S', g_wJ S (b + 6) (nI i) (jI x) = some S' ∧ LvAt S' b t v w K H (updZ B i x) U sz fr sq c0 c1 c2 d ∧ Same S S' b 9 := ⟨_, wr_J (h 6 _ rfl) hi (by omega) x, At.up (j := 6) _ h, Same.up (by omega)⟩
theorem LvAt.wu (h : LvAt S b t v w K H B U sz fr sq c0 c1 c2 d) {i : Nat} (hi : i < 3) (x : Int) : ∃ S', g_wJ S (b + 7) (nI i) (jI x) = some S' ∧ LvAt S' b t v w K H B (updZ U i x) sz fr sq c0 c1 c2 d ∧ Same S S' b 9 := ⟨_, wr_J (h 7 _ rfl) hi (by omega) x, At.up (j := 7) _ h, Same.up (by omega)⟩
theorem LvAt.ps (h : LvAt S b t v w K H B U sz fr sq c0 c1 c2 d) (x : Int32) : ∃ S', g_put S 2 8 b (.int x) = some S' ∧ LvAt S' b t v w K H B U x fr sq c0 c1 c2 d ∧ Same S S' b 9 := ⟨_, g_put_e _ h.o (Nat.le_of_ble_eq_true rfl), At.up (j := 0) (lvO b x fr sq) h, Same.up (by omega)⟩
theorem LvAt.pf (h : LvAt S b t v w K H B U sz fr sq c0 c1 c2 d) (x : Int32) : ∃ S', g_put S 2 9 b (.int x) = some S' ∧ LvAt S' b t v w K H B U sz x sq c0 c1 c2 d ∧ Same S S' b 9 := ⟨_, g_put_e _ h.o (Nat.le_of_ble_eq_true rfl), At.up (j := 0) (lvO b sz x sq) h, Same.up (by omega)⟩
theorem LvAt.pq (h : LvAt S b t v w K H B U sz fr sq c0 c1 c2 d) (x : Int32) : ∃ S', g_put S 2 10 b (.int x) = some S' ∧ LvAt S' b t v w K H B U sz fr x c0 c1 c2 d ∧ Same S S' b 9 := ⟨_, g_put_e _ h.o (Nat.le_of_ble_eq_true rfl), At.up (j := 0) (lvO b sz fr x) h, Same.up (by omega)⟩
theorem LvAt.pp {S' : GS} {x0 x1 x2 x3 : Int} (h : LvAt S b t v w K H B U sz fr sq c0 c1 c2 d) (hp : PolAt S' (b + 8) x0 x1 x2 x3) (hs : Same S S' (b + 8) 1) : LvAt S' b t v w K H B U sz fr sq x0 x1 x2 x3 := by
  intro k x hk
  by_cases q : k = 8
  · subst q
    cases hk
    exact hp
  · rw [hs.2 _ (by omega)]
    refine h k x ?_
    have hl : k < 9 := (List.getElem?_eq_some_iff.mp hk).1
    have hl8 : k < 8 := by omega
    match k, q, hl8, hk with
    | 0, _, _, hk => exact hk
    | 1, _, _, hk => exact hk
    | 2, _, _, hk => exact hk
    | 3, _, _, hk => exact hk
    | 4, _, _, hk => exact hk
    | 5, _, _, hk => exact hk
    | 6, _, _, hk => exact hk
    | 7, _, _, hk => exact hk
theorem LvAt.same {S' : GS} {c m : Nat} (h : LvAt S b t v w K H B U sz fr sq c0 c1 c2 d) (hs : Same S S' c m) (hd : b + 9 ≤ c ∨ c + m ≤ b) : LvAt S' b t v w K H B U sz fr sq c0 c1 c2 d := At.same h hs hd
theorem p_spB (h : LvAt S b t v w K H B U sz fr sq c0 c1 c2 d) {a0 : Int32} {i m a : Nat} (hm : m ≤ 4) (hK : ∀ j, j < m → K j < 12) (hi : ∀ j, j < m → (nI j = a0) = (j = i)) (ha : a < m) : ∀ (k c : Nat) (g : Int), c + k = m → z_lp (fun x => f_X2_spreadWithout_L23 S a0 (nI m) b (nI a) x.1 x.2) (jI g, nI c) = some (jI (spB (fun j => t (K j)) i a g c k)) := by
  intro k
  induction k with
  | zero =>
    intro c g hc
    apply z_lp_x
    show f_X2_spreadWithout_L23 S a0 (nI m) b (nI a) (jI g) (nI c) = _
    unfold f_X2_spreadWithout_L23
    rw [if_pos (by rw [n_le (by omega) (by omega)]; omega)]
    rfl
  | succ k ih =>
    intro c g hc
    have e1 : nI c + 1 = nI (c + 1) := n_add c 1
    rw [spB, ← ih (c + 1) _ (by omega)]
    apply z_lp_n
    show f_X2_spreadWithout_L23 S a0 (nI m) b (nI a) (jI g) (nI c) = _
    unfold f_X2_spreadWithout_L23
    rw [if_neg (by rw [n_le (by omega) (by omega)]; omega), show (4 : Int32) = nI 4 from rfl, if_neg (by rw [n_le (by omega) (by omega)]; omega)]
    simp only [hi a ha, hi c (by omega)]
    by_cases q1 : a = i
    · rw [if_pos q1, if_pos q1, e1]
    · rw [if_neg q1, if_neg q1]
      by_cases q2 : c = i
      · rw [if_pos q2, if_pos q2, e1]
      · rw [if_neg q2, if_neg q2, h.r0, z_bd_s, h.r3, z_bd_s, h.dk (by omega), z_bd_s, h.dt (hK c (by omega)), z_bd_s, z_bd_s, z_bd_s, h.dk (by omega), z_bd_s, h.dt (hK a ha), z_bd_s, j_sub, j_mul, e1]
theorem p_spread (h : LvAt S b t v w K H B U sz fr sq c0 c1 c2 d) {a0 : Int32} {i m : Nat} (hm : m ≤ 4) (hK : ∀ j, j < m → K j < 12) (hi : ∀ j, j < m → (nI j = a0) = (j = i)) : f_X2_spreadWithout S b a0 (nI m) = some (jI (spr (fun j => t (K j)) i m)) := by
  have key : ∀ (k a : Nat) (g : Int), a + k = m → z_lp (fun x => f_X2_spreadWithout_L5 S a0 (nI m) b x.1 x.2) (jI g, nI a) = some (jI (spA (fun j => t (K j)) i m g a k)) := by
    intro k
    induction k with
    | zero =>
      intro a g ha
      apply z_lp_x
      show f_X2_spreadWithout_L5 S a0 (nI m) b (jI g) (nI a) = _
      unfold f_X2_spreadWithout_L5
      rw [if_pos (by rw [n_le (by omega) (by omega)]; omega)]
      rfl
    | succ k ih =>
      intro a g ha
      have e1 : nI a + 1 = nI (a + 1) := n_add a 1
      rw [spA, ← ih (a + 1) _ (by omega)]
      apply z_lp_n
      show f_X2_spreadWithout_L5 S a0 (nI m) b (jI g) (nI a) = _
      unfold f_X2_spreadWithout_L5
      rw [if_neg (by rw [n_le (by omega) (by omega)]; omega), show (4 : Int32) = nI 4 from rfl, if_neg (by rw [n_le (by omega) (by omega)]; omega), e1, p_spB h hm hK hi (by omega) (m - (a + 1)) (a + 1) g (by omega), z_bd_s]
  unfold f_X2_spreadWithout
  rw [show ((1 : Int64), (0 : Int32)) = (jI 1, nI 0) from rfl, key m 0 1 (by omega), z_bd_s]
  rfl
theorem sp_i {i m : Nat} (hm : m ≤ 4) (hi : i < m) : ∀ j, j < m → (nI j = nI i) = (j = i) := fun j hj => n_eq (by omega) (by omega)
theorem sp_m {m : Nat} (hm : m ≤ 4) : ∀ j, j < m → (nI j = -1) = (j = 9) := by
  intro j hj
  rcases (show j = 0 ∨ j = 1 ∨ j = 2 ∨ j = 3 by omega) with rfl | rfl | rfl | rfl <;> decide
end LV
