/-! the class's Points -/
def PtsAt (S : GS) (a n : Nat) (P V Z : Nat → Int32) : Prop := S.1 a = some (e_o 3 [.ref (a + 1), .ref (a + 2), .ref (a + 3), .int (nI n)]) ∧ S.1 (a + 1) = some (e_i 12 P) ∧ S.1 (a + 2) = some (e_i 12 V) ∧ S.1 (a + 3) = some (e_i 12 Z)
def PtsOk (n : Nat) (P V Z : Nat → Int32) : Prop := n ≤ 12 ∧ (∀ i, i < n → (-12 ≤ P i ∧ P i ≤ 12) ∧ (-60 ≤ V i ∧ V i ≤ 60) ∧ (1 ≤ Z i ∧ Z i ≤ 4)) ∧ ∀ i j, i < j → j < n → P i < P j
theorem PtsAt.same {S S' : GS} {a n b m : Nat} {P V Z : Nat → Int32} (h : PtsAt S a n P V Z) (hs : Same S S' b m) (hd : a + 4 ≤ b ∨ b + m ≤ a) : PtsAt S' a n P V Z :=
  ⟨(hs.2 _ (by omega)).trans h.1, (hs.2 _ (by omega)).trans h.2.1, (hs.2 _ (by omega)).trans h.2.2.1, (hs.2 _ (by omega)).trans h.2.2.2⟩
section PT
variable {S : GS} {a n : Nat} {P V Z : Nat → Int32}
theorem PtsAt.is (h : PtsAt S a n P V Z) : g_is S 3 a := g_is_e h.1
theorem PtsAt.sz (h : PtsAt S a n P V Z) : g_i S 3 3 a = some (nI n) := g_i_e h.1 rfl
theorem PtsAt.r0 (h : PtsAt S a n P V Z) : g_r S 3 0 a = some (a + 1) := g_r_e h.1 rfl
theorem PtsAt.r1 (h : PtsAt S a n P V Z) : g_r S 3 1 a = some (a + 2) := g_r_e h.1 rfl
theorem PtsAt.r2 (h : PtsAt S a n P V Z) : g_r S 3 2 a = some (a + 3) := g_r_e h.1 rfl
theorem PtsAt.d0 (h : PtsAt S a n P V Z) {i : Nat} (hi : i < 12) : g_rI S (a + 1) (nI i) = some (P i) := by
  rw [g_rI_e h.2.1 (by rw [n_in (by omega)]; exact hi), n_cl (by omega)]
theorem PtsAt.d1 (h : PtsAt S a n P V Z) {i : Nat} (hi : i < 12) : g_rI S (a + 2) (nI i) = some (V i) := by
  rw [g_rI_e h.2.2.1 (by rw [n_in (by omega)]; exact hi), n_cl (by omega)]
theorem PtsAt.d2 (h : PtsAt S a n P V Z) {i : Nat} (hi : i < 12) : g_rI S (a + 3) (nI i) = some (Z i) := by
  rw [g_rI_e h.2.2.2 (by rw [n_in (by omega)]; exact hi), n_cl (by omega)]
theorem PtsAt.w0 (h : PtsAt S a n P V Z) {i : Nat} (hi : i < 12) (x : Int32) : ∃ S', g_wI S (a + 1) (nI i) x = some S' ∧ PtsAt S' a n (upd P i x) V Z ∧ Same S S' a 4 := by
  refine ⟨_, by rw [g_wI_e x h.2.1 (by rw [n_in (by omega)]; exact hi), n_cl (by omega)], ⟨?_, ?_, ?_, ?_⟩, Same.up (by omega)⟩
  · rw [g_up_n _ (by omega)]; exact h.1
  · rw [g_up_s]
  · rw [g_up_n _ (by omega)]; exact h.2.2.1
  · rw [g_up_n _ (by omega)]; exact h.2.2.2
theorem PtsAt.w1 (h : PtsAt S a n P V Z) {i : Nat} (hi : i < 12) (x : Int32) : ∃ S', g_wI S (a + 2) (nI i) x = some S' ∧ PtsAt S' a n P (upd V i x) Z ∧ Same S S' a 4 := by
  refine ⟨_, by rw [g_wI_e x h.2.2.1 (by rw [n_in (by omega)]; exact hi), n_cl (by omega)], ⟨?_, ?_, ?_, ?_⟩, Same.up (by omega)⟩
  · rw [g_up_n _ (by omega)]; exact h.1
  · rw [g_up_n _ (by omega)]; exact h.2.1
  · rw [g_up_s]
  · rw [g_up_n _ (by omega)]; exact h.2.2.2
theorem PtsAt.w2 (h : PtsAt S a n P V Z) {i : Nat} (hi : i < 12) (x : Int32) : ∃ S', g_wI S (a + 3) (nI i) x = some S' ∧ PtsAt S' a n P V (upd Z i x) ∧ Same S S' a 4 := by
  refine ⟨_, by rw [g_wI_e x h.2.2.2 (by rw [n_in (by omega)]; exact hi), n_cl (by omega)], ⟨?_, ?_, ?_, ?_⟩, Same.up (by omega)⟩
  · rw [g_up_n _ (by omega)]; exact h.1
  · rw [g_up_n _ (by omega)]; exact h.2.1
  · rw [g_up_n _ (by omega)]; exact h.2.2.1
  · rw [g_up_s]
theorem PtsAt.ws (h : PtsAt S a n P V Z) (m : Nat) : ∃ S', g_put S 3 3 a (.int (nI m)) = some S' ∧ PtsAt S' a m P V Z ∧ Same S S' a 4 := by
  refine ⟨_, g_put_e _ h.1 (Nat.le_of_ble_eq_true rfl), ⟨?_, ?_, ?_, ?_⟩, Same.up (by omega)⟩
  · rw [g_up_s]; rfl
  · rw [g_up_n _ (by omega)]; exact h.2.1
  · rw [g_up_n _ (by omega)]; exact h.2.2.1
  · rw [g_up_n _ (by omega)]; exact h.2.2.2
theorem p_has (h : PtsAt S a n P V Z) (hn : n ≤ 12) (i : Int32) : f_X3_has S a i = some (if i < 0 then 0 else if nI n ≤ i then 0 else 1) := by
  unfold f_X3_has
  rw [h.sz, z_bd_s]
  by_cases h0 : i < 0
  · rw [if_pos h0, if_pos h0]
  · rw [if_neg h0, if_neg h0]
    by_cases h1 : nI n ≤ i
    · rw [if_pos h1, if_pos h1]
    · rw [if_neg h1, if_neg h1]
theorem p_hasN (h : PtsAt S a n P V Z) (hn : n ≤ 12) {i : Nat} (hi : i < 2147483648) : f_X3_has S a (nI i) = some (if i < n then 1 else 0) := by
  rw [p_has h hn, show (0 : Int32) = nI 0 from rfl]
  rw [if_neg (by rw [n_lt hi (by omega)]; omega)]
  by_cases q : i < n
  · rw [if_pos q, if_neg (by rw [n_le (by omega) hi]; omega)]
  · rw [if_neg q, if_pos (by rw [n_le (by omega) hi]; omega)]
theorem p_full (h : PtsAt S a n P V Z) (hn : n ≤ 12) : f_X3_isFull S a = some (if n = 12 then 1 else 0) := by
  unfold f_X3_isFull
  rw [h.sz, z_bd_s, show (12 : Int32) = nI 12 from rfl]
  by_cases q : n = 12
  · rw [if_pos q, if_neg (by rw [n_lt (by omega) (by omega)]; omega)]
  · rw [if_neg q, if_pos (by rw [n_lt (by omega) (by omega)]; omega)]
theorem p_holds_1 (h : PtsAt S a n P V Z) (hn : n ≤ 12) {k : Nat} (hk : k < n) (x : Int32) : f_X3_holds_L2 S x a (nI k) = if P k = x then some (.inl (.inl 1)) else some (.inr (nI (k + 1))) := by
  unfold f_X3_holds_L2
  rw [h.sz, z_bd_s, if_neg (by rw [n_le (by omega) (by omega)]; omega), h.r0, z_bd_s, h.d0 (by omega), z_bd_s, ← n_add k 1]
  rfl
theorem p_holds_2 (h : PtsAt S a n P V Z) (hn : n ≤ 12) (x : Int32) : f_X3_holds_L2 S x a (nI n) = some (.inl (.inr ())) := by
  unfold f_X3_holds_L2
  rw [h.sz, z_bd_s, if_pos (by rw [n_le (by omega) (by omega)]; omega)]
theorem p_holds_lp (h : PtsAt S a n P V Z) (hn : n ≤ 12) (x : Int32) : ∀ d k, k + d = n → (∃ i, k ≤ i ∧ i < n ∧ P i = x) ∧ z_lp (fun y => f_X3_holds_L2 S x a y) (nI k) = some (.inl 1) ∨ (¬ ∃ i, k ≤ i ∧ i < n ∧ P i = x) ∧ z_lp (fun y => f_X3_holds_L2 S x a y) (nI k) = some (.inr ()) := by
  intro d
  induction d with
  | zero =>
    intro k hk
    refine Or.inr ⟨fun ⟨i, h1, h2, _⟩ => by omega, z_lp_x ?_⟩
    rw [show k = n by omega]
    exact p_holds_2 h hn x
  | succ d ih =>
    intro k hk
    by_cases q : P k = x
    · refine Or.inl ⟨⟨k, Nat.le_refl _, by omega, q⟩, z_lp_x ?_⟩
      show f_X3_holds_L2 S x a (nI k) = _
      rw [p_holds_1 h hn (by omega), if_pos q]
    · have e : z_lp (fun y => f_X3_holds_L2 S x a y) (nI k) = z_lp (fun y => f_X3_holds_L2 S x a y) (nI (k + 1)) := by
        apply z_lp_n
        show f_X3_holds_L2 S x a (nI k) = _
        rw [p_holds_1 h hn (by omega), if_neg q]
      rw [e]
      rcases ih (k + 1) (by omega) with ⟨⟨i, h1, h2, h3⟩, h4⟩ | ⟨h1, h2⟩
      · exact Or.inl ⟨⟨i, by omega, h2, h3⟩, h4⟩
      · refine Or.inr ⟨fun ⟨i, a1, a2, a3⟩ => ?_, h2⟩
        rcases Nat.lt_or_ge k i with h4 | h4
        · exact h1 ⟨i, h4, a2, a3⟩
        · exact q (by rw [show k = i by omega]; exact a3)
theorem p_holds (h : PtsAt S a n P V Z) (hn : n ≤ 12) (x : Int32) : (∃ i, i < n ∧ P i = x) ∧ f_X3_holds S a x = some 1 ∨ (¬ ∃ i, i < n ∧ P i = x) ∧ f_X3_holds S a x = some 0 := by
  unfold f_X3_holds
  rcases p_holds_lp h hn x n 0 (by omega) with ⟨⟨i, h1, h2, h3⟩, h4⟩ | ⟨h1, h2⟩
  · refine Or.inl ⟨⟨i, h2, h3⟩, ?_⟩
    rw [show ((0 : Int32)) = nI 0 from rfl, h4]
    rfl
  · refine Or.inr ⟨fun ⟨i, a1, a2⟩ => h1 ⟨i, Nat.zero_le _, a1, a2⟩, ?_⟩
    rw [show ((0 : Int32)) = nI 0 from rfl, h2]
    rfl
theorem p_move (h : PtsAt S a n P V Z) {i j : Nat} (hi : i < 12) (hj : j < 12) : ∃ S', f_X3_move S a (nI i) (nI j) = some S' ∧ PtsAt S' a n (upd P j (P i)) (upd V j (V i)) (upd Z j (Z i)) ∧ Same S S' a 4 := by
  obtain ⟨S1, e1, h1, s1⟩ := h.w0 hj (P i)
  obtain ⟨S2, e2, h2, s2⟩ := h1.w1 hj (V i)
  obtain ⟨S3, e3, h3, s3⟩ := h2.w2 hj (Z i)
  refine ⟨S3, ?_, h3, (s1.tr s2).tr s3⟩
  unfold f_X3_move
  rw [h.r0, z_bd_s, z_bd_s, h.d0 hi, z_bd_s, e1, z_bd_s, h1.r1, z_bd_s, z_bd_s, h1.d1 hi, z_bd_s, e2, z_bd_s, h2.r2, z_bd_s, z_bd_s, h2.d2 hi, z_bd_s, e3, z_bd_s]
end PT
/-- a row with the numbers from k on moved one up, to n -/
def shU (f : Nat → Int32) (k n : Nat) : Nat → Int32 := fun j => if k < j ∧ j ≤ n then f (j - 1) else f j
/-- a row with x come in at k, n numbers before -/
def insU (f : Nat → Int32) (k n : Nat) (x : Int32) : Nat → Int32 := fun j => if j = k then x else if k < j ∧ j ≤ n then f (j - 1) else f j
theorem shU_0 (f : Nat → Int32) (n : Nat) : shU f n n = f := by
  funext j
  unfold shU
  rw [if_neg (by omega)]
theorem shU_up (f : Nat → Int32) {k n : Nat} (h : k + 1 ≤ n) : upd (shU f (k + 1) n) (k + 1) (shU f (k + 1) n k) = shU f k n := by
  funext j
  unfold shU upd
  by_cases q : j = k + 1
  · subst q
    rw [if_pos rfl, if_neg (by omega), if_pos (by omega)]
    rfl
  · rw [if_neg q]
    dsimp only
    by_cases q2 : k + 1 < j ∧ j ≤ n
    · rw [if_pos q2, if_pos (by omega)]
    · rw [if_neg q2, if_neg (by omega)]
theorem insU_up (f : Nat → Int32) (k n : Nat) (x : Int32) : upd (shU f k n) k x = insU f k n x := by
  funext j
  rfl
theorem n_dec (k : Nat) : nI (k + 1) + -nI 1 = nI k := by
  rw [← Int32.sub_eq_add_neg, n_sub (by omega), show k + 1 - 1 = k by omega]
theorem p_ins_lp {a n : Nat} {P V Z : Nat → Int32} (hn : n < 12) (x : Int32) : ∀ (k : Nat) (S : GS), k ≤ n → PtsAt S a n (shU P k n) (shU V k n) (shU Z k n) → ∃ t S', t ≤ k ∧ (∀ i, t ≤ i → i < k → ¬ P i ≤ x) ∧ (t = 0 ∨ ∃ u, t = u + 1 ∧ P u ≤ x) ∧ z_lp (fun y => f_X3_insert_L18 x a y.1 y.2) (nI k, S) = some (nI t, S') ∧ PtsAt S' a n (shU P t n) (shU V t n) (shU Z t n) ∧ Same S S' a 4 := by
  intro k
  induction k with
  | zero =>
    intro S hk h
    refine ⟨0, S, Nat.le_refl _, fun i h1 h2 => by omega, Or.inl rfl, ?_, h, Same.rf⟩
    apply z_lp_x
    show f_X3_insert_L18 x a (nI 0) S = _
    unfold f_X3_insert_L18
    rw [if_pos (by decide)]
  | succ k ih =>
    intro S hk h
    have hg : f_X3_insert_L18 x a (nI (k + 1)) S = (if P k ≤ x then some (.inl (nI (k + 1), S)) else z_bd (f_X3_move S a (nI k) (nI (k + 1))) fun S_9 => some (.inr (nI k, S_9))) := by
      unfold f_X3_insert_L18
      rw [show (0 : Int32) = nI 0 from rfl, if_neg (by rw [n_le (by omega) (by omega)]; omega), h.r0, z_bd_s, show (1 : Int32) = nI 1 from rfl, n_sub (by omega), show k + 1 - 1 = k by omega, h.d0 (by omega), z_bd_s, z_chk_t h.is]
      rw [show shU P (k + 1) n k = P k by unfold shU; rw [if_neg (by omega)]]
      rw [n_dec]
    by_cases q : P k ≤ x
    · refine ⟨k + 1, S, Nat.le_refl _, fun i h1 h2 => by omega, Or.inr ⟨k, rfl, q⟩, ?_, h, Same.rf⟩
      apply z_lp_x
      show f_X3_insert_L18 x a (nI (k + 1)) S = _
      rw [hg, if_pos q]
    · obtain ⟨S1, e1, h1, s1⟩ := p_move h (i := k) (j := k + 1) (by omega) (by omega)
      rw [shU_up P hk, shU_up V hk, shU_up Z hk] at h1
      obtain ⟨t, S', t1, t2, t3, t4, t5, t6⟩ := ih S1 (by omega) h1
      refine ⟨t, S', by omega, fun i h2 h3 => ?_, t3, ?_, t5, s1.tr t6⟩
      · rcases Nat.lt_or_ge i k with q2 | q2
        · exact t2 i h2 q2
        · rw [show i = k by omega]; exact q
      · rw [z_lp_n (y := (nI k, S1))]
        · exact t4
        · show f_X3_insert_L18 x a (nI (k + 1)) S = _
          rw [hg, if_neg q, e1, z_bd_s]
theorem p_insert {S : GS} {a n : Nat} {P V Z : Nat → Int32} (h : PtsAt S a n P V Z) (hn : n < 12) (x v w : Int32) : ∃ t S', t ≤ n ∧ (∀ i, t ≤ i → i < n → ¬ P i ≤ x) ∧ (t = 0 ∨ ∃ u, t = u + 1 ∧ P u ≤ x) ∧ f_X3_insert S a x v w = some (nI (n + 1), S') ∧ PtsAt S' a (n + 1) (insU P t n x) (insU V t n v) (insU Z t n w) ∧ Same S S' a 4 := by
  have h0 : PtsAt S a n (shU P n n) (shU V n n) (shU Z n n) := by rw [shU_0, shU_0, shU_0]; exact h
  obtain ⟨t, S1, t1, t2, t3, t4, t5, t6⟩ := p_ins_lp hn x n S (Nat.le_refl _) h0
  obtain ⟨S2, e2, h2, s2⟩ := t5.w0 (i := t) (by omega) x
  obtain ⟨S3, e3, h3, s3⟩ := h2.w1 (i := t) (by omega) v
  obtain ⟨S4, e4, h4, s4⟩ := h3.w2 (i := t) (by omega) w
  obtain ⟨S5, e5, h5, s5⟩ := h4.ws (n + 1)
  rw [insU_up, insU_up, insU_up] at h5
  refine ⟨t, S5, t1, t2, t3, ?_, h5, (((t6.tr s2).tr s3).tr s4).tr s5⟩
  have hf : f_X3_isFull S a = some 0 := by rw [p_full h (by omega), if_neg (by omega)]
  unfold f_X3_insert
  rw [z_chk_t h.is, hf, z_bd_s, if_pos rfl, h.sz, z_bd_s, t4, z_bd2_s, t5.r0, z_bd_s, e2, z_bd_s, h2.r1, z_bd_s, e3, z_bd_s, h3.r2, z_bd_s, e4, z_bd_s, h4.sz, z_bd_s, show (1 : Int32) = nI 1 from rfl, n_add, e5, z_bd_s, h5.sz, z_bd_s]
