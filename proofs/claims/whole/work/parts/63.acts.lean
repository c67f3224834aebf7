/-! ACTS: class and reference -/
/-- the class's trace is L -/
def CT (S : GS) (b : Nat) (L : List Int32) : Prop := ∃ B : Nat → Int32, S.1 b = some (e_o 0 [.ref (b + 1), .int (nI L.length)]) ∧ S.1 (b + 1) = some (e_i 50 B) ∧ ∀ i x, L[i]? = some x → B i = x
/-- the reference's trace is L -/
def RT (M : MS) (L : List Int32) : Prop := M.1 20 0 = nI L.length ∧ ∀ i x, L[i]? = some x → M.1 19 i = x
theorem tr_up {B : Nat → Int32} {L : List Int32} (h : ∀ i x, L[i]? = some x → B i = x) (r : Int32) : ∀ i x, (L ++ [r])[i]? = some x → upd B L.length r i = x := by
  intro i x hi
  by_cases q : i = L.length
  · rw [q, upd_s]
    rw [q, List.getElem?_append_right (Nat.le_refl _), Nat.sub_self] at hi
    exact Option.some.inj hi
  · rw [upd_n _ q]
    have hl := (List.getElem?_eq_some_iff.mp hi).1
    rw [List.length_append, List.length_singleton] at hl
    rw [List.getElem?_append_left (by omega)] at hi
    exact h i x hi
theorem CT.is {S : GS} {b : Nat} {L : List Int32} (h : CT S b L) : g_is S 0 b := by
  obtain ⟨B, h1, -⟩ := h
  exact g_is_e h1
theorem CT.push {S : GS} {b : Nat} {L : List Int32} (h : CT S b L) (hl : L.length < 50) (r : Int32) : ∃ S', (z_bd (g_i S 0 1 b) fun f_2 => z_bd (if (50 : Int32) ≤ f_2 then some (S) else z_bd (g_r S 0 0 b) fun f_4 => z_bd (g_i S 0 1 b) fun f_5 => z_bd (g_wI S f_4 f_5 r) fun S_6 => z_bd (g_i S_6 0 1 b) fun f_7 => z_bd (g_put S_6 0 1 b (.int (f_7 + (1 : Int32)))) fun S_8 => some (S_8)) (fun S_3 => (some S_3 : Option GS))) = some S' ∧ CT S' b (L ++ [r]) ∧ Same S S' b 2 := by
  obtain ⟨B, h1, h2, h3⟩ := h
  have e1 : g_wI S (b + 1) (nI L.length) r = some (g_up S (b + 1) (e_i 50 (upd B L.length r))) := by rw [g_wI_e r h2 (by rw [n_in (by omega)]; exact hl), n_cl (by omega)]
  obtain ⟨S6, hS6⟩ : ∃ z, z = g_up S (b + 1) (e_i 50 (upd B L.length r)) := ⟨_, rfl⟩
  rw [← hS6] at e1
  have h6 : S6.1 b = some (e_o 0 [.ref (b + 1), .int (nI L.length)]) := by rw [hS6, g_up_n _ (by omega)]; exact h1
  have e2 := g_put_e (k := 1) (.int (nI (L.length + 1))) h6 (Nat.le_of_ble_eq_true rfl)
  refine ⟨g_up S6 b (e_o 0 ([Value.ref (b + 1), .int (nI L.length)].set 1 (.int (nI (L.length + 1))))), ?_, ⟨upd B L.length r, ?_, ?_, tr_up h3 r⟩, ?_⟩
  rotate_left
  · rw [g_up_s, List.length_append, List.length_singleton]; rfl
  · rw [g_up_n _ (by omega), hS6, g_up_s]
  · refine ⟨by rw [g_up_2, hS6, g_up_2], fun z hz => ?_⟩
    rw [g_up_n _ (by omega), hS6, g_up_n _ (by omega)]
  · rw [g_i_e (k := 1) h1 rfl, z_bd_s, show (50 : Int32) = nI 50 from rfl, if_neg (by rw [n_le (by omega) (by omega)]; omega), g_r_e (k := 0) h1 rfl, z_bd_s, z_bd_s, e1, z_bd_s, g_i_e (k := 1) h6 rfl, z_bd_s, show nI L.length + (1 : Int32) = nI (L.length + 1) from n_add _ 1, e2, z_bd_s, z_bd_s]
theorem RT.push {M : MS} {L : List Int32} (h : RT M L) (hl : L.length < 50) (r : Int32) : ∃ M', f_X8_ran M r = some M' ∧ RT M' (L ++ [r]) ∧ M'.2 = M.2 ∧ ∀ k, k ≠ 19 → k ≠ 20 → M'.1 k = M.1 k := by
  obtain ⟨h1, h2⟩ := h
  refine ⟨sI (sI M 19 L.length r) 20 0 (nI (L.length + 1)), ?_, ⟨?_, ?_⟩, rfl, fun k k1 k2 => by rw [sI_n _ k2, sI_n _ k1]⟩
  · unfold f_X8_ran
    rw [h1, show (50 : Int32) = nI 50 from rfl, if_neg (by rw [n_le (by omega) (by omega)]; omega), z_chk_t (by rw [n_in (by omega)]; exact hl), z_lt_e, z_bd_s, z_lt_e, n_cl (by omega), sI_n _ (show (20 : Nat) ≠ 19 by omega), h1, show nI L.length + (1 : Int32) = nI (L.length + 1) from n_add _ 1]
  · rw [sI_s, upd_s, List.length_append, List.length_singleton]
  · intro i x hi
    rw [sI_n _ (by omega), sI_s]
    exact tr_up h2 r i x hi
section AC
variable {a b m : Nat} {num kd dg pc : Int32} {P V Z : Nat → Int32}
/-- the object in S is the fit at a -/
def AO (S : GS) (a m : Nat) (num kd dg pc : Int32) (P V Z : Nat → Int32) : Prop := FObj S a num kd dg pc ∧ PtsAt S (a + 1) m P V Z
theorem AO.same {S S' : GS} (h : AO S a m num kd dg pc P V Z) (hs : Same S S' b 2) (hd : b + 2 ≤ a) : AO S' a m num kd dg pc P V Z := ⟨h.1.same hs (by omega), h.2.same hs (by omega)⟩
/-- a run of an act answers v and leaves E -/
def CR (a b m : Nat) (num kd dg pc : Int32) (P V Z : Nat → Int32) (n : Nat) (k act x dep v : Int32) (E : List Int32) : Prop := ∀ (S : GS) (L : List Int32), CT S b L → L.length + E.length ≤ 50 → AO S a m num kd dg pc P V Z → b + 2 ≤ a → ∃ S', f_X0_run n S b a k act x dep = some (v, S') ∧ CT S' b (L ++ E) ∧ Same S S' b 2
theorem bf_of {S : GS} {k act r : Int32} (h : z_it (fun x => f_X0_bodyFrom_L4 act x.1 x.2) 6 (k, (0 : Int32)) = some (.inl r)) : f_X0_bodyFrom S k act = some r := by
  unfold f_X0_bodyFrom
  rw [z_lp_of h, z_bs_l]
/-- one body: it is kept, then it runs -/
theorem p_run1 {n : Nat} {k act r x dep v : Int32} {E : List Int32} (hb : z_it (fun x => f_X0_bodyFrom_L4 act x.1 x.2) 6 (k, (0 : Int32)) = some (.inl r)) (hr : ¬ r = 0) (hdep : dep ≤ 20) (h : ∀ (S : GS) (L : List Int32), CT S b L → L.length + E.length ≤ 50 → AO S a m num kd dg pc P V Z → b + 2 ≤ a → ∃ S', f_X0_runBodyR (f_X0_run n) S b a r x (dep + 1) = some (v, S') ∧ CT S' b (L ++ E) ∧ Same S S' b 2) : CR a b m num kd dg pc P V Z (n + 1) k act x dep v (r :: E) := by
  intro S L hC hl hA hd
  rw [List.length_cons] at hl
  obtain ⟨S1, e1, e2, e3⟩ := hC.push (by omega) r
  obtain ⟨S2, k1, k2, k3⟩ := h S1 (L ++ [r]) e2 (by rw [List.length_append, List.length_singleton]; omega) (hA.same e3 hd) hd
  refine ⟨S2, ?_, by rw [List.append_assoc] at k2; exact k2, e3.tr k3⟩
  show f_X0_runR (f_X0_runBodyR (f_X0_run n)) S b a k act x dep = _
  unfold f_X0_runR
  rw [bf_of hb, z_bd_s, if_neg hr, if_pos hdep]
  obtain ⟨y1, y2, y3⟩ := z_bd_some e1
  obtain ⟨y4, y5, y6⟩ := z_bd_some y3
  cases y6
  rw [y2] at y5
  rw [y2, z_bd_s, y5, z_bd_s, z_chk_t e2.is, k1, z_bd2_s]
theorem CR.leaf10 {n : Nat} {k x dep : Int32} (hb : z_it (fun x => f_X0_bodyFrom_L4 0 x.1 x.2) 6 (k, (0 : Int32)) = some (.inl 10)) (hdep : dep ≤ 20) : CR a b m num kd dg pc P V Z (n + 1) k 0 x dep (x + nI m) [10] := by
  refine p_run1 hb (by decide) hdep (fun S L hC hl hA hd => ⟨S, ?_, by rw [List.append_nil]; exact hC, Same.rf⟩)
  show (z_bd (g_r S 1 3 a) fun f_1 => z_bd (g_i S 3 3 f_1) fun f_2 => some ((x + f_2), S)) = _
  rw [hA.1.r3, z_bd_s, hA.2.sz, z_bd_s]
theorem CR.leaf12 {n : Nat} {k x dep : Int32} (hb : z_it (fun x => f_X0_bodyFrom_L4 2 x.1 x.2) 6 (k, (0 : Int32)) = some (.inl 12)) (hdep : dep ≤ 20) : CR a b m num kd dg pc P V Z (n + 1) k 2 x dep (x - num) [12] := by
  refine p_run1 hb (by decide) hdep (fun S L hC hl hA hd => ⟨S, ?_, by rw [List.append_nil]; exact hC, Same.rf⟩)
  show (z_bd (g_r S 1 3 a) fun f_1 => z_bd (g_i S 3 3 f_1) fun f_2 => z_bd (g_i S 1 0 a) fun f_6 => some ((x - f_6), S)) = _
  rw [hA.1.r3, z_bd_s, hA.2.sz, z_bd_s, hA.1.i0, z_bd_s]
/-- one run inside -/
theorem CR.one {n : Nat} {k act x dep v : Int32} {E : List Int32} {r k1 act1 x1 : Int32} (g : Int32 → Int32) (hb : z_it (fun x => f_X0_bodyFrom_L4 act x.1 x.2) 6 (k, (0 : Int32)) = some (.inl r)) (hr : ¬ r = 0) (hdep : dep ≤ 20) (h1 : CR a b m num kd dg pc P V Z n k1 act1 x1 (dep + 1) v E) (hf : ∀ S, AO S a m num kd dg pc P V Z → g_is S 0 b → f_X0_runBodyR (f_X0_run n) S b a r x (dep + 1) = z_bd2 (f_X0_run n S b a k1 act1 x1 (dep + 1)) fun r_5 S_4 => some (g r_5, S_4)) : CR a b m num kd dg pc P V Z (n + 1) k act x dep (g v) (r :: E) := by
  refine p_run1 hb hr hdep (fun S L hC hl hA hd => ?_)
  obtain ⟨S1, e1, e2, e3⟩ := h1 S L hC hl hA hd
  exact ⟨S1, by rw [hf S hA hC.is, e1, z_bd2_s], e2, e3⟩
/-- two runs inside -/
theorem CR.two {n : Nat} {k act x dep v v' : Int32} {E E' : List Int32} {r k1 act1 x1 k2 act2 x2 : Int32} (g : Int32 → Int32 → Int32) (hb : z_it (fun x => f_X0_bodyFrom_L4 act x.1 x.2) 6 (k, (0 : Int32)) = some (.inl r)) (hr : ¬ r = 0) (hdep : dep ≤ 20) (h1 : CR a b m num kd dg pc P V Z n k1 act1 x1 (dep + 1) v E) (h2 : CR a b m num kd dg pc P V Z n k2 act2 x2 (dep + 1) v' E') (hf : ∀ S S_4 r_5, AO S a m num kd dg pc P V Z → g_is S 0 b → f_X0_run n S b a k1 act1 x1 (dep + 1) = some (r_5, S_4) → AO S_4 a m num kd dg pc P V Z → g_is S_4 0 b → f_X0_runBodyR (f_X0_run n) S b a r x (dep + 1) = z_bd2 (f_X0_run n S_4 b a k2 act2 x2 (dep + 1)) fun r_7 S_6 => some (g r_5 r_7, S_6)) : CR a b m num kd dg pc P V Z (n + 1) k act x dep (g v v') (r :: (E ++ E')) := by
  refine p_run1 hb hr hdep (fun S L hC hl hA hd => ?_)
  rw [List.length_append] at hl
  obtain ⟨S1, e1, e2, e3⟩ := h1 S L hC (by omega) hA hd
  have hA1 := hA.same e3 hd
  obtain ⟨S2, k1, k2, k3⟩ := h2 S1 (L ++ E) e2 (by rw [List.length_append]; omega) hA1 hd
  exact ⟨S2, by rw [hf S S1 v hA hC.is e1 hA1 e2.is, k1, z_bd2_s], by rw [List.append_assoc] at k2; exact k2, e3.tr k3⟩
end AC
section AR
variable {fi m : Nat} {kd : Int32}
/-- what a run of the reference's act answers and leaves -/
def RR (fi m : Nat) (kd : Int32) (g : MS → Option (Int32 × MS)) (v : Int32) (E : List Int32) : Prop := ∀ (M : MS) (L : List Int32), RT M L → L.length + E.length ≤ 50 → M.1 5 fi = kd → M.1 7 fi = nI m → ∃ M', g M = some (v, M') ∧ RT M' (L ++ E) ∧ M'.2 = M.2 ∧ ∀ k, k ≠ 19 → k ≠ 20 → M'.1 k = M.1 k
/-- a body is kept, then it goes on -/
theorem RR.push {g : MS → Option (Int32 × MS)} {v r : Int32} {E : List Int32} (h : RR fi m kd g v E) : RR fi m kd (fun M => z_bd (f_X8_ran M r) g) v (r :: E) := by
  intro M L hR hl h5 h7
  rw [List.length_cons] at hl
  obtain ⟨M1, e1, e2, e3, e4⟩ := hR.push (by omega) r
  obtain ⟨M2, k1, k2, k3, k4⟩ := h M1 (L ++ [r]) e2 (by rw [List.length_append, List.length_singleton]; omega) (by rw [e4 5 (by omega) (by omega)]; exact h5) (by rw [e4 7 (by omega) (by omega)]; exact h7)
  exact ⟨M2, by dsimp only; rw [e1, z_bd_s, k1], by rw [List.append_assoc] at k2; exact k2, k3.trans e3, fun k a1 a2 => (k4 k a1 a2).trans (e4 k a1 a2)⟩
theorem RR.map {g : MS → Option (Int32 × MS)} {v : Int32} {E : List Int32} (h : RR fi m kd g v E) (f : Int32 → Int32) : RR fi m kd (fun M => z_bd2 (g M) fun r M' => some (f r, M')) (f v) E := by
  intro M L hR hl h5 h7
  obtain ⟨M2, k1, k2⟩ := h M L hR hl h5 h7
  exact ⟨M2, by dsimp only; rw [k1, z_bd2_s], k2⟩
theorem RR.two {g g' : MS → Option (Int32 × MS)} {v v' : Int32} {E E' : List Int32} (h : RR fi m kd g v E) (h' : RR fi m kd g' v' E') (f : Int32 → Int32 → Int32) : RR fi m kd (fun M => z_bd2 (g M) fun r M' => z_bd2 (g' M') fun r' M'' => some (f r r', M'')) (f v v') (E ++ E') := by
  intro M L hR hl h5 h7
  rw [List.length_append] at hl
  obtain ⟨M1, e1, e2, e3, e4⟩ := h M L hR (by omega) h5 h7
  obtain ⟨M2, k1, k2, k3, k4⟩ := h' M1 (L ++ E) e2 (by rw [List.length_append]; omega) (by rw [e4 5 (by omega) (by omega)]; exact h5) (by rw [e4 7 (by omega) (by omega)]; exact h7)
  exact ⟨M2, by dsimp only; rw [e1, z_bd2_s, k1, z_bd2_s], by rw [List.append_assoc] at k2; exact k2, k3.trans e3, fun k a1 a2 => (k4 k a1 a2).trans (e4 k a1 a2)⟩
theorem RR.eq {g g' : MS → Option (Int32 × MS)} {v : Int32} {E : List Int32} (h : RR fi m kd g v E) (e : ∀ M, M.1 5 fi = kd → M.1 7 fi = nI m → g' M = g M) : RR fi m kd g' v E := by
  intro M L hR hl h5 h7
  obtain ⟨M2, k1, k2⟩ := h M L hR hl h5 h7
  exact ⟨M2, by rw [e M h5 h7]; exact k1, k2⟩
theorem RR.ret (v : Int32) : RR fi m kd (fun M => some (v, M)) v [] := fun M L hR _ _ _ => ⟨M, rfl, by rw [List.append_nil]; exact hR, rfl, fun _ _ _ => rfl⟩
theorem z10i (hfi : fi < 10) : z_in (nI fi) 10 := by rw [n_in (by omega)]; exact hfi
theorem r_isLine (hfi : fi < 10) {M : MS} (h5 : M.1 5 fi = kd) : f_X8_isLine M (nI fi) = some (if kd = 1 then 1 else if kd = 2 then 1 else if kd = 4 then 1 else 0) := by
  unfold f_X8_isLine
  simp only [z_chk_t (z10i hfi)]
  rw [n_cl (by omega), h5]
  by_cases c1 : kd = 1
  · rw [if_pos c1, if_pos c1]
  · rw [if_neg c1, if_neg c1]
    by_cases c2 : kd = 2
    · rw [if_pos c2, if_pos c2]
    · rw [if_neg c2, if_neg c2]
      by_cases c4 : kd = 4
      · rw [if_pos c4, if_pos c4]
      · rw [if_neg c4, if_neg c4]
theorem r_pf (hfi : fi < 10) (x : Int32) : RR fi m kd (fun M => f_X8_plainFit M (nI fi) x) (x + nI m) [10] := by
  refine RR.eq (RR.push (r := 10) (RR.ret (fi := fi) (m := m) (kd := kd) (x + nI m))) (fun M h5 h7 => ?_)
  unfold f_X8_plainFit
  have key : ∀ M1, f_X8_ran M 10 = some M1 → M1.1 7 fi = nI m := by
    intro M1 e
    unfold f_X8_ran at e
    obtain ⟨y, y1, y2⟩ := z_bd_some e
    rw [z_lt_e] at y2
    cases y2
    rw [sI_n _ (by omega)]
    by_cases q : (50 : Int32) ≤ M.1 20 0
    · rw [if_pos q] at y1; cases y1; exact h7
    · rw [if_neg q] at y1
      obtain ⟨-, y3⟩ := z_chk_some y1
      rw [z_lt_e] at y3
      cases y3
      rw [sI_n _ (by omega)]; exact h7
  cases e : f_X8_ran M 10 with
  | none => rfl
  | some M1 =>
    show z_chk _ (some (x + M1.1 7 (nI fi).toNatClampNeg, M1)) = _
    rw [z_chk_t (z10i hfi), n_cl (by omega), key M1 e]
    rfl
end AR
