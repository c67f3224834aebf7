/-! ACTS: class and reference answer alike -/
abbrev BF (k act r : Int32) : Prop := z_it (fun x => f_X0_bodyFrom_L4 act x.1 x.2) 6 (k, (0 : Int32)) = some (.inl r)
theorem bf00 : BF 0 0 10 := by decide +kernel
theorem bf10 : BF 1 0 20 := by decide +kernel
theorem bf20 : BF 2 0 20 := by decide +kernel
theorem bf30 : BF 3 0 10 := by decide +kernel
theorem bf40 : BF 4 0 50 := by decide +kernel
theorem bf01 : BF 0 1 11 := by decide +kernel
theorem bf11 : BF 1 1 11 := by decide +kernel
theorem bf21 : BF 2 1 30 := by decide +kernel
theorem bf31 : BF 3 1 11 := by decide +kernel
theorem bf41 : BF 4 1 51 := by decide +kernel
theorem bf02 : BF 0 2 12 := by decide +kernel
theorem bf12 : BF 1 2 21 := by decide +kernel
theorem bf22 : BF 2 2 21 := by decide +kernel
theorem bf32 : BF 3 2 40 := by decide +kernel
theorem bf42 : BF 4 2 21 := by decide +kernel
theorem bf03 : BF 0 3 13 := by decide +kernel
theorem bf13 : BF 1 3 13 := by decide +kernel
theorem bf23 : BF 2 3 31 := by decide +kernel
theorem bf33 : BF 3 3 13 := by decide +kernel
theorem bf43 : BF 4 3 13 := by decide +kernel
/-- depths that are allowed, j deeper too -/
def Dp (dep : Int32) (j : Nat) : Prop := ∃ d : Nat, dep = nI d ∧ d + j ≤ 20
theorem Dp.le {dep : Int32} {j : Nat} (h : Dp dep j) : dep ≤ 20 := by
  obtain ⟨d, rfl, h2⟩ := h
  rw [show (20 : Int32) = nI 20 from rfl, n_le (by omega) (by omega)]
  omega
theorem Dp.s {dep : Int32} {j : Nat} (h : Dp dep (j + 1)) : Dp (dep + 1) j := by
  obtain ⟨d, rfl, h2⟩ := h
  exact ⟨d + 1, n_add d 1, by omega⟩
theorem Dp.m {dep : Int32} {j i : Nat} (h : Dp dep j) (hi : i ≤ j) : Dp dep i := by
  obtain ⟨d, h1, h2⟩ := h
  exact ⟨d, h1, by omega⟩
def Kd (kd : Int32) : Prop := kd = 0 ∨ kd = 1 ∨ kd = 2 ∨ kd = 3 ∨ kd = 4
section AJ
variable {a b m fi : Nat} {kd dg pc : Int32} {P V Z : Nat → Int32}
/-- class and reference: a run of an act from a kind -/
def JJ (a b m fi : Nat) (kd dg pc : Int32) (P V Z : Nat → Int32) (k act x : Int32) (lv ln : Nat) (g : MS → Option (Int32 × MS)) : Prop := ∃ (v : Int32) (E : List Int32), E.length ≤ ln ∧ (∀ (n : Nat) (dep : Int32), Dp dep lv → CR a b m (nI fi) kd dg pc P V Z (n + lv) k act x dep v E) ∧ RR fi m kd g v E
theorem JJ.eq {k act x : Int32} {lv ln : Nat} {g g' : MS → Option (Int32 × MS)} (h : JJ a b m fi kd dg pc P V Z k act x lv ln g) (e : ∀ M, M.1 5 fi = kd → M.1 7 fi = nI m → g' M = g M) : JJ a b m fi kd dg pc P V Z k act x lv ln g' := by
  obtain ⟨v, E, h1, h2, h3⟩ := h
  exact ⟨v, E, h1, h2, h3.eq e⟩
theorem j_fit (hfi : fi < 10) (hk : Kd kd) (x : Int32) : JJ a b m fi kd dg pc P V Z kd 0 x 3 3 (fun M => f_X8_fit0 M (nI fi) x) := by
  have lineR : ∀ (y : Int32), (if kd = 4 then some (x * (2 : Int32)) else some x) = some y → RR fi m kd (fun M_2 => z_bd (f_X8_ran M_2 (20 : Int32)) fun M_4 => z_chk (z_in (nI fi) 10) (z_bd (if (M_4.1 5 (nI fi).toNatClampNeg) = (4 : Int32) then some ((x * (2 : Int32))) else some (x)) fun v_5 => z_bd2 (f_X8_plainFit M_4 (nI fi) v_5) fun r_7 M_6 => some ((r_7 + (1 : Int32)), M_6))) (y + nI m + 1) [20, 10] := by
    intro y hy
    refine RR.push (RR.eq (RR.map (r_pf hfi y) (fun r => r + 1)) (fun M h5 h7 => ?_))
    rw [z_chk_t (z10i hfi), n_cl (by omega), h5, hy, z_bd_s]
  rcases hk with rfl | rfl | rfl | rfl | rfl
  · refine ⟨x + nI m, [10], by decide, fun n dep hd => CR.leaf10 bf00 hd.le, RR.eq (r_pf hfi x) (fun M h5 h7 => ?_)⟩
    unfold f_X8_fit0
    rw [(show f_X8_isLine M (nI fi) = some 0 by rw [r_isLine hfi h5]; rfl), z_bd_s, if_pos rfl]
    cases f_X8_plainFit M (nI fi) x <;> rfl
  · refine ⟨x + nI m + 1, [20, 10], by decide, fun n dep hd => cr_20 bf10 hd.le (CR.leaf10 bf00 hd.s.le), RR.eq (lineR x (by rw [if_neg (by decide)])) (fun M h5 h7 => ?_)⟩
    unfold f_X8_fit0
    simp only [z_chk_t (z10i hfi)]
    rw [(show f_X8_isLine M (nI fi) = some 1 by rw [r_isLine hfi h5]; rfl), z_bd_s, if_neg z_10, n_cl (by omega), h5, if_neg (by decide), z_bd_s]
  · refine ⟨x + nI m + 1, [20, 10], by decide, fun n dep hd => cr_20 bf20 hd.le (CR.leaf10 bf00 hd.s.le), RR.eq (lineR x (by rw [if_neg (by decide)])) (fun M h5 h7 => ?_)⟩
    unfold f_X8_fit0
    simp only [z_chk_t (z10i hfi)]
    rw [(show f_X8_isLine M (nI fi) = some 1 by rw [r_isLine hfi h5]; rfl), z_bd_s, if_neg z_10, n_cl (by omega), h5, if_neg (by decide), z_bd_s]
  · refine ⟨x + nI m, [10], by decide, fun n dep hd => CR.leaf10 bf30 hd.le, RR.eq (r_pf hfi x) (fun M h5 h7 => ?_)⟩
    unfold f_X8_fit0
    rw [(show f_X8_isLine M (nI fi) = some 0 by rw [r_isLine hfi h5]; rfl), z_bd_s, if_pos rfl]
    cases f_X8_plainFit M (nI fi) x <;> rfl
  · refine ⟨x * 2 + nI m + 1, [50, 20, 10], by decide, fun n dep hd => cr_50 bf40 hd.le (cr_20 bf10 hd.s.le (CR.leaf10 bf00 hd.s.s.le)), RR.eq (RR.push (r := 50) (lineR (x * 2) (by rw [if_pos rfl]))) (fun M h5 h7 => ?_)⟩
    unfold f_X8_fit0
    simp only [z_chk_t (z10i hfi)]
    rw [(show f_X8_isLine M (nI fi) = some 1 by rw [r_isLine hfi h5]; rfl), z_bd_s, if_neg z_10, n_cl (by omega), h5, if_pos rfl]
    cases f_X8_ran M 50 <;> rfl
theorem j_pmiss (hfi : fi < 10) (hk : Kd kd) {k : Int32} (hb : BF k 1 11) (x : Int32) : JJ a b m fi kd dg pc P V Z k 1 x 4 4 (fun M => f_X8_plainMiss M (nI fi) x) := by
  obtain ⟨v, E, h1, h2, h3⟩ := j_fit (a := a) (b := b) (m := m) (dg := dg) (pc := pc) (P := P) (V := V) (Z := Z) hfi hk x
  exact ⟨v * 2, 11 :: E, by rw [List.length_cons]; omega, fun n dep hd => cr_11 hb hd.le (h2 n (dep + 1) hd.s), RR.push (h3.map (fun r => r * 2))⟩
theorem j_miss (hfi : fi < 10) (hk : Kd kd) (x : Int32) : JJ a b m fi kd dg pc P V Z kd 1 x 5 8 (fun M => f_X8_miss0 M (nI fi) x) := by
  have pl : ∀ {k : Int32}, BF k 1 11 → ¬ kd = 2 → ¬ kd = 4 → JJ a b m fi kd dg pc P V Z k 1 x 5 8 (fun M => f_X8_miss0 M (nI fi) x) := by
    intro k hb n2 n4
    obtain ⟨v, E, h1, h2, h3⟩ := j_pmiss (a := a) (b := b) (m := m) (dg := dg) (pc := pc) (P := P) (V := V) (Z := Z) hfi hk hb x
    refine ⟨v, E, by omega, fun n dep hd => h2 (n + 1) dep (hd.m (by omega)), h3.eq (fun M h5 h7 => ?_)⟩
    unfold f_X8_miss0
    simp only [z_chk_t (z10i hfi)]
    rw [n_cl (by omega), h5, if_neg n2, if_neg n4]
    cases f_X8_plainMiss M (nI fi) x <;> rfl
  rcases (id hk) with rfl | rfl | rfl | rfl | rfl
  · exact pl bf01 (by decide) (by decide)
  · exact pl bf11 (by decide) (by decide)
  · obtain ⟨v, E, h1, h2, h3⟩ := j_pmiss (a := a) (b := b) (m := m) (dg := dg) (pc := pc) (P := P) (V := V) (Z := Z) hfi hk bf11 (x - nI m)
    refine ⟨v, 30 :: E, by rw [List.length_cons]; omega, fun n dep hd => cr_30 bf21 hd.le (h2 n (dep + 1) hd.s), RR.eq (RR.push (r := 30) (RR.eq (g' := fun M_8 => z_chk (z_in (nI fi) 10) (z_bd2 (f_X8_plainMiss M_8 (nI fi) (x - (M_8.1 7 (nI fi).toNatClampNeg))) fun r_10 M_9 => some (r_10, M_9))) h3 (fun M h5 h7 => ?_))) (fun M h5 h7 => ?_)⟩
    · rw [z_chk_t (z10i hfi), n_cl (by omega), h7]
      cases f_X8_plainMiss M (nI fi) (x - nI m) <;> rfl
    · unfold f_X8_miss0
      rw [z_chk_t (z10i hfi), if_pos (show M.1 5 (nI fi).toNatClampNeg = 2 by rw [n_cl (by omega)]; exact h5)]
  · exact pl bf31 (by decide) (by decide)
  · obtain ⟨v, E, h1, h2, h3⟩ := j_pmiss (a := a) (b := b) (m := m) (dg := dg) (pc := pc) (P := P) (V := V) (Z := Z) hfi hk bf11 x
    obtain ⟨v', E', h1', h2', h3'⟩ := j_fit (a := a) (b := b) (m := m) (dg := dg) (pc := pc) (P := P) (V := V) (Z := Z) hfi hk x
    refine ⟨v - v', 51 :: (E ++ E'), by rw [List.length_cons, List.length_append]; omega, fun n dep hd => cr_51 bf41 hd.le (h2 n (dep + 1) hd.s) (h2' (n + 1) (dep + 1) (hd.s.m (by omega))), RR.eq (RR.push (r := 51) (RR.two h3 h3' (fun r r' => r - r'))) (fun M h5 h7 => ?_)⟩
    unfold f_X8_miss0
    simp only [z_chk_t (z10i hfi)]
    rw [n_cl (by omega), h5, if_neg (by decide), if_pos rfl]
theorem j_bend (hfi : fi < 10) (hk : Kd kd) (x : Int32) : JJ a b m fi kd dg pc P V Z kd 2 x 2 3 (fun M => f_X8_bend0 M (nI fi) x) := by
  have ln : ∀ (c : Int32), ¬ kd = 3 → (if kd = 1 then (1 : Int32) else if kd = 2 then 1 else if kd = 4 then 1 else 0) = 1 → BF kd 2 21 → c = kd → JJ a b m fi kd dg pc P V Z kd 2 x 2 3 (fun M => f_X8_bend0 M (nI fi) x) := by
    intro c n3 e hb _
    refine ⟨(x - nI fi) * 3, [21, 12], by decide, fun n dep hd => cr_21 hb hd.le (CR.leaf12 bf02 hd.s.le), RR.eq (RR.push (r := 21) (RR.push (r := 12) (RR.eq (g' := fun M_4 => z_bd (f_X8_isLine M_4 (nI fi)) fun r_5 => if r_5 = 0 then some ((x - nI fi), M_4) else some (((x - nI fi) * (3 : Int32)), M_4)) (RR.ret ((x - nI fi) * 3)) (fun M h5 h7 => ?_)))) (fun M h5 h7 => ?_)⟩
    · rw [r_isLine hfi h5, e, z_bd_s, if_neg z_10]
    · unfold f_X8_bend0
      rw [z_chk_t (z10i hfi), n_cl (by omega), h5, if_neg n3, r_isLine hfi h5, e, z_bd_s, if_neg z_10]
      cases f_X8_ran M 21 <;> rfl
  rcases (id hk) with rfl | rfl | rfl | rfl | rfl
  · refine ⟨x - nI fi, [12], by decide, fun n dep hd => CR.leaf12 bf02 hd.le, RR.eq (RR.push (r := 12) (RR.eq (g' := fun M_4 => z_bd (f_X8_isLine M_4 (nI fi)) fun r_5 => if r_5 = 0 then some ((x - nI fi), M_4) else some (((x - nI fi) * (3 : Int32)), M_4)) (RR.ret (x - nI fi)) (fun M h5 h7 => ?_))) (fun M h5 h7 => ?_)⟩
    · rw [(show f_X8_isLine M (nI fi) = some 0 by rw [r_isLine hfi h5]; rfl), z_bd_s, if_pos rfl]
    · unfold f_X8_bend0
      rw [z_chk_t (z10i hfi), n_cl (by omega), h5, if_neg (by decide), (show f_X8_isLine M (nI fi) = some 0 by rw [r_isLine hfi h5]; rfl), z_bd_s, if_pos rfl, z_bd_s]
  · exact ln 1 (by decide) (by decide) bf12 rfl
  · exact ln 2 (by decide) (by decide) bf22 rfl
  · refine ⟨(x - nI fi) + (x + nI m), [40, 12, 10], by decide, fun n dep hd => cr_40 bf32 hd.le (CR.leaf12 bf02 hd.s.le) (CR.leaf10 bf00 hd.s.le), RR.eq (RR.push (r := 40) (RR.push (r := 12) ((r_pf hfi x).map (fun r => (x - nI fi) + r)))) (fun M h5 h7 => ?_)⟩
    unfold f_X8_bend0
    rw [z_chk_t (z10i hfi), n_cl (by omega), h5, if_pos rfl]
  · exact ln 4 (by decide) (by decide) bf42 rfl
theorem j_ptell (hfi : fi < 10) (hk : Kd kd) {k : Int32} (hb : BF k 3 13) (x : Int32) : JJ a b m fi kd dg pc P V Z k 3 x 6 12 (fun M => f_X8_plainTell M (nI fi) x) := by
  obtain ⟨v, E, h1, h2, h3⟩ := j_miss (a := a) (b := b) (m := m) (dg := dg) (pc := pc) (P := P) (V := V) (Z := Z) hfi hk x
  obtain ⟨v', E', h1', h2', h3'⟩ := j_bend (a := a) (b := b) (m := m) (dg := dg) (pc := pc) (P := P) (V := V) (Z := Z) hfi hk x
  exact ⟨v ^^^ v', 13 :: (E ++ E'), by rw [List.length_cons, List.length_append]; omega, fun n dep hd => cr_13 hb hd.le (h2 n (dep + 1) hd.s) (h2' (n + 3) (dep + 1) (hd.s.m (by omega))), RR.push (RR.two h3 h3' (fun r r' => r ^^^ r'))⟩
theorem j_tell (hfi : fi < 10) (hk : Kd kd) (x : Int32) : JJ a b m fi kd dg pc P V Z kd 3 x 7 16 (fun M => f_X8_tell0 M (nI fi) x) := by
  have pl : ∀ {k : Int32}, BF k 3 13 → ¬ kd = 2 → JJ a b m fi kd dg pc P V Z k 3 x 7 16 (fun M => f_X8_tell0 M (nI fi) x) := by
    intro k hb n2
    obtain ⟨v, E, h1, h2, h3⟩ := j_ptell (a := a) (b := b) (m := m) (dg := dg) (pc := pc) (P := P) (V := V) (Z := Z) hfi hk hb x
    refine ⟨v, E, by omega, fun n dep hd => h2 (n + 1) dep (hd.m (by omega)), h3.eq (fun M h5 h7 => ?_)⟩
    unfold f_X8_tell0
    rw [z_chk_t (z10i hfi), n_cl (by omega), h5, if_neg n2]
    cases f_X8_plainTell M (nI fi) x <;> rfl
  rcases (id hk) with rfl | rfl | rfl | rfl | rfl
  · exact pl bf03 (by decide)
  · exact pl bf13 (by decide)
  · obtain ⟨v, E, h1, h2, h3⟩ := j_bend (a := a) (b := b) (m := m) (dg := dg) (pc := pc) (P := P) (V := V) (Z := Z) hfi hk x
    obtain ⟨v', E', h1', h2', h3'⟩ := j_ptell (a := a) (b := b) (m := m) (dg := dg) (pc := pc) (P := P) (V := V) (Z := Z) hfi hk bf13 x
    refine ⟨v + v', 31 :: (E ++ E'), by rw [List.length_cons, List.length_append]; omega, fun n dep hd => cr_31 bf23 hd.le (h2 (n + 4) (dep + 1) (hd.s.m (by omega))) (h2' n (dep + 1) hd.s), RR.eq (RR.push (r := 31) (RR.two h3 h3' (fun r r' => r + r'))) (fun M h5 h7 => ?_)⟩
    unfold f_X8_tell0
    rw [z_chk_t (z10i hfi), n_cl (by omega), h5, if_pos rfl]
  · exact pl bf33 (by decide)
  · exact pl bf43 (by decide)
end AJ
