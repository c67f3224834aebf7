/-! what holds between two calls, and that every call keeps it -/
def Dis (cnt : Nat) (F : Nat → Option Nat) (ln : Nat → Nat) (q : Nat → Option Nat) : Prop := ∀ s x f a, s < 4 → q s = some x → f < cnt → F f = some a → x + 2 ≤ a ∨ a + ln f ≤ x
def InvW (o : Nat) (S : GS) (M : MS) (cnt : Nat) (st : Int32) (F : Nat → Option Nat) (ln : Nat → Nat) (q : Nat → Option Nat) : Prop := TopAt S o (nI cnt) st ∧ M.1 18 0 = st ∧ SetsArr S o ∧ SetsOk S M o ∧ SheetsOk S M o q ∧ FitsOk S M o cnt F ln ∧ LvOk S o ∧ SsOk S o ∧ ActOk S M o ∧ o + 68 ≤ S.2 ∧ Dis cnt F ln q
def Inv (o : Nat) (S : GS) (M : MS) : Prop := ∃ (cnt : Nat) (st : Int32) (F : Nat → Option Nat) (ln : Nat → Nat) (q : Nat → Option Nat), InvW o S M cnt st F ln q
section KP
variable {S S' : GS} {M M' : MS} {o cnt : Nat} {st : Int32} {F : Nat → Option Nat} {ln : Nat → Nat} {q : Nat → Option Nat}
theorem SetsArr.kp (h : SetsArr S o) (e : S'.1 (o + 1) = S.1 (o + 1)) : SetsArr S' o := by
  obtain ⟨f, h1, h2⟩ := h
  exact ⟨f, e.trans h1, h2⟩
theorem SetsOk.kp (h : SetsOk S M o) (e : ∀ b, o + 17 ≤ b → b < o + 41 → S'.1 b = S.1 b) (m : ∀ k, k < 4 → M'.1 k = M.1 k) : SetsOk S' M' o := by
  intro s hs
  obtain ⟨n, P, V, Z, p1, p2, p3, p4⟩ := h s hs
  refine ⟨n, P, V, Z, ⟨(e _ (by omega) (by omega)).trans p1.1, (e _ (by omega) (by omega)).trans p1.2.1, (e _ (by omega) (by omega)).trans p1.2.2.1, (e _ (by omega) (by omega)).trans p1.2.2.2⟩, p2, by rw [m 0 (by omega)]; exact p3, fun i hi => ?_⟩
  rw [m 1 (by omega), m 2 (by omega), m 3 (by omega)]
  exact p4 i hi
theorem SheetsOk.kp (h : SheetsOk S M o q) (e3 : S'.1 (o + 3) = S.1 (o + 3)) (e : ∀ s a, s < 4 → q s = some a → o + 68 ≤ a → a + 2 ≤ S.2 → S'.1 a = S.1 a ∧ S'.1 (a + 1) = S.1 (a + 1)) (e2 : S.2 ≤ S'.2) (m : ∀ k, k = 15 ∨ k = 16 ∨ k = 17 → M'.1 k = M.1 k) : SheetsOk S' M' o q := by
  refine ⟨e3.trans h.1, fun s hs => ?_, h.2.2⟩
  unfold ShIs
  rw [m 15 (by omega), m 16 (by omega), m 17 (by omega)]
  rcases h.2.1 s hs with x | ⟨a, sort, n, C, x1, x2, x3, x4, x5⟩
  · exact Or.inl x
  · obtain ⟨y1, y2⟩ := e s a hs x1 x2 x3
    exact Or.inr ⟨a, sort, n, C, x1, x2, by omega, ⟨y1.trans x4.1, y2.trans x4.2⟩, x5⟩
theorem FitsOk.kp (h : FitsOk S M o cnt F ln) (e2 : S'.1 (o + 2) = S.1 (o + 2)) (e : ∀ f a, f < cnt → F f = some a → o + 68 ≤ a → a + ln f ≤ S.2 → ∀ b, a ≤ b → b < a + ln f → S'.1 b = S.1 b) (es : S.2 ≤ S'.2) (m4 : M'.1 4 = M.1 4) (m : ∀ f, f < cnt → KeepF M M' f) : FitsOk S' M' o cnt F ln := by
  refine ⟨e2.trans h.1, by rw [m4]; exact h.2.1, h.2.2.1, fun f hf => ?_, h.2.2.2.2⟩
  obtain ⟨a, a1, a2⟩ := h.2.2.2.1 f hf
  exact ⟨a, a1, a2.keep es (e f a hf a1 a2.1 a2.2.1) (m f hf)⟩
theorem LvOk.kp (h : LvOk S o) (e : ∀ b, o + 4 ≤ b → b < o + 13 → S'.1 b = S.1 b) : LvOk S' o := by
  obtain ⟨t, v, w, K, H, B, U, sz, fr, sq, c0, c1, c2, d, h⟩ := h
  refine ⟨t, v, w, K, H, B, U, sz, fr, sq, c0, c1, c2, d, fun j x hj => ?_⟩
  have hl : j < 9 := (List.getElem?_eq_some_iff.mp hj).1
  rw [e _ (by omega) (by omega)]
  exact h j x hj
theorem SsOk.kp (h : SsOk S o) (e : ∀ b, o + 13 ≤ b → b < o + 15 → S'.1 b = S.1 b) : SsOk S' o := by
  obtain ⟨R, b0, b1, x1, x2⟩ := h
  exact ⟨R, b0, b1, (e _ (by omega) (by omega)).trans x1, (e _ (by omega) (by omega)).trans x2⟩
theorem ActOk.kp (h : ActOk S M o) (e : ∀ b, o + 15 ≤ b → b < o + 17 → S'.1 b = S.1 b) (m : ∀ k, k = 19 ∨ k = 20 → M'.1 k = M.1 k) : ActOk S' M' o := by
  obtain ⟨L, h1, ⟨B, b1, b2, b3⟩, h3, h4⟩ := h
  refine ⟨L, h1, ⟨B, (e _ (by omega) (by omega)).trans b1, (e _ (by omega) (by omega)).trans b2, b3⟩, ?_, ?_⟩
  · rw [m 20 (by omega)]; exact h3
  · rw [m 19 (by omega)]; exact h4
/-- the reference's scratch alone is told anew -/
theorem inv_scr (h : InvW o S M cnt st F ln q) (hs : Scr M M') : InvW o S M' cnt st F ln q := by
  obtain ⟨h1, h2, h3, h4, h5, h6, h7, h8, h9, h10, h11⟩ := h
  exact ⟨h1, by rw [hs.1 18 (by omega)]; exact h2, h3, h4.kp (fun _ _ _ => rfl) (fun k _ => hs.1 k (by omega)), h5.kp rfl (fun _ _ _ _ _ _ => ⟨rfl, rfl⟩) (Nat.le_refl _) (fun k _ => hs.1 k (by omega)), h6.kp rfl (fun _ _ _ _ _ _ _ _ _ => rfl) (Nat.le_refl _) (hs.1 4 (by omega)) (fun f _ => KeepF.scr hs), h7, h8, h9.kp (fun _ _ _ => rfl) (fun k _ => hs.1 k (by omega)), h10, h11⟩
/-- sets and their points -/
theorem inv_pts {st' : Int32} (h : InvW o S M cnt st F ln q) (t1 : TopAt S' o (nI cnt) st') (t2 : M'.1 18 0 = st') (t3 : SetsOk S' M' o) (t4 : KeepS S S' o) (t5 : KeepM M M') : Inv o S' M' := by
  obtain ⟨h1, h2, h3, h4, h5, h6, h7, h8, h9, h10, h11⟩ := h
  have e2 : S.2 ≤ S'.2 := by rw [t4.1]; exact Nat.le_refl _
  refine ⟨cnt, st', F, ln, q, t1, t2, h3.kp (t4.2 _ (by omega) (by omega)), t3, h5.kp (t4.2 _ (by omega) (by omega)) (fun s a _ _ a1 _ => ⟨t4.2 _ (by omega) (by omega), t4.2 _ (by omega) (by omega)⟩) e2 (fun k _ => t5.2 k (by omega) (by omega) (by omega) (by omega) (by omega)), h6.kp (t4.2 _ (by omega) (by omega)) (fun f a _ _ a1 _ b b1 b2 => t4.2 _ (by omega) (by omega)) e2 (t5.2 4 (by omega) (by omega) (by omega) (by omega) (by omega)) (fun f _ => KeepF.of t5.1 (fun k _ _ => t5.2 k (by omega) (by omega) (by omega) (by omega) (by omega))), h7.kp (fun b b1 b2 => t4.2 b (by omega) (by omega)), h8.kp (fun b b1 b2 => t4.2 b (by omega) (by omega)), h9.kp (fun b b1 b2 => t4.2 b (by omega) (by omega)) (fun k _ => t5.2 k (by omega) (by omega) (by omega) (by omega) (by omega)), by omega, h11⟩
/-- a FIT is made, or none -/
theorem inv_new (h : InvW o S M cnt st F ln q) (n : NewRes S S' M M' o cnt F ln) : Inv o S' M' := by
  obtain ⟨h1, h2, h3, h4, h5, h6, h7, h8, h9, h10, h11⟩ := h
  obtain ⟨st', cnt', F', ln', n1, n2, n3, n4, n5, n6, n7, n8, n9⟩ := n
  refine ⟨cnt', st', F', ln', q, n1, n2, h3.kp (n5 _ (by omega) (by omega) (by omega) (by omega)), h4.kp (fun b b1 b2 => n5 b (by omega) (by omega) (by omega) (by omega)) (fun k hk => n8 k (by omega)), h5.kp (n5 _ (by omega) (by omega) (by omega) (by omega)) (fun s a _ _ a1 a2 => ⟨n5 _ (by omega) (by omega) (by omega) (by omega), n5 _ (by omega) (by omega) (by omega) (by omega)⟩) n4 (fun k hk => n8 k (by omega)), n3, n6, n7, h9.kp (fun b b1 b2 => n5 b (by omega) (by omega) (by omega) (by omega)) (fun k hk => n8 k (by omega)), by omega, fun s x f a s4 qx fc fa => ?_⟩
  rcases n9 f a fc fa with ⟨z1, z2, z3⟩ | z
  · rw [z3]; exact h11 s x f a s4 qx z1 z2
  · rcases h5.2.1 s s4 with y | ⟨a', sort, n, C, y1, y2, y3, -⟩
    · rw [qx] at y; cases y.1
    · rw [qx] at y1; cases y1
      exact Or.inl (by omega)
/-- the Leveller works -/
theorem inv_lev (h : InvW o S M cnt st F ln q) (hs : Same S S' (o + 4) 9) (hL : LvOk S' o) : InvW o S' M cnt st F ln q := by
  obtain ⟨h1, h2, h3, h4, h5, h6, h7, h8, h9, h10, h11⟩ := h
  have e2 : S.2 ≤ S'.2 := by rw [hs.1]; exact Nat.le_refl _
  exact ⟨(hs.2 _ (by omega)).trans h1, h2, h3.kp (hs.2 _ (by omega)), h4.kp (fun b _ _ => hs.2 b (by omega)) (fun _ _ => rfl), h5.kp (hs.2 _ (by omega)) (fun s a _ _ a1 _ => ⟨hs.2 _ (by omega), hs.2 _ (by omega)⟩) e2 (fun _ _ => rfl), h6.kp (hs.2 _ (by omega)) (fun f a _ _ a1 _ b b1 b2 => hs.2 _ (by omega)) e2 rfl (fun f _ => KeepF.of rfl (fun _ _ _ => rfl)), hL, h8.kp (fun b _ _ => hs.2 b (by omega)), h9.kp (fun b _ _ => hs.2 b (by omega)) (fun _ _ => rfl), by omega, h11⟩
theorem inv_drop {st' : Int32} {cnt' : Nat} {F' : Nat → Option Nat} (h : InvW o S M cnt st F ln q) (t1 : TopAt S' o (nI cnt') st') (t2 : M'.1 18 0 = st') (t3 : FitsOk S' M' o cnt' F' ln) (t4 : cnt' ≤ cnt) (t5 : ∀ f, f < cnt' → F' f = F f) (t6 : S'.2 = S.2) (t7 : ∀ b, b ≠ o → b ≠ o + 2 → S'.1 b = S.1 b) (t9 : ∀ k, k ≠ 4 → k ≠ 18 → M'.1 k = M.1 k) : Inv o S' M' := by
  obtain ⟨h1, h2, h3, h4, h5, h6, h7, h8, h9, h10, h11⟩ := h
  exact ⟨cnt', st', F', ln, q, t1, t2, h3.kp (t7 _ (by omega) (by omega)), h4.kp (fun b _ _ => t7 b (by omega) (by omega)) (fun k _ => t9 k (by omega) (by omega)), h5.kp (t7 _ (by omega) (by omega)) (fun s a _ _ a1 _ => ⟨t7 _ (by omega) (by omega), t7 _ (by omega) (by omega)⟩) (by omega) (fun k _ => t9 k (by omega) (by omega)), t3, h7.kp (fun b _ _ => t7 b (by omega) (by omega)), h8.kp (fun b _ _ => t7 b (by omega) (by omega)), h9.kp (fun b _ _ => t7 b (by omega) (by omega)) (fun k _ => t9 k (by omega) (by omega)), by omega, fun s x f a s4 qx fc fa => h11 s x f a s4 qx (by omega) (by rw [← t5 f fc]; exact fa)⟩
theorem inv_act {st' : Int32} (h : InvW o S M cnt st F ln q) (t1 : TopAt S' o (nI cnt) st') (t2 : M'.1 18 0 = st') (t3 : ActOk S' M' o) (t6 : S'.2 = S.2) (t7 : ∀ b, b ≠ o → (b < o + 15 ∨ o + 17 ≤ b) → S'.1 b = S.1 b) (t8 : M'.2 = M.2) (t9 : ∀ k, k ≠ 18 → k ≠ 19 → k ≠ 20 → M'.1 k = M.1 k) : Inv o S' M' := by
  obtain ⟨h1, h2, h3, h4, h5, h6, h7, h8, h9, h10, h11⟩ := h
  exact ⟨cnt, st', F, ln, q, t1, t2, h3.kp (t7 _ (by omega) (by omega)), h4.kp (fun b _ _ => t7 b (by omega) (by omega)) (fun k _ => t9 k (by omega) (by omega) (by omega)), h5.kp (t7 _ (by omega) (by omega)) (fun s a _ _ a1 _ => ⟨t7 _ (by omega) (by omega), t7 _ (by omega) (by omega)⟩) (by omega) (fun k _ => t9 k (by omega) (by omega) (by omega)), h6.kp (t7 _ (by omega) (by omega)) (fun f a _ _ a1 _ b b1 b2 => t7 _ (by omega) (by omega)) (by omega) (t9 4 (by omega) (by omega) (by omega)) (fun f _ => KeepF.of t8 (fun k _ _ => t9 k (by omega) (by omega) (by omega))), h7.kp (fun b _ _ => t7 b (by omega) (by omega)), h8.kp (fun b _ _ => t7 b (by omega) (by omega)), t3, by omega, h11⟩
theorem inv_sheet {st' : Int32} {q' : Nat → Option Nat} (h : InvW o S M cnt st F ln q) (t1 : TopAt S' o (nI cnt) st') (t2 : M'.1 18 0 = st') (t3 : SheetsOk S' M' o q') (t4 : ∀ s, s < 4 → q' s = none ∨ q' s = q s ∨ q' s = some S.2) (t7 : KeepT S S' o) (t8 : M'.2 = M.2) (t9 : ∀ k, k ≠ 15 → k ≠ 16 → k ≠ 17 → k ≠ 18 → M'.1 k = M.1 k) : Inv o S' M' := by
  obtain ⟨h1, h2, h3, h4, h5, h6, h7, h8, h9, h10, h11⟩ := h
  obtain ⟨t5, t6⟩ := t7
  refine ⟨cnt, st', F, ln, q', t1, t2, h3.kp (t6 _ (by omega) (by omega) (by omega)), h4.kp (fun b _ _ => t6 b (by omega) (by omega) (by omega)) (fun k _ => t9 k (by omega) (by omega) (by omega) (by omega)), t3, h6.kp (t6 _ (by omega) (by omega) (by omega)) (fun f a _ _ a1 _ b b1 b2 => t6 _ (by omega) (by omega) (by omega)) t5 (t9 4 (by omega) (by omega) (by omega) (by omega)) (fun f _ => KeepF.of t8 (fun k _ _ => t9 k (by omega) (by omega) (by omega) (by omega))), h7.kp (fun b _ _ => t6 b (by omega) (by omega) (by omega)), h8.kp (fun b _ _ => t6 b (by omega) (by omega) (by omega)), h9.kp (fun b _ _ => t6 b (by omega) (by omega) (by omega)) (fun k _ => t9 k (by omega) (by omega) (by omega) (by omega)), by omega, fun s x f a s4 qx fc fa => ?_⟩
  rcases t4 s s4 with z | z | z
  · rw [z] at qx; cases qx
  · exact h11 s x f a s4 (by rw [← z]; exact qx) fc fa
  · rw [z] at qx
    cases qx
    obtain ⟨a', a1, a2⟩ := h6.2.2.2.1 f fc
    rw [fa] at a1
    cases a1
    exact Or.inr a2.2.1
theorem inv_cell {st' : Int32} (h : InvW o S M cnt st F ln q) (t1 : TopAt S' o (nI cnt) st') (t2 : M'.1 18 0 = st') (t3 : SheetsOk S' M' o q) (t6 : S'.2 = S.2) (t7 : ∀ b, b ≠ o → (∀ s a, s < 4 → q s = some a → b ≠ a + 1) → S'.1 b = S.1 b) (t8 : M'.2 = M.2) (t9 : ∀ k, k ≠ 17 → k ≠ 18 → M'.1 k = M.1 k) : Inv o S' M' := by
  obtain ⟨h1, h2, h3, h4, h5, h6, h7, h8, h9, h10, h11⟩ := h
  have lo : ∀ b, b ≠ o → b < o + 68 → S'.1 b = S.1 b := fun b b1 b2 => t7 b b1 (fun s a s4 qa => by
    rcases h5.2.1 s s4 with y | ⟨a', sort, n, C, y1, y2, y3, -⟩
    · rw [qa] at y; cases y.1
    · rw [qa] at y1; cases y1
      omega)
  exact ⟨cnt, st', F, ln, q, t1, t2, h3.kp (lo _ (by omega) (by omega)), h4.kp (fun b _ _ => lo b (by omega) (by omega)) (fun k _ => t9 k (by omega) (by omega)), t3, h6.kp (lo _ (by omega) (by omega)) (fun f a fc fa a1 _ b b1 b2 => t7 _ (by omega) (fun s x s4 qx => by have := h11 s x f a s4 qx fc fa; omega)) (by omega) (t9 4 (by omega) (by omega)) (fun f _ => KeepF.of t8 (fun k _ _ => t9 k (by omega) (by omega))), h7.kp (fun b _ _ => lo b (by omega) (by omega)), h8.kp (fun b _ _ => lo b (by omega) (by omega)), h9.kp (fun b _ _ => lo b (by omega) (by omega)) (fun k _ => t9 k (by omega) (by omega)), by omega, h11⟩
theorem inv_st (h : InvW o S M cnt st F ln q) (hs : StOnly S S' M M' o cnt) : Inv o S' M' := by
  obtain ⟨w, t1, t2, rfl⟩ := hs
  exact inv_act h t1 (by rw [sI_s, upd_s]) (h.2.2.2.2.2.2.2.2.1.kp (fun b _ _ => t2.2 b (by omega)) (fun k _ => sI_n _ (by omega))) t2.1 (fun b b1 _ => t2.2 b (by omega)) rfl (fun k k1 _ _ => sI_n _ k1)
end KP
