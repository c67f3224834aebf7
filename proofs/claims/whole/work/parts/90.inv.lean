/-! what holds between two calls, and that every call keeps it -/
def Dis (cnt : Nat) (F : Nat → Option Nat) (ln : Nat → Nat) (q : Nat → Option Nat) : Prop := ∀ s x f a, s < 4 → q s = some x → f < cnt → F f = some a → x + 2 ≤ a ∨ a + ln f ≤ x
def InvW (o : Nat) (S : GS) (M : MS) (cnt : Nat) (st : Int32) (F : Nat → Option Nat) (ln : Nat → Nat) (q : Nat → Option Nat) : Prop := TopAt S o (nI cnt) st ∧ M.1 18 0 = st ∧ SetsArr S o ∧ SetsOk S M o ∧ SheetsOk S M o q ∧ FitsOk S M o cnt F ln ∧ LvOk S o ∧ SsOk S o ∧ ActOk S M o ∧ o + 68 ≤ S.2 ∧ Dis cnt F ln q
def Inv (o : Nat) (S : GS) (M : MS) : Prop := ∃ (cnt : Nat) (st : Int32) (F : Nat → Option Nat) (ln : Nat → Nat) (q : Nat → Option Nat), InvW o S M cnt st F ln q
section KP
variable {S S' : GS} {M M' : MS} {o cnt : Nat} {st : Int32} {F : Nat → Option Nat} {ln : Nat → Nat} {q : Nat → Option Nat}
theorem SetsArr.kp (h : SetsArr S o) (e : S'.1 (o + 1) = S.1 (o + 1)) : SetsArr S' o := by
  obtain ⟨f, h1, h2⟩ := h
  exact ⟨f, e.trans h1, h2⟩
theorem SetsOk.kp (h : SetsOk S M o) (e : ∀ b, o + 17 ≤ b → b < o + 41 → S'.1 b = S.1 b) (m : ∀ k, k < 4 → M'.1 k = M.1 k) : SetsOk S' M' o := by
  intro s hs
  obtain ⟨n, P, V, Z, p1, p2, p3, p4⟩ := h s hs
  refine ⟨n, P, V, Z, ⟨(e _ (by omega) (by omega)).trans p1.1, (e _ (by omega) (by omega)).trans p1.2.1, (e _ (by omega) (by omega)).trans p1.2.2.1, (e _ (by omega) (by omega)).trans p1.2.2.2⟩, p2, by rw [m 0 (by omega)]; exact p3, fun i hi => ?_⟩
  rw [m 1 (by omega), m 2 (by omega), m 3 (by omega)]
  exact p4 i hi
theorem SheetsOk.kp (h : SheetsOk S M o q) (e3 : S'.1 (o + 3) = S.1 (o + 3)) (e : ∀ s a, s < 4 → q s = some a → o + 68 ≤ a → a + 2 ≤ S.2 → S'.1 a = S.1 a ∧ S'.1 (a + 1) = S.1 (a + 1)) (e2 : S.2 ≤ S'.2) (m : ∀ k, k = 15 ∨ k = 16 ∨ k = 17 → M'.1 k = M.1 k) : SheetsOk S' M' o q := by
  refine ⟨e3.trans h.1, fun s hs => ?_, h.2.2⟩
  unfold ShIs
  rw [m 15 (by omega), m 16 (by omega), m 17 (by omega)]
  rcases h.2.1 s hs with x | ⟨a, sort, n, C, x1, x2, x3, x4, x5⟩
  · exact Or.inl x
  · obtain ⟨y1, y2⟩ := e s a hs x1 x2 x3
    exact Or.inr ⟨a, sort, n, C, x1, x2, by omega, ⟨y1.trans x4.1, y2.trans x4.2⟩, x5⟩
theorem FitsOk.kp (h : FitsOk S M o cnt F ln) (e2 : S'.1 (o + 2) = S.1 (o + 2)) (e : ∀ f a, f < cnt → F f = some a → o + 68 ≤ a → a + ln f ≤ S.2 → ∀ b, a ≤ b → b < a + ln f → S'.1 b = S.1 b) (es : S.2 ≤ S'.2) (m4 : M'.1 4 = M.1 4) (m : ∀ f, f < cnt → KeepF M M' f) : FitsOk S' M' o cnt F ln := by
  refine ⟨e2.trans h.1, by rw [m4]; exact h.2.1, h.2.2.1, fun f hf => ?_, h.2.2.2.2⟩
  obtain ⟨a, a1, a2⟩ := h.2.2.2.1 f hf
  exact ⟨a, a1, a2.keep es (e f a hf a1 a2.1 a2.2.1) (m f hf)⟩
theorem LvOk.kp (h : LvOk S o) (e : ∀ b, o + 4 ≤ b → b < o + 13 → S'.1 b = S.1 b) : LvOk S' o := by
  obtain ⟨t, v, w, K, H, B, U, sz, fr, sq, c0, c1, c2, d, h⟩ := h
  refine ⟨t, v, w, K, H, B, U, sz, fr, sq, c0, c1, c2, d, fun j x hj => ?_⟩
  have hl : j < 9 := (List.getElem?_eq_some_iff.mp hj).1
  rw [e _ (by omega) (by omega)]
  exact h j x hj
theorem SsOk.kp (h : SsOk S o) (e : ∀ b, o + 13 ≤ b → b < o + 15 → S'.1 b = S.1 b) : SsOk S' o := by
  obtain ⟨R, b0, b1, x1, x2⟩ := h
  exact ⟨R, b0, b1, (e _ (by omega) (by omega)).trans x1, (e _ (by omega) (by omega)).trans x2⟩
theorem ActOk.kp (h : ActOk S M o) (e : ∀ b, o + 15 ≤ b → b < o + 17 → S'.1 b = S.1 b) (m : ∀ k, k = 19 ∨ k = 20 → M'.1 k = M.1 k) : ActOk S' M' o := by
  obtain ⟨L, h1, ⟨B, b1, b2, b3⟩, h3, h4⟩ := h
  refine ⟨L, h1, ⟨B, (e _ (by omega) (by omega)).trans b1, (e _ (by omega) (by omega)).trans b2, b3⟩, ?_, ?_⟩
  · rw [m 20 (by omega)]; exact h3
  · rw [m 19 (by omega)]; exact h4
end KP
