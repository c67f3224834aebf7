/-! the words: all good ones of the tables, in one list; every method's words are its own code and these -/
def z_big : List Cond := lw_tbl.filter goodWord
theorem z_big_in {w : Cond} (h : w ∈ lw_tbl) (g : goodWord w = true) : w ∈ z_big := List.mem_filter.mpr ⟨h, g⟩
theorem z_big_t {w : Cond} (i : Nat) (h : tables_1[i]? = some w) (g : goodWord w = true) : w ∈ z_big := z_big_in (List.mem_append_right _ (List.mem_of_getElem? h)) g
theorem z_big_p {w : Cond} (i : Nat) (h : (k2_sels lw_privs)[i]? = some w) (g : goodWord w = true) : w ∈ z_big := z_big_in (List.mem_append_left _ (List.mem_of_getElem? h)) g
theorem z_big_good {w : Cond} (h : w ∈ z_big) : (w.onTables && w.keeps) = true ∨ ∃ ty, w = .arrayClass ty := good_of_word (List.mem_filter.mp h).2
theorem z_big_tbl {w : Cond} (h : w ∈ z_big) : w ∈ lw_tbl := (List.mem_filter.mp h).1
abbrev z_wd (y : MethodName) (cc : ByteArray) (n : Nat) (r : Option FieldType) : List Cond := .code y cc n r :: z_big
theorem z_good1 {c0 w : Cond} (h : w ∈ z_big) : w ∈ c0 :: z_big ∧ ((w.onTables && w.keeps) = true ∨ ∃ ty, w = .arrayClass ty) := ⟨List.mem_cons_of_mem _ h, z_big_good h⟩
theorem z_goodIn {c0 : Cond} {y : MethodName} {cc : ByteArray} {n : Nat} {r : Option FieldType} (h : Cond.code y cc n r ∈ z_big) : GoodIn (c0 :: z_big) (z_wd y cc n r) := by
  intro w hw
  rcases List.mem_cons.mp hw with rfl | h1
  · exact z_good1 h
  · exact z_good1 h1
theorem z_goodB {y : MethodName} {cc : ByteArray} {n : Nat} {r : Option FieldType} (h : Cond.code y cc n r ∈ z_big) : GoodIn z_big (z_wd y cc n r) := by
  intro w hw
  rcases List.mem_cons.mp hw with rfl | h1
  · exact ⟨h, z_big_good h⟩
  · exact ⟨h1, z_big_good h1⟩
/-! the pure side: options with checks, names, loops -/
def z_chk {β : Type} (p : Prop) [Decidable p] (k : Option β) : Option β := if p then k else none
theorem z_chk_some {β : Type} {p : Prop} [Decidable p] {k : Option β} {r : β} (h : z_chk p k = some r) : p ∧ k = some r := by
  unfold z_chk at h
  by_cases hp : p
  · rw [if_pos hp] at h; exact ⟨hp, h⟩
  · rw [if_neg hp] at h; cases h
def z_lt {α β : Type} (x : α) (k : α → β) : β := k x
theorem z_lt_some {α β : Type} {x : α} {k : α → β} {r : β} (h : z_lt x k = r) : ∃ z, z = x ∧ k z = r := ⟨x, rfl, h⟩
def z_bd {α β : Type} (x : Option α) (k : α → Option β) : Option β := match x with
  | none => none
  | some a => k a
theorem z_bd_some {α β : Type} {x : Option α} {k : α → Option β} {r : β} (h : z_bd x k = some r) : ∃ a, x = some a ∧ k a = some r := by
  cases x with
  | none => cases h
  | some a => exact ⟨a, rfl, h⟩
/-- a loop's end that leaves the method, or goes on behind it -/
def z_bs {ρ α : Type} (x : Option (ρ ⊕ α)) (k : α → Option ρ) : Option ρ := match x with
  | none => none
  | some (.inl r) => some r
  | some (.inr a) => k a
theorem z_bs_some {ρ α : Type} {x : Option (ρ ⊕ α)} {k : α → Option ρ} {r : ρ} (h : z_bs x k = some r) : x = some (.inl r) ∨ ∃ a, x = some (.inr a) ∧ k a = some r := by
  cases x with
  | none => cases h
  | some a =>
    cases a with
    | inl q => cases h; exact Or.inl rfl
    | inr q => exact Or.inr ⟨q, rfl, h⟩
def z_it {σ ε : Type} (b : σ → Option (ε ⊕ σ)) : Nat → σ → Option ε
  | 0, _ => none
  | n + 1, x => match b x with
    | none => none
    | some (.inl e) => some e
    | some (.inr y) => z_it b n y
theorem z_it_succ {σ ε : Type} {b : σ → Option (ε ⊕ σ)} {e : ε} : ∀ (n : Nat) (x : σ), z_it b n x = some e → z_it b (n + 1) x = some e := by
  intro n
  induction n with
  | zero => intro x h; cases h
  | succ n ih =>
    intro x h
    rw [z_it] at h ⊢
    cases hb : b x with
    | none => rw [hb] at h; cases h
    | some o =>
      rw [hb] at h
      cases o with
      | inl e1 => exact h
      | inr y => exact ih y h
theorem z_it_le {σ ε : Type} {b : σ → Option (ε ⊕ σ)} {e : ε} {n m : Nat} {x : σ} (hle : n ≤ m) (h : z_it b n x = some e) : z_it b m x = some e := by
  induction hle with
  | refl => exact h
  | step _ ih => exact z_it_succ _ x ih
noncomputable def z_lp {σ ε : Type} (b : σ → Option (ε ⊕ σ)) (x : σ) : Option ε := @dite _ (∃ n, (z_it b n x).isSome = true) (Classical.propDecidable _) (fun h => z_it b (Classical.choose h) x) (fun _ => none)
theorem z_lp_of {σ ε : Type} {b : σ → Option (ε ⊕ σ)} {e : ε} {n : Nat} {x : σ} (h : z_it b n x = some e) : z_lp b x = some e := by
  have hx : ∃ n, (z_it b n x).isSome = true := ⟨n, by rw [h]; rfl⟩
  unfold z_lp
  rw [dif_pos hx]
  have h1 := Classical.choose_spec hx
  obtain ⟨e1, he⟩ := Option.isSome_iff_exists.mp h1
  rw [he]
  have a1 := z_it_le (Nat.le_max_left n (Classical.choose hx)) h
  have a2 := z_it_le (Nat.le_max_right n (Classical.choose hx)) he
  rw [a1] at a2
  exact a2.symm
theorem z_lp_some {σ ε : Type} {b : σ → Option (ε ⊕ σ)} {e : ε} {x : σ} (h : z_lp b x = some e) : ∃ n, z_it b n x = some e := by
  unfold z_lp at h
  by_cases hx : ∃ n, (z_it b n x).isSome = true
  · rw [dif_pos hx] at h; exact ⟨_, h⟩
  · rw [dif_neg hx] at h; cases h
/-- one turn of a loop -/
theorem z_lp_eq {σ ε : Type} (b : σ → Option (ε ⊕ σ)) (x : σ) : z_lp b x = (match b x with
    | none => none
    | some (.inl e) => some e
    | some (.inr y) => z_lp b y) := by
  cases hb : b x with
  | none =>
    cases h : z_lp b x with
    | none => rfl
    | some e =>
      obtain ⟨n, hn⟩ := z_lp_some h
      cases n with
      | zero => cases hn
      | succ n => rw [z_it, hb] at hn; cases hn
  | some o =>
    cases o with
    | inl e => exact z_lp_of (n := 1) (by rw [z_it, hb])
    | inr y =>
      show z_lp b x = z_lp b y
      cases h : z_lp b y with
      | some e =>
        obtain ⟨n, hn⟩ := z_lp_some h
        exact z_lp_of (n := n + 1) (by rw [z_it, hb]; exact hn)
      | none =>
        cases h2 : z_lp b x with
        | none => rfl
        | some e =>
          obtain ⟨n, hn⟩ := z_lp_some h2
          cases n with
          | zero => cases hn
          | succ n =>
            rw [z_it, hb] at hn
            rw [z_lp_of hn] at h
            cases h
theorem z_lp_ind {σ ε : Type} {b : σ → Option (ε ⊕ σ)} {P : σ → Prop} {Qe : ε → Prop} (hb : ∀ (x : σ) (o : ε ⊕ σ), b x = some o → (match o with
    | .inl e => Qe e
    | .inr y => P y) → P x) {x : σ} {e : ε} (h : z_lp b x = some e) (hq : Qe e) : P x := by
  obtain ⟨n, hn⟩ := z_lp_some h
  clear h
  induction n generalizing x with
  | zero => cases hn
  | succ n ih =>
    rw [z_it] at hn
    cases hx : b x with
    | none => rw [hx] at hn; cases hn
    | some o =>
      rw [hx] at hn
      cases o with
      | inl e1 => cases hn; exact hb x _ hx hq
      | inr y => exact hb x _ hx (ih hn)
def z_bd2 {α0 α1 β : Type} (x : Option (α0 × α1)) (k : α0 → α1 → Option β) : Option β := match x with
  | none => none
  | some (a0, a1) => k a0 a1
theorem z_bd2_some {α0 α1 β : Type} {x : Option (α0 × α1)} {k : α0 → α1 → Option β} {r : β} (h : z_bd2 x k = some r) : ∃ a0 a1, x = some (a0, a1) ∧ k a0 a1 = some r := by
  cases x with
  | none => cases h
  | some q =>
    obtain ⟨a0, a1⟩ := q
    exact ⟨a0, a1, rfl, h⟩
def z_bd3 {α0 α1 α2 β : Type} (x : Option (α0 × α1 × α2)) (k : α0 → α1 → α2 → Option β) : Option β := match x with
  | none => none
  | some (a0, a1, a2) => k a0 a1 a2
theorem z_bd3_some {α0 α1 α2 β : Type} {x : Option (α0 × α1 × α2)} {k : α0 → α1 → α2 → Option β} {r : β} (h : z_bd3 x k = some r) : ∃ a0 a1 a2, x = some (a0, a1, a2) ∧ k a0 a1 a2 = some r := by
  cases x with
  | none => cases h
  | some q =>
    obtain ⟨a0, a1, a2⟩ := q
    exact ⟨a0, a1, a2, rfl, h⟩
def z_bd4 {α0 α1 α2 α3 β : Type} (x : Option (α0 × α1 × α2 × α3)) (k : α0 → α1 → α2 → α3 → Option β) : Option β := match x with
  | none => none
  | some (a0, a1, a2, a3) => k a0 a1 a2 a3
theorem z_bd4_some {α0 α1 α2 α3 β : Type} {x : Option (α0 × α1 × α2 × α3)} {k : α0 → α1 → α2 → α3 → Option β} {r : β} (h : z_bd4 x k = some r) : ∃ a0 a1 a2 a3, x = some (a0, a1, a2, a3) ∧ k a0 a1 a2 a3 = some r := by
  cases x with
  | none => cases h
  | some q =>
    obtain ⟨a0, a1, a2, a3⟩ := q
    exact ⟨a0, a1, a2, a3, rfl, h⟩
def z_bd5 {α0 α1 α2 α3 α4 β : Type} (x : Option (α0 × α1 × α2 × α3 × α4)) (k : α0 → α1 → α2 → α3 → α4 → Option β) : Option β := match x with
  | none => none
  | some (a0, a1, a2, a3, a4) => k a0 a1 a2 a3 a4
theorem z_bd5_some {α0 α1 α2 α3 α4 β : Type} {x : Option (α0 × α1 × α2 × α3 × α4)} {k : α0 → α1 → α2 → α3 → α4 → Option β} {r : β} (h : z_bd5 x k = some r) : ∃ a0 a1 a2 a3 a4, x = some (a0, a1, a2, a3, a4) ∧ k a0 a1 a2 a3 a4 = some r := by
  cases x with
  | none => cases h
  | some q =>
    obtain ⟨a0, a1, a2, a3, a4⟩ := q
    exact ⟨a0, a1, a2, a3, a4, rfl, h⟩
def z_bd6 {α0 α1 α2 α3 α4 α5 β : Type} (x : Option (α0 × α1 × α2 × α3 × α4 × α5)) (k : α0 → α1 → α2 → α3 → α4 → α5 → Option β) : Option β := match x with
  | none => none
  | some (a0, a1, a2, a3, a4, a5) => k a0 a1 a2 a3 a4 a5
theorem z_bd6_some {α0 α1 α2 α3 α4 α5 β : Type} {x : Option (α0 × α1 × α2 × α3 × α4 × α5)} {k : α0 → α1 → α2 → α3 → α4 → α5 → Option β} {r : β} (h : z_bd6 x k = some r) : ∃ a0 a1 a2 a3 a4 a5, x = some (a0, a1, a2, a3, a4, a5) ∧ k a0 a1 a2 a3 a4 a5 = some r := by
  cases x with
  | none => cases h
  | some q =>
    obtain ⟨a0, a1, a2, a3, a4, a5⟩ := q
    exact ⟨a0, a1, a2, a3, a4, a5, rfl, h⟩
def z_bd7 {α0 α1 α2 α3 α4 α5 α6 β : Type} (x : Option (α0 × α1 × α2 × α3 × α4 × α5 × α6)) (k : α0 → α1 → α2 → α3 → α4 → α5 → α6 → Option β) : Option β := match x with
  | none => none
  | some (a0, a1, a2, a3, a4, a5, a6) => k a0 a1 a2 a3 a4 a5 a6
theorem z_bd7_some {α0 α1 α2 α3 α4 α5 α6 β : Type} {x : Option (α0 × α1 × α2 × α3 × α4 × α5 × α6)} {k : α0 → α1 → α2 → α3 → α4 → α5 → α6 → Option β} {r : β} (h : z_bd7 x k = some r) : ∃ a0 a1 a2 a3 a4 a5 a6, x = some (a0, a1, a2, a3, a4, a5, a6) ∧ k a0 a1 a2 a3 a4 a5 a6 = some r := by
  cases x with
  | none => cases h
  | some q =>
    obtain ⟨a0, a1, a2, a3, a4, a5, a6⟩ := q
    exact ⟨a0, a1, a2, a3, a4, a5, a6, rfl, h⟩
def z_bd8 {α0 α1 α2 α3 α4 α5 α6 α7 β : Type} (x : Option (α0 × α1 × α2 × α3 × α4 × α5 × α6 × α7)) (k : α0 → α1 → α2 → α3 → α4 → α5 → α6 → α7 → Option β) : Option β := match x with
  | none => none
  | some (a0, a1, a2, a3, a4, a5, a6, a7) => k a0 a1 a2 a3 a4 a5 a6 a7
theorem z_bd8_some {α0 α1 α2 α3 α4 α5 α6 α7 β : Type} {x : Option (α0 × α1 × α2 × α3 × α4 × α5 × α6 × α7)} {k : α0 → α1 → α2 → α3 → α4 → α5 → α6 → α7 → Option β} {r : β} (h : z_bd8 x k = some r) : ∃ a0 a1 a2 a3 a4 a5 a6 a7, x = some (a0, a1, a2, a3, a4, a5, a6, a7) ∧ k a0 a1 a2 a3 a4 a5 a6 a7 = some r := by
  cases x with
  | none => cases h
  | some q =>
    obtain ⟨a0, a1, a2, a3, a4, a5, a6, a7⟩ := q
    exact ⟨a0, a1, a2, a3, a4, a5, a6, a7, rfl, h⟩
def z_bd9 {α0 α1 α2 α3 α4 α5 α6 α7 α8 β : Type} (x : Option (α0 × α1 × α2 × α3 × α4 × α5 × α6 × α7 × α8)) (k : α0 → α1 → α2 → α3 → α4 → α5 → α6 → α7 → α8 → Option β) : Option β := match x with
  | none => none
  | some (a0, a1, a2, a3, a4, a5, a6, a7, a8) => k a0 a1 a2 a3 a4 a5 a6 a7 a8
theorem z_bd9_some {α0 α1 α2 α3 α4 α5 α6 α7 α8 β : Type} {x : Option (α0 × α1 × α2 × α3 × α4 × α5 × α6 × α7 × α8)} {k : α0 → α1 → α2 → α3 → α4 → α5 → α6 → α7 → α8 → Option β} {r : β} (h : z_bd9 x k = some r) : ∃ a0 a1 a2 a3 a4 a5 a6 a7 a8, x = some (a0, a1, a2, a3, a4, a5, a6, a7, a8) ∧ k a0 a1 a2 a3 a4 a5 a6 a7 a8 = some r := by
  cases x with
  | none => cases h
  | some q =>
    obtain ⟨a0, a1, a2, a3, a4, a5, a6, a7, a8⟩ := q
    exact ⟨a0, a1, a2, a3, a4, a5, a6, a7, a8, rfl, h⟩
def z_bd10 {α0 α1 α2 α3 α4 α5 α6 α7 α8 α9 β : Type} (x : Option (α0 × α1 × α2 × α3 × α4 × α5 × α6 × α7 × α8 × α9)) (k : α0 → α1 → α2 → α3 → α4 → α5 → α6 → α7 → α8 → α9 → Option β) : Option β := match x with
  | none => none
  | some (a0, a1, a2, a3, a4, a5, a6, a7, a8, a9) => k a0 a1 a2 a3 a4 a5 a6 a7 a8 a9
theorem z_bd10_some {α0 α1 α2 α3 α4 α5 α6 α7 α8 α9 β : Type} {x : Option (α0 × α1 × α2 × α3 × α4 × α5 × α6 × α7 × α8 × α9)} {k : α0 → α1 → α2 → α3 → α4 → α5 → α6 → α7 → α8 → α9 → Option β} {r : β} (h : z_bd10 x k = some r) : ∃ a0 a1 a2 a3 a4 a5 a6 a7 a8 a9, x = some (a0, a1, a2, a3, a4, a5, a6, a7, a8, a9) ∧ k a0 a1 a2 a3 a4 a5 a6 a7 a8 a9 = some r := by
  cases x with
  | none => cases h
  | some q =>
    obtain ⟨a0, a1, a2, a3, a4, a5, a6, a7, a8, a9⟩ := q
    exact ⟨a0, a1, a2, a3, a4, a5, a6, a7, a8, a9, rfl, h⟩
def z_bd11 {α0 α1 α2 α3 α4 α5 α6 α7 α8 α9 α10 β : Type} (x : Option (α0 × α1 × α2 × α3 × α4 × α5 × α6 × α7 × α8 × α9 × α10)) (k : α0 → α1 → α2 → α3 → α4 → α5 → α6 → α7 → α8 → α9 → α10 → Option β) : Option β := match x with
  | none => none
  | some (a0, a1, a2, a3, a4, a5, a6, a7, a8, a9, a10) => k a0 a1 a2 a3 a4 a5 a6 a7 a8 a9 a10
theorem z_bd11_some {α0 α1 α2 α3 α4 α5 α6 α7 α8 α9 α10 β : Type} {x : Option (α0 × α1 × α2 × α3 × α4 × α5 × α6 × α7 × α8 × α9 × α10)} {k : α0 → α1 → α2 → α3 → α4 → α5 → α6 → α7 → α8 → α9 → α10 → Option β} {r : β} (h : z_bd11 x k = some r) : ∃ a0 a1 a2 a3 a4 a5 a6 a7 a8 a9 a10, x = some (a0, a1, a2, a3, a4, a5, a6, a7, a8, a9, a10) ∧ k a0 a1 a2 a3 a4 a5 a6 a7 a8 a9 a10 = some r := by
  cases x with
  | none => cases h
  | some q =>
    obtain ⟨a0, a1, a2, a3, a4, a5, a6, a7, a8, a9, a10⟩ := q
    exact ⟨a0, a1, a2, a3, a4, a5, a6, a7, a8, a9, a10, rfl, h⟩
def z_bd12 {α0 α1 α2 α3 α4 α5 α6 α7 α8 α9 α10 α11 β : Type} (x : Option (α0 × α1 × α2 × α3 × α4 × α5 × α6 × α7 × α8 × α9 × α10 × α11)) (k : α0 → α1 → α2 → α3 → α4 → α5 → α6 → α7 → α8 → α9 → α10 → α11 → Option β) : Option β := match x with
  | none => none
  | some (a0, a1, a2, a3, a4, a5, a6, a7, a8, a9, a10, a11) => k a0 a1 a2 a3 a4 a5 a6 a7 a8 a9 a10 a11
theorem z_bd12_some {α0 α1 α2 α3 α4 α5 α6 α7 α8 α9 α10 α11 β : Type} {x : Option (α0 × α1 × α2 × α3 × α4 × α5 × α6 × α7 × α8 × α9 × α10 × α11)} {k : α0 → α1 → α2 → α3 → α4 → α5 → α6 → α7 → α8 → α9 → α10 → α11 → Option β} {r : β} (h : z_bd12 x k = some r) : ∃ a0 a1 a2 a3 a4 a5 a6 a7 a8 a9 a10 a11, x = some (a0, a1, a2, a3, a4, a5, a6, a7, a8, a9, a10, a11) ∧ k a0 a1 a2 a3 a4 a5 a6 a7 a8 a9 a10 a11 = some r := by
  cases x with
  | none => cases h
  | some q =>
    obtain ⟨a0, a1, a2, a3, a4, a5, a6, a7, a8, a9, a10, a11⟩ := q
    exact ⟨a0, a1, a2, a3, a4, a5, a6, a7, a8, a9, a10, a11, rfl, h⟩
