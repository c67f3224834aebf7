/-! small numbers as Int32; evaluation over known cells; loops by one turn -/
theorem n_toInt {a : Nat} (h : a < 2147483648) : (nI a).toInt = (a : Int) := nI_toInt (by omega)
theorem n_le {a b : Nat} (ha : a < 2147483648) (hb : b < 2147483648) : (nI a ≤ nI b) = (a ≤ b) := by
  apply propext
  rw [Int32.le_iff_toInt_le, n_toInt ha, n_toInt hb]
  omega
theorem n_lt {a b : Nat} (ha : a < 2147483648) (hb : b < 2147483648) : (nI a < nI b) = (a < b) := by
  apply propext
  rw [Int32.lt_iff_toInt_lt, n_toInt ha, n_toInt hb]
  omega
theorem n_eq {a b : Nat} (ha : a < 2147483648) (hb : b < 2147483648) : (nI a = nI b) = (a = b) := by
  apply propext
  constructor
  · intro h
    have h2 := congrArg Int32.toInt h
    rw [n_toInt ha, n_toInt hb] at h2
    omega
  · intro h
    rw [h]
theorem n_cl {a : Nat} (h : a < 2147483648) : (nI a).toNatClampNeg = a := by
  unfold nI
  exact Int32.toNatClampNeg_ofNat_of_lt (by omega)
theorem n_add (a b : Nat) : nI a + nI b = nI (a + b) := z_nIadd a b
theorem n_sub {a b : Nat} (h : b ≤ a) : nI a - nI b = nI (a - b) := by
  have e : nI a = nI (a - b) + nI b := by rw [n_add]; congr 1; omega
  rw [e]
  exact Int32.add_sub_cancel _ _
theorem n_mul (a b : Nat) : nI a * nI b = nI (a * b) := by
  unfold nI
  exact (Int32.ofNat_mul a b).symm
theorem n_in {a n : Nat} (h : a < 2147483648) : z_in (nI a) n = (a < n) := by
  apply propext
  show ¬ (nI a < 0 ∨ n ≤ (nI a).toNatClampNeg) ↔ _
  rw [n_cl h, show (0 : Int32) = nI 0 from rfl, n_lt h (by omega)]
  omega
/-- an Int32 that isn't below 0 is a small number -/
theorem n_of {x : Int32} (h : 0 ≤ x) : ∃ a : Nat, a < 2147483648 ∧ x = nI a := by
  refine ⟨x.toInt.toNat, ?_, ?_⟩
  · have h1 := Int32.toInt_lt x
    have h2 : (0 : Int) ≤ x.toInt := by
      rw [Int32.le_iff_toInt_le] at h
      exact h
    omega
  · apply Int32.toInt_inj.mp
    have h2 : (0 : Int) ≤ x.toInt := by
      rw [Int32.le_iff_toInt_le] at h
      exact h
    have h1 := Int32.toInt_lt x
    rw [n_toInt (by omega)]
    omega
theorem z_bd_s {α β : Type} (a : α) (k : α → Option β) : z_bd (some a) k = k a := rfl
theorem z_bd2_s {α β γ : Type} (a : α) (b : β) (k : α → β → Option γ) : z_bd2 (some (a, b)) k = k a b := rfl
theorem z_lt_e {α β : Type} (x : α) (k : α → β) : z_lt x k = k x := rfl
theorem z_chk_t {β : Type} {p : Prop} [Decidable p] (h : p) (k : Option β) : z_chk p k = k := if_pos h
theorem z_bs_l {ρ α : Type} (r : ρ) (k : α → Option ρ) : z_bs (some (.inl r)) k = some r := rfl
theorem z_bs_r {ρ α : Type} (a : α) (k : α → Option ρ) : z_bs (some (.inr a)) k = k a := rfl
theorem z_mt_N {β : Type} (x : β) (k : Nat → β) : z_mt none x k = x := rfl
theorem z_mt_S {β : Type} (a : Nat) (x : β) (k : Nat → β) : z_mt (some a) x k = k a := rfl
theorem z_lp_x {σ ε : Type} {b : σ → Option (ε ⊕ σ)} {x : σ} {e : ε} (h : b x = some (.inl e)) : z_lp b x = some e := by rw [z_lp_eq, h]
theorem z_lp_n {σ ε : Type} {b : σ → Option (ε ⊕ σ)} {x y : σ} (h : b x = some (.inr y)) : z_lp b x = z_lp b y := by rw [z_lp_eq, h]
/-- a loop by its list of states -/
theorem z_lp_count {σ ε : Type} {b : σ → Option (ε ⊕ σ)} (st : Nat → σ) (N : Nat) {e : ε} (hs : ∀ k, k < N → b (st k) = some (.inr (st (k + 1)))) (he : b (st N) = some (.inl e)) : z_lp b (st 0) = some e := by
  have key : ∀ d k, k + d = N → z_lp b (st k) = some e := by
    intro d
    induction d with
    | zero => intro k hk; rw [Nat.add_zero] at hk; subst hk; exact z_lp_x he
    | succ d ih => intro k hk; rw [z_lp_n (hs k (by omega))]; exact ih (k + 1) (by omega)
  exact key N 0 (by omega)
abbrev e_o (ci : Nat) (fs : List Value) : PE := .inr (.inr (.inr (ci, fs)))
abbrev e_i (n : Nat) (f : Nat → Int32) : PE := .inl (n, f)
abbrev e_j (n : Nat) (f : Nat → Int64) : PE := .inr (.inl (n, f))
abbrev e_q (t n : Nat) (f : Nat → Option Nat) : PE := .inr (.inr (.inl (t, n, f)))
theorem g_o_e {S : GS} {ci a : Nat} {fs : List Value} (h : S.1 a = some (e_o ci fs)) : g_o S ci a = some fs := by
  unfold g_o
  rw [h]
  exact if_pos rfl
theorem g_is_e {S : GS} {ci a : Nat} {fs : List Value} (h : S.1 a = some (e_o ci fs)) : g_is S ci a := by
  show (g_o S ci a).isSome = true
  rw [g_o_e h]
  rfl
theorem g_fv_e {S : GS} {ci k a : Nat} {fs : List Value} (h : S.1 a = some (e_o ci fs)) : g_fv S ci k a = fs[k]? := by
  unfold g_fv
  rw [g_o_e h]
  rfl
theorem g_i_e {S : GS} {ci k a : Nat} {fs : List Value} {v : Int32} (h : S.1 a = some (e_o ci fs)) (hk : fs[k]? = some (.int v)) : g_i S ci k a = some v := by
  unfold g_i
  rw [g_fv_e h, hk]
theorem g_l_e {S : GS} {ci k a : Nat} {fs : List Value} {v : Int64} (h : S.1 a = some (e_o ci fs)) (hk : fs[k]? = some (.long v)) : g_l S ci k a = some v := by
  unfold g_l
  rw [g_fv_e h, hk]
theorem g_r_e {S : GS} {ci k a : Nat} {fs : List Value} {v : Nat} (h : S.1 a = some (e_o ci fs)) (hk : fs[k]? = some (.ref v)) : g_r S ci k a = some v := by
  unfold g_r
  rw [g_fv_e h, hk]
theorem g_put_e {S : GS} {ci k a : Nat} {fs : List Value} (v : Value) (h : S.1 a = some (e_o ci fs)) (hk : k < fs.length) : g_put S ci k a v = some (g_up S a (e_o ci (fs.set k v))) := by
  unfold g_put
  rw [g_o_e h]
  exact if_pos hk
theorem g_ai_e {S : GS} {a n : Nat} {f : Nat → Int32} (h : S.1 a = some (e_i n f)) : g_ai S a = some (n, f) := by
  unfold g_ai
  rw [h]
theorem g_aj_e {S : GS} {a n : Nat} {f : Nat → Int64} (h : S.1 a = some (e_j n f)) : g_aj S a = some (n, f) := by
  unfold g_aj
  rw [h]
theorem g_aq_e {S : GS} {t a n : Nat} {f : Nat → Option Nat} (h : S.1 a = some (e_q t n f)) : g_aq S t a = some (n, f) := by
  unfold g_aq
  rw [h]
  exact if_pos rfl
theorem g_rI_e {S : GS} {a n : Nat} {f : Nat → Int32} {i : Int32} (h : S.1 a = some (e_i n f)) (hi : z_in i n) : g_rI S a i = some (f i.toNatClampNeg) := by
  unfold g_rI
  rw [g_ai_e h, z_bd2_s]
  exact if_pos hi
theorem g_rJ_e {S : GS} {a n : Nat} {f : Nat → Int64} {i : Int32} (h : S.1 a = some (e_j n f)) (hi : z_in i n) : g_rJ S a i = some (f i.toNatClampNeg) := by
  unfold g_rJ
  rw [g_aj_e h, z_bd2_s]
  exact if_pos hi
theorem g_rQ_e {S : GS} {t a n : Nat} {f : Nat → Option Nat} {i : Int32} (h : S.1 a = some (e_q t n f)) (hi : z_in i n) : g_rQ S t a i = some (f i.toNatClampNeg) := by
  unfold g_rQ
  rw [g_aq_e h, z_bd2_s]
  exact if_pos hi
theorem g_wI_e {S : GS} {a n : Nat} {f : Nat → Int32} {i : Int32} (x : Int32) (h : S.1 a = some (e_i n f)) (hi : z_in i n) : g_wI S a i x = some (g_up S a (e_i n (upd f i.toNatClampNeg x))) := by
  unfold g_wI
  rw [g_ai_e h, z_bd2_s]
  exact if_pos hi
theorem g_wJ_e {S : GS} {a n : Nat} {f : Nat → Int64} {i : Int32} (x : Int64) (h : S.1 a = some (e_j n f)) (hi : z_in i n) : g_wJ S a i x = some (g_up S a (e_j n (vp_updL f i.toNatClampNeg x))) := by
  unfold g_wJ
  rw [g_aj_e h, z_bd2_s]
  exact if_pos hi
theorem g_wQ_e {S : GS} {t a n : Nat} {f : Nat → Option Nat} {i : Int32} (x : Option Nat) (h : S.1 a = some (e_q t n f)) (hi : z_in i n) : g_wQ S t a i x = some (g_up S a (e_q t n (va_up f i.toNatClampNeg x))) := by
  unfold g_wQ
  rw [g_aq_e h, z_bd2_s]
  exact if_pos hi
theorem g_up_s (S : GS) (a : Nat) (x : PE) : (g_up S a x).1 a = some x := if_pos rfl
theorem g_up_n {S : GS} {a b : Nat} (x : PE) (h : b ≠ a) : (g_up S a x).1 b = S.1 b := if_neg h
theorem g_up_2 (S : GS) (a : Nat) (x : PE) : (g_up S a x).2 = S.2 := rfl
theorem g_nw_s (S : GS) (x : PE) : (g_nw S x).1 S.2 = some x := if_pos rfl
theorem g_nw_n {S : GS} {b : Nat} (x : PE) (h : b ≠ S.2) : (g_nw S x).1 b = S.1 b := if_neg h
theorem g_nw_2 (S : GS) (x : PE) : (g_nw S x).2 = S.2 + 1 := rfl
/-- the same heap but for the cells from a on, n of them -/
def Same (S S' : GS) (a n : Nat) : Prop := S'.2 = S.2 ∧ ∀ b : Nat, (b < a ∨ a + n ≤ b) → S'.1 b = S.1 b
theorem Same.rf {S : GS} {a n : Nat} : Same S S a n := ⟨rfl, fun _ _ => rfl⟩
theorem Same.tr {S S1 S2 : GS} {a n : Nat} (h1 : Same S S1 a n) (h2 : Same S1 S2 a n) : Same S S2 a n := ⟨h2.1.trans h1.1, fun b hb => (h2.2 b hb).trans (h1.2 b hb)⟩
theorem Same.up {S : GS} {a n c : Nat} {x : PE} (h : a ≤ c ∧ c < a + n) : Same S (g_up S c x) a n := ⟨rfl, fun b hb => g_up_n x (by omega)⟩
theorem upd_s (f : Nat → Int32) (k : Nat) (x : Int32) : upd f k x k = x := if_pos rfl
theorem upd_n {f : Nat → Int32} {k j : Nat} (x : Int32) (h : j ≠ k) : upd f k x j = f j := if_neg h
theorem sI_s (M : MS) (k i : Nat) (v : Int32) : (sI M k i v).1 k = upd (M.1 k) i v := if_pos rfl
theorem sI_n {M : MS} {k q i : Nat} (v : Int32) (h : q ≠ k) : (sI M k i v).1 q = M.1 q := if_neg h
theorem sI_2 (M : MS) (k i : Nat) (v : Int32) : (sI M k i v).2 = M.2 := rfl
theorem sJ_1 (M : MS) (k i : Nat) (v : Int64) : (sJ M k i v).1 = M.1 := rfl
theorem sJ_s (M : MS) (k i : Nat) (v : Int64) : (sJ M k i v).2 k = vp_updL (M.2 k) i v := if_pos rfl
theorem sJ_n {M : MS} {k q i : Nat} (v : Int64) (h : q ≠ k) : (sJ M k i v).2 q = M.2 q := if_neg h
