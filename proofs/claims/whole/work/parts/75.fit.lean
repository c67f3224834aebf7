/-! fit; what a new FIT leaves -/
def SsOk (S : GS) (o : Nat) : Prop := ∃ (R : Nat → Int32) (b0 b1 : Int32), S.1 (o + 13) = some (e_o 6 [.ref (o + 14), .int b0, .int b1]) ∧ S.1 (o + 14) = some (e_i 12 R)
/-- what a call that makes a fit leaves -/
def NewRes (S S' : GS) (M M' : MS) (o cnt : Nat) (F : Nat → Option Nat) (ln : Nat → Nat) : Prop := ∃ (st' : Int32) (cnt' : Nat) (F' : Nat → Option Nat) (ln' : Nat → Nat), TopAt S' o (nI cnt') st' ∧ M'.1 18 0 = st' ∧ FitsOk S' M' o cnt' F' ln' ∧ S.2 ≤ S'.2 ∧ (∀ b, b < S.2 → b ≠ o → b ≠ o + 2 → (b < o + 4 ∨ o + 15 ≤ b) → S'.1 b = S.1 b) ∧ LvOk S' o ∧ SsOk S' o ∧ (∀ k, k < 4 ∨ (15 ≤ k ∧ k ≤ 20 ∧ k ≠ 18) → M'.1 k = M.1 k) ∧ ∀ f a, f < cnt' → F' f = some a → (f < cnt ∧ F f = some a ∧ ln' f = ln f) ∨ S.2 ≤ a
section NF
variable {S : GS} {M : MS} {o cnt : Nat} {st : Int32} {F : Nat → Option Nat} {ln : Nat → Nat}
theorem n_ref (hT : TopAt S o (nI cnt) st) (hF : FitsOk S M o cnt F ln) (hL : LvOk S o) (hX : SsOk S o) (w : Int32) : ∃ S', f_X7_refuse S o w = some (-1, S') ∧ f_X8_refused M w = some (-1, sI M 18 0 w) ∧ NewRes S S' M (sI M 18 0 w) o cnt F ln := by
  obtain ⟨S', e, h1, h2⟩ := t_refuse hT w
  refine ⟨S', e, rfl, w, cnt, F, ln, h1, by rw [sI_s, upd_s], ⟨(h2.2 _ (by omega)).trans hF.1, hF.2.1, hF.2.2.1, fun f hf => ?_, hF.2.2.2.2⟩, by rw [h2.1]; exact Nat.le_refl _, fun b _ b1 _ _ => h2.2 b (by omega), ?_, ?_, fun k hk => sI_n _ (by omega), fun f a hf ha => Or.inl ⟨hf, ha, rfl⟩⟩
  · obtain ⟨a, a1, a2⟩ := hF.2.2.2.1 f hf
    have := a2.1
    exact ⟨a, a1, a2.keep (by rw [h2.1]; exact Nat.le_refl _) (fun b b1 b2 => h2.2 b (by omega)) (KeepF.of rfl (fun k k1 k2 => sI_n _ (by omega)))⟩
  · obtain ⟨t, v, w, K, H, B, U, sz, fr, sq, c0, c1, c2, d, h⟩ := hL
    exact ⟨t, v, w, K, H, B, U, sz, fr, sq, c0, c1, c2, d, h.same h2 (by omega)⟩
  · obtain ⟨R, b0, b1, x1, x2⟩ := hX
    exact ⟨R, b0, b1, (h2.2 _ (by omega)).trans x1, (h2.2 _ (by omega)).trans x2⟩
/-- a fit is kept: the class -/
theorem p_keepFit (hT : TopAt S o (nI cnt) st) (hA : S.1 (o + 2) = some (e_q 1 10 F)) (hc : cnt < 10) {a : Nat} {num kd dg pc : Int32} (hO : FObj S a num kd dg pc) (ha : o + 68 ≤ a) : ∃ S', f_X7_keepFit S o a = some (num, S') ∧ TopAt S' o (nI (cnt + 1)) 0 ∧ S'.1 (o + 2) = some (e_q 1 10 (va_up F cnt (some a))) ∧ S'.2 = S.2 ∧ ∀ b, b ≠ o → b ≠ o + 2 → S'.1 b = S.1 b := by
  have e1 : g_wQ S 1 (o + 2) (nI cnt) (some a) = some (g_up S (o + 2) (e_q 1 10 (va_up F cnt (some a)))) := by rw [g_wQ_e (some a) hA (by rw [n_in (by omega)]; exact hc), n_cl (by omega)]
  obtain ⟨S1, hS1⟩ : ∃ z, z = g_up S (o + 2) (e_q 1 10 (va_up F cnt (some a))) := ⟨_, rfl⟩
  rw [← hS1] at e1
  have hT1 : TopAt S1 o (nI cnt) st := by rw [hS1]; exact (g_up_n _ (by omega)).trans hT
  have e2 := g_put_e (k := 6) (.int (nI (cnt + 1))) hT1 (Nat.le_of_ble_eq_true rfl)
  obtain ⟨S2, hS2⟩ : ∃ y, y = g_up S1 o (e_o 7 ([Value.ref (o + 1), .ref (o + 2), .ref (o + 3), .ref (o + 4), .ref (o + 13), .ref (o + 15), .int (nI cnt), .int st].set 6 (.int (nI (cnt + 1))))) := ⟨_, rfl⟩
  rw [← hS2] at e2
  have hT2 : TopAt S2 o (nI (cnt + 1)) st := by rw [hS2]; unfold TopAt; rw [g_up_s]; rfl
  have hO2 : FObj S2 a num kd dg pc := by rw [hS2, hS1]; exact (g_up_n _ (by omega)).trans ((g_up_n _ (by omega)).trans hO)
  obtain ⟨S3, e3, t1, t2⟩ := t_done hT2 num
  refine ⟨S3, ?_, t1, ?_, by rw [t2.1, hS2, g_up_2, hS1, g_up_2], fun b b1 b2 => by rw [t2.2 b (by omega), hS2, g_up_n _ b1, hS1, g_up_n _ b2]⟩
  · unfold f_X7_keepFit
    rw [g_i_e (k := 6) hT rfl, z_bd_s, show (10 : Int32) = nI 10 from rfl, if_pos (by rw [n_lt (by omega) (by omega)]; exact hc), g_r_e (k := 1) hT rfl, z_bd_s, z_bd_s, z_chk_t hO.is, e1, z_bd_s, g_i_e (k := 6) hT1 rfl, z_bd_s, show nI cnt + (1 : Int32) = nI (cnt + 1) from n_add cnt 1, e2, z_bd_s, hO2.i0, z_bd_s, z_chk_t (t_is hT2), e3, z_bd2_s]
  · rw [t2.2 _ (by omega), hS2, g_up_n _ (by omega), hS1, g_up_s]
/-- a fit is kept: both sides -/
theorem n_keep {S0 : GS} {M0 : MS} {a len n pc : Nat} {kd dg : Int32} {P V Z : Nat → Int32} {bg : Nat → Nat} {C : Nat → Pol4} (hT0 : TopAt S0 o (nI cnt) st) (hF0 : FitsOk S0 M0 o cnt F ln) (hc : cnt < 10) (h68 : o + 68 ≤ S0.2) (ha : a = S0.2) (hlen : 8 ≤ len) (hS2 : a + len ≤ S.2) (hcell : ∀ b, b < S0.2 → (b < o + 4 ∨ o + 15 ≤ b) → S.1 b = S0.1 b) (hL : LvOk S o) (hX : SsOk S o) (hfit : FitAt S a cnt kd dg n P V Z pc bg C len) (hok : FitOk kd n P V Z pc bg C) (hm : FitM M cnt kd dg n P V Z pc bg C) (hx : FitX kd dg n P V Z (C 0)) (h4 : M.1 4 0 = nI (cnt + 1)) (hK : KeepN M0 M cnt) : ∃ S', f_X7_keepFit S o a = some (nI cnt, S') ∧ NewRes S0 S' M0 (sI M 18 0 0) o cnt F ln := by
  have hT : TopAt S o (nI cnt) st := (hcell o (by omega) (by omega)).trans hT0
  have hA : S.1 (o + 2) = some (e_q 1 10 F) := (hcell _ (by omega) (by omega)).trans hF0.1
  obtain ⟨S', e, t1, t2, t3, t4⟩ := p_keepFit hT hA hc hfit.1 (by omega)
  have keep2 : ∀ {f b l : Nat}, FitIs S M o f b l → FitIs S' (sI M 18 0 0) o f b l := fun {f b l} h => by
    have := h.1
    exact h.keep (by rw [t3]; exact Nat.le_refl _) (fun x x1 x2 => t4 x (by omega) (by omega)) (KeepF.of rfl (fun k k1 k2 => sI_n _ (by omega)))
  refine ⟨S', e, 0, cnt + 1, va_up F cnt (some a), va_up ln cnt len, t1, by rw [sI_s, upd_s], ⟨t2, by rw [sI_n _ (by omega)]; exact h4, by omega, fun f hf => ?_, fun f f1 f2 => ?_⟩, by rw [t3]; omega, fun b b1 b2 b3 b4 => by rw [t4 b b2 b3]; exact hcell b b1 b4, ?_, ?_, fun k hk => ?_, fun f b hf hb => ?_⟩
  · by_cases z : f = cnt
    · rw [z]
      exact ⟨a, va_up_s _ _ _, by rw [va_up_s]; exact keep2 ⟨by omega, hS2, hlen, kd, dg, n, P, V, Z, pc, bg, C, hfit, hok, hm, hx⟩⟩
    · obtain ⟨b, b1, b2⟩ := hF0.2.2.2.1 f (by omega)
      have b3 := b2.1
      have b4 := b2.2.1
      refine ⟨b, by rw [va_up_n _ z]; exact b1, ?_⟩
      rw [va_up_n _ z]
      exact keep2 (b2.keep (by omega) (fun x x1 x2 => hcell x (by omega) (by omega)) (hK.2 f z))
  · rw [va_up_n _ (by omega)]
    exact hF0.2.2.2.2 f (by omega) f2
  · obtain ⟨t, v, w, K, H, B, U, sz, fr, sq, c0, c1, c2, d, h⟩ := hL
    refine ⟨t, v, w, K, H, B, U, sz, fr, sq, c0, c1, c2, d, fun j x hj => ?_⟩
    have hl : j < 9 := (List.getElem?_eq_some_iff.mp hj).1
    rw [t4 _ (by omega) (by omega)]
    exact h j x hj
  · obtain ⟨R, b0, b1, x1, x2⟩ := hX
    exact ⟨R, b0, b1, (t4 _ (by omega) (by omega)).trans x1, (t4 _ (by omega) (by omega)).trans x2⟩
  · rw [sI_n _ (by omega)]
    exact hK.1 k (by omega)
  · by_cases z : f = cnt
    · rw [z, va_up_s] at hb
      cases hb
      exact Or.inr (by omega)
    · rw [va_up_n _ z] at hb
      rw [va_up_n _ z]
      exact Or.inl ⟨by omega, hb, rfl⟩
/-- the cells of a new fit, as the picture has them -/
theorem fitL_at {S0 : GS} {a n : Nat} {kd dg : Int32} {P V Z : Nat → Int32} {fi : Nat} (h : New S0 a (fitL a (nI fi) kd dg n P V Z (rmN kd n)) S) (hn : n ≤ 12) : FitAt S a fi kd dg n P V Z (if kd = 4 then 0 else 1) (fun _ => 0) (fun _ => (0, 0, 0, 1)) 8 := by
  have hrm1 : 1 ≤ rmN kd n := by unfold rmN; by_cases z : kd = 4; rw [if_pos z]; omega; rw [if_neg z]; omega
  have hrm2 : rmN kd n ≤ 12 := by unfold rmN; by_cases z : kd = 4; rw [if_pos z]; omega; rw [if_neg z]; omega
  refine ⟨?_, ⟨h.at 1 _ rfl, h.at 2 _ rfl, h.at 3 _ rfl, h.at 4 _ rfl⟩, rmN kd n, _, _, hrm1, hrm2, ?_, h.at 5 _ rfl, h.at 6 _ rfl, fun j _ => rfl, fun j hj => ?_⟩
  · have e := h.at 0 _ rfl
    unfold FObj
    rw [show a = a + 0 from rfl, e]
    unfold fo
    by_cases z : kd = 4
    · rw [if_pos z, if_pos z]; rfl
    · rw [if_neg z, if_neg z]; rfl
  · by_cases z : kd = 4
    · rw [if_pos z]; omega
    · rw [if_neg z]; omega
  · have hj0 : j = 0 := by
      rcases hj with y | y
      · by_cases z : kd = 4
        · rw [if_pos z] at y; omega
        · rw [if_neg z] at y; omega
      · exact y
    rw [hj0]
    exact ⟨a + 7, va_up_s _ _ _, Nat.le_refl _, by omega, h.at 7 _ rfl⟩
/-- a new fit of a set: the class, up to its constructor's end -/
theorem p_make (hT : TopAt S o (nI cnt) st) {s n : Nat} {P V Z : Nat → Int32} (hs : s < 6) (hp : PtsAt S (o + 17 + 4 * s) n P V Z) (hn : n ≤ 12) (h68 : o + 68 ≤ S.2) (kd dg : Int32) : ∃ S3 S6, g_i (g_nw S fo0) 7 6 o = some (nI cnt) ∧ g_is (g_nw S fo0) 3 (o + 17 + 4 * s) ∧ f_X3_copy (g_nw S fo0) (o + 17 + 4 * s) = some (some (S.2 + 1), S3) ∧ f_X1_init S3 S.2 (nI cnt) kd dg (S.2 + 1) = some S6 ∧ New S S.2 (fitL S.2 (nI cnt) kd dg n P V Z (rmN kd n)) S6 := by
  have n0 : New S S.2 [fo0] (g_nw S fo0) := ⟨rfl, fun j y hj => by
    match j, hj with
    | 0, hj => cases hj; rw [Nat.add_zero, g_nw_s], fun b hb => g_nw_n _ (by omega)⟩
  have a1 : (g_nw S fo0).2 = S.2 + 1 := rfl
  have hp1 : PtsAt (g_nw S fo0) (o + 17 + 4 * s) n P V Z := ⟨(n0.2.2 _ (by omega)).trans hp.1, (n0.2.2 _ (by omega)).trans hp.2.1, (n0.2.2 _ (by omega)).trans hp.2.2.1, (n0.2.2 _ (by omega)).trans hp.2.2.2⟩
  obtain ⟨S3, e3, n3⟩ := p_copy hp1 (by omega)
  rw [a1] at e3 n3
  have n4 : New S S.2 [fo0, poL (S.2 + 1) n, e_i 12 P, e_i 12 V, e_i 12 Z] S3 := by
    refine ⟨n3.1, fun j y hj => ?_, fun b hb => (n3.2.2 b (by omega)).trans (n0.2.2 b hb)⟩
    match j, hj with
    | 0, hj => exact (n3.2.2 S.2 (by omega)).trans (n0.at 0 y hj)
    | 1, hj => exact n3.at 0 y hj
    | 2, hj => exact n3.at 1 y hj
    | 3, hj => exact n3.at 2 y hj
    | 4, hj => exact n3.at 3 y hj
  obtain ⟨S6, e6, n6⟩ := p_init (num := nI cnt) (kd := kd) (dg := dg) hn n4
  exact ⟨S3, S6, g_i_e (k := 6) ((n0.2.2 o (by omega)).trans hT) rfl, hp1.is, e3, e6, n6⟩
theorem ok_zero {n : Nat} {kd : Int32} {P V Z : Nat → Int32} (hO : PtsOk n P V Z) (hk : Kd kd) (h4 : ¬ kd = 4) (c : Pol4) (hc : PolK c) : FitOk kd n P V Z 1 (fun _ => 0) (fun _ => c) := ⟨hO, fun _ _ => hc, Or.inr rfl, fun j h1 h2 => by omega, fun h => by omega, by omega, hk, fun h => by omega⟩
/-- the first part becomes another -/
theorem fit_part {S1 : GS} {a fi n : Nat} {kd dg : Int32} {P V Z : Nat → Int32} {c c' : Pol4} (h : FitAt S a fi kd dg n P V Z 1 (fun _ => 0) (fun _ => c) 8) (hs : Same S S1 (a + 7) 1) (hp : PolA S1 (a + 7) c') : FitAt S1 a fi kd dg n P V Z 1 (fun _ => 0) (fun _ => c') 8 := by
  obtain ⟨h1, h2, rm, G, Bg, r1, r2, r3, r4, r5, r6, r7⟩ := h
  refine ⟨h1.same hs (by omega), h2.same hs (by omega), rm, G, Bg, r1, r2, r3, (hs.2 _ (by omega)).trans r4, (hs.2 _ (by omega)).trans r5, r6, fun j hj => ?_⟩
  obtain ⟨p, p1, p2, p3, p4⟩ := r7 j hj
  have e : p = a + 7 := by omega
  exact ⟨p, p1, p2, p3, by rw [e]; exact hp⟩
theorem m_whyNot {a0 : Int32} {g : Int32} (h4 : M.1 4 0 = nI cnt) (hc : cnt ≤ 10) : (f_X8_in a0 0 5 = some 0 → f_X8_whyNot M a0 g = some 1) ∧ (f_X8_in a0 0 5 = some 1 → g = 0 → f_X8_whyNot M a0 g = some 1) ∧ (f_X8_in a0 0 5 = some 1 → ¬ g = 0 → f_X8_whyNot M a0 g = some (if cnt = 10 then 2 else 0)) := by
  unfold f_X8_whyNot
  refine ⟨fun h => by rw [h, z_bd_s, if_pos rfl], fun h g0 => by rw [h, z_bd_s, if_neg z_10, if_pos g0], fun h g0 => ?_⟩
  rw [h, z_bd_s, if_neg z_10, if_neg g0, h4]
  by_cases z : cnt = 10
  · rw [if_pos z, if_pos (by rw [z]; rfl)]
  · rw [if_neg z, if_neg (by rw [show (10 : Int32) = nI 10 from rfl, n_eq (by omega) (by omega)]; exact z)]
theorem MPol.of {M' : MS} {i : Nat} {a0 b0 a1 b1 a2 b2 : Int64} {c : Pol4} (h : Num3 M M' i a0 b0 a1 b1 a2 b2) (e0 : a0 = jI (q0F c).num ∧ b0 = jI ((q0F c).den : Int)) (e1 : a1 = jI (q1F c).num ∧ b1 = jI ((q1F c).den : Int)) (e2 : a2 = jI (q2F c).num ∧ b2 = jI ((q2F c).den : Int)) : MPol M' i c := by
  obtain ⟨-, -, -, ⟨x1, x2⟩, ⟨x3, x4⟩, x5, x6⟩ := h
  exact ⟨⟨x1.trans e0.1, x2.trans e0.2⟩, ⟨x3.trans e1.1, x4.trans e1.2⟩, x5.trans e2.1, x6.trans e2.2⟩
end NF
