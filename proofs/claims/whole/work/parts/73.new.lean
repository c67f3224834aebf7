/-! new FITS: the class's cells -/
/-- from a on there are just the cells L, new ones -/
def New (S : GS) (a : Nat) (L : List PE) (S' : GS) : Prop := S'.2 = a + L.length ∧ At S' a L ∧ ∀ b, b < a → S'.1 b = S.1 b
theorem New.nw {S S1 : GS} {a : Nat} {L : List PE} (h : New S a L S1) (x : PE) : New S a (L ++ [x]) (g_nw S1 x) := by
  obtain ⟨h1, h2, h3⟩ := h
  refine ⟨by rw [g_nw_2, h1, List.length_append, List.length_singleton]; omega, fun j y hj => ?_, fun b hb => by rw [g_nw_n _ (by omega)]; exact h3 b hb⟩
  by_cases z : j = L.length
  · rw [z, List.getElem?_append_right (Nat.le_refl _), Nat.sub_self] at hj
    rw [z, ← h1, g_nw_s]
    exact hj
  · have hl := (List.getElem?_eq_some_iff.mp hj).1
    rw [List.length_append, List.length_singleton] at hl
    rw [List.getElem?_append_left (by omega)] at hj
    rw [g_nw_n _ (by omega)]
    exact h2 j y hj
theorem New.up {S S1 : GS} {a : Nat} {L : List PE} (h : New S a L S1) (j : Nat) (y : PE) : New S a (L.set j y) (g_up S1 (a + j) y) := ⟨by rw [g_up_2, h.1, List.length_set], h.2.1.up y, fun b hb => by rw [g_up_n _ (by omega)]; exact h.2.2 b hb⟩
theorem New.at {S S1 : GS} {a : Nat} {L : List PE} (h : New S a L S1) (j : Nat) (y : PE) (hj : L[j]? = some y) : S1.1 (a + j) = some y := h.2.1 j y hj
def fo0 : PE := e_o 1 [.int 0, .int 0, .int 0, .null, .null, .null, .int 0]
def poL (a n : Nat) : PE := e_o 3 [.ref (a + 1), .ref (a + 2), .ref (a + 3), .int (nI n)]
theorem p_copy {S : GS} {p n : Nat} {P V Z : Nat → Int32} (hp : PtsAt S p n P V Z) (hlt : p + 4 ≤ S.2) : ∃ S', f_X3_copy S p = some (some S.2, S') ∧ New S S.2 [poL S.2 n, e_i 12 P, e_i 12 V, e_i 12 Z] S' := by
  have n0 : New S S.2 [e_o 3 [.null, .null, .null, .int 0]] (g_nw S (e_o 3 [.null, .null, .null, .int 0])) := ⟨rfl, fun j y hj => by
    match j, hj with
    | 0, hj => cases hj; rw [Nat.add_zero, g_nw_s], fun b hb => g_nw_n _ (by omega)⟩
  generalize hS1 : g_nw S (e_o 3 [.null, .null, .null, .int 0]) = S1 at n0
  have pc : ∀ {X : GS} {L : List PE}, New S S.2 L X → PtsAt X p n P V Z := fun hX => ⟨(hX.2.2 _ (by omega)).trans hp.1, (hX.2.2 _ (by omega)).trans hp.2.1, (hX.2.2 _ (by omega)).trans hp.2.2.1, (hX.2.2 _ (by omega)).trans hp.2.2.2⟩
  have cl : ∀ {X : GS} {b m : Nat} {f : Nat → Int32}, X.1 b = some (e_i m f) → m ≤ 12 → g_cl X b 12 = some (g_nw X (e_i m f)) := fun {X b m f} hX hm => by
    unfold g_cl
    rw [g_ai_e hX, z_bd2_s, if_pos hm]
  have isI : ∀ {X : GS} {m : Nat} {f : Nat → Int32}, g_isI (g_nw X (e_i m f)) X.2 := fun {X m f} => by
    show (g_ai (g_nw X (e_i m f)) X.2).isSome = true
    rw [g_ai_e (g_nw_s X _)]
    rfl
  have n1 : New S S.2 [e_o 3 [.null, .null, .null, .int 0], e_i 12 P] (g_nw S1 (e_i 12 P)) := n0.nw _
  have a1 : S1.2 = S.2 + 1 := n0.1
  have u1 := g_put_e (k := 0) (.ref S1.2) (n1.at 0 _ rfl) (Nat.le_of_ble_eq_true rfl)
  have n2 : New S S.2 [e_o 3 [.ref S1.2, .null, .null, .int 0], e_i 12 P] (g_up (g_nw S1 (e_i 12 P)) (S.2 + 0) (e_o 3 [.ref S1.2, .null, .null, .int 0])) := n1.up 0 _
  generalize hS2 : g_up (g_nw S1 (e_i 12 P)) (S.2 + 0) (e_o 3 [.ref S1.2, .null, .null, .int 0]) = S2 at n2
  have a2 : S2.2 = S.2 + 2 := n2.1
  have n3 : New S S.2 [e_o 3 [.ref S1.2, .null, .null, .int 0], e_i 12 P, e_i 12 V] (g_nw S2 (e_i 12 V)) := n2.nw _
  have u2 := g_put_e (k := 1) (.ref S2.2) (n3.at 0 _ rfl) (Nat.le_of_ble_eq_true rfl)
  have n4 : New S S.2 [e_o 3 [.ref S1.2, .ref S2.2, .null, .int 0], e_i 12 P, e_i 12 V] (g_up (g_nw S2 (e_i 12 V)) (S.2 + 0) (e_o 3 [.ref S1.2, .ref S2.2, .null, .int 0])) := n3.up 0 _
  generalize hS3 : g_up (g_nw S2 (e_i 12 V)) (S.2 + 0) (e_o 3 [.ref S1.2, .ref S2.2, .null, .int 0]) = S3 at n4
  have a3 : S3.2 = S.2 + 3 := n4.1
  have n5 : New S S.2 [e_o 3 [.ref S1.2, .ref S2.2, .null, .int 0], e_i 12 P, e_i 12 V, e_i 12 Z] (g_nw S3 (e_i 12 Z)) := n4.nw _
  have u3 := g_put_e (k := 2) (.ref S3.2) (n5.at 0 _ rfl) (Nat.le_of_ble_eq_true rfl)
  have n6 : New S S.2 [e_o 3 [.ref S1.2, .ref S2.2, .ref S3.2, .int 0], e_i 12 P, e_i 12 V, e_i 12 Z] (g_up (g_nw S3 (e_i 12 Z)) (S.2 + 0) (e_o 3 [.ref S1.2, .ref S2.2, .ref S3.2, .int 0])) := n5.up 0 _
  generalize hS4 : g_up (g_nw S3 (e_i 12 Z)) (S.2 + 0) (e_o 3 [.ref S1.2, .ref S2.2, .ref S3.2, .int 0]) = S4 at n6
  have u4 := g_put_e (k := 3) (.int (nI n)) (n6.at 0 _ rfl) (Nat.le_of_ble_eq_true rfl)
  have n7 : New S S.2 [e_o 3 [.ref S1.2, .ref S2.2, .ref S3.2, .int (nI n)], e_i 12 P, e_i 12 V, e_i 12 Z] (g_up S4 (S.2 + 0) (e_o 3 [.ref S1.2, .ref S2.2, .ref S3.2, .int (nI n)])) := n6.up 0 _
  have p1 := pc n0
  have p2 := pc n2
  have p3 := pc n4
  have p4 := pc n6
  refine ⟨_, ?_, by rw [a1, a2, a3] at n7; exact n7⟩
  unfold f_X3_copy f_X3_init_
  rw [z_lt_e, show g_nw S (.inr (.inr (.inr (3, [.null, .null, .null, .int 0])))) = S1 from hS1, p1.r0, z_bd_s, cl p1.2.1 (by omega), z_bd_s, z_chk_t isI]
  rw [show g_put (g_nw S1 (e_i 12 P)) 3 0 S.2 (.ref S1.2) = some S2 from (by rw [← hS2]; exact u1), z_bd_s, p2.r1, z_bd_s, cl p2.2.2.1 (by omega), z_bd_s, z_chk_t isI]
  rw [show g_put (g_nw S2 (e_i 12 V)) 3 1 S.2 (.ref S2.2) = some S3 from (by rw [← hS3]; exact u2), z_bd_s, p3.r2, z_bd_s, cl p3.2.2.2 (by omega), z_bd_s, z_chk_t isI]
  rw [show g_put (g_nw S3 (e_i 12 Z)) 3 2 S.2 (.ref S3.2) = some S4 from (by rw [← hS4]; exact u3), z_bd_s, p4.sz, z_bd_s]
  rw [show g_put S4 3 3 S.2 (.int (nI n)) = _ from u4, z_bd_s, z_bd_s, a1, a2, a3]
  rfl
def fo (a : Nat) (num kd dg pc : Int32) : PE := e_o 1 [.int num, .int kd, .int dg, .ref (a + 1), .ref (a + 5), .ref (a + 6), .int pc]
def po0 : PE := e_o 4 [.long 0, .long 0, .long 0, .long 1]
theorem p_max {n : Nat} (hn : n ≤ 12) : f_J9_max_7cf53 (nI n) 1 = some (nI (max n 1)) := by
  unfold f_J9_max_7cf53
  rw [show (1 : Int32) = nI 1 from rfl]
  by_cases z : n < 1
  · rw [if_pos (by rw [n_lt (by omega) (by omega)]; exact z)]
    congr 2
    omega
  · rw [if_neg (by rw [n_lt (by omega) (by omega)]; exact z)]
    congr 2
    omega
/-- a new fit's cells -/
def fitL (a : Nat) (num kd dg : Int32) (n : Nat) (P V Z : Nat → Int32) (rm : Nat) : List PE := [fo a num kd dg (if kd = 4 then 0 else 1), poL (a + 1) n, e_i 12 P, e_i 12 V, e_i 12 Z, e_q 3 rm (va_up (fun _ => none) 0 (some (a + 7))), e_i rm (fun _ => 0), po0]
def rmN (kd : Int32) (n : Nat) : Nat := if kd = 4 then max n 1 else 1
theorem p_init {S S1 : GS} {a n : Nat} {num kd dg : Int32} {P V Z : Nat → Int32} (hn : n ≤ 12) (h : New S a [fo0, poL (a + 1) n, e_i 12 P, e_i 12 V, e_i 12 Z] S1) : ∃ S', f_X1_init S1 a num kd dg (a + 1) = some S' ∧ New S a (fitL a num kd dg n P V Z (rmN kd n)) S' := by
  have hrm1 : 1 ≤ rmN kd n := by unfold rmN; by_cases z : kd = 4; rw [if_pos z]; omega; rw [if_neg z]; omega
  have hrm2 : rmN kd n ≤ 12 := by unfold rmN; by_cases z : kd = 4; rw [if_pos z]; omega; rw [if_neg z]; omega
  have u1 := g_put_e (k := 0) (.int num) (h.at 0 _ rfl) (Nat.le_of_ble_eq_true rfl)
  have n1 : New S a [e_o 1 [.int num, .int 0, .int 0, .null, .null, .null, .int 0], poL (a + 1) n, e_i 12 P, e_i 12 V, e_i 12 Z] (g_up S1 (a + 0) (e_o 1 [.int num, .int 0, .int 0, .null, .null, .null, .int 0])) := h.up 0 _
  generalize hS2 : g_up S1 (a + 0) (e_o 1 [.int num, .int 0, .int 0, .null, .null, .null, .int 0]) = S2 at n1
  have u2 := g_put_e (k := 1) (.int kd) (n1.at 0 _ rfl) (Nat.le_of_ble_eq_true rfl)
  have n2 : New S a [e_o 1 [.int num, .int kd, .int 0, .null, .null, .null, .int 0], poL (a + 1) n, e_i 12 P, e_i 12 V, e_i 12 Z] (g_up S2 (a + 0) (e_o 1 [.int num, .int kd, .int 0, .null, .null, .null, .int 0])) := n1.up 0 _
  generalize hS3 : g_up S2 (a + 0) (e_o 1 [.int num, .int kd, .int 0, .null, .null, .null, .int 0]) = S3 at n2
  have u3 := g_put_e (k := 2) (.int dg) (n2.at 0 _ rfl) (Nat.le_of_ble_eq_true rfl)
  have n3 : New S a [e_o 1 [.int num, .int kd, .int dg, .null, .null, .null, .int 0], poL (a + 1) n, e_i 12 P, e_i 12 V, e_i 12 Z] (g_up S3 (a + 0) (e_o 1 [.int num, .int kd, .int dg, .null, .null, .null, .int 0])) := n2.up 0 _
  generalize hS4 : g_up S3 (a + 0) (e_o 1 [.int num, .int kd, .int dg, .null, .null, .null, .int 0]) = S4 at n3
  have u4 := g_put_e (k := 3) (.ref (a + 1)) (n3.at 0 _ rfl) (Nat.le_of_ble_eq_true rfl)
  have n4 : New S a [e_o 1 [.int num, .int kd, .int dg, .ref (a + 1), .null, .null, .int 0], poL (a + 1) n, e_i 12 P, e_i 12 V, e_i 12 Z] (g_up S4 (a + 0) (e_o 1 [.int num, .int kd, .int dg, .ref (a + 1), .null, .null, .int 0])) := n3.up 0 _
  generalize hS5 : g_up S4 (a + 0) (e_o 1 [.int num, .int kd, .int dg, .ref (a + 1), .null, .null, .int 0]) = S5 at n4
  have a5 : S5.2 = a + 5 := n4.1
  have n5 : New S a [e_o 1 [.int num, .int kd, .int dg, .ref (a + 1), .null, .null, .int 0], poL (a + 1) n, e_i 12 P, e_i 12 V, e_i 12 Z, e_q 3 (rmN kd n) (fun _ => none)] (g_nw S5 (e_q 3 (rmN kd n) (fun _ => none))) := n4.nw _
  have u5 := g_put_e (k := 4) (.ref S5.2) (n5.at 0 _ rfl) (Nat.le_of_ble_eq_true rfl)
  have n6 : New S a [e_o 1 [.int num, .int kd, .int dg, .ref (a + 1), .ref S5.2, .null, .int 0], poL (a + 1) n, e_i 12 P, e_i 12 V, e_i 12 Z, e_q 3 (rmN kd n) (fun _ => none)] (g_up (g_nw S5 (e_q 3 (rmN kd n) (fun _ => none))) (a + 0) (e_o 1 [.int num, .int kd, .int dg, .ref (a + 1), .ref S5.2, .null, .int 0])) := n5.up 0 _
  generalize hS6 : g_up (g_nw S5 (e_q 3 (rmN kd n) (fun _ => none))) (a + 0) (e_o 1 [.int num, .int kd, .int dg, .ref (a + 1), .ref S5.2, .null, .int 0]) = S6 at n6
  have a6 : S6.2 = a + 6 := n6.1
  have n7 : New S a [e_o 1 [.int num, .int kd, .int dg, .ref (a + 1), .ref S5.2, .null, .int 0], poL (a + 1) n, e_i 12 P, e_i 12 V, e_i 12 Z, e_q 3 (rmN kd n) (fun _ => none), e_i (rmN kd n) (fun _ => 0)] (g_nw S6 (e_i (rmN kd n) (fun _ => 0))) := n6.nw _
  have u6 := g_put_e (k := 5) (.ref S6.2) (n7.at 0 _ rfl) (Nat.le_of_ble_eq_true rfl)
  have n8 : New S a [e_o 1 [.int num, .int kd, .int dg, .ref (a + 1), .ref S5.2, .ref S6.2, .int 0], poL (a + 1) n, e_i 12 P, e_i 12 V, e_i 12 Z, e_q 3 (rmN kd n) (fun _ => none), e_i (rmN kd n) (fun _ => 0)] (g_up (g_nw S6 (e_i (rmN kd n) (fun _ => 0))) (a + 0) (e_o 1 [.int num, .int kd, .int dg, .ref (a + 1), .ref S5.2, .ref S6.2, .int 0])) := n7.up 0 _
  generalize hS7 : g_up (g_nw S6 (e_i (rmN kd n) (fun _ => 0))) (a + 0) (e_o 1 [.int num, .int kd, .int dg, .ref (a + 1), .ref S5.2, .ref S6.2, .int 0]) = S7 at n8
  have a7 : S7.2 = a + 7 := n8.1
  have n9 : New S a [e_o 1 [.int num, .int kd, .int dg, .ref (a + 1), .ref S5.2, .ref S6.2, .int 0], poL (a + 1) n, e_i 12 P, e_i 12 V, e_i 12 Z, e_q 3 (rmN kd n) (fun _ => none), e_i (rmN kd n) (fun _ => 0), e_o 4 [.long 0, .long 0, .long 0, .long 0]] (g_nw S7 (e_o 4 [.long 0, .long 0, .long 0, .long 0])) := n8.nw _
  generalize hS8 : g_nw S7 (e_o 4 [.long 0, .long 0, .long 0, .long 0]) = S8 at n9
  have pol8 : PolAt S8 (a + 7) 0 0 0 0 := n9.at 7 _ rfl
  have c0 := g_put_e (k := 0) (.long 0) (n9.at 7 _ rfl) (Nat.le_of_ble_eq_true rfl)
  have m0 : New S a _ (g_up S8 (a + 7) (e_o 4 [.long 0, .long 0, .long 0, .long 0])) := n9.up 7 _
  generalize hT1 : g_up S8 (a + 7) (e_o 4 [.long 0, .long 0, .long 0, .long 0]) = T1 at m0
  have c1 := g_put_e (k := 1) (.long 0) (m0.at 7 (e_o 4 [.long 0, .long 0, .long 0, .long 0]) rfl) (Nat.le_of_ble_eq_true rfl)
  have m1 : New S a _ (g_up T1 (a + 7) (e_o 4 [.long 0, .long 0, .long 0, .long 0])) := m0.up 7 _
  generalize hT2 : g_up T1 (a + 7) (e_o 4 [.long 0, .long 0, .long 0, .long 0]) = T2 at m1
  have c2 := g_put_e (k := 2) (.long 0) (m1.at 7 (e_o 4 [.long 0, .long 0, .long 0, .long 0]) rfl) (Nat.le_of_ble_eq_true rfl)
  have m2 : New S a _ (g_up T2 (a + 7) (e_o 4 [.long 0, .long 0, .long 0, .long 0])) := m1.up 7 _
  generalize hT3 : g_up T2 (a + 7) (e_o 4 [.long 0, .long 0, .long 0, .long 0]) = T3 at m2
  have c3 := g_put_e (k := 3) (.long 1) (m2.at 7 (e_o 4 [.long 0, .long 0, .long 0, .long 0]) rfl) (Nat.le_of_ble_eq_true rfl)
  have m3 : New S a [e_o 1 [.int num, .int kd, .int dg, .ref (a + 1), .ref S5.2, .ref S6.2, .int 0], poL (a + 1) n, e_i 12 P, e_i 12 V, e_i 12 Z, e_q 3 (rmN kd n) (fun _ => none), e_i (rmN kd n) (fun _ => 0), po0] (g_up T3 (a + 7) po0) := m2.up 7 po0
  generalize hT4 : g_up T3 (a + 7) po0 = T4 at m3
  have w1 : g_wQ T4 3 (a + 5) (0 : Int32) (some (a + 7)) = some (g_up T4 (a + 5) (e_q 3 (rmN kd n) (va_up (fun _ => none) 0 (some (a + 7))))) := by
    rw [show (0 : Int32) = nI 0 from rfl, g_wQ_e (some (a + 7)) (m3.at 5 _ rfl) (by rw [n_in (by omega)]; omega), n_cl (by omega)]
  have m4 : New S a [e_o 1 [.int num, .int kd, .int dg, .ref (a + 1), .ref S5.2, .ref S6.2, .int 0], poL (a + 1) n, e_i 12 P, e_i 12 V, e_i 12 Z, e_q 3 (rmN kd n) (va_up (fun _ => none) 0 (some (a + 7))), e_i (rmN kd n) (fun _ => 0), po0] (g_up T4 (a + 5) (e_q 3 (rmN kd n) (va_up (fun _ => none) 0 (some (a + 7))))) := m3.up 5 _
  generalize hT5 : g_up T4 (a + 5) (e_q 3 (rmN kd n) (va_up (fun _ => none) 0 (some (a + 7)))) = T5 at m4
  have v0 := g_put_e (k := 6) (.int 0) (m4.at 0 _ rfl) (Nat.le_of_ble_eq_true rfl)
  have v1 := g_put_e (k := 6) (.int 1) (m4.at 0 _ rfl) (Nat.le_of_ble_eq_true rfl)
  have hv : (if kd = (4 : Int32) then z_bd (g_i S5 3 3 (a + 1)) fun f_6 => z_bd (f_J9_max_7cf53 f_6 (1 : Int32)) fun r_7 => some (r_7) else some ((1 : Int32))) = some (nI (rmN kd n)) := by
    unfold rmN
    by_cases z : kd = 4
    · rw [if_pos z, if_pos z, g_i_e (k := 3) (n4.at 1 (poL (a + 1) n) rfl) rfl, z_bd_s, p_max hn, z_bd_s]
    · rw [if_neg z, if_neg z]; rfl
  have hsz : z_sz (nI (rmN kd n)) 12 := ⟨by rw [show (0 : Int32) = nI 0 from rfl, n_lt (by omega) (by omega)]; omega, by rw [n_cl (by omega)]; exact hrm2⟩
  have hchain : f_X1_init S1 a num kd dg (a + 1) = (if kd = (4 : Int32) then z_bd (g_put T5 1 6 a (.int (0 : Int32))) fun S_17 => some S_17 else z_bd (g_put T5 1 6 a (.int (1 : Int32))) fun S_16 => some S_16) := by
    unfold f_X1_init f_X4_init
    rw [show g_put S1 1 0 a (.int num) = some S2 from (by rw [← hS2]; exact u1), z_bd_s, show g_put S2 1 1 a (.int kd) = some S3 from (by rw [← hS3]; exact u2), z_bd_s, show g_put S3 1 2 a (.int dg) = some S4 from (by rw [← hS4]; exact u3), z_bd_s, show g_put S4 1 3 a (.ref (a + 1)) = some S5 from (by rw [← hS5]; exact u4), z_bd_s, hv, z_bd_s]
    simp only [z_chk_t hsz]
    rw [z_lt_e, n_cl (by omega)]
    rw [show g_put (g_nw S5 (.inr (.inr (.inl (3, rmN kd n, fun _ => none))))) 1 4 a (.ref S5.2) = some S6 from (by rw [← hS6]; exact u5), z_bd_s, z_lt_e]
    rw [show g_put (g_nw S6 (.inl (rmN kd n, fun _ => 0))) 1 5 a (.ref S6.2) = some S7 from (by rw [← hS7]; exact u6), z_bd_s, show g_r S7 1 4 a = some S5.2 from g_r_e (k := 4) (n8.at 0 _ rfl) rfl, z_bd_s, z_lt_e]
    rw [show g_nw S7 (.inr (.inr (.inr (4, [.long 0, .long 0, .long 0, .long 0])))) = S8 from hS8, a7]
    rw [show g_put S8 4 0 (a + 7) (.long 0) = some T1 from (by rw [← hT1]; exact c0), z_bd_s, show g_put T1 4 1 (a + 7) (.long 0) = some T2 from (by rw [← hT2]; exact c1), z_bd_s, show g_put T2 4 2 (a + 7) (.long 0) = some T3 from (by rw [← hT3]; exact c2), z_bd_s, show g_put T3 4 3 (a + 7) (.long 1) = some T4 from (by rw [← hT4]; exact c3), z_bd_s, z_bd_s, z_chk_t (g_is_e (m3.at 7 po0 rfl)), a5, w1, z_bd_s]
    rw [hT5]
  by_cases z : kd = 4
  · refine ⟨g_up T5 (a + 0) (e_o 1 [.int num, .int kd, .int dg, .ref (a + 1), .ref S5.2, .ref S6.2, .int 0]), ?_, ?_⟩
    · rw [hchain, if_pos z, show g_put T5 1 6 a (.int 0) = _ from v0, z_bd_s]
      rfl
    · have := m4.up 0 (e_o 1 [.int num, .int kd, .int dg, .ref (a + 1), .ref S5.2, .ref S6.2, .int 0])
      rw [a5, a6] at this
      unfold fitL fo
      rw [if_pos z, a5, a6]
      exact this
  · refine ⟨g_up T5 (a + 0) (e_o 1 [.int num, .int kd, .int dg, .ref (a + 1), .ref S5.2, .ref S6.2, .int 1]), ?_, ?_⟩
    · rw [hchain, if_neg z, show g_put T5 1 6 a (.int 1) = _ from v1, z_bd_s]
      rfl
    · have := m4.up 0 (e_o 1 [.int num, .int kd, .int dg, .ref (a + 1), .ref S5.2, .ref S6.2, .int 1])
      rw [a5, a6] at this
      unfold fitL fo
      rw [if_neg z, a5, a6]
      exact this
