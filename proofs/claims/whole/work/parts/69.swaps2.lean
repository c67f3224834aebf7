/-! the reference's swap; low, swap, swaps side by side -/
section SW2
variable {M : MS} {fi n f : Nat} {kd dg : Int32} {P V Z : Nat → Int32} {K : Nat → Nat} {q0 q1 q2 : Rat}
theorem turnQ_cg {t v w : Nat → Int} {K K' : Nat → Nat} (hf : f = 1 ∨ f = 2 ∨ f = 3) (e : ∀ j, j ≤ f → K j = K' j) (h : TurnQ f t v w K q0 q1 q2) : TurnQ f t v w K' q0 q1 q2 := ⟨h.1, fun j hj => by rw [← e j hj, ← hK_cg hf e]; exact h.2 j hj⟩
theorem m_isUp {X : MS} {h m : Rat} {par : Nat} {up : Int32} (hX : X.2 26 0 = jI h.num) (hb : h.num.natAbs ≤ 67108864) (hup : (up = 1 ∧ 0 < m) ∨ (up = 0 ∧ m < 0)) (hpar : (par = 0 ∧ (0 ≤ h ∧ 0 < m ∨ h < 0 ∧ m < 0)) ∨ (par = 1 ∧ (0 ≤ h ∧ m < 0 ∨ h < 0 ∧ 0 < m))) {k : Nat} (hk : k < 13) : ∃ u, f_X8_isUp X (nI k) = some u ∧ (u = up) = (k % 2 = par) := by
  unfold f_X8_isUp
  rw [hX, n_m2 hk]
  simp only [show (lg_cmp (jI h.num) (0 : Int64) < 0) = (h.num < 0) by rw [show (0 : Int64) = jI 0 from rfl, j_cmplt (by omega) (by omega) (by omega) (by omega)]]
  have hz : (h.num < 0) = (h < 0) := by
    apply propext
    have := @Rat.num_nonneg h
    constructor
    · intro a
      rcases Classical.em (h < 0) with z | z
      · exact z
      · have := this.mpr (Rat.not_lt.mp z); omega
    · intro a
      rcases (show h.num < 0 ∨ 0 ≤ h.num by omega) with z | z
      · exact z
      · exact absurd a (Rat.not_lt.mpr (this.mp z))
  simp only [hz]
  have nlt : ∀ {x : Rat}, 0 ≤ x → ¬ x < 0 := fun a => Rat.not_lt.mpr a
  have nlt2 : ∀ {x : Rat}, x < 0 → ¬ 0 < x := fun {x} a c => by grind
  rcases (show k % 2 = 0 ∨ k % 2 = 1 by omega) with e | e
  · rw [e]
    rcases hpar with ⟨rfl, ⟨c1, c2⟩ | ⟨c1, c2⟩⟩ | ⟨rfl, ⟨c1, c2⟩ | ⟨c1, c2⟩⟩
    · rcases hup with ⟨rfl, -⟩ | ⟨-, u2⟩
      · exact ⟨1, by rw [if_neg (nlt c1), z_bd_s, if_pos (by decide), z_bd_s, if_pos rfl], by decide⟩
      · exact absurd c2 (nlt2 u2)
    · rcases hup with ⟨-, u2⟩ | ⟨rfl, -⟩
      · exact absurd u2 (nlt2 c2)
      · exact ⟨0, by rw [if_pos c1, z_bd_s, if_pos (by decide), z_bd_s, if_neg (by decide)], by decide⟩
    · rcases hup with ⟨-, u2⟩ | ⟨rfl, -⟩
      · exact absurd u2 (nlt2 c2)
      · exact ⟨1, by rw [if_neg (nlt c1), z_bd_s, if_pos (by decide), z_bd_s, if_pos rfl], by decide⟩
    · rcases hup with ⟨rfl, -⟩ | ⟨-, u2⟩
      · exact ⟨0, by rw [if_pos c1, z_bd_s, if_pos (by decide), z_bd_s, if_neg (by decide)], by decide⟩
      · exact absurd c2 (nlt2 u2)
  · rw [e]
    rcases hpar with ⟨rfl, ⟨c1, c2⟩ | ⟨c1, c2⟩⟩ | ⟨rfl, ⟨c1, c2⟩ | ⟨c1, c2⟩⟩
    · rcases hup with ⟨rfl, -⟩ | ⟨-, u2⟩
      · exact ⟨0, by rw [if_neg (nlt c1), z_bd_s, if_neg (by decide), z_bd_s, if_neg (by decide)], by decide⟩
      · exact absurd c2 (nlt2 u2)
    · rcases hup with ⟨-, u2⟩ | ⟨rfl, -⟩
      · exact absurd u2 (nlt2 c2)
      · exact ⟨1, by rw [if_pos c1, z_bd_s, if_neg (by decide), z_bd_s, if_pos rfl], by decide⟩
    · rcases hup with ⟨-, u2⟩ | ⟨rfl, -⟩
      · exact absurd u2 (nlt2 c2)
      · exact ⟨0, by rw [if_neg (nlt c1), z_bd_s, if_neg (by decide), z_bd_s, if_neg (by decide)], by decide⟩
    · rcases hup with ⟨rfl, -⟩ | ⟨-, u2⟩
      · exact ⟨1, by rw [if_pos c1, z_bd_s, if_neg (by decide), z_bd_s, if_pos rfl], by decide⟩
      · exact absurd c2 (nlt2 u2)
theorem m_swapped {bb : Nat} (h : MFit M fi n kd dg P V Z) (hO : PtsOk n P V Z) (hfi : fi < 10) (hR : Rw f n (tN kd P) (iN V) (iN Z)) (hk : kd = 2 → f = 2) (hT : IsT f n bb) (hE : Enum bb n (f + 1) K) (hQ : TurnQ f (tN kd P) (iN V) (iN Z) K q0 q1 q2) : (Stay f n (tN kd P) (iN V) (iN Z) K q0 q1 q2 → ∃ M', f_X8_swapped M (nI fi) (nI bb) = some (nI bb, M') ∧ Scr M M') ∧ ∀ r nx par, SwOk f n (tN kd P) (iN V) (iN Z) K q0 q1 q2 r nx par → ∃ b' M', f_X8_swapped M (nI fi) (nI bb) = some (nI b', M') ∧ Scr M M' ∧ BitsOf f b' (swK f K r nx par) := by
  have hn := hO.1
  have hf3 := hR.1
  have hb12 : bb < 4096 := Nat.lt_of_lt_of_le hT.1 (show 2 ^ _ ≤ 2 ^ 12 from Nat.pow_le_pow_right (by decide) hn)
  obtain ⟨M1, s1, s2, K0, N0, N1, N2, D, u1, u2, u3, u4, u5, u6, u7, u8, u9⟩ := m_study h hO hfi hR hT.1 hT.2
  have eK : ∀ j, j ≤ f → K0 j = K j := fun j hj => (u1.uq hE).2 j (by omega)
  have hI := hE.inc
  rw [hK_cg hf3 eK] at u3 u4 u8 u9
  have u6' := turnQ_cg hf3 eK u6
  obtain ⟨g0, g1, g2⟩ := turnQ_uq hR hI hQ u6'
  subst g0 g1 g2
  have u2' : ∀ j, j < f + 1 → M1.1 23 j = nI (K j) := fun j hj => by rw [u2 j hj, eK j (by omega)]
  obtain ⟨a1, a2⟩ := abs_nd (hK f (tN kd P) (iN V) (iN Z) K)
  have hv := m_absH (r := hK f (tN kd P) (iN V) (iN Z) K) (by omega)
  have hq2 : kd = 2 → Rat.divInt N2 D = 0 := fun z => hQ.1.1 (by have := hk z; omega)
  obtain ⟨cm, up, a', b', X, w1, w2, w3, L, l1, l2, l3, l4, l5, l6⟩ := m_search (h.scr s2) hO hfi u5 u7 hq2 (hK f (tN kd P) (iN V) (iN Z) K) n 0 (jI (hK f (tN kd P) (iN V) (iN Z) K).abs.num) (M1.2 27 0) (-1) 0 M1 (by omega) rfl (fun _ _ _ => rfl) ⟨_, rfl, by rw [u4, a2], by omega, by omega, a_nn _, Or.inl ⟨rfl, rfl, fun j hj => by omega⟩⟩
  have hX : Scr M X := s2.tr ⟨fun k _ => by rw [w2], w3 13 (by omega) (by omega), w3 14 (by omega) (by omega)⟩
  have head : ∀ R, (if cm = (-1 : Int32) then some (nI bb, X) else z_bd (z_lp (fun x => f_X8_swapped_L153 X (nI (f + 1)) cm x) ((0 : Int32))) fun y10_17 => z_bd (if y10_17 = 0 then z_bd (f_X8_isUp X (0 : Int32)) fun r_21 => if r_21 = up then some ((0 : Int32)) else some ((nI (f + 1) - (1 : Int32))) else if y10_17 = nI (f + 1) then z_bd (f_X8_isUp X (nI (f + 1) - (1 : Int32))) fun r_20 => if r_20 = up then some ((nI (f + 1) - (1 : Int32))) else some ((0 : Int32)) else z_bd (f_X8_isUp X y10_17) fun r_19 => if r_19 = up then some (y10_17) else some ((y10_17 - (1 : Int32)))) fun x11_18 => z_chk (z_in x11_18 12) (some (((nI bb &&& (((1 : Int32) <<< ((X.1 23 x11_18.toNatClampNeg) &&& 31)) ^^^ (-1 : Int32))) ||| ((1 : Int32) <<< (cm &&& 31))), X))) = R → f_X8_swapped M (nI fi) (nI bb) = R := by
    intro R hRR
    unfold f_X8_swapped
    rw [s1, z_bd_s, m_ones hb12, hT.2, z_bd_s, u3, hv, z_bd_s]
    rw [show (z_lp (fun x => f_X8_swapped_L49 (nI fi) x.1 x.2.1 x.2.2.1 x.2.2.2.1 x.2.2.2.2.1 x.2.2.2.2.2) (jI (hK f (tN kd P) (iN V) (iN Z) K).abs.num, M1.2 27 0, (-1 : Int32), (0 : Int32), (0 : Int32), M1)) = some (cm, up, X) from w1, z_bd3_s]
    exact hRR
  refine ⟨fun hS => ?_, fun r nx par hS => ?_⟩
  · refine ⟨X, head _ ?_, hX⟩
    rcases l6 with ⟨y1, -, -⟩ | ⟨c, -, y2, -, y4, -⟩
    · rw [if_pos y1]
    · exact absurd y4 (Rat.not_lt.mpr (hS c y2))
  · obtain ⟨h1, h2, h3, h4, h5, h6⟩ := id hS
    rcases l6 with ⟨-, -, y3⟩ | ⟨c, y1, y2, y3, y4, y5, y6, y7⟩
    · exact absurd h4 (Rat.not_lt.mpr (y3 r h1))
    · have hcr : c = r := by
        rcases Nat.lt_trichotomy c r with z | z | z
        · exact absurd (h3 c z) (Rat.not_lt.mpr (y5 r h1))
        · exact z
        · exact absurd (y6 r z) (Rat.not_lt.mpr (h2 c y2))
      subst hcr
      have X23 : ∀ j, j < f + 1 → X.1 23 j = nI (K j) := fun j hj => by rw [w2]; exact u2' j hj
      have X26 : X.2 26 0 = jI (hK f (tN kd P) (iN V) (iN Z) K).num := by rw [w3 26 (by omega) (by omega)]; exact u3
      obtain ⟨n1, n2, n3⟩ := h5
      have hKn := fun j (hj : j ≤ f) => hI.1 j hj
      have hlp : z_lp (fun x => f_X8_swapped_L153 X (nI (f + 1)) (nI c) x) ((0 : Int32)) = some (nI nx) := by
        have key : ∀ (k j : Nat), j + k = nx → z_lp (fun x => f_X8_swapped_L153 X (nI (f + 1)) (nI c) x) (nI j) = some (nI nx) := by
          intro k
          induction k with
          | zero =>
            intro j hj
            rw [show j = nx by omega]
            apply z_lp_x
            show f_X8_swapped_L153 X (nI (f + 1)) (nI c) (nI nx) = _
            unfold f_X8_swapped_L153
            by_cases z : nx = f + 1
            · rw [if_pos (by rw [n_le (by omega) (by omega)]; omega)]
            · have := n3 nx (Nat.le_refl _) (by omega)
              have := hKn nx (by omega)
              rw [if_neg (by rw [n_le (by omega) (by omega)]; omega), z_chk_t (by rw [n_in (by omega)]; omega), n_cl (by omega), X23 nx (by omega), if_pos (by rw [n_le (by omega) (by omega)]; omega)]
          | succ k ih =>
            intro j hj
            have := n2 j (by omega)
            rw [← ih (j + 1) (by omega)]
            apply z_lp_n
            show f_X8_swapped_L153 X (nI (f + 1)) (nI c) (nI j) = _
            unfold f_X8_swapped_L153
            rw [if_neg (by rw [n_le (by omega) (by omega)]; omega), z_chk_t (by rw [n_in (by omega)]; omega), n_cl (by omega), X23 j (by omega), if_neg (by rw [n_le (by omega) (by omega)]; omega), show nI j + 1 = nI (j + 1) from n_add j 1]
        exact key nx 0 (by omega)
      have hisUp := fun {k : Nat} (hk : k < 13) => m_isUp X26 u8 y7 h6 hk
      have hpp := hS.par
      have hg : (z_bd (if nI nx = 0 then z_bd (f_X8_isUp X (0 : Int32)) fun r_21 => if r_21 = up then some ((0 : Int32)) else some ((nI (f + 1) - (1 : Int32))) else if nI nx = nI (f + 1) then z_bd (f_X8_isUp X (nI (f + 1) - (1 : Int32))) fun r_20 => if r_20 = up then some ((nI (f + 1) - (1 : Int32))) else some ((0 : Int32)) else z_bd (f_X8_isUp X (nI nx)) fun r_19 => if r_19 = up then some (nI nx) else some ((nI nx - (1 : Int32)))) fun x => (some x : Option Int32)) = some (nI (swG f nx par)) := by
        have e1 : nI (f + 1) - (1 : Int32) = nI f := by rw [show (1 : Int32) = nI 1 from rfl, n_sub (by omega), show f + 1 - 1 = f by omega]
        rw [e1]
        unfold swG
        by_cases z0 : nx = 0
        · rw [if_pos (by rw [z0]; rfl)]
          obtain ⟨u, v1, v2⟩ := hisUp (k := 0) (by omega)
          rw [show f_X8_isUp X (0 : Int32) = some u from v1, z_bd_s]
          simp only [v2]
          by_cases w : 0 % 2 = par
          · rw [if_pos w, z_bd_s, if_pos ⟨by omega, by rw [z0]; exact w⟩, z0]; rfl
          · rw [if_neg w, z_bd_s, if_neg (fun y => w (by rw [z0] at y; exact y.2)), if_neg (by omega), if_pos z0]
        · rw [if_neg (by rw [show (0 : Int32) = nI 0 from rfl, n_eq (by omega) (by omega)]; exact z0)]
          by_cases z1 : nx = f + 1
          · rw [if_pos (by rw [z1])]
            obtain ⟨u, v1, v2⟩ := hisUp (k := f) (by omega)
            rw [v1, z_bd_s]
            simp only [v2]
            by_cases w : f % 2 = par
            · rw [if_pos w, z_bd_s, if_neg (by omega), if_pos ⟨by omega, by rw [z1]; exact w⟩, z1]; rfl
            · rw [if_neg w, z_bd_s, if_neg (by omega), if_neg (fun y => w (by rw [z1] at y; exact y.2)), if_neg z0]; rfl
          · rw [if_neg (by rw [n_eq (by omega) (by omega)]; exact z1)]
            obtain ⟨u, v1, v2⟩ := hisUp (k := nx) (by omega)
            rw [v1, z_bd_s]
            simp only [v2]
            by_cases w : nx % 2 = par
            · rw [if_pos w, z_bd_s, if_pos ⟨by omega, w⟩]
            · have w2 : (nx - 1) % 2 = par := by
                rcases Nat.decEq ((nx - 1) % 2) par with y | y
                · exact (sw_par hpp (by omega) w y).elim
                · exact y
              rw [if_neg w, z_bd_s, if_neg (fun y => w y.2), if_pos ⟨by omega, w2⟩, show (1 : Int32) = nI 1 from rfl, n_sub (by omega)]
      have hgf : swG f nx par ≤ f := by
        unfold swG
        by_cases z : nx ≤ f ∧ nx % 2 = par
        · rw [if_pos z]; exact z.1
        · rw [if_neg z]
          by_cases z2 : 0 < nx ∧ (nx - 1) % 2 = par
          · rw [if_pos z2]
            clear z z2
            omega
          · rw [if_neg z2]
            by_cases z3 : nx = 0
            · rw [if_pos z3]; exact Nat.le_refl _
            · rw [if_neg z3]; exact Nat.zero_le _
      have hKg := hKn _ hgf
      obtain ⟨c1, c2⟩ := bt_clr2 (b := bb) (i := K (swG f nx par)) hb12 (by omega)
      refine ⟨(bb &&& (4095 ^^^ 2 ^ K (swG f nx par))) ||| 2 ^ c, X, head _ ?_, hX, bt_lt c1 (bt_p (by omega)), fun x => ?_⟩
      · rw [y1, if_neg (by
          intro e
          have h3 := congrArg Int32.toInt e
          rw [n_toInt (by omega)] at h3
          have e2 : (-1 : Int32).toInt = -1 := by decide
          omega), hlp, z_bd_s]
        obtain ⟨g, g3, g4⟩ := z_bd_some hg
        cases g4
        rw [g3, z_bd_s, z_chk_t (by rw [n_in (by omega)]; omega), n_cl (by omega), X23 _ (by omega), bt_clr hb12 (by omega), bt_or c1 (by omega)]
      · rw [Nat.testBit_or, Bool.or_eq_true, c2, Nat.testBit_two_pow, decide_eq_true_eq, sw_mem hI ⟨n1, n2, n3⟩ hpp x, (hE.bits hT.1 hn).2 x]
        constructor
        · rintro (⟨e1, e2⟩ | e1)
          · exact Or.inr ⟨e1, e2⟩
          · exact Or.inl e1.symm
        · rintro (e1 | ⟨e1, e2⟩)
          · exact Or.inr e1.symm
          · exact Or.inl ⟨e1, e2⟩
theorem m_swapsL (hO : PtsOk n P V Z) (hfi : fi < 10) (hR : Rw f n (tN kd P) (iN V) (iN Z)) (hk : kd = 2 → f = 2) {K' : Nat → Nat} (hQ' : TurnQ f (tN kd P) (iN V) (iN Z) K' q0 q1 q2) (hS' : Stay f n (tN kd P) (iN V) (iN Z) K' q0 q1 q2) : ∀ (m c bb now : Nat) (K : Nat → Nat) (X : MS), c + m ≤ 1000 → MFit X fi n kd dg P V Z → IsT f n bb → Enum bb n (f + 1) K → SwN f n (tN kd P) (iN V) (iN Z) m K K' → now < 4096 → now ≠ bb → ∃ X', z_lp (fun x => f_X8_swaps_L25 (nI fi) x.1 x.2.1 x.2.2.1 x.2.2.2) (nI c, nI now, nI bb, X) = some (nI (c + 1 + m), X') ∧ Scr X X' := by
  have hn := hO.1
  intro m
  induction m with
  | zero =>
    intro c bb now K X hc hX hT hE hS hnow hne
    have hb12 : bb < 4096 := Nat.lt_of_lt_of_le hT.1 (show 2 ^ _ ≤ 2 ^ 12 from Nat.pow_le_pow_right (by decide) hn)
    have e : K' = K := hS
    rw [e] at hQ' hS'
    obtain ⟨X1, e1, s1⟩ := (m_swapped hX hO hfi hR hk hT hE hQ').1 hS'
    refine ⟨X1, ?_, s1⟩
    rw [z_lp_n (y := (nI (c + 1), nI bb, nI bb, X1))]
    · apply z_lp_x
      show f_X8_swaps_L25 (nI fi) (nI (c + 1)) (nI bb) (nI bb) X1 = _
      unfold f_X8_swaps_L25
      rw [if_pos rfl]
    · show f_X8_swaps_L25 (nI fi) (nI c) (nI now) (nI bb) X = _
      unfold f_X8_swaps_L25
      rw [if_neg (by rw [n_eq (by omega) (by omega)]; omega), e1, z_bd2_s, show nI c + 1 = nI (c + 1) from n_add c 1]
  | succ m ih =>
    intro c bb now K X hc hX hT hE ⟨p0, p1, p2, r, nx, par, t1, t2, t3⟩ hnow hne
    have hb12 : bb < 4096 := Nat.lt_of_lt_of_le hT.1 (show 2 ^ _ ≤ 2 ^ 12 from Nat.pow_le_pow_right (by decide) hn)
    obtain ⟨b1, X1, e1, s1, hB1⟩ := (m_swapped hX hO hfi hR hk hT hE t1).2 r nx par t2
    have hI1 := sw_inc hE.inc t2.1 t2.2.2.2.2.1 t2.par
    obtain ⟨hlt1, hE1⟩ := enum_of hI1 hB1
    have hT1 : IsT f n b1 := ⟨hlt1, by rw [pcn_top hlt1 12 hn]; exact hE1.2.2.2.symm⟩
    have hne1 : bb ≠ b1 := by
      intro e
      have h1 : b1.testBit r = true := (hB1.2 r).mpr ((sw_mem hE.inc t2.2.2.2.2.1 t2.par r).mpr (Or.inl rfl))
      rw [← e] at h1
      obtain ⟨j, j1, j2⟩ := ((hE.bits hT.1 hn).2 r).mp h1
      have h3 := t1.abs j j1
      rw [j2] at h3
      have h4 := t2.2.2.2.1
      rw [h3] at h4
      exact absurd h4 Rat.lt_irrefl
    obtain ⟨X2, e2, s2⟩ := ih (c + 1) b1 bb _ X1 (by omega) (hX.scr s1) hT1 hE1 t3 hb12 hne1
    refine ⟨X2, ?_, s1.tr s2⟩
    rw [show c + 1 + (m + 1) = c + 1 + 1 + m by omega, ← e2]
    apply z_lp_n
    show f_X8_swaps_L25 (nI fi) (nI c) (nI now) (nI bb) X = _
    unfold f_X8_swaps_L25
    rw [if_neg (by rw [n_eq (by omega) (by omega)]; omega), e1, z_bd2_s, show nI c + 1 = nI (c + 1) from n_add c 1]
end SW2
