/-! THE TURNS: taking each as early as it can be -/
section GR
variable {A : Nat → Int} {Lv : Nat}
/-- what has been taken of the first i points -/
def GI (A : Nat → Int) (Lv i k : Nat) (G : Nat → Nat) : Prop := (∀ j, j < k → G j < i ∧ (A (G j)).natAbs = Lv) ∧ (∀ j, j + 1 < k → G j < G (j + 1) ∧ A (G (j + 1)) = -A (G j)) ∧ (k = 0 → ∀ x, x < i → (A x).natAbs ≠ Lv) ∧ (0 < k → ∀ x, x < G 0 → (A x).natAbs ≠ Lv) ∧ (∀ j, j + 1 < k → ∀ x, G j < x → x < G (j + 1) → ¬ ((A x).natAbs = Lv ∧ A x = -A (G j))) ∧ (0 < k → ∀ x, G (k - 1) < x → x < i → ¬ ((A x).natAbs = Lv ∧ A x = -A (G (k - 1))))
theorem GI.z : GI A Lv 0 0 (fun _ => 0) := ⟨fun j hj => by omega, fun j hj => by omega, fun _ x hx => by omega, fun h => by omega, fun j hj => by omega, fun h => by omega⟩
theorem GI.skip {i k : Nat} {G : Nat → Nat} (h : GI A Lv i k G) (hn : ¬ ((A i).natAbs = Lv ∧ (k = 0 ∨ A i = -A (G (k - 1))))) : GI A Lv (i + 1) k G := by
  obtain ⟨h1, h2, h3, h4, h5, h6⟩ := h
  refine ⟨fun j hj => ⟨by have := (h1 j hj).1; omega, (h1 j hj).2⟩, h2, fun hk x hx => ?_, h4, h5, fun hk x hx1 hx2 => ?_⟩
  · by_cases z : x = i
    · rw [z]; exact fun e => hn ⟨e, Or.inl hk⟩
    · exact h3 hk x (by omega)
  · by_cases z : x = i
    · rw [z]; exact fun e => hn ⟨e.1, Or.inr e.2⟩
    · exact h6 hk x hx1 (by omega)
theorem GI.add {i k : Nat} {G : Nat → Nat} (h : GI A Lv i k G) (ha : (A i).natAbs = Lv) (hb : k = 0 ∨ A i = -A (G (k - 1))) : GI A Lv (i + 1) (k + 1) (updN G k i) := by
  obtain ⟨h1, h2, h3, h4, h5, h6⟩ := h
  refine ⟨fun j hj => ?_, fun j hj => ?_, fun hk => by omega, fun _ x hx => ?_, fun j hj x hx1 hx2 => ?_, fun _ x hx1 hx2 => ?_⟩
  · by_cases z : j = k
    · rw [z, updN_s]; exact ⟨by omega, ha⟩
    · rw [updN_n _ z]; exact ⟨by have := (h1 j (by omega)).1; omega, (h1 j (by omega)).2⟩
  · by_cases z : j + 1 = k
    · rw [z, updN_s, updN_n _ (by omega)]
      refine ⟨(h1 j (by omega)).1, ?_⟩
      rcases hb with y | y
      · omega
      · rw [y, show k - 1 = j by omega]
    · rw [updN_n _ (by omega), updN_n _ z]; exact h2 j (by omega)
  · by_cases z : k = 0
    · rw [z, updN_s] at hx
      exact h3 z x hx
    · rw [updN_n _ (by omega)] at hx
      exact h4 (by omega) x hx
  · by_cases z : j + 1 = k
    · rw [z, updN_s] at hx2
      rw [updN_n _ (by omega)] at hx1 ⊢
      have := h6 (by omega) x
      rw [show k - 1 = j by omega] at this
      exact this hx1 hx2
    · rw [updN_n _ z] at hx2
      rw [updN_n _ (by omega)] at hx1 ⊢
      exact h5 j (by omega) x hx1 hx2
  · rw [show k + 1 - 1 = k by omega, updN_s] at hx1
    omega
/-- no other turns are earlier -/
theorem GI.min {i k n f : Nat} {G K : Nat → Nat} (h : GI A Lv i k G) (hi : i = n ∨ k = f + 1) (hk : k ≤ f + 1) (hI : Inc f n K) (h1 : ∀ j, j ≤ f → (A (K j)).natAbs = Lv) (h2 : ∀ j, j < f → A (K (j + 1)) = -A (K j)) : k = f + 1 ∧ ∀ j, j ≤ f → G j ≤ K j := by
  obtain ⟨g1, g2, g3, g4, g5, g6⟩ := h
  have key : ∀ j, j ≤ f → j < k ∧ G j ≤ K j := by
    intro j
    induction j with
    | zero =>
      intro _
      have k0 : 0 < k := by
        rcases Nat.eq_zero_or_pos k with z | z
        · have hin : i = n := by omega
          exact absurd (h1 0 (by omega)) (g3 z (K 0) (by rw [hin]; exact hI.1 0 (by omega)))
        · exact z
      refine ⟨k0, ?_⟩
      rcases Nat.lt_or_ge (K 0) (G 0) with z | z
      · exact absurd (h1 0 (by omega)) (g4 k0 (K 0) z)
      · exact z
    | succ j ih =>
      intro hj
      obtain ⟨a1, a2⟩ := ih (by omega)
      have b1 := (g1 j a1).2
      have b2 := h1 j (by omega)
      obtain ⟨x, x1, x2, x3, x4⟩ : ∃ x, G j < x ∧ x ≤ K (j + 1) ∧ (A x).natAbs = Lv ∧ A x = -A (G j) := by
        have kk := hI.2 j (by omega)
        by_cases z : A (G j) = A (K j)
        · exact ⟨K (j + 1), by omega, Nat.le_refl _, h1 _ hj, by rw [h2 j (by omega), z]⟩
        · refine ⟨K j, ?_, by omega, b2, by omega⟩
          rcases Nat.lt_or_ge (G j) (K j) with y | y
          · exact y
          · rw [show G j = K j by omega] at z; exact absurd rfl z
      have hjk : j + 1 < k := by
        rcases Nat.lt_or_ge (j + 1) k with y | y
        · exact y
        · have hin : i = n := by omega
          have := g6 (by omega) x
          rw [show k - 1 = j by omega] at this
          have kn := hI.1 (j + 1) hj
          exact absurd ⟨x3, x4⟩ (this x1 (by omega))
      refine ⟨hjk, ?_⟩
      rcases Nat.lt_or_ge x (G (j + 1)) with y | y
      · exact absurd ⟨x3, x4⟩ (g5 j hjk x x1 y)
      · omega
  refine ⟨by have := (key f (Nat.le_refl _)).1; omega, fun j hj => (key j hj).2⟩
theorem bsum_cg {K K' : Nat → Nat} : ∀ k, (∀ j, j < k → K j = K' j) → bsum K k = bsum K' k := by
  intro k
  induction k with
  | zero => intro _; rfl
  | succ k ih => intro h; rw [bsum, bsum, ih (fun j hj => h j (by omega)), h k (by omega)]
theorem bsum_lt {K : Nat → Nat} : ∀ k, (∀ j, j < k → K j < 12) → bsum K k < 4096 := by
  intro k
  induction k with
  | zero => intro _; exact Nat.zero_lt_succ _
  | succ k ih => intro h; rw [bsum]; exact bt_lt (ih (fun j hj => h j (by omega))) (bt_p (h k (by omega)))
end GR
section TT
variable {S : GS} {a fi n pc len f : Nat} {kd dg : Int32} {P V Z : Nat → Int32} {bg : Nat → Nat} {C : Nat → Pol4}
theorem p_tt_lp (h : FitAt S a fi kd dg n P V Z pc bg C len) (hO : FitOk kd n P V Z pc bg C) (hf : frN kd dg f) (hf3 : f ≤ 3) {Lv : Nat} (hLv : Lv ≤ 4398046511103) : ∀ (d i k : Nat) (G : Nat → Nat) (lat : Int32), i + d = n → k ≤ f + 1 → k ≤ i → GI (mAF P V Z pc bg C) Lv i k G → (0 < k → lat = if 0 < mAF P V Z pc bg C (G (k - 1)) then 1 else 0) → ∃ (i' k' : Nat) (G' : Nat → Nat), z_lp (fun x => f_X1_theTurns_L20 S a (jI (Lv : Int)) x.1 x.2.1 x.2.2.1 x.2.2.2) (nI (bsum G k), nI k, lat, nI i) = some (nI (bsum G' k')) ∧ i' ≤ n ∧ (i' = n ∨ k' = f + 1) ∧ k' ≤ f + 1 ∧ GI (mAF P V Z pc bg C) Lv i' k' G' := by
  have hn := hO.1.1
  have hF := h.1
  have hp := h.2.1
  intro d
  induction d with
  | zero =>
    intro i k G lat hi hk hki hG hl
    rw [show i = n by omega] at hG ⊢
    refine ⟨n, k, G, z_lp_x ?_, Nat.le_refl _, Or.inl rfl, hk, hG⟩
    show f_X1_theTurns_L20 S a (jI (Lv : Int)) (nI (bsum G k)) (nI k) lat (nI n) = _
    unfold f_X1_theTurns_L20
    rw [hF.r3, z_bd_s, hp.sz, z_bd_s, if_pos (by rw [n_le (by omega) (by omega)]; omega)]
  | succ d ih =>
    intro i k G lat hi hk hki hG hl
    have hin : i < n := by omega
    by_cases z : k = f + 1
    · refine ⟨i, k, G, z_lp_x ?_, by omega, Or.inr z, hk, hG⟩
      show f_X1_theTurns_L20 S a (jI (Lv : Int)) (nI (bsum G k)) (nI k) lat (nI i) = _
      unfold f_X1_theTurns_L20
      rw [hF.r3, z_bd_s, hp.sz, z_bd_s, if_neg (by rw [n_le (by omega) (by omega)]; omega), z_chk_t hF.is, hF.free, show (if kd = 2 then (2 : Int32) else dg + 1) = nI f from hf, z_bd_s, if_pos (by rw [n_lt (by omega) (by omega)]; omega)]
    · have hb := (mF_bd hO hin).1
      have hG12 : ∀ j, j < k → G j < 12 := fun j hj => by have := (hG.1 j hj).1; omega
      have hbs := bsum_lt k hG12
      have hflag : (z_bd (if nI k = 0 then some ((1 : Int32)) else if (lg_cmp (jI (mAF P V Z pc bg C i)) (0 : Int64)) = 0 then some ((1 : Int32)) else z_bd (if (lg_cmp (jI (mAF P V Z pc bg C i)) (0 : Int64)) ≤ 0 then some ((0 : Int32)) else some ((1 : Int32))) fun v_13 => if v_13 = lat then some ((0 : Int32)) else some ((1 : Int32))) fun x => (some x : Option Int32)) = some (if k = 0 ∨ mAF P V Z pc bg C i = 0 ∨ ((0 < mAF P V Z pc bg C i) ↔ ¬ (0 < mAF P V Z pc bg C (G (k - 1)))) then 1 else 0) := by
        simp only [show (nI k = (0 : Int32)) = (k = 0) from n_eq (b := 0) (by omega) (by omega), show (lg_cmp (jI (mAF P V Z pc bg C i)) (0 : Int64) = 0) = (mAF P V Z pc bg C i = 0) by rw [show (0 : Int64) = jI 0 from rfl, j_cmp0 (by omega) (by omega) (by omega) (by omega)], show (lg_cmp (jI (mAF P V Z pc bg C i)) (0 : Int64) ≤ 0) = (mAF P V Z pc bg C i ≤ 0) by rw [show (0 : Int64) = jI 0 from rfl, j_cmple (by omega) (by omega) (by omega) (by omega)]]
        by_cases y0 : k = 0
        · rw [if_pos y0, z_bd_s, if_pos (Or.inl y0)]
        · rw [if_neg y0]
          by_cases y1 : mAF P V Z pc bg C i = 0
          · rw [if_pos y1, z_bd_s, if_pos (Or.inr (Or.inl y1))]
          · rw [if_neg y1, hl (by omega)]
            by_cases y2 : mAF P V Z pc bg C i ≤ 0
            · rw [if_pos y2, z_bd_s]
              by_cases y3 : 0 < mAF P V Z pc bg C (G (k - 1))
              · rw [if_pos y3, if_neg (by decide), z_bd_s, if_pos (Or.inr (Or.inr ⟨fun e => by omega, fun e => absurd y3 e⟩))]
              · rw [if_neg y3, if_pos rfl, z_bd_s, if_neg]
                rintro (e | e | e)
                · exact y0 e
                · exact y1 e
                · have := e.mpr y3; omega
            · rw [if_neg y2, z_bd_s]
              by_cases y3 : 0 < mAF P V Z pc bg C (G (k - 1))
              · rw [if_pos y3, if_pos rfl, z_bd_s, if_neg]
                rintro (e | e | e)
                · exact y0 e
                · exact y1 e
                · exact e.mp (by omega) y3
              · rw [if_neg y3, if_neg (by decide), z_bd_s, if_pos (Or.inr (Or.inr ⟨fun _ => y3, fun _ => by omega⟩))]
      obtain ⟨fl, hfl1, hfl2⟩ := z_bd_some hflag
      have hfl2' := Option.some.inj hfl2
      have hstep : f_X1_theTurns_L20 S a (jI (Lv : Int)) (nI (bsum G k)) (nI k) lat (nI i) = (if (mAF P V Z pc bg C i).natAbs = Lv then (if fl = 0 then some (.inr (nI (bsum G k), nI k, lat, nI (i + 1))) else some (.inr (nI (bsum G k ||| 2 ^ i), nI (k + 1), if 0 < mAF P V Z pc bg C i then 1 else 0, nI (i + 1)))) else some (.inr (nI (bsum G k), nI k, lat, nI (i + 1)))) := by
        unfold f_X1_theTurns_L20
        rw [hF.r3, z_bd_s, hp.sz, z_bd_s, if_neg (by rw [n_le (by omega) (by omega)]; omega), z_chk_t hF.is, hF.free, show (if kd = 2 then (2 : Int32) else dg + 1) = nI f from hf, z_bd_s, if_neg (by rw [n_lt (by omega) (by omega)]; omega), z_chk_t hF.is, p_missAboveF h hO hin, z_bd_s, hfl1, z_bd_s, p_absL (by omega), z_bd_s, bt_or hbs (by omega), show nI i + 1 = nI (i + 1) from n_add i 1, show nI k + 1 = nI (k + 1) from n_add k 1]
        simp only [show (lg_cmp (jI ((mAF P V Z pc bg C i).natAbs : Int)) (jI (Lv : Int)) = 0) = ((mAF P V Z pc bg C i).natAbs = Lv) by rw [j_cmp0 (by omega) (by omega) (by omega) (by omega)]; apply propext; omega, show (lg_cmp (jI (mAF P V Z pc bg C i)) (0 : Int64) ≤ 0) = (mAF P V Z pc bg C i ≤ 0) by rw [show (0 : Int64) = jI 0 from rfl, j_cmple (by omega) (by omega) (by omega) (by omega)]]
        by_cases y : (mAF P V Z pc bg C i).natAbs = Lv
        · rw [if_pos y, if_pos y]
          by_cases y2 : fl = 0
          · rw [if_pos y2, if_pos y2]
          · rw [if_neg y2, if_neg y2]
            by_cases y3 : mAF P V Z pc bg C i ≤ 0
            · rw [if_pos y3, if_neg (by omega)]
            · rw [if_neg y3, if_pos (by omega)]
        · rw [if_neg y, if_neg y]
      -- the flag says: it takes turns with the latest
      have hflE : (mAF P V Z pc bg C i).natAbs = Lv → (fl = 0 ↔ ¬ (k = 0 ∨ mAF P V Z pc bg C i = -mAF P V Z pc bg C (G (k - 1)))) := by
        intro y
        rw [hfl2']
        by_cases c : k = 0 ∨ mAF P V Z pc bg C i = 0 ∨ ((0 < mAF P V Z pc bg C i) ↔ ¬ (0 < mAF P V Z pc bg C (G (k - 1))))
        · rw [if_pos c]
          refine ⟨fun e => absurd e z_10, fun e => absurd ?_ e⟩
          by_cases k0 : k = 0
          · exact Or.inl k0
          · right
            have hg := (hG.1 (k - 1) (by omega)).2
            rcases c with c | c | c
            · exact absurd c k0
            · omega
            · by_cases w : 0 < mAF P V Z pc bg C i
              · have := c.mp w; omega
              · have : 0 < mAF P V Z pc bg C (G (k - 1)) := by
                  rcases Classical.em (0 < mAF P V Z pc bg C (G (k - 1))) with q | q
                  · exact q
                  · exact absurd (c.mpr q) w
                omega
        · rw [if_neg c]
          refine ⟨fun _ e => c ?_, fun _ => rfl⟩
          rcases e with e | e
          · exact Or.inl e
          · by_cases w : mAF P V Z pc bg C i = 0
            · exact Or.inr (Or.inl w)
            · exact Or.inr (Or.inr ⟨fun q => by omega, fun q => by omega⟩)
      by_cases y : (mAF P V Z pc bg C i).natAbs = Lv ∧ (k = 0 ∨ mAF P V Z pc bg C i = -mAF P V Z pc bg C (G (k - 1)))
      · rw [if_pos y.1, if_neg (fun e => (hflE y.1).mp e y.2)] at hstep
        have hnew := hG.add y.1 y.2
        obtain ⟨i', k', G', r1, r2⟩ := ih (i + 1) (k + 1) (updN G k i) (if 0 < mAF P V Z pc bg C i then 1 else 0) (by omega) (by omega) (by omega) hnew (fun _ => by rw [show k + 1 - 1 = k by omega, updN_s])
        refine ⟨i', k', G', ?_, r2⟩
        rw [← r1]
        apply z_lp_n
        show f_X1_theTurns_L20 S a (jI (Lv : Int)) (nI (bsum G k)) (nI k) lat (nI i) = _
        rw [hstep, bsum, updN_s, bsum_cg k (K := updN G k i) (K' := G) (fun j hj => updN_n _ (by omega))]
      · have hstep2 : f_X1_theTurns_L20 S a (jI (Lv : Int)) (nI (bsum G k)) (nI k) lat (nI i) = some (.inr (nI (bsum G k), nI k, lat, nI (i + 1))) := by
          rw [hstep]
          by_cases y1 : (mAF P V Z pc bg C i).natAbs = Lv
          · rw [if_pos y1, if_pos ((hflE y1).mpr (fun e => y ⟨y1, e⟩))]
          · rw [if_neg y1]
        obtain ⟨i', k', G', r1, r2⟩ := ih (i + 1) k G lat (by omega) hk (by omega) (hG.skip y) hl
        exact ⟨i', k', G', (z_lp_n hstep2).trans r1, r2⟩
end TT
section TU
variable {f n : Nat} {t v w : Nat → Int} {K : Nat → Nat} {q0 q1 q2 : Rat}
/-- misses that take turns: their number -/
theorem alt_hK (hR : Rw f n t v w) (hI : Inc f n K) (hd : Dg f q1 q2) {c : Rat} (h : ∀ j, j ≤ f → ((sg1 j : Int) : Rat) * mr t v w q0 q1 q2 (K j) = c) : hK f t v w K = c := by
  have hr := hI.row hR
  have k := r_K (v := fun j => v (K j)) (q0 := q0) hr hd
  have p := (smR_pos _ (r_A hr)).2 (by omega)
  have e : ∀ m, m ≤ f + 1 → smR (fun i => ((spr (fun j => t (K j)) i (f + 1) * sW (fun j => w (K j)) i : Int) : Rat) * er (fun j => t (K j)) (fun j => v (K j)) (fun j => w (K j)) q0 q1 q2 i) m = c * smR (fun i => ((spr (fun j => t (K j)) i (f + 1) * sW (fun j => w (K j)) i : Int) : Rat)) m := by
    intro m
    induction m with
    | zero => intro _; simp only [smR]; grind
    | succ m ih =>
      intro hm
      simp only [smR]
      rw [ih (by omega), show er (fun j => t (K j)) (fun j => v (K j)) (fun j => w (K j)) q0 q1 q2 m = c from h m (by omega)]
      grind
  rw [e (f + 1) (Nat.le_refl _)] at k
  show hh f (fun j => t (K j)) (fun j => v (K j)) (sW (fun j => w (K j))) = c
  generalize smR (fun i => ((spr (fun j => t (K j)) i (f + 1) * sW (fun j => w (K j)) i : Int) : Rat)) (f + 1) = Y at *
  generalize hh f (fun j => t (K j)) (fun j => v (K j)) (sW (fun j => w (K j))) = H at *
  have : (H - c) * Y = 0 := by grind
  rcases Rat.mul_eq_zero.mp this with z | z
  · grind
  · grind
theorem sg_alt {g : Nat → Rat} (h : ∀ j, j < f → g (j + 1) = -g j) : ∀ j, j ≤ f → ((sg1 j : Int) : Rat) * g j = g 0 := by
  intro j
  induction j with
  | zero => intro _; rw [show ((sg1 0 : Int) : Rat) = 1 from rfl, Rat.one_mul]
  | succ j ih =>
    intro hj
    rw [← ih (by omega), h j (by omega)]
    rcases sgR j with ⟨a, q⟩ | ⟨a, q⟩
    · rcases sgR (j + 1) with ⟨c, z⟩ | ⟨c, z⟩
      · omega
      · rw [q, z]; grind
    · rcases sgR (j + 1) with ⟨c, z⟩ | ⟨c, z⟩
      · rw [q, z]; grind
      · omega
/-- turns that are nowhere later have the best bits -/
theorem best_bits {bb b' : Nat} {G : Nat → Nat} (hE : Enum bb n (f + 1) K) (hG : Enum b' n (f + 1) G) (hle : ∀ j, j ≤ f → G j ≤ K j) (hna : ¬ Ahead b' bb) (hlt : bb < 2 ^ n) (hlt' : b' < 2 ^ n) (hn : n ≤ 12) : b' = bb := by
  rcases Nat.decEq b' bb with z | z
  · exfalso
    rcases ah_tot z with y | y
    · exact hna y
    · obtain ⟨i, i1, i2, i3⟩ := y
      obtain ⟨j, j1, j2⟩ := ((hE.bits hlt hn).2 i).mp i1
      have hGj : G j < i := by
        have := hle j j1
        rcases Nat.lt_or_ge (G j) i with w | w
        · exact w
        · have e : G j = i := by omega
          have := ((hG.bits hlt' hn).2 i).mpr ⟨j, j1, e⟩
          rw [i2] at this; cases this
      have key : ∀ x, x ≤ j → K x ≤ G x := by
        intro x
        induction x with
        | zero =>
          intro _
          have hg : G 0 < i := by
            rcases Nat.eq_zero_or_pos j with e | e
            · rw [e] at hGj; exact hGj
            · have := hG.lt j 0 e (by omega); omega
          have h1 : b'.testBit (G 0) = true := ((hG.bits hlt' hn).2 _).mpr ⟨0, by omega, rfl⟩
          rw [← i3 (G 0) hg] at h1
          obtain ⟨y, y1, y2⟩ := ((hE.bits hlt hn).2 _).mp h1
          rcases Nat.eq_zero_or_pos y with e | e
          · rw [e] at y2; omega
          · have := hE.lt y 0 e (by omega); omega
        | succ x ih =>
          intro hx
          have a1 := ih (by omega)
          have a2 := hG.lt (x + 1) x (by omega) (by omega)
          have hg : G (x + 1) < i := by
            rcases Nat.lt_or_ge (x + 1) j with e | e
            · have := hG.lt j (x + 1) e (by omega); omega
            · rw [show x + 1 = j by omega]; exact hGj
          have h1 : b'.testBit (G (x + 1)) = true := ((hG.bits hlt' hn).2 _).mpr ⟨x + 1, by omega, rfl⟩
          rw [← i3 (G (x + 1)) hg] at h1
          obtain ⟨y, y1, y2⟩ := ((hE.bits hlt hn).2 _).mp h1
          rcases Nat.lt_or_ge x y with e | e
          · rcases Nat.lt_or_ge (x + 1) y with e2 | e2
            · have := hE.lt y (x + 1) e2 (by omega); omega
            · rw [show y = x + 1 by omega] at y2; omega
          · rcases Nat.lt_or_ge y x with e2 | e2
            · have := hE.lt x y e2 (by omega); omega
            · rw [show y = x by omega] at y2; omega
      have := key j (Nat.le_refl _)
      omega
  · exact z
end TU
