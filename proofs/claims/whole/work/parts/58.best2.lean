/-! the reference: the best TURNS -/
theorem enum_ex (b : Nat) : ∀ n, ∃ K, Enum b n (pcn b n) K := by
  intro n
  induction n with
  | zero => exact ⟨fun _ => 0, Enum.z b _⟩
  | succ n ih =>
    obtain ⟨K, h⟩ := ih
    by_cases q : b.testBit n = true
    · have := h.s1 q
      rw [this.2.2.2] at this
      exact ⟨_, this⟩
    · have := h.s0 q
      rw [this.2.2.2] at this
      exact ⟨_, this⟩
noncomputable def kB (n b : Nat) : Nat → Nat := Classical.choose (enum_ex b n)
theorem kB_e (n b : Nat) : Enum b n (pcn b n) (kB n b) := Classical.choose_spec (enum_ex b n)
/-- the low of TURNS told as bits -/
noncomputable def lB (f n : Nat) (t v w : Nat → Int) (b : Nat) : Rat := (hK f t v w (kB n b)).abs
theorem IsT.en {f n b : Nat} (h : IsT f n b) (hn : n ≤ 12) : Enum b n (f + 1) (kB n b) := by
  have := kB_e n b
  rw [← pcn_top h.1 12 hn, h.2] at this
  exact this
theorem lB_e {f n b : Nat} {t v w : Nat → Int} {K : Nat → Nat} (hf : f = 1 ∨ f = 2 ∨ f = 3) (h : IsT f n b) (hn : n ≤ 12) (hE : Enum b n (f + 1) K) : (hK f t v w K).abs = lB f n t v w b := by
  unfold lB
  rw [hK_cg hf (fun j hj => ((h.en hn).uq hE).2 j (by omega))]
theorem abs_nd (r : Rat) : r.abs.num = (r.num.natAbs : Int) ∧ r.abs.den = r.den := by
  rcases a_cases r with ⟨h1, h2⟩ | ⟨h1, h2⟩
  · rw [h2]
    have := Rat.num_nonneg.mpr h1
    exact ⟨by omega, rfl⟩
  · rw [h2, Rat.neg_num, Rat.neg_den]
    have : ¬ 0 ≤ r.num := fun z => absurd h1 (Rat.not_lt.mpr (Rat.num_nonneg.mp z))
    exact ⟨by omega, rfl⟩
theorem m_absH {r : Rat} (hb : r.num.natAbs < 9223372036854775808) : (if 0 ≤ (lg_cmp (jI r.num) (0 : Int64)) then some (jI r.num) else some (-jI r.num)) = some (jI r.abs.num) := by
  rw [j_abs (by omega) (by omega), (abs_nd r).1]
theorem sh_1 {n : Nat} (hn : n ≤ 12) : ((1 : Int32) <<< (nI n &&& 31)) = nI (2 ^ n) := by
  have : ∀ j : Fin 13, ((1 : Int32) <<< (nI j.val &&& 31)) = nI (2 ^ j.val) := by decide
  exact this ⟨n, by omega⟩
def Best (f n : Nat) (L : Nat → Rat) (c bb : Nat) : Prop := IsT f n bb ∧ ∀ b', b' < c → IsT f n b' → L b' < L bb ∨ (L b' = L bb ∧ ¬ Ahead b' bb)
section BT
variable {M : MS} {fi n f cnt : Nat} {kd dg : Int32} {P V Z : Nat → Int32}
/-- the state of the search -/
def BI (f n : Nat) (L : Nat → Rat) (c : Nat) (best : Int32) (a b : Int64) : Prop := (best = -1 ∧ ∀ b', b' < c → ¬ IsT f n b') ∨ ∃ bb, best = nI bb ∧ Best f n L c bb ∧ a = jI (L bb).num ∧ b = jI ((L bb).den : Int) ∧ (L bb).num.natAbs ≤ 67108864 ∧ (L bb).den ≤ 1048576
theorem BI.s0 {L : Nat → Rat} {c : Nat} {best : Int32} {a b : Int64} (h : BI f n L c best a b) (hc : ¬ IsT f n c) : BI f n L (c + 1) best a b := by
  rcases h with ⟨h1, h2⟩ | ⟨bb, h1, h2, h3⟩
  · refine Or.inl ⟨h1, fun b' hb => ?_⟩
    by_cases q : b' = c
    · rw [q]; exact hc
    · exact h2 b' (by omega)
  · refine Or.inr ⟨bb, h1, ⟨h2.1, fun b' hb ht => ?_⟩, h3⟩
    by_cases q : b' = c
    · rw [q] at ht; exact absurd ht hc
    · exact h2.2 b' (by omega) ht
theorem m_best (h : MFit M fi n kd dg P V Z) (hO : PtsOk n P V Z) (h4 : M.1 4 0 = nI cnt) (hfi : fi < cnt) (hc10 : cnt ≤ 10) (hk : kd = 1 ∨ kd = 2) (hf : frN kd dg f) (hR : Rw f n (tN kd P) (iN V) (iN Z)) : ∃ (best : Int32) (a b : Int64) (M' : MS), f_X8_bestTurns M (nI fi) = some (best, M') ∧ Scr M M' ∧ BI f n (lB f n (tN kd P) (iN V) (iN Z)) (2 ^ n) best a b := by
  have hn := hO.1
  have hf3 := hR.1
  have hp12 : 2 ^ n ≤ 4096 := show 2 ^ _ ≤ 2 ^ 12 from Nat.pow_le_pow_right (by decide) hn
  have q10 : z_in (nI fi) 10 := by rw [n_in (by omega)]; omega
  have key : ∀ (k c : Nat) (best : Int32) (a b : Int64) (X : MS), c + k = 2 ^ n → Scr M X → BI f n (lB f n (tN kd P) (iN V) (iN Z)) c best a b → ∃ (best' : Int32) (a' b' : Int64) (M' : MS), z_lp (fun x => f_X8_bestTurns_L10 (nI fi) x.1 x.2.1 x.2.2.1 x.2.2.2.1 x.2.2.2.2) (best, a, b, nI c, X) = some (best', M') ∧ Scr M M' ∧ BI f n (lB f n (tN kd P) (iN V) (iN Z)) (2 ^ n) best' a' b' := by
    intro k
    induction k with
    | zero =>
      intro c best a b X hc hX hB
      rw [show c = 2 ^ n by omega] at hB ⊢
      refine ⟨best, a, b, X, z_lp_x ?_, hX, hB⟩
      show f_X8_bestTurns_L10 (nI fi) best a b (nI (2 ^ n)) X = _
      unfold f_X8_bestTurns_L10
      rw [z_chk_t q10, n_cl (by omega), (h.scr hX).2.2.1, sh_1 hn, if_pos (by rw [n_le (by omega) (by omega)]; omega)]
    | succ k ih =>
      intro c best a b X hc hX hB
      have hXF := h.scr hX
      have hX4 : X.1 4 0 = nI cnt := by rw [hX.1 4 (by omega)]; exact h4
      have e1 : nI c + 1 = nI (c + 1) := n_add c 1
      have go : ∀ (best' : Int32) (a' b' : Int64) (X' : MS), f_X8_bestTurns_L10 (nI fi) best a b (nI c) X = some (.inr (best', a', b', nI (c + 1), X')) → Scr M X' → BI f n (lB f n (tN kd P) (iN V) (iN Z)) (c + 1) best' a' b' → ∃ (best' : Int32) (a' b' : Int64) (M' : MS), z_lp (fun x => f_X8_bestTurns_L10 (nI fi) x.1 x.2.1 x.2.2.1 x.2.2.2.1 x.2.2.2.2) (best, a, b, nI c, X) = some (best', M') ∧ Scr M M' ∧ BI f n (lB f n (tN kd P) (iN V) (iN Z)) (2 ^ n) best' a' b' := by
        intro best' a' b' X' g1 g2 g3
        obtain ⟨r1, r2, r3, r4, r5, r6, r7⟩ := ih (c + 1) best' a' b' X' (by omega) g2 g3
        refine ⟨r1, r2, r3, r4, ?_, r6, r7⟩
        rw [← r5]
        apply z_lp_n
        exact g1
      have lt : ¬ ((1 : Int32) <<< (X.1 7 (nI fi).toNatClampNeg &&& 31)) ≤ nI c := by
        rw [n_cl (by omega), hXF.2.2.1, sh_1 hn, n_le (by omega) (by omega)]
        omega
      rcases m_areT hXF hn hX4 hfi hc10 hk hf (by omega) (nI c) with ⟨t1, t2⟩ | ⟨bb, t1, t2, t3⟩
      · refine go best a b X ?_ hX (hB.s0 (fun z => t1 ⟨c, rfl, z⟩))
        unfold f_X8_bestTurns_L10
        rw [z_chk_t q10, if_neg lt, t2, z_bd_s, if_pos rfl, e1]
      · have ebc : bb = c := by
          have := t2.1
          rw [n_eq (by omega) (by omega)] at t1
          exact t1.symm
        subst ebc
        obtain ⟨M9, s1, s2, K, N0, N1, N2, D, u1, u2, u3, u4, u5, u6, u7, u8⟩ := m_study hXF hO (by omega) hR t2.1 t2.2
        have hl := lB_e (t := tN kd P) (v := iN V) (w := iN Z) hf3 t2 hn u1
        obtain ⟨a1, a2⟩ := abs_nd (hK f (tN kd P) (iN V) (iN Z) K)
        have hv := m_absH (r := hK f (tN kd P) (iN V) (iN Z) K) (by omega)
        rw [hl] at hv a1 a2
        rw [← u3] at hv
        have hden : M9.2 27 0 = jI ((lB f n (tN kd P) (iN V) (iN Z) bb).den : Int) := by rw [u4, a2]
        have bn : (lB f n (tN kd P) (iN V) (iN Z) bb).num.natAbs ≤ 67108864 := by omega
        have bd : (lB f n (tN kd P) (iN V) (iN Z) bb).den ≤ 1048576 := by omega
        have nn : 0 ≤ lB f n (tN kd P) (iN V) (iN Z) bb := a_nn _
        have head : ∀ (r : Int32), (z_bd (if best = (-1 : Int32) then some ((1 : Int32)) else z_bd (f_X8_compare (jI (lB f n (tN kd P) (iN V) (iN Z) bb).num) (M9.2 27 0) a b) fun r_12 => some (r_12)) (fun v_11 => (some v_11 : Option Int32)) = some r) → f_X8_bestTurns_L10 (nI fi) best a b (nI bb) X = (if 0 < r then some (.inr (nI bb, jI (lB f n (tN kd P) (iN V) (iN Z) bb).num, (M9.2 27 0), nI (bb + 1), M9)) else if r = 0 then z_bd (f_X8_isAhead (nI bb) best) fun r_13 => if r_13 = 0 then some (.inr (best, a, b, nI (bb + 1), M9)) else some (.inr (nI bb, jI (lB f n (tN kd P) (iN V) (iN Z) bb).num, (M9.2 27 0), nI (bb + 1), M9)) else some (.inr (best, a, b, nI (bb + 1), M9))) := by
          intro r hr
          unfold f_X8_bestTurns_L10
          rw [z_chk_t q10, if_neg lt, t3, z_bd_s, if_neg z_10, s1, z_bd_s, hv, z_bd_s, e1]
          obtain ⟨r', hr1, hr2⟩ := z_bd_some hr
          cases hr2
          rw [hr1, z_bd_s]
        have hself : ∀ b', b' < bb → IsT f n b' → True := fun _ _ _ => trivial
        rcases hB with ⟨b1, b2⟩ | ⟨b0, b1, b2, b3, b4, b5, b6⟩
        · refine go (nI bb) _ _ M9 ?_ (hX.tr s2) (Or.inr ⟨bb, rfl, ⟨t2, fun b' hb' ht => ?_⟩, rfl, hden, bn, bd⟩)
          · rw [head 1 (by rw [if_pos b1]; rfl), if_pos (by decide)]
          · by_cases q : b' = bb
            · rw [q]; exact Or.inr ⟨rfl, ah_irr bb⟩
            · exact absurd ht (b2 b' (by omega))
        · have nm : ¬ best = (-1 : Int32) := by
            have hb0 := b2.1.1
            rw [b1]
            intro e
            have h3 := congrArg Int32.toInt e
            rw [n_toInt (by omega)] at h3
            have e2 : (-1 : Int32).toInt = -1 := by decide
            omega
          have nn0 : 0 ≤ lB f n (tN kd P) (iN V) (iN Z) b0 := a_nn _
          have hcmp := m_cmpR nn nn0 (by omega) (by omega) (by omega) (by omega)
          rw [← hden, ← b3, ← b4] at hcmp
          have hd2 := head _ (by rw [if_neg nm, hcmp]; rfl)
          by_cases c1 : lB f n (tN kd P) (iN V) (iN Z) bb < lB f n (tN kd P) (iN V) (iN Z) b0
          · rw [if_pos c1, if_neg (by decide), if_neg (by decide)] at hd2
            refine go best a b M9 hd2 (hX.tr s2) (Or.inr ⟨b0, b1, ⟨b2.1, fun b' hb' ht => ?_⟩, b3, b4, b5, b6⟩)
            by_cases q : b' = bb
            · rw [q]; exact Or.inl c1
            · exact b2.2 b' (by omega) ht
          · rw [if_neg c1] at hd2
            by_cases c2 : lB f n (tN kd P) (iN V) (iN Z) bb = lB f n (tN kd P) (iN V) (iN Z) b0
            · rw [if_pos c2, if_neg (by decide), if_pos rfl, b1] at hd2
              have hbb := t2.1
              have hb0 := b2.1.1
              rcases m_isAhead (a := bb) (b := b0) (by omega) (by omega) with ⟨c3, c4⟩ | ⟨c3, c4⟩
              · rw [c4, z_bd_s, if_neg z_10] at hd2
                refine go _ _ _ M9 (by rw [b1]; exact hd2) (hX.tr s2) (Or.inr ⟨bb, rfl, ⟨t2, fun b' hb' ht => ?_⟩, rfl, hden, bn, bd⟩)
                by_cases q : b' = bb
                · rw [q]; exact Or.inr ⟨rfl, ah_irr bb⟩
                · rcases b2.2 b' (by omega) ht with d1 | ⟨d1, d2⟩
                  · exact Or.inl (by rw [c2]; exact d1)
                  · refine Or.inr ⟨d1.trans c2.symm, fun z => ?_⟩
                    exact d2 (ah_tr z c3)
              · rw [c4, z_bd_s, if_pos rfl] at hd2
                refine go best a b M9 (by rw [b1]; exact hd2) (hX.tr s2) (Or.inr ⟨b0, b1, ⟨b2.1, fun b' hb' ht => ?_⟩, b3, b4, b5, b6⟩)
                by_cases q : b' = bb
                · rw [q]; exact Or.inr ⟨c2, c3⟩
                · exact b2.2 b' (by omega) ht
            · rw [if_neg c2, if_pos (by decide)] at hd2
              have c5 : lB f n (tN kd P) (iN V) (iN Z) b0 < lB f n (tN kd P) (iN V) (iN Z) bb := by
                rcases r_loe (Rat.not_lt.mp c1) with z | z
                · exact z
                · exact absurd z.symm c2
              refine go _ _ _ M9 hd2 (hX.tr s2) (Or.inr ⟨bb, rfl, ⟨t2, fun b' hb' ht => ?_⟩, rfl, hden, bn, bd⟩)
              by_cases q : b' = bb
              · rw [q]; exact Or.inr ⟨rfl, ah_irr bb⟩
              · rcases b2.2 b' (by omega) ht with d1 | ⟨d1, d2⟩
                · exact Or.inl (by grind)
                · exact Or.inl (by rw [d1]; exact c5)
  obtain ⟨best, a, b, M', r1, r2, r3⟩ := key (2 ^ n) 0 (-1) 0 1 M (by omega) Scr.rf (Or.inl ⟨rfl, fun b' hb => by omega⟩)
  refine ⟨best, a, b, M', ?_, r2, r3⟩
  unfold f_X8_bestTurns
  rw [show ((-1 : Int32), (0 : Int64), (1 : Int64), (0 : Int32), M) = ((-1 : Int32), (0 : Int64), (1 : Int64), nI 0, M) from rfl, r1, z_bd2_s]
end BT
theorem enum_of {f n b0 : Nat} {K : Nat → Nat} (hI : Inc f n K) (hbK : BitsOf f b0 K) : b0 < 2 ^ n ∧ Enum b0 n (f + 1) K := by
  have hlt : b0 < 2 ^ n := by
    apply Nat.lt_pow_two_of_testBit
    intro i hi
    cases e : b0.testBit i with
    | false => rfl
    | true =>
      obtain ⟨j, j1, j2⟩ := (hbK.2 i).mp e
      have := hI.1 j j1
      omega
  have hEK : Enum b0 n (f + 1) K := by
    have hkb := kB_e n b0
    have key : ∀ m, m ≤ n → ∀ p, (∀ j, j < p → K j < m) → (∀ j, p ≤ j → j ≤ f → m ≤ K j) → p ≤ f + 1 → p = pcn b0 m := by
      intro m
      induction m with
      | zero =>
        intro _ p h1 h2 h3
        rcases Nat.eq_zero_or_pos p with z | z
        · rw [z]; rfl
        · have := h1 0 z; omega
      | succ m ih =>
        intro hm p h1 h2 h3
        by_cases q : b0.testBit m = true
        · obtain ⟨j, j1, j2⟩ := (hbK.2 m).mp q
          have jp : j < p := by
            rcases Nat.lt_or_ge j p with z | z
            · exact z
            · have := h2 j z j1; omega
          have jl : j + 1 = p := by
            rcases Nat.lt_or_ge (j + 1) p with z | z
            · have a1 := h1 (j + 1) z
              have a2 := hI.2 j (by omega)
              omega
            · omega
          have := ih (by omega) j (fun i hi => by have := hI.lt j i hi j1; omega) (fun i hi hif => by
            rcases Nat.lt_or_ge j i with z | z
            · have := hI.lt i j z hif; omega
            · rw [show i = j by omega]; omega) (by omega)
          rw [bt_t] at q
          rw [pcn]
          omega
        · have := ih (by omega) p (fun i hi => by
            have a1 := h1 i hi
            rcases Nat.lt_or_ge (K i) m with z | z
            · exact z
            · exfalso
              exact q ((hbK.2 m).mpr ⟨i, by omega, by omega⟩)) (fun i hi hif => by have := h2 i hi hif; omega) h3
          rw [bt_t] at q
          have := Nat.mod_lt (b0 / 2 ^ m) (show 2 > 0 by decide)
          rw [pcn]
          omega
    refine ⟨fun j hj => ⟨hI.1 j (by omega), (hbK.2 _).mpr ⟨j, by omega, rfl⟩⟩, fun j hj => hI.2 j (by omega), fun x hx hb => ?_, key n (Nat.le_refl _) (f + 1) (fun j hj => hI.1 j (by omega)) (fun j h1 h2 => by omega) (Nat.le_refl _)⟩
    obtain ⟨j, j1, j2⟩ := (hbK.2 x).mp hb
    exact ⟨j, by omega, j2⟩
  exact ⟨hlt, hEK⟩
/-! the least level is the greatest low -/
section OPT
variable {f n : Nat} {t v w : Nat → Int} {K K' : Nat → Nat} {q0 q1 q2 : Rat}
theorem er_abs {K : Nat → Nat} (i : Nat) : (er (fun j => t (K j)) (fun j => v (K j)) (fun j => w (K j)) q0 q1 q2 i).abs = (mr t v w q0 q1 q2 (K i)).abs := by
  show (((sg1 i : Int) : Rat) * mr t v w q0 q1 q2 (K i)).abs = _
  rcases sgR i with ⟨-, q⟩ | ⟨-, q⟩
  · rw [q, Rat.one_mul]
  · rw [q, ← a_neg]
    congr 1
    grind
theorem stay_max (hR : Rw f n t v w) (hI : Inc f n K') (hd : Dg f q1 q2) {L : Rat} (hS : ∀ i, i < n → (mr t v w q0 q1 q2 i).abs ≤ L) : (hK f t v w K').abs ≤ L := vp_low (hI.row hR) hd (q0 := q0) (v := fun j => v (K' j)) (fun i hi => by rw [er_abs]; exact hS _ (hI.1 i hi))
theorem stay_poly (hR : Rw f n t v w) (hI : Inc f n K') (hd : Dg f q1 q2) (hS : ∀ i, i < n → (mr t v w q0 q1 q2 i).abs ≤ (hK f t v w K').abs) : TurnQ f t v w K' q0 q1 q2 := ⟨hd, vp_eq (hI.row hR) hd (q0 := q0) (v := fun j => v (K' j)) (fun i hi => by rw [er_abs]; exact hS _ (hI.1 i hi))⟩
theorem turnQ_uq {p0 p1 p2 : Rat} (hR : Rw f n t v w) (hI : Inc f n K) (h : TurnQ f t v w K q0 q1 q2) (h' : TurnQ f t v w K p0 p1 p2) : q0 = p0 ∧ q1 = p1 ∧ q2 = p2 := by
  refine iq hR.1 (t := fun j => t (K j)) (fun i j h1 h2 => hR.2.2.2 _ _ (hI.lt j i h1 (by omega)) (hI.1 j (by omega))) h.1 h'.1 (fun i hi => ?_)
  have e := (sg_2 (h.2 i (by omega))).trans (sg_2 (h'.2 i (by omega))).symm
  unfold mr at e
  have hw := (hR.2.2.1 _ (hI.1 i (by omega))).2.1
  have hw0 : (w (K i) : Rat) ≠ 0 := d_ne (by omega)
  generalize (w (K i) : Rat) = W at *
  generalize ev q0 q1 q2 (t (K i)) = A at *
  generalize ev p0 p1 p2 (t (K i)) = B at *
  generalize (v (K i) : Rat) = C at *
  have e2 : W * (B - A) = 0 := by grind
  rcases Rat.mul_eq_zero.mp e2 with z | z
  · exact absurd z hw0
  · grind
/-- the best turns, where a polynomial stays at turns: their polynomial is that one -/
theorem best_poly {bb : Nat} (hR : Rw f n t v w) (hI : Inc f n K) (hQ : TurnQ f t v w K q0 q1 q2) (hS : Stay f n t v w K q0 q1 q2) (hB : Best f n (lB f n t v w) (2 ^ n) bb) (hE : Enum bb n (f + 1) K') : TurnQ f t v w K' q0 q1 q2 ∧ (hK f t v w K').abs = (hK f t v w K).abs := by
  have hn := hR.2.1
  have hl := lB_e (t := t) (v := v) (w := w) hR.1 hB.1 hn hE
  have h1 := stay_max (K' := K') hR hE.inc hQ.1 hS
  -- the bits of K
  have hbK := bsum_of hI hn
  obtain ⟨b0, hb0⟩ : ∃ z, z = bsum K (f + 1) := ⟨_, rfl⟩
  rw [← hb0] at hbK
  obtain ⟨hlt, hEK⟩ := enum_of hI hbK
  have hT0 : IsT f n b0 := ⟨hlt, by rw [pcn_top hlt 12 hn]; exact hEK.2.2.2.symm⟩
  have hl0 := lB_e (t := t) (v := v) (w := w) hR.1 hT0 hn hEK
  have h2 : (hK f t v w K).abs ≤ (hK f t v w K').abs := by
    rw [hl, hl0]
    rcases hB.2 b0 hlt hT0 with z | ⟨z, -⟩
    · exact Rat.le_of_lt z
    · rw [z]; exact Rat.le_refl
  have h3 := Rat.le_antisymm h1 h2
  exact ⟨stay_poly hR hE.inc hQ.1 (fun i hi => by rw [h3]; exact hS i hi), h3⟩
end OPT
