/-! a swap of turns: what comes of it, and that the low grows -/
def Rw (f n : Nat) (t v w : Nat → Int) : Prop := (f = 1 ∨ f = 2 ∨ f = 3) ∧ n ≤ 12 ∧ (∀ i, i < n → (v i).natAbs ≤ 60 ∧ (1 ≤ w i ∧ w i ≤ 4) ∧ (t i).natAbs ≤ 144 ∧ (f = 3 → (t i).natAbs ≤ 12)) ∧ ∀ i j, i < j → j < n → t i < t j
theorem Inc.lt {f n : Nat} {K : Nat → Nat} (h : Inc f n K) : ∀ j i, i < j → j ≤ f → K i < K j := by
  intro j
  induction j with
  | zero => intro i hi; omega
  | succ j ih =>
    intro i hi hj
    have h1 := h.2 j (by omega)
    by_cases q : i = j
    · rw [q]; exact h1
    · have := ih i (by omega) (by omega)
      omega
theorem Inc.upw {f n : Nat} {K : Nat → Nat} {t v w : Nat → Int} (h : Inc f n K) (hR : Rw f n t v w) : Upw f (fun j => t (K j)) := fun j hj => hR.2.2.2 _ _ (h.2 j hj) (h.1 (j + 1) (by omega))
theorem Inc.bds {f n : Nat} {K : Nat → Nat} {t v w : Nat → Int} (h : Inc f n K) (hR : Rw f n t v w) : Bds f (fun j => t (K j)) (fun j => v (K j)) (fun j => w (K j)) := fun j hj => hR.2.2.1 _ (h.1 j hj)
theorem Inc.row {f n : Nat} {K : Nat → Nat} {t v w : Nat → Int} (h : Inc f n K) (hR : Rw f n t v w) : Row f (fun j => t (K j)) (fun j => w (K j)) (sW (fun j => w (K j))) := row_of hR.1 (h.upw hR) (h.bds hR)
/-- a miss -/
def mr (t v w : Nat → Int) (q0 q1 q2 : Rat) (i : Nat) : Rat := (w i : Rat) * ((v i : Rat) - ev q0 q1 q2 (t i))
def swK (f : Nat) (K : Nat → Nat) (r nx par : Nat) : Nat → Nat :=
  if nx ≤ f ∧ nx % 2 = par then updN K nx r else if 0 < nx ∧ (nx - 1) % 2 = par then updN K (nx - 1) r else if nx = 0 then (fun j => if j = 0 then r else if j ≤ f then K (j - 1) else K j) else (fun j => if j = f then r else if j < f then K (j + 1) else K j)
def swG (f nx par : Nat) : Nat := if nx ≤ f ∧ nx % 2 = par then nx else if 0 < nx ∧ (nx - 1) % 2 = par then nx - 1 else if nx = 0 then f else 0
/-- the first of the turns that lies behind r -/
def Nx (f : Nat) (K : Nat → Nat) (r nx : Nat) : Prop := nx ≤ f + 1 ∧ (∀ j, j < nx → K j < r) ∧ ∀ j, nx ≤ j → j ≤ f → r < K j
theorem sw_par {nx par : Nat} (hp : par = 0 ∨ par = 1) (h0 : 0 < nx) (e1 : ¬ nx % 2 = par) (e2 : ¬ (nx - 1) % 2 = par) : False := by
  rcases hp with rfl | rfl
  · omega
  · omega
theorem sw_inc {f n r nx par : Nat} {K : Nat → Nat} (h : Inc f n K) (hr : r < n) (hx : Nx f K r nx) (hp : par = 0 ∨ par = 1) : Inc f n (swK f K r nx par) := by
  obtain ⟨x1, x2, x3⟩ := hx
  unfold swK
  by_cases c1 : nx ≤ f ∧ nx % 2 = par
  · rw [if_pos c1]
    clear hp
    refine ⟨fun j hj => ?_, fun j hj => ?_⟩
    · unfold updN
      by_cases q : j = nx
      · rw [if_pos q]; exact hr
      · rw [if_neg q]; exact h.1 j hj
    · unfold updN
      by_cases q : j = nx
      · rw [if_pos q, if_neg (by omega)]
        have := x3 nx (Nat.le_refl _) c1.1
        have := h.2 j hj
        rw [q] at this ⊢
        omega
      · rw [if_neg q]
        by_cases q2 : j + 1 = nx
        · rw [if_pos q2]; exact x2 j (by omega)
        · rw [if_neg q2]; exact h.2 j hj
  · rw [if_neg c1]
    by_cases c2 : 0 < nx ∧ (nx - 1) % 2 = par
    · rw [if_pos c2]
      clear c1 hp
      refine ⟨fun j hj => ?_, fun j hj => ?_⟩
      · unfold updN
        by_cases q : j = nx - 1
        · rw [if_pos q]; exact hr
        · rw [if_neg q]; exact h.1 j hj
      · unfold updN
        by_cases q : j = nx - 1
        · rw [if_pos q, if_neg (by omega)]
          exact x3 (j + 1) (by omega) (by omega)
        · rw [if_neg q]
          by_cases q2 : j + 1 = nx - 1
          · rw [if_pos q2]; exact x2 j (by omega)
          · rw [if_neg q2]; exact h.2 j hj
    · rw [if_neg c2]
      by_cases c3 : nx = 0
      · rw [if_pos c3]
        clear c1 c2 hp
        refine ⟨fun j hj => ?_, fun j hj => ?_⟩
        · dsimp only
          by_cases q : j = 0
          · rw [if_pos q]; exact hr
          · rw [if_neg q, if_pos hj]; exact h.1 (j - 1) (by omega)
        · dsimp only
          by_cases q : j = 0
          · rw [if_pos q, if_neg (by omega), if_pos (by omega), show j + 1 - 1 = j by omega]
            exact x3 j (by omega) (by omega)
          · rw [if_neg q, if_pos (by omega), if_neg (by omega), if_pos (by omega), show j + 1 - 1 = j - 1 + 1 by omega]
            exact h.2 (j - 1) (by omega)
      · rw [if_neg c3]
        have hnx : nx = f + 1 := by
          rcases Nat.lt_or_ge nx (f + 1) with q | q
          · exfalso
            exact sw_par hp (Nat.pos_of_ne_zero c3) (fun e => c1 ⟨Nat.lt_succ_iff.mp q, e⟩) (fun e => c2 ⟨Nat.pos_of_ne_zero c3, e⟩)
          · exact Nat.le_antisymm x1 q
        clear c1 c2 hp
        refine ⟨fun j hj => ?_, fun j hj => ?_⟩
        · dsimp only
          by_cases q : j = f
          · rw [if_pos q]; exact hr
          · rw [if_neg q, if_pos (by omega)]; exact h.1 (j + 1) (by omega)
        · dsimp only
          rw [if_neg (by omega), if_pos hj]
          by_cases q : j + 1 = f
          · rw [if_pos q]; exact x2 (j + 1) (by omega)
          · rw [if_neg q, if_pos (by omega)]; exact h.2 (j + 1) (by omega)
/-- which points are turns after the swap -/
theorem sw_mem {f n r nx par : Nat} {K : Nat → Nat} (h : Inc f n K) (hx : Nx f K r nx) (hp : par = 0 ∨ par = 1) (i : Nat) : (∃ j, j ≤ f ∧ swK f K r nx par j = i) ↔ (i = r ∨ ((∃ j, j ≤ f ∧ K j = i) ∧ i ≠ K (swG f nx par))) := by
  obtain ⟨x1, x2, x3⟩ := hx
  have inj : ∀ a c, a ≤ f → c ≤ f → K a = K c → a = c := by
    intro a c ha hc e
    rcases Nat.lt_trichotomy a c with q | q | q
    · have := h.lt c a q hc; omega
    · exact q
    · have := h.lt a c q ha; omega
  have up : ∀ g, g ≤ f → ((∃ j, j ≤ f ∧ updN K g r j = i) ↔ (i = r ∨ ((∃ j, j ≤ f ∧ K j = i) ∧ i ≠ K g))) := by
    intro g hg
    constructor
    · intro ⟨j, hj, e⟩
      by_cases q : j = g
      · rw [q, updN_s] at e; exact Or.inl e.symm
      · rw [updN_n _ q] at e
        exact Or.inr ⟨⟨j, hj, e⟩, fun e2 => q (inj j g hj hg (e.trans e2))⟩
    · rintro (e | ⟨⟨j, hj, e⟩, e2⟩)
      · exact ⟨g, hg, by rw [updN_s]; exact e.symm⟩
      · have hne : j ≠ g := by
          intro q
          subst q
          exact e2 e.symm
        exact ⟨j, hj, (updN_n r hne).trans e⟩
  unfold swK swG
  by_cases c1 : nx ≤ f ∧ nx % 2 = par
  · simp only [if_pos c1]
    exact up nx c1.1
  · simp only [if_neg c1]
    by_cases c2 : 0 < nx ∧ (nx - 1) % 2 = par
    · simp only [if_pos c2]
      clear c1 hp
      exact up (nx - 1) (by omega)
    · simp only [if_neg c2]
      by_cases c3 : nx = 0
      · simp only [if_pos c3]
        clear c1 c2 hp up
        constructor
        · intro ⟨j, hj, e⟩
          by_cases q : j = 0
          · rw [if_pos q] at e; exact Or.inl e.symm
          · rw [if_neg q, if_pos hj] at e
            refine Or.inr ⟨⟨j - 1, by omega, e⟩, fun e2 => ?_⟩
            have := inj (j - 1) f (by omega) (Nat.le_refl _) (e.trans e2)
            omega
        · rintro (e | ⟨⟨j, hj, e⟩, e2⟩)
          · exact ⟨0, by omega, by rw [if_pos rfl]; exact e.symm⟩
          · have : j ≠ f := by
              intro q
              subst q
              exact e2 e.symm
            exact ⟨j + 1, by omega, by rw [if_neg (by omega), if_pos (by omega)]; exact e⟩
      · simp only [if_neg c3]
        clear c1 c2 hp up
        constructor
        · intro ⟨j, hj, e⟩
          by_cases q : j = f
          · rw [if_pos q] at e; exact Or.inl e.symm
          · rw [if_neg q, if_pos (by omega)] at e
            refine Or.inr ⟨⟨j + 1, by omega, e⟩, fun e2 => ?_⟩
            have := inj (j + 1) 0 (by omega) (Nat.zero_le _) (e.trans e2)
            omega
        · rintro (e | ⟨⟨j, hj, e⟩, e2⟩)
          · exact ⟨f, Nat.le_refl _, by rw [if_pos rfl]; exact e.symm⟩
          · have : j ≠ 0 := by
              intro q
              subst q
              exact e2 e.symm
            refine ⟨j - 1, by omega, ?_⟩
            rw [if_neg (by omega), if_pos (by omega), show j - 1 + 1 = j by omega]
            exact e
theorem sgR (j : Nat) : (j % 2 = 0 ∧ ((sg1 j : Int) : Rat) = 1) ∨ (j % 2 = 1 ∧ ((sg1 j : Int) : Rat) = -1) := by
  unfold sg1
  by_cases q : j % 2 = 0
  · rw [if_pos q]; exact Or.inl ⟨q, rfl⟩
  · rw [if_neg q]; exact Or.inr ⟨by omega, rfl⟩
theorem sg_2 {j : Nat} {x h : Rat} (e : ((sg1 j : Int) : Rat) * x = h) : x = ((sg1 j : Int) : Rat) * h := by
  have g1 : ∀ y : Rat, y = 1 * (1 * y) := by intro y; grind
  have g2 : ∀ y : Rat, y = -1 * (-1 * y) := by intro y; grind
  rcases sgR j with ⟨_, q⟩ | ⟨_, q⟩
  · rw [q] at e ⊢; rw [← e]; exact g1 x
  · rw [q] at e ⊢; rw [← e]; exact g2 x
theorem sg_p (j : Nat) (h : Rat) : ((sg1 (j + 1) : Int) : Rat) * (((sg1 j : Int) : Rat) * h) = -h := by
  have g1 : -1 * (1 * h) = -h := by grind
  have g2 : 1 * (-1 * h) = -h := by grind
  rcases sgR j with ⟨a, q⟩ | ⟨a, q⟩
  · rcases sgR (j + 1) with ⟨c, z⟩ | ⟨c, z⟩
    · omega
    · rw [q, z]; exact g1
  · rcases sgR (j + 1) with ⟨c, z⟩ | ⟨c, z⟩
    · rw [q, z]; exact g2
    · omega
theorem sg_q (j : Nat) (h : Rat) : ((sg1 j : Int) : Rat) * (((sg1 (j + 1) : Int) : Rat) * h) = -h := by
  have e : ∀ x y z : Rat, x * (y * z) = y * (x * z) := by intro x y z; grind
  rw [e]
  exact sg_p j h
theorem sw_u {h0 m : Rat} {par : Nat} (hpar : (par = 0 ∧ (0 ≤ h0 ∧ 0 < m ∨ h0 < 0 ∧ m < 0)) ∨ (par = 1 ∧ (0 ≤ h0 ∧ m < 0 ∨ h0 < 0 ∧ 0 < m))) : ∃ u : Rat, (u = 1 ∨ u = -1) ∧ u * h0 = h0.abs ∧ u * m = (if par = 0 then m.abs else -m.abs) := by
  have pos : ∀ {x : Rat}, 0 ≤ x → x.abs = x := by
    intro x hx
    rcases a_cases x with ⟨c1, c2⟩ | ⟨c1, c2⟩
    · exact c2
    · exact absurd c1 (Rat.not_lt.mpr hx)
  have neg : ∀ {x : Rat}, x < 0 → x.abs = -x := by
    intro x hx
    rcases a_cases x with ⟨c1, c2⟩ | ⟨c1, c2⟩
    · exact absurd hx (Rat.not_lt.mpr c1)
    · exact c2
  have n1 : ∀ x : Rat, -1 * x = -x := by intro x; grind
  rcases hpar with ⟨p, ⟨a, c⟩ | ⟨a, c⟩⟩ | ⟨p, ⟨a, c⟩ | ⟨a, c⟩⟩
  · exact ⟨1, Or.inl rfl, by rw [Rat.one_mul, pos a], by rw [Rat.one_mul, if_pos p, pos (Rat.le_of_lt c)]⟩
  · exact ⟨-1, Or.inr rfl, by rw [n1, neg a], by rw [n1, if_pos p, neg c]⟩
  · exact ⟨1, Or.inl rfl, by rw [Rat.one_mul, pos a], by rw [Rat.one_mul, if_neg (by omega), neg c, Rat.neg_neg]⟩
  · exact ⟨-1, Or.inr rfl, by rw [n1, neg a], by rw [n1, if_neg (by omega), pos (Rat.le_of_lt c)]⟩
theorem sw_own {u m : Rat} {par g : Nat} (um : u * m = (if par = 0 then m.abs else -m.abs)) (hp : par = 0 ∨ par = 1) (hg : g % 2 = par) : u * (((sg1 g : Int) : Rat) * m) = m.abs := by
  rcases sgR g with ⟨a, q⟩ | ⟨a, q⟩
  · rw [if_pos (by omega)] at um
    rw [q, Rat.one_mul, um]
  · rw [if_neg (by omega)] at um
    have e : u * (-1 * m) = -(u * m) := by clear um q; grind
    rw [q, e, um, Rat.neg_neg]
theorem sw_oth {u m : Rat} {par g : Nat} (um : u * m = (if par = 0 then m.abs else -m.abs)) (hp : par = 0 ∨ par = 1) (hg : ¬ g % 2 = par) : -u * (((sg1 g : Int) : Rat) * m) = m.abs := by
  rcases sgR g with ⟨a, q⟩ | ⟨a, q⟩
  · rw [if_neg (by omega)] at um
    have e : -u * (1 * m) = -(u * m) := by clear um q; grind
    rw [q, e, um, Rat.neg_neg]
  · rw [if_pos (by omega)] at um
    have e : -u * (-1 * m) = u * m := by clear um q; grind
    rw [q, e, um]
theorem r_nn (u h : Rat) : -u * -h = u * h := by grind
theorem sw_low {f n r nx par : Nat} {K : Nat → Nat} {t v w : Nat → Int} {q0 q1 q2 : Rat} (hR : Rw f n t v w) (h : Inc f n K) (hr : r < n) (hx : Nx f K r nx) (hd : Dg f q1 q2) (hT : ∀ j, j ≤ f → ((sg1 j : Int) : Rat) * mr t v w q0 q1 q2 (K j) = hK f t v w K) (hg : (hK f t v w K).abs < (mr t v w q0 q1 q2 r).abs) (hpar : (par = 0 ∧ (0 ≤ hK f t v w K ∧ 0 < mr t v w q0 q1 q2 r ∨ hK f t v w K < 0 ∧ mr t v w q0 q1 q2 r < 0)) ∨ (par = 1 ∧ (0 ≤ hK f t v w K ∧ mr t v w q0 q1 q2 r < 0 ∨ hK f t v w K < 0 ∧ 0 < mr t v w q0 q1 q2 r))) : (hK f t v w K).abs < (hK f t v w (swK f K r nx par)).abs := by
  have hp : par = 0 ∨ par = 1 := by
    rcases hpar with z | z
    · exact Or.inl z.1
    · exact Or.inr z.1
  have hI := sw_inc (par := par) h hr hx hp
  have hRw := hI.row hR
  obtain ⟨u, hu, uh, um⟩ := sw_u hpar
  have hT2 : ∀ j, j ≤ f → mr t v w q0 q1 q2 (K j) = ((sg1 j : Int) : Rat) * hK f t v w K := fun j hj => sg_2 (hT j hj)
  have own : ∀ g, g % 2 = par → u * (((sg1 g : Int) : Rat) * mr t v w q0 q1 q2 r) = (mr t v w q0 q1 q2 r).abs := fun g hgp => sw_own um hp hgp
  have oth : ∀ g, ¬ g % 2 = par → -u * (((sg1 g : Int) : Rat) * mr t v w q0 q1 q2 r) = (mr t v w q0 q1 q2 r).abs := fun g hgp => sw_oth um hp hgp
  have fin : ∀ (z : Rat) (K' : Nat → Nat) (g : Nat), (z = 1 ∨ z = -1) → Inc f n K' → g ≤ f → z * (((sg1 g : Int) : Rat) * mr t v w q0 q1 q2 (K' g)) = (mr t v w q0 q1 q2 r).abs → (∀ j, j ≤ f → j ≠ g → z * (((sg1 j : Int) : Rat) * mr t v w q0 q1 q2 (K' j)) = (hK f t v w K).abs) → (hK f t v w K).abs < (hK f t v w K').abs := by
    intro z K' g hz hI' hgf e1 e2
    refine vp_gt (hI'.row hR) hd (u := z) hz (q0 := q0) (v := fun j => v (K' j)) (fun j hj => ?_) ⟨g, hgf, ?_⟩
    · show _ ≤ z * (((sg1 j : Int) : Rat) * mr t v w q0 q1 q2 (K' j))
      by_cases q : j = g
      · rw [q, e1]; exact Rat.le_of_lt hg
      · rw [e2 j hj q]; exact Rat.le_refl
    · show _ < z * (((sg1 g : Int) : Rat) * mr t v w q0 q1 q2 (K' g))
      rw [e1]; exact hg
  have hnu : -u = 1 ∨ -u = -1 := by
    rcases hu with q | q
    · rw [q]; exact Or.inr rfl
    · rw [q, Rat.neg_neg]; exact Or.inl rfl
  obtain ⟨x1, x2, x3⟩ := hx
  have sp := fun (_ : Unit) => @sw_par nx par hp
  clear hRw hp hpar hg hd um
  unfold swK at hI ⊢
  by_cases c1 : nx ≤ f ∧ nx % 2 = par
  · rw [if_pos c1] at hI ⊢
    refine fin u _ nx hu hI c1.1 (by rw [updN_s]; exact own nx c1.2) (fun j hj hne => ?_)
    rw [updN_n _ hne, hT j hj, uh]
  · rw [if_neg c1] at hI ⊢
    by_cases c2 : 0 < nx ∧ (nx - 1) % 2 = par
    · rw [if_pos c2] at hI ⊢
      clear c1
      refine fin u _ (nx - 1) hu hI (by omega) (by rw [updN_s]; exact own (nx - 1) c2.2) (fun j hj hne => ?_)
      rw [updN_n _ hne, hT j hj, uh]
    · rw [if_neg c2] at hI ⊢
      by_cases c3 : nx = 0
      · rw [if_pos c3] at hI ⊢
        refine fin (-u) _ 0 hnu hI (by omega) (by rw [if_pos rfl]; exact oth 0 (fun e => c1 ⟨by rw [c3]; exact Nat.zero_le _, by rw [c3]; exact e⟩)) (fun j hj hne => ?_)
        clear c1 c2 sp
        rw [if_neg hne, if_pos hj, hT2 (j - 1) (by omega)]
        have := sg_p (j - 1) (hK f t v w K)
        rw [show j - 1 + 1 = j by omega] at this
        rw [this, ← uh]
        exact r_nn _ _
      · rw [if_neg c3] at hI ⊢
        have e2 : ¬ (nx - 1) % 2 = par := fun e => c2 ⟨Nat.pos_of_ne_zero c3, e⟩
        have e1 : nx = f + 1 := by
          rcases Nat.lt_or_ge nx (f + 1) with q | q
          · exact (sp () (Nat.pos_of_ne_zero c3) (fun e => c1 ⟨Nat.lt_succ_iff.mp q, e⟩) e2).elim
          · exact Nat.le_antisymm x1 q
        have e3 : ¬ f % 2 = par := by
          rw [e1] at e2
          exact e2
        clear c1 c2 sp e2
        refine fin (-u) _ f hnu hI (Nat.le_refl _) (by rw [if_pos rfl]; exact oth f e3) (fun j hj hne => ?_)
        rw [if_neg hne, if_pos (by omega), hT2 (j + 1) (by omega), sg_q, ← uh]
        exact r_nn _ _
