/-! turns: class and reference -/
theorem mF_mr {kd : Int32} {n : Nat} {P V Z : Nat → Int32} {bg : Nat → Nat} {C : Nat → Pol4} {q0 q1 q2 : Rat} (hO : FitOk kd n P V Z 1 bg C) (e0 : q0F (C 0) = q0) (e1 : q1F (C 0) = xq1 kd q1) (e2 : q2F (C 0) = xq2 kd q1 q2) (hq : kd = 2 → q2 = 0) (i : Nat) : mF P V Z 1 bg C i = mr (tN kd P) (iN V) (iN Z) q0 q1 q2 i := by
  have hd := (hO.2.1 0 (Or.inr rfl)).1.1
  show Rat.divInt (ma (iN P) (iN V) (iN Z) (C 0).1 (C 0).2.1 (C 0).2.2.1 (C 0).2.2.2 i) (C 0).2.2.2 = _
  rw [← ma_mr hd]
  unfold mr
  rw [show Rat.divInt (C 0).1 (C 0).2.2.2 = q0 from e0, show Rat.divInt (C 0).2.1 (C 0).2.2.2 = xq1 kd q1 from e1, show Rat.divInt (C 0).2.2.1 (C 0).2.2.2 = xq2 kd q1 q2 from e2, show iN P i = (P i).toInt from rfl, ev_xq kd q0 q1 q2 hq (P i)]
  rfl
theorem dv_inj {a b d : Int} (hd : 0 < d) (h : Rat.divInt a d = Rat.divInt b d) : a = b := by
  have h1 := (dv_le (a := a) (b := b) hd).mp (by rw [h]; exact Rat.le_refl)
  have h2 := (dv_le (a := b) (b := a) hd).mp (by rw [h]; exact Rat.le_refl)
  omega
section C4
variable {S : GS} {M : MS} {o cnt : Nat} {st : Int32} {F : Nat → Option Nat} {ln : Nat → Nat}
theorem p_theTurns {a fi n len f : Nat} {kd dg : Int32} {P V Z : Nat → Int32} {bg : Nat → Nat} {C : Nat → Pol4} {q0 q1 q2 : Rat} {K : Nat → Nat} {bb : Nat} (g4 : FitAt S a fi kd dg n P V Z 1 bg C len) (hO : FitOk kd n P V Z 1 bg C) (hf : frN kd dg f) (hR : Rw f n (tN kd P) (iN V) (iN Z)) (hk : kd = 2 → f = 2) (hfn : f < n) (e0 : q0F (C 0) = q0) (e1 : q1F (C 0) = xq1 kd q1) (e2 : q2F (C 0) = xq2 kd q1 q2) (hI : Inc f n K) (hQ : TurnQ f (tN kd P) (iN V) (iN Z) K q0 q1 q2) (hS : Stay f n (tN kd P) (iN V) (iN Z) K q0 q1 q2) (hB : Best f n (lB f n (tN kd P) (iN V) (iN Z)) (2 ^ n) bb) : f_X1_theTurns S a = some (nI bb) := by
  have hn := hO.1.1
  have hf3 := hR.1
  have hq2 : kd = 2 → q2 = 0 := fun z => hQ.1.1 (by have := hk z; omega)
  have hm := mF_mr hO e0 e1 e2 hq2
  have hd := (hO.2.1 0 (Or.inr rfl)).1.1
  obtain ⟨r, r1, r2⟩ := p_farthestF g4 hO (by omega)
  obtain ⟨Lv, hLv⟩ : ∃ z, z = (mAF P V Z 1 bg C r).natAbs := ⟨_, rfl⟩
  have hLb := (mF_bd hO r2.1).1
  have mFd : ∀ i, mF P V Z 1 bg C i = Rat.divInt (mAF P V Z 1 bg C i) (C 0).2.2.2 := fun i => rfl
  have maxE : (mF P V Z 1 bg C r).abs = (hK f (tN kd P) (iN V) (iN Z) K).abs := by
    apply Rat.le_antisymm
    · rw [hm]; exact hS r r2.1
    · rw [← hQ.z, ← hm]; exact r2.2.1 _ (hI.1 0 (by omega))
  have farE : ∀ i, (mF P V Z 1 bg C i).abs = (hK f (tN kd P) (iN V) (iN Z) K).abs → (mAF P V Z 1 bg C i).natAbs = Lv := by
    intro i hi
    rw [← maxE, mFd, mFd, dv_abs hd, dv_abs hd] at hi
    have := dv_inj hd hi
    omega
  -- the best turns
  have hT := hB.1
  have hE := hT.en hn
  obtain ⟨hQ', hA'⟩ := best_poly hR hI hQ hS hB hE
  have hI' := hE.inc
  have h1 : ∀ j, j ≤ f → (mAF P V Z 1 bg C (kB n bb j)).natAbs = Lv := fun j hj => farE _ (by rw [hm, hQ'.abs j hj, hA'])
  have h2 : ∀ j, j < f → mAF P V Z 1 bg C (kB n bb (j + 1)) = -mAF P V Z 1 bg C (kB n bb j) := by
    intro j hj
    have a1 := sg_2 (hQ'.2 (j + 1) (by omega))
    have a2 := sg_2 (hQ'.2 j (by omega))
    have a3 : mF P V Z 1 bg C (kB n bb (j + 1)) = -mF P V Z 1 bg C (kB n bb j) := by
      rw [hm, hm, a1, a2]
      rcases sgR j with ⟨a, q⟩ | ⟨a, q⟩
      · rcases sgR (j + 1) with ⟨c, z⟩ | ⟨c, z⟩
        · omega
        · rw [q, z]; grind
      · rcases sgR (j + 1) with ⟨c, z⟩ | ⟨c, z⟩
        · rw [q, z]; grind
        · omega
    rw [mFd, mFd, dv_neg] at a3
    exact dv_inj hd a3
  obtain ⟨i', k', G, l1, l2, l3, l4, l5⟩ := p_tt_lp g4 hO hf (by omega) (Lv := Lv) (by omega) n 0 0 (fun _ => 0) 0 (by omega) (by omega) (by omega) GI.z (fun h => by omega)
  obtain ⟨hk', hle⟩ := l5.min (n := n) (by omega) l4 hI' h1 h2
  subst hk'
  have hIG : Inc f n G := ⟨fun j hj => by have := (l5.1 j (by omega)).1; omega, fun j hj => (l5.2.1 j (by omega)).1⟩
  have altG : ∀ j, j < f → mr (tN kd P) (iN V) (iN Z) q0 q1 q2 (G (j + 1)) = -mr (tN kd P) (iN V) (iN Z) q0 q1 q2 (G j) := by
    intro j hj
    rw [← hm, ← hm, mFd, mFd, dv_neg, (l5.2.1 j (by omega)).2]
  have hcst := sg_alt (f := f) (g := fun j => mr (tN kd P) (iN V) (iN Z) q0 q1 q2 (G j)) altG
  have hKG := alt_hK hR hIG hQ.1 (q0 := q0) hcst
  have hGabs : (hK f (tN kd P) (iN V) (iN Z) G).abs = (hK f (tN kd P) (iN V) (iN Z) K).abs := by
    rw [hKG, ← maxE, ← hm, mFd, mFd, dv_abs hd, dv_abs hd, (l5.1 0 (by omega)).2, hLv]
  have hbG := bsum_of hIG hn
  obtain ⟨hltG, hEG⟩ := enum_of hIG hbG
  have hTG : IsT f n (bsum G (f + 1)) := ⟨hltG, by rw [pcn_top hltG 12 hn]; exact hEG.2.2.2.symm⟩
  have lG := lB_e (t := tN kd P) (v := iN V) (w := iN Z) hf3 hTG hn hEG
  have lb := lB_e (t := tN kd P) (v := iN V) (w := iN Z) hf3 hT hn hE
  have hna : ¬ Ahead (bsum G (f + 1)) bb := by
    rcases hB.2 _ hltG hTG with z | ⟨-, z⟩
    · rw [← lG, ← lb, hGabs, hA'] at z
      exact absurd z Rat.lt_irrefl
    · exact z
  have hbits := best_bits hE hEG hle hna hT.1 hltG hn
  unfold f_X1_theTurns
  rw [z_chk_t g4.1.is, r1, z_bd_s, z_chk_t g4.1.is, p_missSizeF g4 hO r2.1, z_bd_s, ← hLv, show ((0 : Int32), (0 : Int32), (0 : Int32), (0 : Int32)) = (nI (bsum (fun _ => 0) 0), nI 0, (0 : Int32), nI 0) from rfl, l1, z_bd_s, hbits]
theorem c_turns (hT : TopAt S o (nI cnt) st) (hF : FitsOk S M o cnt F ln) (a0 : Int32) : ∃ r M', f_X7_turns S o a0 = some r ∧ f_X8_turns M a0 = some (r, M') ∧ Scr M M' := by
  unfold f_X7_turns f_X8_turns
  rw [z_chk_t (t_is hT)]
  rcases z_fit hT hF a0 with ⟨h1, h2⟩ | ⟨fi, a, f1, f2, rfl, f3, f4, f5⟩
  · exact ⟨_, M, by rw [h2, z_bd_s, z_mt_N], by rw [h1, z_bd_s, if_pos rfl], Scr.rf⟩
  · obtain ⟨g1, g2, g3, kd, dg, n, P, V, Z, pc, bg, C, g4, g5, g6, g7⟩ := f5
    have hn := g5.1.1
    have q10 : z_in (nI fi) 10 := by rw [n_in (by omega)]; exact f2
    simp only [z_chk_t q10]
    rw [f4, z_bd_s, z_mt_S, f3, z_bd_s, if_neg z_10, z_chk_t g4.1.is, n_cl (by omega), g6.1.1]
    by_cases hk : kd = 1 ∨ kd = 2
    · obtain ⟨f, x1, x2, x3, x4, x5⟩ := g7 hk
      have hR := (tN_Ld kd P V Z n).rw g5.1 x4 (by omega) x2 x3
      obtain ⟨best, av, bv, M', b1, b2, b3⟩ := m_best g6.1 g5.1 hF.2.1 f1 hF.2.2.1 hk x1 hR
      have href : (if kd = (1 : Int32) then z_bd2 (f_X8_bestTurns M (nI fi)) fun r_3 M_2 => some (r_3, M_2) else if kd = (2 : Int32) then z_bd2 (f_X8_bestTurns M (nI fi)) fun r_5 M_4 => some (r_5, M_4) else some ((-1 : Int32), M)) = some (best, M') := by
        rw [b1, z_bd2_s]
        rcases hk with z | z
        · rw [if_pos z]
        · rw [if_neg (by rw [z]; decide), if_pos z]
      rw [href, p_hasT g4.1 g4.2.1 hn hk x1 (by omega), z_bd_s]
      by_cases y : n ≤ f
      · rw [if_pos y, if_pos rfl]
        refine ⟨-1, M', rfl, ?_, b2⟩
        rcases b3 with ⟨c1, -⟩ | ⟨bb, -, c2, -⟩
        · rw [c1]
        · have := c2.1.lt hn; omega
      · rw [if_neg y, if_neg z_10, z_chk_t g4.1.is]
        obtain ⟨q0, q1, q2, K, e0, e1, e2, hI, hQ, hS⟩ := x5 (by omega)
        have pc1 : pc = 1 := by
          rcases g5.2.2.1 with z | z
          · rcases hk with w | w <;> (rw [w] at z; exact absurd z (by decide))
          · exact z
        subst pc1
        rcases b3 with ⟨-, c1⟩ | ⟨bb, c1, c2, -⟩
        · exfalso
          obtain ⟨hlt, hE⟩ := enum_of hI (bsum_of hI hn)
          exact c1 _ hlt ⟨hlt, by rw [pcn_top hlt 12 hn]; exact hE.2.2.2.symm⟩
        · exact ⟨nI bb, M', by rw [p_theTurns g4 g5 x1 hR x3 (by omega) e0 e1 e2 hI hQ hS c2, z_bd_s], by rw [c1], b2⟩
    · refine ⟨-1, M, ?_, by rw [if_neg (fun z => hk (Or.inl z)), if_neg (fun z => hk (Or.inr z))], Scr.rf⟩
      unfold f_X1_hasTurns
      rw [g4.1.i1, z_bd_s, if_neg (fun z => hk (Or.inl z)), z_bd_s, if_neg (fun z => hk (Or.inr z)), z_bd_s, if_pos rfl]
end C4
