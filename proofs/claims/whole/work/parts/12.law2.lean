theorem gd_7 : ∀ j, j < 8 → defaultValue (tyX7 j) = vp_V [.null, .null, .null, .null, .null, .null, .int 0, .int 0] j := by
  intro j hj
  rcases (show j = 0 ∨ j = 1 ∨ j = 2 ∨ j = 3 ∨ j = 4 ∨ j = 5 ∨ j = 6 ∨ j = 7 by omega) with rfl | rfl | rfl | rfl | rfl | rfl | rfl | rfl <;> rfl
theorem gd_8 : ∀ j, j < 35 → defaultValue (tyX8 j) = vp_V [.null, .null, .null, .null, .int 0, .null, .null, .null, .null, .null, .null, .null, .null, .null, .null, .null, .null, .null, .int 0, .null, .int 0, .long 0, .long 0, .null, .null, .null, .long 0, .long 0, .null, .null, .null, .null, .null, .long 0, .long 0] j := by
  intro j hj
  rcases (show j = 0 ∨ j = 1 ∨ j = 2 ∨ j = 3 ∨ j = 4 ∨ j = 5 ∨ j = 6 ∨ j = 7 ∨ j = 8 ∨ j = 9 ∨ j = 10 ∨ j = 11 ∨ j = 12 ∨ j = 13 ∨ j = 14 ∨ j = 15 ∨ j = 16 ∨ j = 17 ∨ j = 18 ∨ j = 19 ∨ j = 20 ∨ j = 21 ∨ j = 22 ∨ j = 23 ∨ j = 24 ∨ j = 25 ∨ j = 26 ∨ j = 27 ∨ j = 28 ∨ j = 29 ∨ j = 30 ∨ j = 31 ∨ j = 32 ∨ j = 33 ∨ j = 34 by omega) with rfl | rfl | rfl | rfl | rfl | rfl | rfl | rfl | rfl | rfl | rfl | rfl | rfl | rfl | rfl | rfl | rfl | rfl | rfl | rfl | rfl | rfl | rfl | rfl | rfl | rfl | rfl | rfl | rfl | rfl | rfl | rfl | rfl | rfl | rfl <;> rfl
/-- the reference's cells, as the heap map has them -/
def m_PE (o : Nat) (M : MS) : List PE := [.inr (.inr (.inr (8, m_F o M))), .inl (6, M.1 0), .inl (72, M.1 1), .inl (72, M.1 2), .inl (72, M.1 3), .inl (10, M.1 5), .inl (10, M.1 6), .inl (10, M.1 7), .inl (120, M.1 8), .inl (120, M.1 9), .inl (120, M.1 10), .inl (10, M.1 11), .inl (120, M.1 12), .inr (.inl (360, M.2 13)), .inr (.inl (360, M.2 14)), .inl (4, M.1 15), .inl (4, M.1 16), .inl (160, M.1 17), .inl (50, M.1 19), .inl (12, M.1 23), .inr (.inl (3, M.2 24)), .inr (.inl (3, M.2 25)), .inr (.inl (3, M.2 28)), .inr (.inl (3, M.2 29)), .inl (12, M.1 30), .inl (12, M.1 31), .inl (12, M.1 32)]
theorem m_PE_W (cs : Nat → ClassId) (o : Nat) (M : MS) : ∀ (j : Nat) (q : Nat × va_E), (m_W (cs 0) (cs 1) o M)[j]? = some q → ∃ x, (m_PE o M)[j]? = some x ∧ q = (o + j, g_E cs x) := by
  intro j q h
  have hlt : j < 27 := (List.getElem?_eq_some_iff.mp h).1
  match j, hlt, h with
  | 0, _, h => cases h; exact ⟨_, rfl, rfl⟩
  | 1, _, h => cases h; exact ⟨_, rfl, rfl⟩
  | 2, _, h => cases h; exact ⟨_, rfl, rfl⟩
  | 3, _, h => cases h; exact ⟨_, rfl, rfl⟩
  | 4, _, h => cases h; exact ⟨_, rfl, rfl⟩
  | 5, _, h => cases h; exact ⟨_, rfl, rfl⟩
  | 6, _, h => cases h; exact ⟨_, rfl, rfl⟩
  | 7, _, h => cases h; exact ⟨_, rfl, rfl⟩
  | 8, _, h => cases h; exact ⟨_, rfl, rfl⟩
  | 9, _, h => cases h; exact ⟨_, rfl, rfl⟩
  | 10, _, h => cases h; exact ⟨_, rfl, rfl⟩
  | 11, _, h => cases h; exact ⟨_, rfl, rfl⟩
  | 12, _, h => cases h; exact ⟨_, rfl, rfl⟩
  | 13, _, h => cases h; exact ⟨_, rfl, rfl⟩
  | 14, _, h => cases h; exact ⟨_, rfl, rfl⟩
  | 15, _, h => cases h; exact ⟨_, rfl, rfl⟩
  | 16, _, h => cases h; exact ⟨_, rfl, rfl⟩
  | 17, _, h => cases h; exact ⟨_, rfl, rfl⟩
  | 18, _, h => cases h; exact ⟨_, rfl, rfl⟩
  | 19, _, h => cases h; exact ⟨_, rfl, rfl⟩
  | 20, _, h => cases h; exact ⟨_, rfl, rfl⟩
  | 21, _, h => cases h; exact ⟨_, rfl, rfl⟩
  | 22, _, h => cases h; exact ⟨_, rfl, rfl⟩
  | 23, _, h => cases h; exact ⟨_, rfl, rfl⟩
  | 24, _, h => cases h; exact ⟨_, rfl, rfl⟩
  | 25, _, h => cases h; exact ⟨_, rfl, rfl⟩
  | 26, _, h => cases h; exact ⟨_, rfl, rfl⟩
theorem m_PE_P {D : va_G} {cs : Nat → ClassId} {A : Nat → Prop} {S : GS} {H : Heap} {o : Nat} {M : MS} (hP : g_P D cs A S H) (h : ∀ (j : Nat) (x : PE), (m_PE o M)[j]? = some x → S.1 (o + j) = some x) : va_P D z_cls (m_W (cs 0) (cs 1) o M) H := by
  intro j q hq
  obtain ⟨x, h1, rfl⟩ := m_PE_W cs o M j q hq
  exact (hP.2 _ _ (h j x h1)).1
theorem z_out_0_29 {x : Int32} (h0 : ¬ x = 0) (h1 : ¬ x = 1) (h2 : ¬ x = 2) (h3 : ¬ x = 3) (h4 : ¬ x = 4) (h5 : ¬ x = 5) (h6 : ¬ x = 6) (h7 : ¬ x = 7) (h8 : ¬ x = 8) (h9 : ¬ x = 9) (h10 : ¬ x = 10) (h11 : ¬ x = 11) (h12 : ¬ x = 12) (h13 : ¬ x = 13) (h14 : ¬ x = 14) (h15 : ¬ x = 15) (h16 : ¬ x = 16) (h17 : ¬ x = 17) (h18 : ¬ x = 18) (h19 : ¬ x = 19) (h20 : ¬ x = 20) (h21 : ¬ x = 21) (h22 : ¬ x = 22) (h23 : ¬ x = 23) (h24 : ¬ x = 24) (h25 : ¬ x = 25) (h26 : ¬ x = 26) (h27 : ¬ x = 27) (h28 : ¬ x = 28) (h29 : ¬ x = 29) : x.toInt < 0 ∨ 29 < x.toInt := by
  have g0 : x.toInt ≠ 0 := fun q => h0 (Int32.toInt_inj.mp q)
  have g1 : x.toInt ≠ 1 := fun q => h1 (Int32.toInt_inj.mp q)
  have g2 : x.toInt ≠ 2 := fun q => h2 (Int32.toInt_inj.mp q)
  have g3 : x.toInt ≠ 3 := fun q => h3 (Int32.toInt_inj.mp q)
  have g4 : x.toInt ≠ 4 := fun q => h4 (Int32.toInt_inj.mp q)
  have g5 : x.toInt ≠ 5 := fun q => h5 (Int32.toInt_inj.mp q)
  have g6 : x.toInt ≠ 6 := fun q => h6 (Int32.toInt_inj.mp q)
  have g7 : x.toInt ≠ 7 := fun q => h7 (Int32.toInt_inj.mp q)
  have g8 : x.toInt ≠ 8 := fun q => h8 (Int32.toInt_inj.mp q)
  have g9 : x.toInt ≠ 9 := fun q => h9 (Int32.toInt_inj.mp q)
  have g10 : x.toInt ≠ 10 := fun q => h10 (Int32.toInt_inj.mp q)
  have g11 : x.toInt ≠ 11 := fun q => h11 (Int32.toInt_inj.mp q)
  have g12 : x.toInt ≠ 12 := fun q => h12 (Int32.toInt_inj.mp q)
  have g13 : x.toInt ≠ 13 := fun q => h13 (Int32.toInt_inj.mp q)
  have g14 : x.toInt ≠ 14 := fun q => h14 (Int32.toInt_inj.mp q)
  have g15 : x.toInt ≠ 15 := fun q => h15 (Int32.toInt_inj.mp q)
  have g16 : x.toInt ≠ 16 := fun q => h16 (Int32.toInt_inj.mp q)
  have g17 : x.toInt ≠ 17 := fun q => h17 (Int32.toInt_inj.mp q)
  have g18 : x.toInt ≠ 18 := fun q => h18 (Int32.toInt_inj.mp q)
  have g19 : x.toInt ≠ 19 := fun q => h19 (Int32.toInt_inj.mp q)
  have g20 : x.toInt ≠ 20 := fun q => h20 (Int32.toInt_inj.mp q)
  have g21 : x.toInt ≠ 21 := fun q => h21 (Int32.toInt_inj.mp q)
  have g22 : x.toInt ≠ 22 := fun q => h22 (Int32.toInt_inj.mp q)
  have g23 : x.toInt ≠ 23 := fun q => h23 (Int32.toInt_inj.mp q)
  have g24 : x.toInt ≠ 24 := fun q => h24 (Int32.toInt_inj.mp q)
  have g25 : x.toInt ≠ 25 := fun q => h25 (Int32.toInt_inj.mp q)
  have g26 : x.toInt ≠ 26 := fun q => h26 (Int32.toInt_inj.mp q)
  have g27 : x.toInt ≠ 27 := fun q => h27 (Int32.toInt_inj.mp q)
  have g28 : x.toInt ≠ 28 := fun q => h28 (Int32.toInt_inj.mp q)
  have g29 : x.toInt ≠ 29 := fun q => h29 (Int32.toInt_inj.mp q)
  omega
theorem z_nIadd (a b : Nat) : nI a + nI b = nI (a + b) := by
  unfold nI
  exact (Int32.ofNat_add a b).symm
theorem z_li {L k : Nat} (hL : L ≤ 3072) (hk : k ≤ 512) (h : ¬ (nI L - 6 < nI (6 * k))) : 6 * k + 6 ≤ L := by
  have hz : (nI (6 * k)).toInt = ((6 * k : Nat) : Int) := nI_toInt (by omega)
  rcases Nat.lt_or_ge L 6 with q | q
  · exfalso
    apply h
    rw [Int32.lt_iff_toInt_lt, hz]
    have : (nI L - 6).toInt < 0 := by
      rcases (show L = 0 ∨ L = 1 ∨ L = 2 ∨ L = 3 ∨ L = 4 ∨ L = 5 by omega) with rfl | rfl | rfl | rfl | rfl | rfl <;> decide
    omega
  · have e1 : nI L - 6 = nI (L - 6) := by
      have e2 : nI L = nI (L - 6) + 6 := by
        have e3 : (6 : Int32) = nI 6 := by decide
        rw [e3, z_nIadd]
        congr 1
        omega
      rw [e2]
      exact Int32.add_sub_cancel _ _
    rw [e1, Int32.lt_iff_toInt_lt, hz, nI_toInt (by omega)] at h
    omega
theorem z_ix {L k : Nat} (hL : L ≤ 3072) (h : 6 * k + 6 ≤ L) (j : Nat) (hj : j < 6) : vp_in (nI (6 * k) + nI j) L := by
  rw [z_nIadd]
  exact vp_in_nI (by omega) (by omega)
/-- every call: class and reference answer alike, and what is held goes on being held -/
def z_Good (Inv : GS → MS → Prop) (o : Nat) : Prop := (∀ S M, Inv S M → g_is S 7 o) ∧ z_G_0 Inv o ∧ z_G_1 Inv o ∧ z_G_2 Inv o ∧ z_G_3 Inv o ∧ z_G_4 Inv o ∧ z_G_5 Inv o ∧ z_G_6 Inv o ∧ z_G_7 Inv o ∧ z_G_8 Inv o ∧ z_G_9 Inv o ∧ z_G_10 Inv o ∧ z_G_11 Inv o ∧ z_G_12 Inv o ∧ z_G_13 Inv o ∧ z_G_14 Inv o ∧ z_G_15 Inv o ∧ z_G_16 Inv o ∧ z_G_17 Inv o ∧ z_G_18 Inv o ∧ z_G_19 Inv o ∧ z_G_20 Inv o ∧ z_G_21 Inv o ∧ z_G_22 Inv o ∧ z_G_23 Inv o ∧ z_G_24 Inv o ∧ z_G_25 Inv o ∧ z_G_26 Inv o ∧ z_G_27 Inv o ∧ z_G_28 Inv o ∧ z_G_29 Inv o
/-- both constructors, from an empty heap that begins at an address -/
def z_Init (Inv : GS → MS → Prop) (base : Nat) : Prop := ∃ (S2 S4 : GS) (M0 : MS), f_X7_init (g_nw (fun _ => none, base) (.inr (.inr (.inr (7, [.null, .null, .null, .null, .null, .null, .int 0, .int 0]))))) base = some S2 ∧ f_X8_init (g_nw S2 (.inr (.inr (.inr (8, [.null, .null, .null, .null, .int 0, .null, .null, .null, .null, .null, .null, .null, .null, .null, .null, .null, .null, .null, .int 0, .null, .int 0, .long 0, .long 0, .null, .null, .null, .long 0, .long 0, .null, .null, .null, .null, .null, .long 0, .long 0]))))) S2.2 = some S4 ∧ base ≤ S2.2 ∧ (∀ (j : Nat) (x : PE), (m_PE S2.2 M0)[j]? = some x → S4.1 (S2.2 + j) = some x) ∧ Inv (fun a => if S2.2 ≤ a ∧ a < S2.2 + 27 then none else S4.1 a, S4.2) M0
set_option maxHeartbeats 4000000 in
set_option maxRecDepth 100000 in
theorem l_loop {p : Program} {l : Launch} {e : Env} {s : State} {m : MethodId} {below : List Frame} {meth : Method} {c : Code} {b L : Nat} {xs : Nat → Int32} {D : va_G} {cs : Nat → ClassId} {o1 o2 : Nat} {Inv : GS → MS → Prop} (hc : l_X p s m meth c b L xs D cs) (hL : L ≤ 3072) (hG : z_Good Inv o1) : ∀ (n k : Nat) (x3 : Int32) (S : GS) (M : MS), x3 = nI (6 * k) → k ≤ 512 → 513 ≤ n + k → Inv S M → l_At p l e s m below meth c b D cs o1 o2 18 (68 + k * 20) (2175 + k * 123) x3 S M := by
  obtain ⟨hob, hG0, hG1, hG2, hG3, hG4, hG5, hG6, hG7, hG8, hG9, hG10, hG11, hG12, hG13, hG14, hG15, hG16, hG17, hG18, hG19, hG20, hG21, hG22, hG23, hG24, hG25, hG26, hG27, hG28, hG29⟩ := hG
  have hx := hc.1.1
  have hb : c.code = code := hc.1.2.1
  intro n
  induction n with
  | zero => intro k x3 S M h1 h2 h3; omega
  | succ n ih =>
    intro k x3 S M hx3 hk hn hI H locs ls hw hl
    refine lv_iload_n hx hb dL_law_18 rfl (lv_at hl 3 rfl) ?_
    refine lv_aload_n hx hb dL_law_19 rfl (lv_at hl 0 rfl) ?_
    refine va_slen hx hb hc.2.2.2.2.1 hc.2.2.2.2.2.1 (Nat.not_le.mpr hc.2.2.2.2.2.1) hw.2.2.1 dL_law_20 ?_
    refine lv_bipush (v := 6) hx hb dL_law_21 (by decide) ?_
    refine lv_isub hx hb dL_law_23 ?_
    refine lv_icmp_gt (tgt := 1290) hx hb dL_law_24 (by decide) (fun cq => ?_) (fun cq => ?_)
    · refine lv_iconst (v := 1) hx hb dL_law_1290 (by decide) ?_
      refine va_forget (fun q hq => hw.2.2.1.2.2 q hq) ?_
      refine W.widen (k := 600000) (n := 7302250) (by omega) (by omega) ?_
      exact lw_ret hx hb hc.2.2.2.2.2.2.1 hc.2.2.2.2.2.2.2 dL_law_1291
    · have hk6 : 6 * k + 6 ≤ L := by
        rw [hx3] at cq
        exact z_li hL hk cq
      have hi0 : vp_in x3 L := by
        have h := z_ix hL hk6 0 (by omega)
        rw [z_nIadd] at h
        rw [hx3]
        exact h
      have hi1 : vp_in (x3 + 1) L := by rw [hx3]; exact z_ix hL hk6 1 (by omega)
      have hi2 : vp_in (x3 + 2) L := by rw [hx3]; exact z_ix hL hk6 2 (by omega)
      have hi3 : vp_in (x3 + 3) L := by rw [hx3]; exact z_ix hL hk6 3 (by omega)
      have hi4 : vp_in (x3 + 4) L := by rw [hx3]; exact z_ix hL hk6 4 (by omega)
      have hi5 : vp_in (x3 + 5) L := by rw [hx3]; exact z_ix hL hk6 5 (by omega)
      have NX : ∀ (S1 : GS) (M1 : MS), Inv S1 M1 → l_At p l e s m below meth c b D cs o1 o2 1284 (68 + k * 20 + 20) (2175 + k * 123 + 123) x3 S1 M1 := by
        intro S1 M1 hI1 H locs ls hw hl
        refine lv_iinc (v := x3 + 6) (lv' := [(3, .int (x3 + 6)), (0, .ref b), (1, .ref o1), (2, .ref o2)]) hx hb dL_law_1284 hl (k := 3) rfl rfl (by decide) rfl (fun ls hl => ?_)
        refine lv_goto (tgt := 18) hx hb dL_law_1287 (by decide) ?_
        have h6 : x3 + 6 = nI (6 * (k + 1)) := by
          rw [hx3]
          exact z_nIadd (6 * k) 6
        have h := ih (k + 1) (x3 + 6) S1 M1 h6 (by omega) (by omega) hI1
        rw [show 68 + (k + 1) * 20 = 68 + k * 20 + 20 by omega, show 2175 + (k + 1) * 123 = 2175 + k * 123 + 123 by omega] at h
        exact h H locs ls hw (lv_sub hl [1, 2, 3, 0] rfl)
      refine lv_aload_n hx hb dL_law_27 rfl (lv_at hl 0 rfl) ?_
      refine lv_iload_n hx hb dL_law_28 rfl (lv_at hl 3 rfl) ?_
      refine l_sld hc hw.2.2.1 hi0 dL_law_29 ?_
      refine lv_bipush (v := 31) hx hb dL_law_30 (by decide) ?_
      refine lv_iand hx hb dL_law_32 ?_
      by_cases q0 : (xs x3.toNatClampNeg &&& 31) = 0
      · refine lv_tableIn (off := 135) (tgt := 168) hx hb dL_law_33 (by rw [q0]; decide) (by rw [q0]; decide) (by rw [q0]; rfl) (by decide) ?_
        exact l_case_0 hc hG0 hob hI hi1 hi2 hi3 hi4 hi5 (by omega) (by omega) NX H locs ls hw hl
      · by_cases q1 : (xs x3.toNatClampNeg &&& 31) = 1
        · refine lv_tableIn (off := 188) (tgt := 221) hx hb dL_law_33 (by rw [q1]; decide) (by rw [q1]; decide) (by rw [q1]; rfl) (by decide) ?_
          exact l_case_1 hc hG1 hob hI hi1 hi2 hi3 hi4 hi5 (by omega) (by omega) NX H locs ls hw hl
        · by_cases q2 : (xs x3.toNatClampNeg &&& 31) = 2
          · refine lv_tableIn (off := 221) (tgt := 254) hx hb dL_law_33 (by rw [q2]; decide) (by rw [q2]; decide) (by rw [q2]; rfl) (by decide) ?_
            exact l_case_2 hc hG2 hob hI hi1 hi2 hi3 hi4 hi5 (by omega) (by omega) NX H locs ls hw hl
          · by_cases q3 : (xs x3.toNatClampNeg &&& 31) = 3
            · refine lv_tableIn (off := 284) (tgt := 317) hx hb dL_law_33 (by rw [q3]; decide) (by rw [q3]; decide) (by rw [q3]; rfl) (by decide) ?_
              exact l_case_3 hc hG3 hob hI hi1 hi2 hi3 hi4 hi5 (by omega) (by omega) NX H locs ls hw hl
            · by_cases q4 : (xs x3.toNatClampNeg &&& 31) = 4
              · refine lv_tableIn (off := 317) (tgt := 350) hx hb dL_law_33 (by rw [q4]; decide) (by rw [q4]; decide) (by rw [q4]; rfl) (by decide) ?_
                exact l_case_4 hc hG4 hob hI hi1 hi2 hi3 hi4 hi5 (by omega) (by omega) NX H locs ls hw hl
              · by_cases q5 : (xs x3.toNatClampNeg &&& 31) = 5
                · refine lv_tableIn (off := 340) (tgt := 373) hx hb dL_law_33 (by rw [q5]; decide) (by rw [q5]; decide) (by rw [q5]; rfl) (by decide) ?_
                  exact l_case_5 hc hG5 hob hI hi1 hi2 hi3 hi4 hi5 (by omega) (by omega) NX H locs ls hw hl
                · by_cases q6 : (xs x3.toNatClampNeg &&& 31) = 6
                  · refine lv_tableIn (off := 383) (tgt := 416) hx hb dL_law_33 (by rw [q6]; decide) (by rw [q6]; decide) (by rw [q6]; rfl) (by decide) ?_
                    exact l_case_6 hc hG6 hob hI hi1 hi2 hi3 hi4 hi5 (by omega) (by omega) NX H locs ls hw hl
                  · by_cases q7 : (xs x3.toNatClampNeg &&& 31) = 7
                    · refine lv_tableIn (off := 436) (tgt := 469) hx hb dL_law_33 (by rw [q7]; decide) (by rw [q7]; decide) (by rw [q7]; rfl) (by decide) ?_
                      exact l_case_7 hc hG7 hob hI hi1 hi2 hi3 hi4 hi5 (by omega) (by omega) NX H locs ls hw hl
                    · by_cases q8 : (xs x3.toNatClampNeg &&& 31) = 8
                      · refine lv_tableIn (off := 449) (tgt := 482) hx hb dL_law_33 (by rw [q8]; decide) (by rw [q8]; decide) (by rw [q8]; rfl) (by decide) ?_
                        exact l_case_8 hc hG8 hob hI hi1 hi2 hi3 hi4 hi5 (by omega) (by omega) NX H locs ls hw hl
                      · by_cases q9 : (xs x3.toNatClampNeg &&& 31) = 9
                        · refine lv_tableIn (off := 493) (tgt := 526) hx hb dL_law_33 (by rw [q9]; decide) (by rw [q9]; decide) (by rw [q9]; rfl) (by decide) ?_
                          exact l_case_9 hc hG9 hob hI hi1 hi2 hi3 hi4 hi5 (by omega) (by omega) NX H locs ls hw hl
                        · by_cases q10 : (xs x3.toNatClampNeg &&& 31) = 10
                          · refine lv_tableIn (off := 516) (tgt := 549) hx hb dL_law_33 (by rw [q10]; decide) (by rw [q10]; decide) (by rw [q10]; rfl) (by decide) ?_
                            exact l_case_10 hc hG10 hob hI hi1 hi2 hi3 hi4 hi5 (by omega) (by omega) NX H locs ls hw hl
                          · by_cases q11 : (xs x3.toNatClampNeg &&& 31) = 11
                            · refine lv_tableIn (off := 549) (tgt := 582) hx hb dL_law_33 (by rw [q11]; decide) (by rw [q11]; decide) (by rw [q11]; rfl) (by decide) ?_
                              exact l_case_11 hc hG11 hob hI hi1 hi2 hi3 hi4 hi5 (by omega) (by omega) NX H locs ls hw hl
                            · by_cases q12 : (xs x3.toNatClampNeg &&& 31) = 12
                              · refine lv_tableIn (off := 603) (tgt := 636) hx hb dL_law_33 (by rw [q12]; decide) (by rw [q12]; decide) (by rw [q12]; rfl) (by decide) ?_
                                exact l_case_12 hc hG12 hob hI hi1 hi2 hi3 hi4 hi5 (by omega) (by omega) NX H locs ls hw hl
                              · by_cases q13 : (xs x3.toNatClampNeg &&& 31) = 13
                                · refine lv_tableIn (off := 647) (tgt := 680) hx hb dL_law_33 (by rw [q13]; decide) (by rw [q13]; decide) (by rw [q13]; rfl) (by decide) ?_
                                  exact l_case_13 hc hG13 hob hI hi1 hi2 hi3 hi4 hi5 (by omega) (by omega) NX H locs ls hw hl
                                · by_cases q14 : (xs x3.toNatClampNeg &&& 31) = 14
                                  · refine lv_tableIn (off := 691) (tgt := 724) hx hb dL_law_33 (by rw [q14]; decide) (by rw [q14]; decide) (by rw [q14]; rfl) (by decide) ?_
                                    exact l_case_14 hc hG14 hob hI hi1 hi2 hi3 hi4 hi5 (by omega) (by omega) NX H locs ls hw hl
                                  · by_cases q15 : (xs x3.toNatClampNeg &&& 31) = 15
                                    · refine lv_tableIn (off := 725) (tgt := 758) hx hb dL_law_33 (by rw [q15]; decide) (by rw [q15]; decide) (by rw [q15]; rfl) (by decide) ?_
                                      exact l_case_15 hc hG15 hob hI hi1 hi2 hi3 hi4 hi5 (by omega) (by omega) NX H locs ls hw hl
                                    · by_cases q16 : (xs x3.toNatClampNeg &&& 31) = 16
                                      · refine lv_tableIn (off := 758) (tgt := 791) hx hb dL_law_33 (by rw [q16]; decide) (by rw [q16]; decide) (by rw [q16]; rfl) (by decide) ?_
                                        exact l_case_16 hc hG16 hob hI hi1 hi2 hi3 hi4 hi5 (by omega) (by omega) NX H locs ls hw hl
                                      · by_cases q17 : (xs x3.toNatClampNeg &&& 31) = 17
                                        · refine lv_tableIn (off := 791) (tgt := 824) hx hb dL_law_33 (by rw [q17]; decide) (by rw [q17]; decide) (by rw [q17]; rfl) (by decide) ?_
                                          exact l_case_17 hc hG17 hob hI hi1 hi2 hi3 hi4 hi5 (by omega) (by omega) NX H locs ls hw hl
                                        · by_cases q18 : (xs x3.toNatClampNeg &&& 31) = 18
                                          · refine lv_tableIn (off := 814) (tgt := 847) hx hb dL_law_33 (by rw [q18]; decide) (by rw [q18]; decide) (by rw [q18]; rfl) (by decide) ?_
                                            exact l_case_18 hc hG18 hob hI hi1 hi2 hi3 hi4 hi5 (by omega) (by omega) NX H locs ls hw hl
                                          · by_cases q19 : (xs x3.toNatClampNeg &&& 31) = 19
                                            · refine lv_tableIn (off := 858) (tgt := 891) hx hb dL_law_33 (by rw [q19]; decide) (by rw [q19]; decide) (by rw [q19]; rfl) (by decide) ?_
                                              exact l_case_19 hc hG19 hob hI hi1 hi2 hi3 hi4 hi5 (by omega) (by omega) NX H locs ls hw hl
                                            · by_cases q20 : (xs x3.toNatClampNeg &&& 31) = 20
                                              · refine lv_tableIn (off := 891) (tgt := 924) hx hb dL_law_33 (by rw [q20]; decide) (by rw [q20]; decide) (by rw [q20]; rfl) (by decide) ?_
                                                exact l_case_20 hc hG20 hob hI hi1 hi2 hi3 hi4 hi5 (by omega) (by omega) NX H locs ls hw hl
                                              · by_cases q21 : (xs x3.toNatClampNeg &&& 31) = 21
                                                · refine lv_tableIn (off := 924) (tgt := 957) hx hb dL_law_33 (by rw [q21]; decide) (by rw [q21]; decide) (by rw [q21]; rfl) (by decide) ?_
                                                  exact l_case_21 hc hG21 hob hI hi1 hi2 hi3 hi4 hi5 (by omega) (by omega) NX H locs ls hw hl
                                                · by_cases q22 : (xs x3.toNatClampNeg &&& 31) = 22
                                                  · refine lv_tableIn (off := 957) (tgt := 990) hx hb dL_law_33 (by rw [q22]; decide) (by rw [q22]; decide) (by rw [q22]; rfl) (by decide) ?_
                                                    exact l_case_22 hc hG22 hob hI hi1 hi2 hi3 hi4 hi5 (by omega) (by omega) NX H locs ls hw hl
                                                  · by_cases q23 : (xs x3.toNatClampNeg &&& 31) = 23
                                                    · refine lv_tableIn (off := 990) (tgt := 1023) hx hb dL_law_33 (by rw [q23]; decide) (by rw [q23]; decide) (by rw [q23]; rfl) (by decide) ?_
                                                      exact l_case_23 hc hG23 hob hI hi1 hi2 hi3 hi4 hi5 (by omega) (by omega) NX H locs ls hw hl
                                                    · by_cases q24 : (xs x3.toNatClampNeg &&& 31) = 24
                                                      · refine lv_tableIn (off := 1033) (tgt := 1066) hx hb dL_law_33 (by rw [q24]; decide) (by rw [q24]; decide) (by rw [q24]; rfl) (by decide) ?_
                                                        exact l_case_24 hc hG24 hob hI hi1 hi2 hi3 hi4 hi5 (by omega) (by omega) NX H locs ls hw hl
                                                      · by_cases q25 : (xs x3.toNatClampNeg &&& 31) = 25
                                                        · refine lv_tableIn (off := 1056) (tgt := 1089) hx hb dL_law_33 (by rw [q25]; decide) (by rw [q25]; decide) (by rw [q25]; rfl) (by decide) ?_
                                                          exact l_case_25 hc hG25 hob hI hi1 hi2 hi3 hi4 hi5 (by omega) (by omega) NX H locs ls hw hl
                                                        · by_cases q26 : (xs x3.toNatClampNeg &&& 31) = 26
                                                          · refine lv_tableIn (off := 1099) (tgt := 1132) hx hb dL_law_33 (by rw [q26]; decide) (by rw [q26]; decide) (by rw [q26]; rfl) (by decide) ?_
                                                            exact l_case_26 hc hG26 hob hI hi1 hi2 hi3 hi4 hi5 (by omega) (by omega) NX H locs ls hw hl
                                                          · by_cases q27 : (xs x3.toNatClampNeg &&& 31) = 27
                                                            · refine lv_tableIn (off := 1142) (tgt := 1175) hx hb dL_law_33 (by rw [q27]; decide) (by rw [q27]; decide) (by rw [q27]; rfl) (by decide) ?_
                                                              exact l_case_27 hc hG27 hob hI hi1 hi2 hi3 hi4 hi5 (by omega) (by omega) NX H locs ls hw hl
                                                            · by_cases q28 : (xs x3.toNatClampNeg &&& 31) = 28
                                                              · refine lv_tableIn (off := 1195) (tgt := 1228) hx hb dL_law_33 (by rw [q28]; decide) (by rw [q28]; decide) (by rw [q28]; rfl) (by decide) ?_
                                                                exact l_case_28 hc hG28 hob hI hi1 hi2 hi3 hi4 hi5 (by omega) (by omega) NX H locs ls hw hl
                                                              · by_cases q29 : (xs x3.toNatClampNeg &&& 31) = 29
                                                                · refine lv_tableIn (off := 1238) (tgt := 1271) hx hb dL_law_33 (by rw [q29]; decide) (by rw [q29]; decide) (by rw [q29]; rfl) (by decide) ?_
                                                                  exact l_case_29 hc hG29 hob hI hi1 hi2 hi3 hi4 hi5 (by omega) (by omega) NX H locs ls hw hl
                                                                · refine lv_tableOut (tgt := 1284) hx hb dL_law_33 (z_out_0_29 q0 q1 q2 q3 q4 q5 q6 q7 q8 q9 q10 q11 q12 q13 q14 q15 q16 q17 q18 q19 q20 q21 q22 q23 q24 q25 q26 q27 q28 q29) (by decide) ?_
                                                                  refine W.widen (k := 68 + k * 20 + 20) (n := 2175 + k * 123 + 123) (by omega) (by omega) ?_
                                                                  exact NX S M hI H locs ls hw hl
