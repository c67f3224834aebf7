noncomputable def f_X7_partedFit_L83 (S : GS) (a1 : Int32) (a2 : Int32) (a_18 : Nat) (o : Nat) (x6_7 : Int32) (x8_20 : Int32) (S_21 : GS) : Option ((Int32 × GS) ⊕ (Int32 × GS)) :=
  z_bd (g_r S_21 1 3 S.2) fun f_24 => z_bd (g_i S_21 3 3 f_24) fun f_25 => if f_25 ≤ x8_20 then some (.inl (x8_20, S_21)) else z_bd (g_r S_21 7 3 o) fun f_26 => z_chk (g_is S_21 2 f_26) (z_bd (f_X2_levelRow S_21 f_26 S.2 x6_7 (x8_20 + (1 : Int32))) fun S_27 => z_bd (g_r S_27 7 3 o) fun f_28 => z_chk (g_is S_27 2 f_28) (z_bd (f_X2_levelIsAtMost S_27 f_28 a1 a2) fun r_29 => if r_29 = 0 then some (.inl (x8_20, S_27)) else z_bd (g_r S_27 7 3 o) fun f_30 => z_chk (g_is S_27 2 f_30) (z_bd (f_X2_hand S_27 f_30 a_18) fun S_31 => some (.inr ((x8_20 + 1), S_31)))))
noncomputable def f_X7_partedFit_L26 (S : GS) (a1 : Int32) (a2 : Int32) (o : Nat) (x6_7 : Int32) (x7_8 : Int32) (S_9 : GS) : Option ((GS) ⊕ (Int32 × Int32 × GS)) :=
  if (12 : Int32) ≤ x7_8 then some (.inl (S_9)) else z_bd (g_r S_9 1 3 S.2) fun f_11 => z_bd (g_i S_9 3 3 f_11) fun f_12 => if f_12 ≤ x6_7 then some (.inl (S_9)) else z_bd (g_r S_9 7 3 o) fun f_13 => z_chk (g_is S_9 2 f_13) (z_bd (f_X2_levelRow S_9 f_13 S.2 x6_7 (x6_7 + (1 : Int32))) fun S_14 => z_chk (g_is S_14 1 S.2) (z_bd2 (f_X1_addPart S_14 S.2 x6_7) fun q_16 S_15 => z_bd (g_r S_15 7 3 o) fun f_17 => z_bd q_16 fun a_18 => z_chk (g_is S_15 2 f_17) (z_bd (f_X2_hand S_15 f_17 a_18) fun S_19 => z_bd2 (z_lp (fun x => f_X7_partedFit_L83 S a1 a2 a_18 o x6_7 x.1 x.2) ((x6_7 + (1 : Int32)), S_19)) fun y8_22 S_23 => some (.inr (y8_22, (x7_8 + 1), S_23)))))
noncomputable def f_X7_partedFit (S : GS) (o : Nat) (a0 : Int32) (a1 : Int32) (a2 : Int32) (a3 : Nat) : Option ((Option Nat) × GS) :=
  z_lt (g_nw S (.inr (.inr (.inr (1, [.int 0, .int 0, .int 0, .null, .null, .null, .int 0]))))) fun S_1 => z_bd (g_i S_1 7 6 o) fun f_2 => z_chk (g_is S_1 3 a3) (z_bd2 (f_X3_copy S_1 a3 ) fun q_4 S_3 => z_bd q_4 fun a_5 => z_bd (f_X1_init S_3 S.2 f_2 (4 : Int32) a0 a_5) fun S_6 => z_bd (z_lp (fun x => f_X7_partedFit_L26 S a1 a2 o x.1 x.2.1 x.2.2) ((0 : Int32), (0 : Int32), S_6)) fun S_10 => some ((some S.2), S_10))
set_option maxHeartbeats 4000000 in
set_option maxRecDepth 100000 in
theorem mt_X7_partedFit (l : Launch) (D : va_G) (cs : Nat → ClassId) (A : Nat → Prop) (S : GS) (o : Nat) (a0 : Int32) (a1 : Int32) (a2 : Int32) (a3 : Nat) {r_ : Option Nat} {N_ : GS} (h : f_X7_partedFit S o a0 a1 a2 a3 = some (r_, N_)) : Met l yX7_partedFit (z_wd yX7_partedFit cX7_partedFit 10 (some (.object "LevelFits$Fit"))) (z_rmA 6 255 20 123) (va_Pc [.ref o, .int a0, .int a1, .int a2, .ref a3] (g_C D cs A S)) (g_Q (some (va_rf r_)) N_ D cs A) 20 123 A := by
  refine Met.ofW (cc := cX7_partedFit) (maxL := 10) (ret := (some (.object "LevelFits$Fit"))) (by decide) rfl ?_
  intro p e s m args below meth c s₁ B hml hv
  obtain ⟨hav, hP0, hK, hN, hSt, hAn⟩ := hv
  have hx := B.exec
  have hb := B.bytes
  have hr := B.returns
  have hts := atoms_spec (ws := z_wd yX7_partedFit cX7_partedFit 10 (some (.object "LevelFits$Fit"))) B.pre
  have hown : s.vm.findClass RX7 = some m.cls := findClass_of_methodNamed B.named
  have hlocks := B.notSynchronized
  have hc : g_X p s m args c cX7_partedFit 10 RX7 D cs A := ⟨⟨hx, hb, hml, fun w hw => hts w (List.mem_cons_of_mem _ hw), hown⟩, hK, hN, hSt, hAn⟩
  have hl := lv_entry ([.ref o, .int a0, .int a1, .int a2, .ref a3]) (n := 10) (Nat.le_of_ble_eq_true rfl)
  have hE : entryFrame m args 10 = F0 m 0 ((lg_sl ([.ref o, .int a0, .int a1, .int a2, .ref a3]) ++ List.replicate (10 - (lg_sl ([.ref o, .int a0, .int a1, .int a2, .ref a3])).length) Slot.unset).toArray) [] := by rw [hav]; exact lg_entry_eq m _ _
  rw [hE]
  clear hE hav
  generalize (lg_sl ([.ref o, .int a0, .int a1, .int a2, .ref a3]) ++ List.replicate (10 - (lg_sl ([.ref o, .int a0, .int a1, .int a2, .ref a3])).length) Slot.unset).toArray = ls at hl ⊢
  have hl : lv_has ls 10 [(0, .ref o), (1, .int a0), (2, .int a1), (3, .int a2), (4, .ref a3)] := hl
  obtain ⟨Q, hQ⟩ : ∃ Q, Q = MQ below (g_Q (some (va_rf r_)) N_ D cs A) args s 20 123 A := ⟨_, rfl⟩
  rw [← hQ]
  suffices hmain : ∀ (H : Heap) (locs : List Loc), g_P D cs A S H → va_S A s.heap H locs → W p l e (z_rmA 6 255 20 123) s m args below meth c H locs 0 0 Q (F0 m 0 ls []) from hmain s.heap [] hP0 va_S.rf
  clear hP0
  intro H locs hP hS
  unfold f_X7_partedFit at h
  obtain ⟨S_1, eS_1, h⟩ := z_lt_some h
  refine g_new (ci := 1) tyX1 hc hP hS rfl z_inX1 tyX1_ok wK_X7_15 wN_X1 wZ_X1 gd_1 (Nat.le_of_ble_eq_true rfl) (Nat.le_of_ble_eq_true rfl) eS_1 dX7_partedFit_0 (fun H hP hS => ?_)
  show W p l e (z_rmA 6 255 20 123) s m args below meth c H locs (1) (7) Q (F0 m 3 ls [.ref S.2])
  refine lv_dup hx hb dX7_partedFit_3 rfl ?_
  refine lv_aload_n hx hb dX7_partedFit_4 rfl (lv_at hl 0 rfl) ?_
  obtain ⟨f_2, ef_2, h⟩ := z_bd_some h
  refine g_get (ci := 7) (k := 6) (v := .int f_2) hc hP rfl z_inX7 (by decide) wF_X7_48 (g_i_v ef_2) dX7_partedFit_5 ?_
  refine lv_iconst (v := 4) hx hb dX7_partedFit_8 (by decide) ?_
  refine lv_iload_n hx hb dX7_partedFit_9 rfl (lv_at hl 1 rfl) ?_
  refine lv_aload hx hb dX7_partedFit_10 (lv_at hl 4 rfl) ?_
  obtain ⟨ho_12, h⟩ := z_chk_some h
  obtain ⟨vs_, ho_12⟩ := Option.isSome_iff_exists.mp ho_12
  obtain ⟨q_4, S_3, e_12, h⟩ := z_bd2_some h
  refine g_callV (ci := 3) (As := []) (rv := (some (va_rf q_4))) (n := 0) hc hP hS rfl ho_12 (mt_X3_copy l D cs A S_1 a3  e_12) wM_X7_104 wI_X3_copy wS_X3_copy wZ_X3 wC_X3_copy md_X3_copy ⟨rfl, rfl, Nat.le_of_ble_eq_true rfl, Nat.le_of_ble_eq_true rfl⟩ rfl hl.1 rfl (Nat.le_of_ble_eq_true rfl) dX7_partedFit_12 ⟨Nat.le_of_ble_eq_true rfl, Nat.le_of_ble_eq_true rfl⟩ (fun H locs hP hS => ?_)
  show W p l e (z_rmA 6 255 20 123) s m args below meth c H locs (5) (47) Q (F0 m 15 ls [va_rf q_4, .int a0, .int (4 : Int32), .int f_2, .ref S.2, .ref S.2])
  obtain ⟨a_5, ea_5, hu⟩ := z_bd_some h
  clear h
  subst ea_5
  have h := hu
  clear hu
  obtain ⟨S_6, e_15, h⟩ := z_bd_some h
  refine g_callI (As := [.int f_2, .int (4 : Int32), .int a0, .ref a_5]) (rv := none) (n := 4) hc hP hS (mt_X1_init l D cs A S_3 S.2 f_2 (4 : Int32) a0 a_5 e_15) wM_X7_108 wI_X1_init rfl wZ_X1 wC_X1_init md_X1_init ⟨rfl, rfl, Nat.le_of_ble_eq_true rfl, Nat.le_of_ble_eq_true rfl⟩ rfl hl.1 rfl (Nat.le_of_ble_eq_true rfl) dX7_partedFit_15 ⟨Nat.le_of_ble_eq_true rfl, Nat.le_of_ble_eq_true rfl⟩ (fun H locs hP hS => ?_)
  show W p l e (z_rmA 6 255 20 123) s m args below meth c H locs (8) (75) Q (F0 m 18 ls [.ref S.2])
  refine lv_astore (lv' := [(5, .ref S.2), (0, .ref o), (1, .int a0), (2, .int a1), (3, .int a2), (4, .ref a3)]) hx hb dX7_partedFit_18 hl (by decide) rfl (fun ls hl => ?_)
  refine lv_iconst (v := 0) hx hb dX7_partedFit_20 (by decide) ?_
  refine lv_istore (lv' := [(6, .int (0 : Int32)), (5, .ref S.2), (0, .ref o), (1, .int a0), (2, .int a1), (3, .int a2), (4, .ref a3)]) hx hb dX7_partedFit_21 hl (by decide) rfl (fun ls hl => ?_)
  refine lv_iconst (v := 0) hx hb dX7_partedFit_23 (by decide) ?_
  refine lv_istore (lv' := [(7, .int (0 : Int32)), (6, .int (0 : Int32)), (5, .ref S.2), (0, .ref o), (1, .int a0), (2, .int a1), (3, .int a2), (4, .ref a3)]) hx hb dX7_partedFit_24 hl (by decide) rfl (fun ls hl => ?_)
  obtain ⟨S_10, hlp, h⟩ := z_bd_some h
  refine z_lp_ind (P := fun x => ∀ k_ : Nat, x.2.1 = nI k_ → k_ ≤ 12 → ∀ (H : Heap) (locs : List Loc) (ls : Array Slot), g_P D cs A x.2.2 H → va_S A s.heap H locs → lv_has ls 10 [(0, .ref o), (2, .int a1), (3, .int a2), (5, .ref S.2), (6, .int x.1), (7, .int x.2.1)] → W p l e (z_rmA 6 255 20 123) s m args below meth c H locs (8 + k_ * 1) (75 + k_ * 4) Q (F0 m 26 ls [])) (Qe := fun y => ∀ (H : Heap) (locs : List Loc) (ls : Array Slot), g_P D cs A y H → va_S A s.heap H locs → lv_has ls 10 [(5, .ref S.2)] → W p l e (z_rmA 6 255 20 123) s m args below meth c H locs (20) (123) Q (F0 m 151 ls [])) ?_ hlp ?_ 0 nI_0.symm (Nat.zero_le _) H locs ls hP hS (lv_sub hl [3, 5, 6, 2, 1, 0] rfl)
  · clear h hlp hP hS hl
    rintro ⟨x6_7, x7_8, S_9⟩ oo h K_26 k_ hcnt_ hkle_ H locs ls hP hS hl
    have hcnt_ : x7_8 = nI k_ := hcnt_
    have hP : g_P D cs A S_9 H := hP
    have hl : lv_has ls 10 [(0, .ref o), (2, .int a1), (3, .int a2), (5, .ref S.2), (6, .int x6_7), (7, .int x7_8)] := hl
    have h : f_X7_partedFit_L26 S a1 a2 o x6_7 x7_8 S_9 = some oo := h
    unfold f_X7_partedFit_L26 at h
    refine lv_iload hx hb dX7_partedFit_26 (lv_at hl 5 rfl) ?_
    refine lv_bipush (v := 12) hx hb dX7_partedFit_28 (by decide) ?_
    refine lv_icmp_ge (tgt := 151) hx hb dX7_partedFit_30 (by decide) (fun c_30 => ?_) (fun c_30 => ?_)
    · replace h := z_ip_ c_30 h
      cases h
      refine W.widen (k := 20) (n := 123) (by omega) (by omega) ?_
      exact K_26 H locs ls hP hS (lv_sub hl [3] rfl)
    · replace h := z_in_ c_30 h
      have hk_ : k_ < 12 := z_cnt 12 (by decide) hcnt_ (by decide) hkle_ c_30
      refine lv_iload hx hb dX7_partedFit_33 (lv_at hl 4 rfl) ?_
      refine lv_aload hx hb dX7_partedFit_35 (lv_at hl 3 rfl) ?_
      obtain ⟨f_11, ef_11, h⟩ := z_bd_some h
      refine g_getN (ci := 1) (k := 3) (v := .ref f_11) hc hP rfl z_inX1 (by decide) wG_X7_132 (g_r_v ef_11) dX7_partedFit_37 ?_
      obtain ⟨f_12, ef_12, h⟩ := z_bd_some h
      refine g_getN (ci := 3) (k := 3) (v := .int f_12) hc hP rfl z_inX3 (by decide) wG_X7_129 (g_i_v ef_12) dX7_partedFit_40 ?_
      refine lv_icmp_ge (tgt := 151) hx hb dX7_partedFit_43 (by decide) (fun c_43 => ?_) (fun c_43 => ?_)
      · replace h := z_ip_ c_43 h
        cases h
        refine W.widen (k := 20) (n := 123) (by omega) (by omega) ?_
        exact K_26 H locs ls hP hS (lv_sub hl [3] rfl)
      · replace h := z_in_ c_43 h
        refine lv_iload hx hb dX7_partedFit_46 (lv_at hl 4 rfl) ?_
        refine lv_iconst (v := 1) hx hb dX7_partedFit_48 (by decide) ?_
        refine lv_iadd hx hb dX7_partedFit_49 ?_
        refine lv_istore (lv' := [(8, .int (x6_7 + (1 : Int32))), (0, .ref o), (2, .int a1), (3, .int a2), (5, .ref S.2), (6, .int x6_7), (7, .int x7_8)]) hx hb dX7_partedFit_50 hl (by decide) rfl (fun ls hl => ?_)
        refine lv_aload_n hx hb dX7_partedFit_52 rfl (lv_at hl 1 rfl) ?_
        obtain ⟨f_13, ef_13, h⟩ := z_bd_some h
        refine g_get (ci := 7) (k := 3) (v := .ref f_13) hc hP rfl z_inX7 (by decide) wF_X7_30 (g_r_v ef_13) dX7_partedFit_53 ?_
        refine lv_aload hx hb dX7_partedFit_56 (lv_at hl 4 rfl) ?_
        refine lv_iload hx hb dX7_partedFit_58 (lv_at hl 5 rfl) ?_
        refine lv_iload hx hb dX7_partedFit_60 (lv_at hl 0 rfl) ?_
        obtain ⟨ho_62, h⟩ := z_chk_some h
        obtain ⟨vs_, ho_62⟩ := Option.isSome_iff_exists.mp ho_62
        obtain ⟨S_14, e_62, h⟩ := z_bd_some h
        refine g_callV (ci := 2) (As := [.ref S.2, .int x6_7, .int (x6_7 + (1 : Int32))]) (rv := none) (n := 3) hc hP hS rfl ho_62 (mt_X2_levelRow l D cs A S_9 f_13 S.2 x6_7 (x6_7 + (1 : Int32)) e_62) wM_X7_153 wI_X2_levelRow wS_X2_levelRow wZ_X2 wC_X2_levelRow md_X2_levelRow ⟨rfl, rfl, Nat.le_of_ble_eq_true rfl, Nat.le_of_ble_eq_true rfl⟩ rfl hl.1 rfl (Nat.le_of_ble_eq_true rfl) dX7_partedFit_62 ⟨by simp only [z_rmA]; omega, by simp only [z_rmA]; omega⟩ (fun H locs hP hS => ?_)
        show W p l e (z_rmA 6 255 20 123) s m args below meth c H locs (8 + k_ * 1) (75 + k_ * 4) Q (F0 m 65 ls [])
        refine lv_aload hx hb dX7_partedFit_65 (lv_at hl 4 rfl) ?_
        refine lv_iload hx hb dX7_partedFit_67 (lv_at hl 5 rfl) ?_
        obtain ⟨ho_69, h⟩ := z_chk_some h
        obtain ⟨vs_, ho_69⟩ := Option.isSome_iff_exists.mp ho_69
        obtain ⟨q_16, S_15, e_69, h⟩ := z_bd2_some h
        refine g_callV (ci := 1) (As := [.int x6_7]) (rv := (some (va_rf q_16))) (n := 1) hc hP hS rfl ho_69 (mt_X1_addPart l D cs A S_14 S.2 x6_7 e_69) wM_X7_161 wI_X1_addPart wS_X1_addPart wZ_X1 wC_X1_addPart md_X1_addPart ⟨rfl, rfl, Nat.le_of_ble_eq_true rfl, Nat.le_of_ble_eq_true rfl⟩ rfl hl.1 rfl (Nat.le_of_ble_eq_true rfl) dX7_partedFit_69 ⟨by simp only [z_rmA]; omega, by simp only [z_rmA]; omega⟩ (fun H locs hP hS => ?_)
        show W p l e (z_rmA 6 255 20 123) s m args below meth c H locs (8 + k_ * 1 + 1) (75 + k_ * 4 + 4) Q (F0 m 72 ls [va_rf q_16])
        refine q_astore (lv' := [(9, va_rf q_16), (8, .int (x6_7 + (1 : Int32))), (0, .ref o), (2, .int a1), (3, .int a2), (5, .ref S.2), (6, .int x6_7), (7, .int x7_8)]) hx hb dX7_partedFit_72 hl (by decide) rfl (fun ls hl => ?_)
        refine lv_aload_n hx hb dX7_partedFit_74 rfl (lv_at hl 2 rfl) ?_
        obtain ⟨f_17, ef_17, h⟩ := z_bd_some h
        refine g_get (ci := 7) (k := 3) (v := .ref f_17) hc hP rfl z_inX7 (by decide) wF_X7_30 (g_r_v ef_17) dX7_partedFit_75 ?_
        refine q_aload hx hb dX7_partedFit_78 (lv_at hl 0 rfl) ?_
        obtain ⟨a_18, ea_18, hu⟩ := z_bd_some h
        clear h
        subst ea_18
        have h := hu
        clear hu
        obtain ⟨ho_80, h⟩ := z_chk_some h
        obtain ⟨vs_, ho_80⟩ := Option.isSome_iff_exists.mp ho_80
        obtain ⟨S_19, e_80, h⟩ := z_bd_some h
        refine g_callV (ci := 2) (As := [.ref a_18]) (rv := none) (n := 1) hc hP hS rfl ho_80 (mt_X2_hand l D cs A S_15 f_17 a_18 e_80) wM_X7_157 wI_X2_hand wS_X2_hand wZ_X2 wC_X2_hand md_X2_hand ⟨rfl, rfl, Nat.le_of_ble_eq_true rfl, Nat.le_of_ble_eq_true rfl⟩ rfl hl.1 rfl (Nat.le_of_ble_eq_true rfl) dX7_partedFit_80 ⟨by simp only [z_rmA]; omega, by simp only [z_rmA]; omega⟩ (fun H locs hP hS => ?_)
        show W p l e (z_rmA 6 255 20 123) s m args below meth c H locs (8 + k_ * 1 + 1) (75 + k_ * 4 + 4) Q (F0 m 83 ls [])
        obtain ⟨y8_22, S_23, hlp, h⟩ := z_bd2_some h
        refine z_lp_ind (P := fun x => ∀ (H : Heap) (locs : List Loc) (ls : Array Slot), g_P D cs A x.2 H → va_S A s.heap H locs → lv_has ls 10 [(0, .ref o), (2, .int a1), (3, .int a2), (5, .ref S.2), (6, .int x6_7), (7, .int x7_8), (8, .int x.1), (9, .ref a_18)] → W p l e (z_rmA 6 255 20 123) s m args below meth c H locs (8 + k_ * 1 + 1) (75 + k_ * 4 + 4) Q (F0 m 83 ls [])) (Qe := fun y => ∀ (H : Heap) (locs : List Loc) (ls : Array Slot), g_P D cs A y.2 H → va_S A s.heap H locs → lv_has ls 10 [(0, .ref o), (2, .int a1), (3, .int a2), (5, .ref S.2), (7, .int x7_8), (8, .int y.1)] → W p l e (z_rmA 6 255 20 123) s m args below meth c H locs (8 + k_ * 1 + 1) (75 + k_ * 4 + 4) Q (F0 m 141 ls [])) ?_ hlp ?_ H locs ls hP hS (lv_sub hl [2, 3, 4, 5, 6, 7, 1, 0] rfl)
        · clear h hlp hP hS hl
          rintro ⟨x8_20, S_21⟩ oo h K_83 H locs ls hP hS hl
          have hP : g_P D cs A S_21 H := hP
          have hl : lv_has ls 10 [(0, .ref o), (2, .int a1), (3, .int a2), (5, .ref S.2), (6, .int x6_7), (7, .int x7_8), (8, .int x8_20), (9, .ref a_18)] := hl
          have h : f_X7_partedFit_L83 S a1 a2 a_18 o x6_7 x8_20 S_21 = some oo := h
          unfold f_X7_partedFit_L83 at h
          refine lv_iload hx hb dX7_partedFit_83 (lv_at hl 6 rfl) ?_
          refine lv_aload hx hb dX7_partedFit_85 (lv_at hl 3 rfl) ?_
          obtain ⟨f_24, ef_24, h⟩ := z_bd_some h
          refine g_getN (ci := 1) (k := 3) (v := .ref f_24) hc hP rfl z_inX1 (by decide) wG_X7_132 (g_r_v ef_24) dX7_partedFit_87 ?_
          obtain ⟨f_25, ef_25, h⟩ := z_bd_some h
          refine g_getN (ci := 3) (k := 3) (v := .int f_25) hc hP rfl z_inX3 (by decide) wG_X7_129 (g_i_v ef_25) dX7_partedFit_90 ?_
          refine lv_icmp_ge (tgt := 141) hx hb dX7_partedFit_93 (by decide) (fun c_93 => ?_) (fun c_93 => ?_)
          · replace h := z_ip_ c_93 h
            cases h
            exact K_83 H locs ls hP hS (lv_sub hl [0, 1, 2, 3, 5, 6] rfl)
          · replace h := z_in_ c_93 h
            refine lv_aload_n hx hb dX7_partedFit_96 rfl (lv_at hl 0 rfl) ?_
            obtain ⟨f_26, ef_26, h⟩ := z_bd_some h
            refine g_get (ci := 7) (k := 3) (v := .ref f_26) hc hP rfl z_inX7 (by decide) wF_X7_30 (g_r_v ef_26) dX7_partedFit_97 ?_
            refine lv_aload hx hb dX7_partedFit_100 (lv_at hl 3 rfl) ?_
            refine lv_iload hx hb dX7_partedFit_102 (lv_at hl 4 rfl) ?_
            refine lv_iload hx hb dX7_partedFit_104 (lv_at hl 6 rfl) ?_
            refine lv_iconst (v := 1) hx hb dX7_partedFit_106 (by decide) ?_
            refine lv_iadd hx hb dX7_partedFit_107 ?_
            obtain ⟨ho_108, h⟩ := z_chk_some h
            obtain ⟨vs_, ho_108⟩ := Option.isSome_iff_exists.mp ho_108
            obtain ⟨S_27, e_108, h⟩ := z_bd_some h
            refine g_callV (ci := 2) (As := [.ref S.2, .int x6_7, .int (x8_20 + (1 : Int32))]) (rv := none) (n := 3) hc hP hS rfl ho_108 (mt_X2_levelRow l D cs A S_21 f_26 S.2 x6_7 (x8_20 + (1 : Int32)) e_108) wM_X7_153 wI_X2_levelRow wS_X2_levelRow wZ_X2 wC_X2_levelRow md_X2_levelRow ⟨rfl, rfl, Nat.le_of_ble_eq_true rfl, Nat.le_of_ble_eq_true rfl⟩ rfl hl.1 rfl (Nat.le_of_ble_eq_true rfl) dX7_partedFit_108 ⟨by simp only [z_rmA]; omega, by simp only [z_rmA]; omega⟩ (fun H locs hP hS => ?_)
            show W p l e (z_rmA 6 255 20 123) s m args below meth c H locs (8 + k_ * 1 + 1) (75 + k_ * 4 + 4) Q (F0 m 111 ls [])
            refine lv_aload_n hx hb dX7_partedFit_111 rfl (lv_at hl 0 rfl) ?_
            obtain ⟨f_28, ef_28, h⟩ := z_bd_some h
            refine g_get (ci := 7) (k := 3) (v := .ref f_28) hc hP rfl z_inX7 (by decide) wF_X7_30 (g_r_v ef_28) dX7_partedFit_112 ?_
            refine lv_iload_n hx hb dX7_partedFit_115 rfl (lv_at hl 1 rfl) ?_
            refine lv_iload_n hx hb dX7_partedFit_116 rfl (lv_at hl 2 rfl) ?_
            obtain ⟨ho_117, h⟩ := z_chk_some h
            obtain ⟨vs_, ho_117⟩ := Option.isSome_iff_exists.mp ho_117
            obtain ⟨r_29, e_117, h⟩ := z_bd_some h
            refine g_callV (ci := 2) (As := [.int a1, .int a2]) (rv := (some (.int r_29))) (n := 2) hc hP hS rfl ho_117 (mt_X2_levelIsAtMost l D cs A S_27 f_28 a1 a2 e_117) wM_X7_165 wI_X2_levelIsAtMost wS_X2_levelIsAtMost wZ_X2 wC_X2_levelIsAtMost md_X2_levelIsAtMost ⟨rfl, rfl, Nat.le_of_ble_eq_true rfl, Nat.le_of_ble_eq_true rfl⟩ rfl hl.1 rfl (Nat.le_of_ble_eq_true rfl) dX7_partedFit_117 ⟨by simp only [z_rmA]; omega, by simp only [z_rmA]; omega⟩ (fun H locs hP hS => ?_)
            show W p l e (z_rmA 6 255 20 123) s m args below meth c H locs (8 + k_ * 1 + 1) (75 + k_ * 4 + 4) Q (F0 m 120 ls [.int r_29])
            refine lv_if_ne (tgt := 126) hx hb dX7_partedFit_120 (by decide) (fun c_120 => ?_) (fun c_120 => ?_)
            · replace h := z_in_ c_120 h
              refine lv_aload_n hx hb dX7_partedFit_126 rfl (lv_at hl 0 rfl) ?_
              obtain ⟨f_30, ef_30, h⟩ := z_bd_some h
              refine g_get (ci := 7) (k := 3) (v := .ref f_30) hc hP rfl z_inX7 (by decide) wF_X7_30 (g_r_v ef_30) dX7_partedFit_127 ?_
              refine lv_aload hx hb dX7_partedFit_130 (lv_at hl 7 rfl) ?_
              obtain ⟨ho_132, h⟩ := z_chk_some h
              obtain ⟨vs_, ho_132⟩ := Option.isSome_iff_exists.mp ho_132
              obtain ⟨S_31, e_132, h⟩ := z_bd_some h
              refine g_callV (ci := 2) (As := [.ref a_18]) (rv := none) (n := 1) hc hP hS rfl ho_132 (mt_X2_hand l D cs A S_27 f_30 a_18 e_132) wM_X7_157 wI_X2_hand wS_X2_hand wZ_X2 wC_X2_hand md_X2_hand ⟨rfl, rfl, Nat.le_of_ble_eq_true rfl, Nat.le_of_ble_eq_true rfl⟩ rfl hl.1 rfl (Nat.le_of_ble_eq_true rfl) dX7_partedFit_132 ⟨by simp only [z_rmA]; omega, by simp only [z_rmA]; omega⟩ (fun H locs hP hS => ?_)
              show W p l e (z_rmA 6 255 20 123) s m args below meth c H locs (8 + k_ * 1 + 1) (75 + k_ * 4 + 4) Q (F0 m 135 ls [])
              refine lv_iinc (v := (x8_20 + 1)) (lv' := [(8, .int (x8_20 + 1)), (0, .ref o), (2, .int a1), (3, .int a2), (5, .ref S.2), (6, .int x6_7), (7, .int x7_8), (9, .ref a_18)]) hx hb dX7_partedFit_135 hl (k := 6) rfl rfl (by decide) rfl (fun ls hl => ?_)
              refine lv_goto (tgt := 83) hx hb dX7_partedFit_138 (by decide) ?_
              cases h
              exact K_83 H locs ls hP hS (lv_sub hl [1, 2, 3, 4, 5, 6, 0, 7] rfl)
            · replace h := z_ip_ c_120 h
              refine lv_goto (tgt := 141) hx hb dX7_partedFit_123 (by decide) ?_
              cases h
              exact K_83 H locs ls hP hS (lv_sub hl [0, 1, 2, 3, 5, 6] rfl)
        · clear hlp hP hS hl
          intro H locs ls hP hS hl
          have hP : g_P D cs A S_23 H := hP
          have hl : lv_has ls 10 [(0, .ref o), (2, .int a1), (3, .int a2), (5, .ref S.2), (7, .int x7_8), (8, .int y8_22)] := hl
          refine lv_iload hx hb dX7_partedFit_141 (lv_at hl 5 rfl) ?_
          refine lv_istore (lv' := [(6, .int y8_22), (0, .ref o), (2, .int a1), (3, .int a2), (5, .ref S.2), (7, .int x7_8), (8, .int y8_22)]) hx hb dX7_partedFit_143 hl (by decide) rfl (fun ls hl => ?_)
          refine lv_iinc (v := (x7_8 + 1)) (lv' := [(7, .int (x7_8 + 1)), (6, .int y8_22), (0, .ref o), (2, .int a1), (3, .int a2), (5, .ref S.2), (8, .int y8_22)]) hx hb dX7_partedFit_145 hl (k := 5) rfl rfl (by decide) rfl (fun ls hl => ?_)
          refine lv_goto (tgt := 26) hx hb dX7_partedFit_148 (by decide) ?_
          cases h
          refine W.widen (k := 8 + (k_ + 1) * 1) (n := 75 + (k_ + 1) * 4) (by omega) (by omega) ?_
          exact K_26 (k_ + 1) (by rw [hcnt_]; exact nI_1 k_) hk_ H locs ls hP hS (lv_sub hl [2, 3, 4, 5, 1, 0] rfl)
  · clear hlp hP hS hl
    intro H locs ls hP hS hl
    have hP : g_P D cs A S_10 H := hP
    have hl : lv_has ls 10 [(5, .ref S.2)] := hl
    refine lv_aload hx hb dX7_partedFit_151 (lv_at hl 0 rfl) ?_
    cases h
    rw [hQ]
    exact g_retq (r := some _) hc hr hlocks hP hS dX7_partedFit_153
theorem md_X7_partedFit : yX7_partedFit.cls ≠ "java/lang/invoke/MethodHandle" ∧ yX7_partedFit.cls ≠ "java/lang/invoke/VarHandle" ∧ (parseMethodDescriptor yX7_partedFit.desc).map (fun d => d.parameters.length) = some 4 := by decide +kernel
noncomputable def f_X7_pieces (S : GS) (o : Nat) (a0 : Int32) (a1 : Int32) (a2 : Int32) (a3 : Int32) : Option ((Int32) × GS) :=
  z_chk (g_is S 7 o) (z_bd (f_X7_setAt S o a0) fun q_1 => z_bd (f_X7_isWithin a1 (0 : Int32) (2 : Int32)) fun r_2 => z_bd (if r_2 = 0 then some ((0 : Int32)) else z_bd (f_X7_isWithin a2 (0 : Int32) (10000 : Int32)) fun r_4 => if r_4 = 0 then some ((0 : Int32)) else z_bd (f_X7_isWithin a3 (1 : Int32) (1000 : Int32)) fun r_5 => if r_5 = 0 then some ((0 : Int32)) else some ((1 : Int32))) fun v_3 => z_mt q_1 (z_chk (g_is S 7 o) (z_bd2 (f_X7_refuse S o (1 : Int32)) fun r_8 S_7 => some (r_8, S_7))) fun a_6 => if v_3 = 0 then z_chk (g_is S 7 o) (z_bd2 (f_X7_refuse S o (1 : Int32)) fun r_18 S_17 => some (r_18, S_17)) else z_bd (g_i S 7 6 o) fun f_9 => if f_9 < (10 : Int32) then z_chk (g_is S 7 o) (z_bd2 (f_X7_partedFit S o a1 a2 a3 a_6) fun q_11 S_10 => z_bd q_11 fun a_12 => z_chk (g_is S_10 7 o) (z_bd2 (f_X7_keepFit S_10 o a_12) fun r_14 S_13 => some (r_14, S_13))) else z_chk (g_is S 7 o) (z_bd2 (f_X7_refuse S o (2 : Int32)) fun r_16 S_15 => some (r_16, S_15)))
set_option maxHeartbeats 4000000 in
set_option maxRecDepth 100000 in
theorem mt_X7_pieces (l : Launch) (D : va_G) (cs : Nat → ClassId) (A : Nat → Prop) (S : GS) (o : Nat) (a0 : Int32) (a1 : Int32) (a2 : Int32) (a3 : Int32) {r_ : Int32} {N_ : GS} (h : f_X7_pieces S o a0 a1 a2 a3 = some (r_, N_)) : Met l yX7_pieces (z_wd yX7_pieces cX7_pieces 7 (some .int)) (z_rmA 7 300 20 123) (va_Pc [.ref o, .int a0, .int a1, .int a2, .int a3] (g_C D cs A S)) (g_Q (some (.int r_)) N_ D cs A) 20 123 A := by
  refine Met.ofW (cc := cX7_pieces) (maxL := 7) (ret := (some .int)) (by decide) rfl ?_
  intro p e s m args below meth c s₁ B hml hv
  obtain ⟨hav, hP0, hK, hN, hSt, hAn⟩ := hv
  have hx := B.exec
  have hb := B.bytes
  have hr := B.returns
  have hts := atoms_spec (ws := z_wd yX7_pieces cX7_pieces 7 (some .int)) B.pre
  have hown : s.vm.findClass RX7 = some m.cls := findClass_of_methodNamed B.named
  have hlocks := B.notSynchronized
  have hc : g_X p s m args c cX7_pieces 7 RX7 D cs A := ⟨⟨hx, hb, hml, fun w hw => hts w (List.mem_cons_of_mem _ hw), hown⟩, hK, hN, hSt, hAn⟩
  have hl := lv_entry ([.ref o, .int a0, .int a1, .int a2, .int a3]) (n := 7) (Nat.le_of_ble_eq_true rfl)
  have hE : entryFrame m args 7 = F0 m 0 ((lg_sl ([.ref o, .int a0, .int a1, .int a2, .int a3]) ++ List.replicate (7 - (lg_sl ([.ref o, .int a0, .int a1, .int a2, .int a3])).length) Slot.unset).toArray) [] := by rw [hav]; exact lg_entry_eq m _ _
  rw [hE]
  clear hE hav
  generalize (lg_sl ([.ref o, .int a0, .int a1, .int a2, .int a3]) ++ List.replicate (7 - (lg_sl ([.ref o, .int a0, .int a1, .int a2, .int a3])).length) Slot.unset).toArray = ls at hl ⊢
  have hl : lv_has ls 7 [(0, .ref o), (1, .int a0), (2, .int a1), (3, .int a2), (4, .int a3)] := hl
  obtain ⟨Q, hQ⟩ : ∃ Q, Q = MQ below (g_Q (some (.int r_)) N_ D cs A) args s 20 123 A := ⟨_, rfl⟩
  rw [← hQ]
  suffices hmain : ∀ (H : Heap) (locs : List Loc), g_P D cs A S H → va_S A s.heap H locs → W p l e (z_rmA 7 300 20 123) s m args below meth c H locs 0 0 Q (F0 m 0 ls []) from hmain s.heap [] hP0 va_S.rf
  clear hP0
  intro H locs hP hS
  unfold f_X7_pieces at h
  refine lv_aload_n hx hb dX7_pieces_0 rfl (lv_at hl 0 rfl) ?_
  refine lv_iload_n hx hb dX7_pieces_1 rfl (lv_at hl 1 rfl) ?_
  obtain ⟨ho_2, h⟩ := z_chk_some h
  obtain ⟨vs_, ho_2⟩ := Option.isSome_iff_exists.mp ho_2
  obtain ⟨q_1, e_2, h⟩ := z_bd_some h
  refine g_callV (ci := 7) (As := [.int a0]) (rv := (some (va_rf q_1))) (n := 1) hc hP hS rfl ho_2 (mt_X7_setAt l D cs A S o a0 e_2) wM_X7_56 wI_X7_setAt wS_X7_setAt wZ_X7 wC_X7_setAt md_X7_setAt ⟨rfl, rfl, Nat.le_of_ble_eq_true rfl, Nat.le_of_ble_eq_true rfl⟩ rfl hl.1 rfl (Nat.le_of_ble_eq_true rfl) dX7_pieces_2 ⟨Nat.le_of_ble_eq_true rfl, Nat.le_of_ble_eq_true rfl⟩ (fun H locs hP hS => ?_)
  show W p l e (z_rmA 7 300 20 123) s m args below meth c H locs (0) (0) Q (F0 m 5 ls [va_rf q_1])
  refine q_astore (lv' := [(5, va_rf q_1), (0, .ref o), (1, .int a0), (2, .int a1), (3, .int a2), (4, .int a3)]) hx hb dX7_pieces_5 hl (by decide) rfl (fun ls hl => ?_)
  refine lv_iload_n hx hb dX7_pieces_7 rfl (lv_at hl 3 rfl) ?_
  refine lv_iconst (v := 0) hx hb dX7_pieces_8 (by decide) ?_
  refine lv_iconst (v := 2) hx hb dX7_pieces_9 (by decide) ?_
  obtain ⟨r_2, er_2, h⟩ := z_bd_some h
  refine s_calli (As := [.int a1, .int (0 : Int32), .int (2 : Int32)]) (r := r_2) (n := 3) hc.1 (mt_X7_isWithin l a1 (0 : Int32) (2 : Int32) er_2) wM_X7_101 wT_X7_isWithin wZ_X7 wC_X7_isWithin md_X7_isWithin ⟨rfl, rfl, Nat.le_of_ble_eq_true rfl, Nat.le_of_ble_eq_true rfl⟩ rfl hl.1 rfl (Nat.le_of_ble_eq_true rfl) dX7_pieces_10 ⟨Nat.le_of_ble_eq_true rfl, Nat.le_of_ble_eq_true rfl⟩ ?_
  obtain ⟨v_3, hJ, h⟩ := z_bd_some h
  have J_44 : ∀ (H : Heap) (locs : List Loc) (ls : Array Slot), g_P D cs A S H → va_S A s.heap H locs → lv_has ls 7 [(0, .ref o), (2, .int a1), (3, .int a2), (4, .int a3), (5, va_rf q_1)] → W p l e (z_rmA 7 300 20 123) s m args below meth c H locs (0) (0) Q (F0 m 44 ls [.int v_3]) := by
    intro H locs ls hP hS hl
    refine lv_istore (lv' := [(6, .int v_3), (0, .ref o), (2, .int a1), (3, .int a2), (4, .int a3), (5, va_rf q_1)]) hx hb dX7_pieces_44 hl (by decide) (by cases q_1 <;> rfl) (fun ls hl => ?_)
    refine q_aload hx hb dX7_pieces_46 (lv_at hl 5 rfl) ?_
    rcases q_1 with _ | a_6
    · replace h := z_mt_n h
      refine lv_ifnullN (tgt := 56) hx hb dX7_pieces_48 (by decide) ?_
      refine lv_aload_n hx hb dX7_pieces_56 rfl (lv_at hl 1 rfl) ?_
      refine lv_iconst (v := 1) hx hb dX7_pieces_57 (by decide) ?_
      obtain ⟨ho_58, h⟩ := z_chk_some h
      obtain ⟨vs_, ho_58⟩ := Option.isSome_iff_exists.mp ho_58
      obtain ⟨r_8, S_7, e_58, h⟩ := z_bd2_some h
      refine g_callV (ci := 7) (As := [.int (1 : Int32)]) (rv := (some (.int r_8))) (n := 1) hc hP hS rfl ho_58 (mt_X7_refuse l D cs A S o (1 : Int32) e_58) wM_X7_64 wI_X7_refuse wS_X7_refuse wZ_X7 wC_X7_refuse md_X7_refuse ⟨rfl, rfl, Nat.le_of_ble_eq_true rfl, Nat.le_of_ble_eq_true rfl⟩ rfl hl.1 rfl (Nat.le_of_ble_eq_true rfl) dX7_pieces_58 ⟨Nat.le_of_ble_eq_true rfl, Nat.le_of_ble_eq_true rfl⟩ (fun H locs hP hS => ?_)
      show W p l e (z_rmA 7 300 20 123) s m args below meth c H locs (0) (0) Q (F0 m 61 ls [.int r_8])
      cases h
      rw [hQ]
      refine W.widen (k := 20) (n := 123) (Nat.le_of_ble_eq_true rfl) (Nat.le_of_ble_eq_true rfl) ?_
      exact g_reti hc hr hlocks hP hS dX7_pieces_61
    · replace h := z_mt_s h
      refine lv_ifnull hx hb dX7_pieces_48 ?_
      refine lv_iload hx hb dX7_pieces_51 (lv_at hl 0 rfl) ?_
      refine lv_if_ne (tgt := 62) hx hb dX7_pieces_53 (by decide) (fun c_53 => ?_) (fun c_53 => ?_)
      · replace h := z_in_ c_53 h
        refine lv_aload_n hx hb dX7_pieces_62 rfl (lv_at hl 1 rfl) ?_
        obtain ⟨f_9, ef_9, h⟩ := z_bd_some h
        refine g_get (ci := 7) (k := 6) (v := .int f_9) hc hP rfl z_inX7 (by decide) wF_X7_48 (g_i_v ef_9) dX7_pieces_63 ?_
        refine lv_bipush (v := 10) hx hb dX7_pieces_66 (by decide) ?_
        refine lv_icmp_lt (tgt := 77) hx hb dX7_pieces_68 (by decide) (fun c_68 => ?_) (fun c_68 => ?_)
        · replace h := z_ip_ c_68 h
          refine lv_aload_n hx hb dX7_pieces_77 rfl (lv_at hl 1 rfl) ?_
          refine lv_aload_n hx hb dX7_pieces_78 rfl (lv_at hl 1 rfl) ?_
          refine lv_iload_n hx hb dX7_pieces_79 rfl (lv_at hl 2 rfl) ?_
          refine lv_iload_n hx hb dX7_pieces_80 rfl (lv_at hl 3 rfl) ?_
          refine lv_iload hx hb dX7_pieces_81 (lv_at hl 4 rfl) ?_
          refine lv_aload hx hb dX7_pieces_83 (lv_at hl 5 rfl) ?_
          obtain ⟨ho_85, h⟩ := z_chk_some h
          obtain ⟨vs_, ho_85⟩ := Option.isSome_iff_exists.mp ho_85
          obtain ⟨q_11, S_10, e_85, h⟩ := z_bd2_some h
          refine g_callV (ci := 7) (As := [.int a1, .int a2, .int a3, .ref a_6]) (rv := (some (va_rf q_11))) (n := 4) hc hP hS rfl ho_85 (mt_X7_partedFit l D cs A S o a1 a2 a3 a_6 e_85) wM_X7_146 wI_X7_partedFit wS_X7_partedFit wZ_X7 wC_X7_partedFit md_X7_partedFit ⟨rfl, rfl, Nat.le_of_ble_eq_true rfl, Nat.le_of_ble_eq_true rfl⟩ rfl hl.1 rfl (Nat.le_of_ble_eq_true rfl) dX7_pieces_85 ⟨Nat.le_of_ble_eq_true rfl, Nat.le_of_ble_eq_true rfl⟩ (fun H locs hP hS => ?_)
          show W p l e (z_rmA 7 300 20 123) s m args below meth c H locs (20) (123) Q (F0 m 88 ls [va_rf q_11, .ref o])
          obtain ⟨a_12, ea_12, hu⟩ := z_bd_some h
          clear h
          subst ea_12
          have h := hu
          clear hu
          obtain ⟨ho_88, h⟩ := z_chk_some h
          obtain ⟨vs_, ho_88⟩ := Option.isSome_iff_exists.mp ho_88
          obtain ⟨r_14, S_13, e_88, h⟩ := z_bd2_some h
          refine g_callV (ci := 7) (As := [.ref a_12]) (rv := (some (.int r_14))) (n := 1) hc hP hS rfl ho_88 (mt_X7_keepFit l D cs A S_10 o a_12 e_88) wM_X7_121 wI_X7_keepFit wS_X7_keepFit wZ_X7 wC_X7_keepFit md_X7_keepFit ⟨rfl, rfl, Nat.le_of_ble_eq_true rfl, Nat.le_of_ble_eq_true rfl⟩ rfl hl.1 rfl (Nat.le_of_ble_eq_true rfl) dX7_pieces_88 ⟨Nat.le_of_ble_eq_true rfl, Nat.le_of_ble_eq_true rfl⟩ (fun H locs hP hS => ?_)
          show W p l e (z_rmA 7 300 20 123) s m args below meth c H locs (20) (123) Q (F0 m 91 ls [.int r_14])
          cases h
          rw [hQ]
          exact g_reti hc hr hlocks hP hS dX7_pieces_91
        · replace h := z_in_ c_68 h
          refine lv_aload_n hx hb dX7_pieces_71 rfl (lv_at hl 1 rfl) ?_
          refine lv_iconst (v := 2) hx hb dX7_pieces_72 (by decide) ?_
          obtain ⟨ho_73, h⟩ := z_chk_some h
          obtain ⟨vs_, ho_73⟩ := Option.isSome_iff_exists.mp ho_73
          obtain ⟨r_16, S_15, e_73, h⟩ := z_bd2_some h
          refine g_callV (ci := 7) (As := [.int (2 : Int32)]) (rv := (some (.int r_16))) (n := 1) hc hP hS rfl ho_73 (mt_X7_refuse l D cs A S o (2 : Int32) e_73) wM_X7_64 wI_X7_refuse wS_X7_refuse wZ_X7 wC_X7_refuse md_X7_refuse ⟨rfl, rfl, Nat.le_of_ble_eq_true rfl, Nat.le_of_ble_eq_true rfl⟩ rfl hl.1 rfl (Nat.le_of_ble_eq_true rfl) dX7_pieces_73 ⟨Nat.le_of_ble_eq_true rfl, Nat.le_of_ble_eq_true rfl⟩ (fun H locs hP hS => ?_)
          show W p l e (z_rmA 7 300 20 123) s m args below meth c H locs (0) (0) Q (F0 m 76 ls [.int r_16])
          cases h
          rw [hQ]
          refine W.widen (k := 20) (n := 123) (Nat.le_of_ble_eq_true rfl) (Nat.le_of_ble_eq_true rfl) ?_
          exact g_reti hc hr hlocks hP hS dX7_pieces_76
      · replace h := z_ip_ c_53 h
        refine lv_aload_n hx hb dX7_pieces_56 rfl (lv_at hl 1 rfl) ?_
        refine lv_iconst (v := 1) hx hb dX7_pieces_57 (by decide) ?_
        obtain ⟨ho_58, h⟩ := z_chk_some h
        obtain ⟨vs_, ho_58⟩ := Option.isSome_iff_exists.mp ho_58
        obtain ⟨r_18, S_17, e_58, h⟩ := z_bd2_some h
        refine g_callV (ci := 7) (As := [.int (1 : Int32)]) (rv := (some (.int r_18))) (n := 1) hc hP hS rfl ho_58 (mt_X7_refuse l D cs A S o (1 : Int32) e_58) wM_X7_64 wI_X7_refuse wS_X7_refuse wZ_X7 wC_X7_refuse md_X7_refuse ⟨rfl, rfl, Nat.le_of_ble_eq_true rfl, Nat.le_of_ble_eq_true rfl⟩ rfl hl.1 rfl (Nat.le_of_ble_eq_true rfl) dX7_pieces_58 ⟨Nat.le_of_ble_eq_true rfl, Nat.le_of_ble_eq_true rfl⟩ (fun H locs hP hS => ?_)
        show W p l e (z_rmA 7 300 20 123) s m args below meth c H locs (0) (0) Q (F0 m 61 ls [.int r_18])
        cases h
        rw [hQ]
        refine W.widen (k := 20) (n := 123) (Nat.le_of_ble_eq_true rfl) (Nat.le_of_ble_eq_true rfl) ?_
        exact g_reti hc hr hlocks hP hS dX7_pieces_61
  clear h
  have h := hJ
  clear hJ
  refine lv_if_eq (tgt := 43) hx hb dX7_pieces_13 (by decide) (fun c_13 => ?_) (fun c_13 => ?_)
  · replace h := z_ip_ c_13 h
    refine lv_iconst (v := 0) hx hb dX7_pieces_43 (by decide) ?_
    cases h
    exact J_44 H locs ls hP hS (lv_sub hl [1, 3, 4, 5, 0] rfl)
  · replace h := z_in_ c_13 h
    refine lv_iload_n hx hb dX7_pieces_16 rfl (lv_at hl 4 rfl) ?_
    refine lv_iconst (v := 0) hx hb dX7_pieces_17 (by decide) ?_
    refine lv_sipush (v := 10000) hx hb dX7_pieces_18 (by decide) ?_
    obtain ⟨r_4, er_4, h⟩ := z_bd_some h
    refine s_calli (As := [.int a2, .int (0 : Int32), .int (10000 : Int32)]) (r := r_4) (n := 3) hc.1 (mt_X7_isWithin l a2 (0 : Int32) (10000 : Int32) er_4) wM_X7_101 wT_X7_isWithin wZ_X7 wC_X7_isWithin md_X7_isWithin ⟨rfl, rfl, Nat.le_of_ble_eq_true rfl, Nat.le_of_ble_eq_true rfl⟩ rfl hl.1 rfl (Nat.le_of_ble_eq_true rfl) dX7_pieces_21 ⟨Nat.le_of_ble_eq_true rfl, Nat.le_of_ble_eq_true rfl⟩ ?_
    refine lv_if_eq (tgt := 43) hx hb dX7_pieces_24 (by decide) (fun c_24 => ?_) (fun c_24 => ?_)
    · replace h := z_ip_ c_24 h
      refine lv_iconst (v := 0) hx hb dX7_pieces_43 (by decide) ?_
      cases h
      exact J_44 H locs ls hP hS (lv_sub hl [1, 3, 4, 5, 0] rfl)
    · replace h := z_in_ c_24 h
      refine lv_iload hx hb dX7_pieces_27 (lv_at hl 5 rfl) ?_
      refine lv_iconst (v := 1) hx hb dX7_pieces_29 (by decide) ?_
      refine lv_sipush (v := 1000) hx hb dX7_pieces_30 (by decide) ?_
      obtain ⟨r_5, er_5, h⟩ := z_bd_some h
      refine s_calli (As := [.int a3, .int (1 : Int32), .int (1000 : Int32)]) (r := r_5) (n := 3) hc.1 (mt_X7_isWithin l a3 (1 : Int32) (1000 : Int32) er_5) wM_X7_101 wT_X7_isWithin wZ_X7 wC_X7_isWithin md_X7_isWithin ⟨rfl, rfl, Nat.le_of_ble_eq_true rfl, Nat.le_of_ble_eq_true rfl⟩ rfl hl.1 rfl (Nat.le_of_ble_eq_true rfl) dX7_pieces_33 ⟨Nat.le_of_ble_eq_true rfl, Nat.le_of_ble_eq_true rfl⟩ ?_
      refine lv_if_eq (tgt := 43) hx hb dX7_pieces_36 (by decide) (fun c_36 => ?_) (fun c_36 => ?_)
      · replace h := z_ip_ c_36 h
        refine lv_iconst (v := 0) hx hb dX7_pieces_43 (by decide) ?_
        cases h
        exact J_44 H locs ls hP hS (lv_sub hl [1, 3, 4, 5, 0] rfl)
      · replace h := z_in_ c_36 h
        refine lv_iconst (v := 1) hx hb dX7_pieces_39 (by decide) ?_
        refine lv_goto (tgt := 44) hx hb dX7_pieces_40 (by decide) ?_
        cases h
        exact J_44 H locs ls hP hS (lv_sub hl [1, 3, 4, 5, 0] rfl)
theorem md_X7_pieces : yX7_pieces.cls ≠ "java/lang/invoke/MethodHandle" ∧ yX7_pieces.cls ≠ "java/lang/invoke/VarHandle" ∧ (parseMethodDescriptor yX7_pieces.desc).map (fun d => d.parameters.length) = some 4 := by decide +kernel
noncomputable def f_X7_drop (S : GS) (o : Nat) : Option ((Int32) × GS) :=
  z_bd (g_i S 7 6 o) fun f_1 => if 0 < f_1 then z_bd (g_i S 7 6 o) fun f_2 => z_bd (g_put S 7 6 o (.int (f_2 - (1 : Int32)))) fun S_3 => z_bd (g_r S_3 7 1 o) fun f_4 => z_bd (g_i S_3 7 6 o) fun f_5 => z_bd (g_wQ S_3 1 f_4 f_5 none) fun S_6 => z_bd (g_i S_6 7 6 o) fun f_7 => z_chk (g_is S_6 7 o) (z_bd2 (f_X7_done S_6 o f_7) fun r_9 S_8 => some (r_9, S_8)) else z_chk (g_is S 7 o) (z_bd2 (f_X7_refuse S o (3 : Int32)) fun r_11 S_10 => some (r_11, S_10))
set_option maxHeartbeats 4000000 in
set_option maxRecDepth 100000 in
theorem mt_X7_drop (l : Launch) (D : va_G) (cs : Nat → ClassId) (A : Nat → Prop) (S : GS) (o : Nat) {r_ : Int32} {N_ : GS} (h : f_X7_drop S o = some (r_, N_)) : Met l yX7_drop (z_wd yX7_drop cX7_drop 1 (some .int)) (z_rmA 1 37 0 0) (va_Pc [.ref o] (g_C D cs A S)) (g_Q (some (.int r_)) N_ D cs A) 0 0 A := by
  refine Met.ofW (cc := cX7_drop) (maxL := 1) (ret := (some .int)) (by decide) rfl ?_
  intro p e s m args below meth c s₁ B hml hv
  obtain ⟨hav, hP0, hK, hN, hSt, hAn⟩ := hv
  have hx := B.exec
  have hb := B.bytes
  have hr := B.returns
  have hts := atoms_spec (ws := z_wd yX7_drop cX7_drop 1 (some .int)) B.pre
  have hown : s.vm.findClass RX7 = some m.cls := findClass_of_methodNamed B.named
  have hlocks := B.notSynchronized
  have hc : g_X p s m args c cX7_drop 1 RX7 D cs A := ⟨⟨hx, hb, hml, fun w hw => hts w (List.mem_cons_of_mem _ hw), hown⟩, hK, hN, hSt, hAn⟩
  have hl := lv_entry ([.ref o]) (n := 1) (Nat.le_of_ble_eq_true rfl)
  have hE : entryFrame m args 1 = F0 m 0 ((lg_sl ([.ref o]) ++ List.replicate (1 - (lg_sl ([.ref o])).length) Slot.unset).toArray) [] := by rw [hav]; exact lg_entry_eq m _ _
  rw [hE]
  clear hE hav
  generalize (lg_sl ([.ref o]) ++ List.replicate (1 - (lg_sl ([.ref o])).length) Slot.unset).toArray = ls at hl ⊢
  have hl : lv_has ls 1 [(0, .ref o)] := hl
  obtain ⟨Q, hQ⟩ : ∃ Q, Q = MQ below (g_Q (some (.int r_)) N_ D cs A) args s 0 0 A := ⟨_, rfl⟩
  rw [← hQ]
  suffices hmain : ∀ (H : Heap) (locs : List Loc), g_P D cs A S H → va_S A s.heap H locs → W p l e (z_rmA 1 37 0 0) s m args below meth c H locs 0 0 Q (F0 m 0 ls []) from hmain s.heap [] hP0 va_S.rf
  clear hP0
  intro H locs hP hS
  unfold f_X7_drop at h
  refine lv_aload_n hx hb dX7_drop_0 rfl (lv_at hl 0 rfl) ?_
  obtain ⟨f_1, ef_1, h⟩ := z_bd_some h
  refine g_get (ci := 7) (k := 6) (v := .int f_1) hc hP rfl z_inX7 (by decide) wF_X7_48 (g_i_v ef_1) dX7_drop_1 ?_
  refine lv_if_gt (tgt := 13) hx hb dX7_drop_4 (by decide) (fun c_4 => ?_) (fun c_4 => ?_)
  · replace h := z_ip_ c_4 h
    refine lv_aload_n hx hb dX7_drop_13 rfl (lv_at hl 0 rfl) ?_
    refine lv_dup hx hb dX7_drop_14 rfl ?_
    obtain ⟨f_2, ef_2, h⟩ := z_bd_some h
    refine g_get (ci := 7) (k := 6) (v := .int f_2) hc hP rfl z_inX7 (by decide) wF_X7_48 (g_i_v ef_2) dX7_drop_15 ?_
    refine lv_iconst (v := 1) hx hb dX7_drop_18 (by decide) ?_
    refine lv_isub hx hb dX7_drop_19 ?_
    obtain ⟨S_3, eS_3, h⟩ := z_bd_some h
    refine g_putf (ci := 7) (k := 6) (ty := .int) tyX7 hc hP hS rfl z_inX7 tyX7_ok nmX7 (by decide) wF_X7_48 rfl (by decide +kernel) rfl rfl eS_3 dX7_drop_20 (fun H locs hP hS => ?_)
    refine lv_aload_n hx hb dX7_drop_23 rfl (lv_at hl 0 rfl) ?_
    obtain ⟨f_4, ef_4, h⟩ := z_bd_some h
    refine g_get (ci := 7) (k := 1) (v := .ref f_4) hc hP rfl z_inX7 (by decide) wF_X7_17 (g_r_v ef_4) dX7_drop_24 ?_
    refine lv_aload_n hx hb dX7_drop_27 rfl (lv_at hl 0 rfl) ?_
    obtain ⟨f_5, ef_5, h⟩ := z_bd_some h
    refine g_get (ci := 7) (k := 6) (v := .int f_5) hc hP rfl z_inX7 (by decide) wF_X7_48 (g_i_v ef_5) dX7_drop_28 ?_
    refine lv_null hx hb dX7_drop_31 ?_
    obtain ⟨S_6, eS_6, h⟩ := z_bd_some h
    refine g_aastN (t := 1) hc hP hS rfl eS_6 dX7_drop_32 (fun H locs hP hS => ?_)
    refine lv_aload_n hx hb dX7_drop_33 rfl (lv_at hl 0 rfl) ?_
    refine lv_aload_n hx hb dX7_drop_34 rfl (lv_at hl 0 rfl) ?_
    obtain ⟨f_7, ef_7, h⟩ := z_bd_some h
    refine g_get (ci := 7) (k := 6) (v := .int f_7) hc hP rfl z_inX7 (by decide) wF_X7_48 (g_i_v ef_7) dX7_drop_35 ?_
    obtain ⟨ho_38, h⟩ := z_chk_some h
    obtain ⟨vs_, ho_38⟩ := Option.isSome_iff_exists.mp ho_38
    obtain ⟨r_9, S_8, e_38, h⟩ := z_bd2_some h
    refine g_callV (ci := 7) (As := [.int f_7]) (rv := (some (.int r_9))) (n := 1) hc hP hS rfl ho_38 (mt_X7_done l D cs A S_6 o f_7 e_38) wM_X7_80 wI_X7_done wS_X7_done wZ_X7 wC_X7_done md_X7_done ⟨rfl, rfl, Nat.le_of_ble_eq_true rfl, Nat.le_of_ble_eq_true rfl⟩ rfl hl.1 rfl (Nat.le_of_ble_eq_true rfl) dX7_drop_38 ⟨Nat.le_of_ble_eq_true rfl, Nat.le_of_ble_eq_true rfl⟩ (fun H locs hP hS => ?_)
    show W p l e (z_rmA 1 37 0 0) s m args below meth c H locs (0) (0) Q (F0 m 41 ls [.int r_9])
    cases h
    rw [hQ]
    exact g_reti hc hr hlocks hP hS dX7_drop_41
  · replace h := z_in_ c_4 h
    refine lv_aload_n hx hb dX7_drop_7 rfl (lv_at hl 0 rfl) ?_
    refine lv_iconst (v := 3) hx hb dX7_drop_8 (by decide) ?_
    obtain ⟨ho_9, h⟩ := z_chk_some h
    obtain ⟨vs_, ho_9⟩ := Option.isSome_iff_exists.mp ho_9
    obtain ⟨r_11, S_10, e_9, h⟩ := z_bd2_some h
    refine g_callV (ci := 7) (As := [.int (3 : Int32)]) (rv := (some (.int r_11))) (n := 1) hc hP hS rfl ho_9 (mt_X7_refuse l D cs A S o (3 : Int32) e_9) wM_X7_64 wI_X7_refuse wS_X7_refuse wZ_X7 wC_X7_refuse md_X7_refuse ⟨rfl, rfl, Nat.le_of_ble_eq_true rfl, Nat.le_of_ble_eq_true rfl⟩ rfl hl.1 rfl (Nat.le_of_ble_eq_true rfl) dX7_drop_9 ⟨Nat.le_of_ble_eq_true rfl, Nat.le_of_ble_eq_true rfl⟩ (fun H locs hP hS => ?_)
    show W p l e (z_rmA 1 37 0 0) s m args below meth c H locs (0) (0) Q (F0 m 12 ls [.int r_11])
    cases h
    rw [hQ]
    exact g_reti hc hr hlocks hP hS dX7_drop_12
theorem md_X7_drop : yX7_drop.cls ≠ "java/lang/invoke/MethodHandle" ∧ yX7_drop.cls ≠ "java/lang/invoke/VarHandle" ∧ (parseMethodDescriptor yX7_drop.desc).map (fun d => d.parameters.length) = some 0 := by decide +kernel
noncomputable def f_X7_count (S : GS) (o : Nat) (a0 : Int32) : Option (Int32) :=
  if a0 = 0 then z_bd (g_i S 7 6 o) fun f_7 => some f_7 else if a0 = (1 : Int32) then z_bd (g_r S 7 5 o) fun f_5 => z_bd (g_i S 0 1 f_5) fun f_6 => some f_6 else z_bd (if (2 : Int32) ≤ a0 then z_chk (g_is S 7 o) (z_bd (f_X7_setAt S o (a0 - (2 : Int32))) fun q_2 => some (q_2)) else some (none)) fun v_1 => z_mt v_1 (some (-1 : Int32)) fun a_3 => z_bd (g_i S 3 3 a_3) fun f_4 => some f_4
set_option maxHeartbeats 4000000 in
set_option maxRecDepth 100000 in
theorem mt_X7_count (l : Launch) (D : va_G) (cs : Nat → ClassId) (A : Nat → Prop) (S : GS) (o : Nat) (a0 : Int32) {r_ : Int32} (h : f_X7_count S o a0 = some r_) : Met l yX7_count (z_wd yX7_count cX7_count 3 (some .int)) (z_rmA 1 37 0 0) (va_Pc [.ref o, .int a0] (g_C D cs A S)) (g_Q (some (.int r_)) S D cs A) 0 0 A := by
  refine Met.ofW (cc := cX7_count) (maxL := 3) (ret := (some .int)) (by decide) rfl ?_
  intro p e s m args below meth c s₁ B hml hv
  obtain ⟨hav, hP0, hK, hN, hSt, hAn⟩ := hv
  have hx := B.exec
  have hb := B.bytes
  have hr := B.returns
  have hts := atoms_spec (ws := z_wd yX7_count cX7_count 3 (some .int)) B.pre
  have hown : s.vm.findClass RX7 = some m.cls := findClass_of_methodNamed B.named
  have hlocks := B.notSynchronized
  have hc : g_X p s m args c cX7_count 3 RX7 D cs A := ⟨⟨hx, hb, hml, fun w hw => hts w (List.mem_cons_of_mem _ hw), hown⟩, hK, hN, hSt, hAn⟩
  have hl := lv_entry ([.ref o, .int a0]) (n := 3) (Nat.le_of_ble_eq_true rfl)
  have hE : entryFrame m args 3 = F0 m 0 ((lg_sl ([.ref o, .int a0]) ++ List.replicate (3 - (lg_sl ([.ref o, .int a0])).length) Slot.unset).toArray) [] := by rw [hav]; exact lg_entry_eq m _ _
  rw [hE]
  clear hE hav
  generalize (lg_sl ([.ref o, .int a0]) ++ List.replicate (3 - (lg_sl ([.ref o, .int a0])).length) Slot.unset).toArray = ls at hl ⊢
  have hl : lv_has ls 3 [(0, .ref o), (1, .int a0)] := hl
  obtain ⟨Q, hQ⟩ : ∃ Q, Q = MQ below (g_Q (some (.int r_)) S D cs A) args s 0 0 A := ⟨_, rfl⟩
  rw [← hQ]
  suffices hmain : ∀ (H : Heap) (locs : List Loc), g_P D cs A S H → va_S A s.heap H locs → W p l e (z_rmA 1 37 0 0) s m args below meth c H locs 0 0 Q (F0 m 0 ls []) from hmain s.heap [] hP0 va_S.rf
  clear hP0
  intro H locs hP hS
  unfold f_X7_count at h
  refine lv_iload_n hx hb dX7_count_0 rfl (lv_at hl 1 rfl) ?_
  refine lv_if_ne (tgt := 9) hx hb dX7_count_1 (by decide) (fun c_1 => ?_) (fun c_1 => ?_)
  · replace h := z_in_ c_1 h
    refine lv_iload_n hx hb dX7_count_9 rfl (lv_at hl 1 rfl) ?_
    refine lv_iconst (v := 1) hx hb dX7_count_10 (by decide) ?_
    refine lv_icmp_ne (tgt := 22) hx hb dX7_count_11 (by decide) (fun c_11 => ?_) (fun c_11 => ?_)
    · replace h := z_in_ c_11 h
      refine lv_iload_n hx hb dX7_count_22 rfl (lv_at hl 1 rfl) ?_
      refine lv_iconst (v := 2) hx hb dX7_count_23 (by decide) ?_
      obtain ⟨v_1, hJ, h⟩ := z_bd_some h
      have J_38 : ∀ (H : Heap) (locs : List Loc) (ls : Array Slot), g_P D cs A S H → va_S A s.heap H locs → lv_has ls 3 [] → W p l e (z_rmA 1 37 0 0) s m args below meth c H locs (0) (0) Q (F0 m 38 ls [va_rf v_1]) := by
        intro H locs ls hP hS hl
        refine q_astore_n (lv' := [(2, va_rf v_1)]) hx hb dX7_count_38 rfl hl (by decide) rfl (fun ls hl => ?_)
        refine q_aload_n hx hb dX7_count_39 rfl (lv_at hl 0 rfl) ?_
        rcases v_1 with _ | a_3
        · replace h := z_mt_n h
          refine lv_ifnonnullN hx hb dX7_count_40 ?_
          refine lv_iconst (v := -1) hx hb dX7_count_43 (by decide) ?_
          refine lv_goto (tgt := 51) hx hb dX7_count_44 (by decide) ?_
          cases h
          rw [hQ]
          exact g_reti hc hr hlocks hP hS dX7_count_51
        · replace h := z_mt_s h
          refine lv_ifnonnull (tgt := 47) hx hb dX7_count_40 (by decide) ?_
          refine lv_aload_n hx hb dX7_count_47 rfl (lv_at hl 0 rfl) ?_
          obtain ⟨f_4, ef_4, h⟩ := z_bd_some h
          refine g_getN (ci := 3) (k := 3) (v := .int f_4) hc hP rfl z_inX3 (by decide) wG_X7_129 (g_i_v ef_4) dX7_count_48 ?_
          cases h
          rw [hQ]
          exact g_reti hc hr hlocks hP hS dX7_count_51
      clear h
      have h := hJ
      clear hJ
      refine lv_icmp_ge (tgt := 31) hx hb dX7_count_24 (by decide) (fun c_24 => ?_) (fun c_24 => ?_)
      · replace h := z_ip_ c_24 h
        refine lv_aload_n hx hb dX7_count_31 rfl (lv_at hl 0 rfl) ?_
        refine lv_iload_n hx hb dX7_count_32 rfl (lv_at hl 1 rfl) ?_
        refine lv_iconst (v := 2) hx hb dX7_count_33 (by decide) ?_
        refine lv_isub hx hb dX7_count_34 ?_
        obtain ⟨ho_35, h⟩ := z_chk_some h
        obtain ⟨vs_, ho_35⟩ := Option.isSome_iff_exists.mp ho_35
        obtain ⟨q_2, e_35, h⟩ := z_bd_some h
        refine g_callV (ci := 7) (As := [.int (a0 - (2 : Int32))]) (rv := (some (va_rf q_2))) (n := 1) hc hP hS rfl ho_35 (mt_X7_setAt l D cs A S o (a0 - (2 : Int32)) e_35) wM_X7_56 wI_X7_setAt wS_X7_setAt wZ_X7 wC_X7_setAt md_X7_setAt ⟨rfl, rfl, Nat.le_of_ble_eq_true rfl, Nat.le_of_ble_eq_true rfl⟩ rfl hl.1 rfl (Nat.le_of_ble_eq_true rfl) dX7_count_35 ⟨Nat.le_of_ble_eq_true rfl, Nat.le_of_ble_eq_true rfl⟩ (fun H locs hP hS => ?_)
        show W p l e (z_rmA 1 37 0 0) s m args below meth c H locs (0) (0) Q (F0 m 38 ls [va_rf q_2])
        cases h
        exact J_38 H locs ls hP hS (lv_sub hl [] rfl)
      · replace h := z_in_ c_24 h
        refine lv_null hx hb dX7_count_27 ?_
        refine lv_goto (tgt := 38) hx hb dX7_count_28 (by decide) ?_
        cases h
        exact J_38 H locs ls hP hS (lv_sub hl [] rfl)
    · replace h := z_ip_ c_11 h
      refine lv_aload_n hx hb dX7_count_14 rfl (lv_at hl 0 rfl) ?_
      obtain ⟨f_5, ef_5, h⟩ := z_bd_some h
      refine g_get (ci := 7) (k := 5) (v := .ref f_5) hc hP rfl z_inX7 (by decide) wF_X7_44 (g_r_v ef_5) dX7_count_15 ?_
      obtain ⟨f_6, ef_6, h⟩ := z_bd_some h
      refine g_getN (ci := 0) (k := 1) (v := .int f_6) hc hP rfl z_inX0 (by decide) wG_X7_169 (g_i_v ef_6) dX7_count_18 ?_
      cases h
      rw [hQ]
      exact g_reti hc hr hlocks hP hS dX7_count_21
  · replace h := z_ip_ c_1 h
    refine lv_aload_n hx hb dX7_count_4 rfl (lv_at hl 0 rfl) ?_
    obtain ⟨f_7, ef_7, h⟩ := z_bd_some h
    refine g_get (ci := 7) (k := 6) (v := .int f_7) hc hP rfl z_inX7 (by decide) wF_X7_48 (g_i_v ef_7) dX7_count_5 ?_
    cases h
    rw [hQ]
    exact g_reti hc hr hlocks hP hS dX7_count_8
theorem md_X7_count : yX7_count.cls ≠ "java/lang/invoke/MethodHandle" ∧ yX7_count.cls ≠ "java/lang/invoke/VarHandle" ∧ (parseMethodDescriptor yX7_count.desc).map (fun d => d.parameters.length) = some 1 := by decide +kernel
noncomputable def f_X7_fitAt (S : GS) (o : Nat) (a0 : Int32) : Option (Option Nat) :=
  if a0 < 0 then some none else if (10 : Int32) ≤ a0 then some none else z_bd (g_r S 7 1 o) fun f_1 => z_bd (g_rQ S 1 f_1 a0) fun q_2 => some q_2
set_option maxHeartbeats 4000000 in
set_option maxRecDepth 100000 in
theorem mt_X7_fitAt (l : Launch) (D : va_G) (cs : Nat → ClassId) (A : Nat → Prop) (S : GS) (o : Nat) (a0 : Int32) {r_ : Option Nat} (h : f_X7_fitAt S o a0 = some r_) : Met l yX7_fitAt (z_wd yX7_fitAt cX7_fitAt 2 (some (.object "LevelFits$Fit"))) (z_rmA 0 0 0 0) (va_Pc [.ref o, .int a0] (g_C D cs A S)) (g_Q (some (va_rf r_)) S D cs A) 0 0 A := by
  refine Met.ofW (cc := cX7_fitAt) (maxL := 2) (ret := (some (.object "LevelFits$Fit"))) (by decide) rfl ?_
  intro p e s m args below meth c s₁ B hml hv
  obtain ⟨hav, hP0, hK, hN, hSt, hAn⟩ := hv
  have hx := B.exec
  have hb := B.bytes
  have hr := B.returns
  have hts := atoms_spec (ws := z_wd yX7_fitAt cX7_fitAt 2 (some (.object "LevelFits$Fit"))) B.pre
  have hown : s.vm.findClass RX7 = some m.cls := findClass_of_methodNamed B.named
  have hlocks := B.notSynchronized
  have hc : g_X p s m args c cX7_fitAt 2 RX7 D cs A := ⟨⟨hx, hb, hml, fun w hw => hts w (List.mem_cons_of_mem _ hw), hown⟩, hK, hN, hSt, hAn⟩
  have hl := lv_entry ([.ref o, .int a0]) (n := 2) (Nat.le_of_ble_eq_true rfl)
  have hE : entryFrame m args 2 = F0 m 0 ((lg_sl ([.ref o, .int a0]) ++ List.replicate (2 - (lg_sl ([.ref o, .int a0])).length) Slot.unset).toArray) [] := by rw [hav]; exact lg_entry_eq m _ _
  rw [hE]
  clear hE hav
  generalize (lg_sl ([.ref o, .int a0]) ++ List.replicate (2 - (lg_sl ([.ref o, .int a0])).length) Slot.unset).toArray = ls at hl ⊢
  have hl : lv_has ls 2 [(0, .ref o), (1, .int a0)] := hl
  obtain ⟨Q, hQ⟩ : ∃ Q, Q = MQ below (g_Q (some (va_rf r_)) S D cs A) args s 0 0 A := ⟨_, rfl⟩
  rw [← hQ]
  suffices hmain : ∀ (H : Heap) (locs : List Loc), g_P D cs A S H → va_S A s.heap H locs → W p l e (z_rmA 0 0 0 0) s m args below meth c H locs 0 0 Q (F0 m 0 ls []) from hmain s.heap [] hP0 va_S.rf
  clear hP0
  intro H locs hP hS
  unfold f_X7_fitAt at h
  refine lv_iload_n hx hb dX7_fitAt_0 rfl (lv_at hl 1 rfl) ?_
  refine lv_if_lt (tgt := 19) hx hb dX7_fitAt_1 (by decide) (fun c_1 => ?_) (fun c_1 => ?_)
  · replace h := z_ip_ c_1 h
    refine lv_null hx hb dX7_fitAt_19 ?_
    cases h
    rw [hQ]
    exact g_retq (r := none) hc hr hlocks hP hS dX7_fitAt_20
  · replace h := z_in_ c_1 h
    refine lv_iload_n hx hb dX7_fitAt_4 rfl (lv_at hl 1 rfl) ?_
    refine lv_bipush (v := 10) hx hb dX7_fitAt_5 (by decide) ?_
    refine lv_icmp_ge (tgt := 19) hx hb dX7_fitAt_7 (by decide) (fun c_7 => ?_) (fun c_7 => ?_)
    · replace h := z_ip_ c_7 h
      refine lv_null hx hb dX7_fitAt_19 ?_
      cases h
      rw [hQ]
      exact g_retq (r := none) hc hr hlocks hP hS dX7_fitAt_20
    · replace h := z_in_ c_7 h
      refine lv_aload_n hx hb dX7_fitAt_10 rfl (lv_at hl 0 rfl) ?_
      obtain ⟨f_1, ef_1, h⟩ := z_bd_some h
      refine g_get (ci := 7) (k := 1) (v := .ref f_1) hc hP rfl z_inX7 (by decide) wF_X7_17 (g_r_v ef_1) dX7_fitAt_11 ?_
      refine lv_iload_n hx hb dX7_fitAt_14 rfl (lv_at hl 1 rfl) ?_
      obtain ⟨q_2, eq_2, h⟩ := z_bd_some h
      refine g_aald (t := 1) hc hP rfl eq_2 dX7_fitAt_15 ?_
      refine lv_goto (tgt := 20) hx hb dX7_fitAt_16 (by decide) ?_
      cases h
      rw [hQ]
      exact g_retq hc hr hlocks hP hS dX7_fitAt_20
theorem md_X7_fitAt : yX7_fitAt.cls ≠ "java/lang/invoke/MethodHandle" ∧ yX7_fitAt.cls ≠ "java/lang/invoke/VarHandle" ∧ (parseMethodDescriptor yX7_fitAt.desc).map (fun d => d.parameters.length) = some 1 := by decide +kernel
noncomputable def f_X7_told (S : GS) (o : Nat) (a0 : Int32) (a1 : Int32) : Option (Int32) :=
  z_chk (g_is S 7 o) (z_bd (f_X7_fitAt S o a0) fun q_1 => z_mt q_1 (some (-1 : Int32)) fun a_2 => if a1 = 0 then z_bd (g_i S 1 1 a_2) fun f_3 => some f_3 else if a1 = 1 then z_bd (g_r S 1 3 a_2) fun f_4 => z_bd (g_i S 3 3 f_4) fun f_5 => some f_5 else if a1 = 2 then z_bd (g_i S 1 2 a_2) fun f_6 => some f_6 else if a1 = 3 then z_chk (g_is S 1 a_2) (z_bd (f_X1_farCount S a_2 ) fun r_7 => some r_7) else if a1 = 4 then z_bd (g_i S 1 6 a_2) fun f_8 => some f_8 else some (-1 : Int32))
set_option maxHeartbeats 4000000 in
set_option maxRecDepth 100000 in
theorem mt_X7_told (l : Launch) (D : va_G) (cs : Nat → ClassId) (A : Nat → Prop) (S : GS) (o : Nat) (a0 : Int32) (a1 : Int32) {r_ : Int32} (h : f_X7_told S o a0 a1 = some r_) : Met l yX7_told (z_wd yX7_told cX7_told 4 (some .int)) (z_rmA 6 230 0 0) (va_Pc [.ref o, .int a0, .int a1] (g_C D cs A S)) (g_Q (some (.int r_)) S D cs A) 0 0 A := by
  refine Met.ofW (cc := cX7_told) (maxL := 4) (ret := (some .int)) (by decide) rfl ?_
  intro p e s m args below meth c s₁ B hml hv
  obtain ⟨hav, hP0, hK, hN, hSt, hAn⟩ := hv
  have hx := B.exec
  have hb := B.bytes
  have hr := B.returns
  have hts := atoms_spec (ws := z_wd yX7_told cX7_told 4 (some .int)) B.pre
  have hown : s.vm.findClass RX7 = some m.cls := findClass_of_methodNamed B.named
  have hlocks := B.notSynchronized
  have hc : g_X p s m args c cX7_told 4 RX7 D cs A := ⟨⟨hx, hb, hml, fun w hw => hts w (List.mem_cons_of_mem _ hw), hown⟩, hK, hN, hSt, hAn⟩
  have hl := lv_entry ([.ref o, .int a0, .int a1]) (n := 4) (Nat.le_of_ble_eq_true rfl)
  have hE : entryFrame m args 4 = F0 m 0 ((lg_sl ([.ref o, .int a0, .int a1]) ++ List.replicate (4 - (lg_sl ([.ref o, .int a0, .int a1])).length) Slot.unset).toArray) [] := by rw [hav]; exact lg_entry_eq m _ _
  rw [hE]
  clear hE hav
  generalize (lg_sl ([.ref o, .int a0, .int a1]) ++ List.replicate (4 - (lg_sl ([.ref o, .int a0, .int a1])).length) Slot.unset).toArray = ls at hl ⊢
  have hl : lv_has ls 4 [(0, .ref o), (1, .int a0), (2, .int a1)] := hl
  obtain ⟨Q, hQ⟩ : ∃ Q, Q = MQ below (g_Q (some (.int r_)) S D cs A) args s 0 0 A := ⟨_, rfl⟩
  rw [← hQ]
  suffices hmain : ∀ (H : Heap) (locs : List Loc), g_P D cs A S H → va_S A s.heap H locs → W p l e (z_rmA 6 230 0 0) s m args below meth c H locs 0 0 Q (F0 m 0 ls []) from hmain s.heap [] hP0 va_S.rf
  clear hP0
  intro H locs hP hS
  unfold f_X7_told at h
  refine lv_aload_n hx hb dX7_told_0 rfl (lv_at hl 0 rfl) ?_
  refine lv_iload_n hx hb dX7_told_1 rfl (lv_at hl 1 rfl) ?_
  obtain ⟨ho_2, h⟩ := z_chk_some h
  obtain ⟨vs_, ho_2⟩ := Option.isSome_iff_exists.mp ho_2
  obtain ⟨q_1, e_2, h⟩ := z_bd_some h
  refine g_callV (ci := 7) (As := [.int a0]) (rv := (some (va_rf q_1))) (n := 1) hc hP hS rfl ho_2 (mt_X7_fitAt l D cs A S o a0 e_2) wM_X7_172 wI_X7_fitAt wS_X7_fitAt wZ_X7 wC_X7_fitAt md_X7_fitAt ⟨rfl, rfl, Nat.le_of_ble_eq_true rfl, Nat.le_of_ble_eq_true rfl⟩ rfl hl.1 rfl (Nat.le_of_ble_eq_true rfl) dX7_told_2 ⟨Nat.le_of_ble_eq_true rfl, Nat.le_of_ble_eq_true rfl⟩ (fun H locs hP hS => ?_)
  show W p l e (z_rmA 6 230 0 0) s m args below meth c H locs (0) (0) Q (F0 m 5 ls [va_rf q_1])
  refine q_astore_n (lv' := [(3, va_rf q_1), (0, .ref o), (1, .int a0), (2, .int a1)]) hx hb dX7_told_5 rfl hl (by decide) rfl (fun ls hl => ?_)
  refine q_aload_n hx hb dX7_told_6 rfl (lv_at hl 0 rfl) ?_
  rcases q_1 with _ | a_2
  · replace h := z_mt_n h
    refine lv_ifnonnullN hx hb dX7_told_7 ?_
    refine lv_iconst (v := -1) hx hb dX7_told_10 (by decide) ?_
    cases h
    rw [hQ]
    exact g_reti hc hr hlocks hP hS dX7_told_11
  · replace h := z_mt_s h
    refine lv_ifnonnull (tgt := 12) hx hb dX7_told_7 (by decide) ?_
    refine lv_iload_n hx hb dX7_told_12 rfl (lv_at hl 3 rfl) ?_
    by_cases c_13_0 : a1 = 0
    · replace h := z_ip_ c_13_0 h
      refine lv_tableIn (off := 35) (tgt := 48) hx hb dX7_told_13 (by rw [c_13_0]; decide) (by rw [c_13_0]; decide) (by rw [c_13_0]; rfl) (by decide) ?_
      refine lv_aload_n hx hb dX7_told_48 rfl (lv_at hl 0 rfl) ?_
      obtain ⟨f_3, ef_3, h⟩ := z_bd_some h
      refine g_getN (ci := 1) (k := 1) (v := .int f_3) hc hP rfl z_inX1 (by decide) wG_X7_176 (g_i_v ef_3) dX7_told_49 ?_
      cases h
      rw [hQ]
      exact g_reti hc hr hlocks hP hS dX7_told_52
    · replace h := z_in_ c_13_0 h
      by_cases c_13_1 : a1 = 1
      · replace h := z_ip_ c_13_1 h
        refine lv_tableIn (off := 40) (tgt := 53) hx hb dX7_told_13 (by rw [c_13_1]; decide) (by rw [c_13_1]; decide) (by rw [c_13_1]; rfl) (by decide) ?_
        refine lv_aload_n hx hb dX7_told_53 rfl (lv_at hl 0 rfl) ?_
        obtain ⟨f_4, ef_4, h⟩ := z_bd_some h
        refine g_getN (ci := 1) (k := 3) (v := .ref f_4) hc hP rfl z_inX1 (by decide) wG_X7_132 (g_r_v ef_4) dX7_told_54 ?_
        obtain ⟨f_5, ef_5, h⟩ := z_bd_some h
        refine g_getN (ci := 3) (k := 3) (v := .int f_5) hc hP rfl z_inX3 (by decide) wG_X7_129 (g_i_v ef_5) dX7_told_57 ?_
        cases h
        rw [hQ]
        exact g_reti hc hr hlocks hP hS dX7_told_60
      · replace h := z_in_ c_13_1 h
        by_cases c_13_2 : a1 = 2
        · replace h := z_ip_ c_13_2 h
          refine lv_tableIn (off := 48) (tgt := 61) hx hb dX7_told_13 (by rw [c_13_2]; decide) (by rw [c_13_2]; decide) (by rw [c_13_2]; rfl) (by decide) ?_
          refine lv_aload_n hx hb dX7_told_61 rfl (lv_at hl 0 rfl) ?_
          obtain ⟨f_6, ef_6, h⟩ := z_bd_some h
          refine g_getN (ci := 1) (k := 2) (v := .int f_6) hc hP rfl z_inX1 (by decide) wG_X7_179 (g_i_v ef_6) dX7_told_62 ?_
          cases h
          rw [hQ]
          exact g_reti hc hr hlocks hP hS dX7_told_65
        · replace h := z_in_ c_13_2 h
          by_cases c_13_3 : a1 = 3
          · replace h := z_ip_ c_13_3 h
            refine lv_tableIn (off := 53) (tgt := 66) hx hb dX7_told_13 (by rw [c_13_3]; decide) (by rw [c_13_3]; decide) (by rw [c_13_3]; rfl) (by decide) ?_
            refine lv_aload_n hx hb dX7_told_66 rfl (lv_at hl 0 rfl) ?_
            obtain ⟨ho_67, h⟩ := z_chk_some h
            obtain ⟨vs_, ho_67⟩ := Option.isSome_iff_exists.mp ho_67
            obtain ⟨r_7, e_67, h⟩ := z_bd_some h
            refine g_callV (ci := 1) (As := []) (rv := (some (.int r_7))) (n := 0) hc hP hS rfl ho_67 (mt_X1_farCount l D cs A S a_2  e_67) wM_X7_182 wI_X1_farCount wS_X1_farCount wZ_X1 wC_X1_farCount md_X1_farCount ⟨rfl, rfl, Nat.le_of_ble_eq_true rfl, Nat.le_of_ble_eq_true rfl⟩ rfl hl.1 rfl (Nat.le_of_ble_eq_true rfl) dX7_told_67 ⟨Nat.le_of_ble_eq_true rfl, Nat.le_of_ble_eq_true rfl⟩ (fun H locs hP hS => ?_)
            show W p l e (z_rmA 6 230 0 0) s m args below meth c H locs (0) (0) Q (F0 m 70 ls [.int r_7])
            cases h
            rw [hQ]
            exact g_reti hc hr hlocks hP hS dX7_told_70
          · replace h := z_in_ c_13_3 h
            by_cases c_13_4 : a1 = 4
            · replace h := z_ip_ c_13_4 h
              refine lv_tableIn (off := 58) (tgt := 71) hx hb dX7_told_13 (by rw [c_13_4]; decide) (by rw [c_13_4]; decide) (by rw [c_13_4]; rfl) (by decide) ?_
              refine lv_aload_n hx hb dX7_told_71 rfl (lv_at hl 0 rfl) ?_
              obtain ⟨f_8, ef_8, h⟩ := z_bd_some h
              refine g_getN (ci := 1) (k := 6) (v := .int f_8) hc hP rfl z_inX1 (by decide) wG_X7_186 (g_i_v ef_8) dX7_told_72 ?_
              cases h
              rw [hQ]
              exact g_reti hc hr hlocks hP hS dX7_told_75
            · replace h := z_in_ c_13_4 h
              refine lv_tableOut (tgt := 76) hx hb dX7_told_13 (z_out_0_4 c_13_0 c_13_1 c_13_2 c_13_3 c_13_4) (by decide) ?_
              refine lv_iconst (v := -1) hx hb dX7_told_76 (by decide) ?_
              cases h
              rw [hQ]
              exact g_reti hc hr hlocks hP hS dX7_told_77
theorem md_X7_told : yX7_told.cls ≠ "java/lang/invoke/MethodHandle" ∧ yX7_told.cls ≠ "java/lang/invoke/VarHandle" ∧ (parseMethodDescriptor yX7_told.desc).map (fun d => d.parameters.length) = some 2 := by decide +kernel
