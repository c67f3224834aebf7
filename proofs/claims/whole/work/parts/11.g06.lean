noncomputable def f_X2_interpolate_L24 (a0 : Int32) (o : Nat) (x4_7 : Int32) (S_8 : GS) : Option ((GS) ⊕ (Int32 × GS)) :=
  if a0 ≤ x4_7 then some (.inl (S_8)) else if (4 : Int32) ≤ x4_7 then some (.inl (S_8)) else z_bd (f_X2_sign ((a0 - (1 : Int32)) - x4_7)) fun r_10 => z_chk (g_is S_8 2 o) (z_bd (f_X2_spreadWithout S_8 o x4_7 a0) fun r_11 => z_bd (g_r S_8 2 4 o) fun f_12 => z_bd (g_rJ S_8 f_12 x4_7) fun v_13 => z_chk (g_is S_8 2 o) (z_bd (f_X2_makeBasis S_8 o x4_7 a0) fun S_14 => z_bd (g_r S_14 2 6 o) fun f_15 => z_bd (g_rJ S_14 f_15 (0 : Int32)) fun v_16 => z_bd (g_r S_14 2 5 o) fun f_17 => z_bd (g_rJ S_14 f_17 (0 : Int32)) fun v_18 => z_bd (g_wJ S_14 f_15 (0 : Int32) (v_16 + (((r_10.toInt64 * r_11) * v_13) * v_18))) fun S_19 => z_bd (g_r S_19 2 6 o) fun f_20 => z_bd (g_rJ S_19 f_20 (1 : Int32)) fun v_21 => z_bd (g_r S_19 2 5 o) fun f_22 => z_bd (g_rJ S_19 f_22 (1 : Int32)) fun v_23 => z_bd (g_wJ S_19 f_20 (1 : Int32) (v_21 + (((r_10.toInt64 * r_11) * v_13) * v_23))) fun S_24 => z_bd (g_r S_24 2 6 o) fun f_25 => z_bd (g_rJ S_24 f_25 (2 : Int32)) fun v_26 => z_bd (g_r S_24 2 5 o) fun f_27 => z_bd (g_rJ S_24 f_27 (2 : Int32)) fun v_28 => z_bd (g_wJ S_24 f_25 (2 : Int32) (v_26 + (((r_10.toInt64 * r_11) * v_13) * v_28))) fun S_29 => some (.inr ((x4_7 + 1), S_29))))
noncomputable def f_X2_interpolate (S : GS) (o : Nat) (a0 : Int32) (a1 : Int64) : Option (GS) :=
  z_bd (g_r S 2 6 o) fun f_1 => z_bd (g_wJ S f_1 (0 : Int32) (0 : Int64)) fun S_2 => z_bd (g_r S_2 2 6 o) fun f_3 => z_bd (g_wJ S_2 f_3 (1 : Int32) (0 : Int64)) fun S_4 => z_bd (g_r S_4 2 6 o) fun f_5 => z_bd (g_wJ S_4 f_5 (2 : Int32) (0 : Int64)) fun S_6 => z_bd (z_lp (fun x => f_X2_interpolate_L24 a0 o x.1 x.2) ((0 : Int32), S_6)) fun S_9 => z_bd (g_r S_9 2 7 o) fun f_30 => z_bd (g_r S_9 2 6 o) fun f_31 => z_bd (g_rJ S_9 f_31 (0 : Int32)) fun v_32 => z_bd (g_r S_9 2 6 o) fun f_33 => z_bd (g_rJ S_9 f_33 (1 : Int32)) fun v_34 => z_bd (g_r S_9 2 6 o) fun f_35 => z_bd (g_rJ S_9 f_35 (2 : Int32)) fun v_36 => z_chk (g_is S_9 2 o) (z_bd (f_X2_spreadWithout S_9 o (-1 : Int32) a0) fun r_37 => z_chk (g_is S_9 4 f_30) (z_bd (f_X4_become S_9 f_30 v_32 v_34 v_36 (a1 * r_37)) fun S_38 => some S_38))
set_option maxHeartbeats 4000000 in
set_option maxRecDepth 100000 in
theorem mt_X2_interpolate (l : Launch) (D : va_G) (cs : Nat → ClassId) (A : Nat → Prop) (S : GS) (o : Nat) (a0 : Int32) (a1 : Int64) {N_ : GS} (h : f_X2_interpolate S o a0 a1 = some N_) : Met l yX2_interpolate (z_wd yX2_interpolate cX2_interpolate 7 none) (z_rmA 2 92 0 0) (va_Pc [.ref o, .int a0, .long a1] (g_C D cs A S)) (g_Q none N_ D cs A) 0 0 A := by
  refine Met.ofW (cc := cX2_interpolate) (maxL := 7) (ret := none) (by decide) rfl ?_
  intro p e s m args below meth c s₁ B hml hv
  obtain ⟨hav, hP0, hK, hN, hSt, hAn⟩ := hv
  have hx := B.exec
  have hb := B.bytes
  have hr := B.returns
  have hts := atoms_spec (ws := z_wd yX2_interpolate cX2_interpolate 7 none) B.pre
  have hown : s.vm.findClass RX2 = some m.cls := findClass_of_methodNamed B.named
  have hlocks := B.notSynchronized
  have hc : g_X p s m args c cX2_interpolate 7 RX2 D cs A := ⟨⟨hx, hb, hml, fun w hw => hts w (List.mem_cons_of_mem _ hw), hown⟩, hK, hN, hSt, hAn⟩
  have hl := lv_entry ([.ref o, .int a0, .long a1]) (n := 7) (Nat.le_of_ble_eq_true rfl)
  have hE : entryFrame m args 7 = F0 m 0 ((lg_sl ([.ref o, .int a0, .long a1]) ++ List.replicate (7 - (lg_sl ([.ref o, .int a0, .long a1])).length) Slot.unset).toArray) [] := by rw [hav]; exact lg_entry_eq m _ _
  rw [hE]
  clear hE hav
  generalize (lg_sl ([.ref o, .int a0, .long a1]) ++ List.replicate (7 - (lg_sl ([.ref o, .int a0, .long a1])).length) Slot.unset).toArray = ls at hl ⊢
  have hl : lv_has ls 7 [(0, .ref o), (1, .int a0), (2, .long a1)] := hl
  obtain ⟨Q, hQ⟩ : ∃ Q, Q = MQ below (g_Q none N_ D cs A) args s 0 0 A := ⟨_, rfl⟩
  rw [← hQ]
  suffices hmain : ∀ (H : Heap) (locs : List Loc), g_P D cs A S H → va_S A s.heap H locs → W p l e (z_rmA 2 92 0 0) s m args below meth c H locs 0 0 Q (F0 m 0 ls []) from hmain s.heap [] hP0 va_S.rf
  clear hP0
  intro H locs hP hS
  unfold f_X2_interpolate at h
  refine lv_aload_n hx hb dX2_interpolate_0 rfl (lv_at hl 0 rfl) ?_
  obtain ⟨f_1, ef_1, h⟩ := z_bd_some h
  refine g_get (ci := 2) (k := 6) (v := .ref f_1) hc hP rfl z_inX2 (by decide) wF_X2_31 (g_r_v ef_1) dX2_interpolate_1 ?_
  refine lv_iconst (v := 0) hx hb dX2_interpolate_4 (by decide) ?_
  refine lv_lconst (v := 0) hx hb dX2_interpolate_5 (by decide) ?_
  obtain ⟨S_2, eS_2, h⟩ := z_bd_some h
  refine g_last hc hP hS eS_2 dX2_interpolate_6 (fun H locs hP hS => ?_)
  refine lv_aload_n hx hb dX2_interpolate_7 rfl (lv_at hl 0 rfl) ?_
  obtain ⟨f_3, ef_3, h⟩ := z_bd_some h
  refine g_get (ci := 2) (k := 6) (v := .ref f_3) hc hP rfl z_inX2 (by decide) wF_X2_31 (g_r_v ef_3) dX2_interpolate_8 ?_
  refine lv_iconst (v := 1) hx hb dX2_interpolate_11 (by decide) ?_
  refine lv_lconst (v := 0) hx hb dX2_interpolate_12 (by decide) ?_
  obtain ⟨S_4, eS_4, h⟩ := z_bd_some h
  refine g_last hc hP hS eS_4 dX2_interpolate_13 (fun H locs hP hS => ?_)
  refine lv_aload_n hx hb dX2_interpolate_14 rfl (lv_at hl 0 rfl) ?_
  obtain ⟨f_5, ef_5, h⟩ := z_bd_some h
  refine g_get (ci := 2) (k := 6) (v := .ref f_5) hc hP rfl z_inX2 (by decide) wF_X2_31 (g_r_v ef_5) dX2_interpolate_15 ?_
  refine lv_iconst (v := 2) hx hb dX2_interpolate_18 (by decide) ?_
  refine lv_lconst (v := 0) hx hb dX2_interpolate_19 (by decide) ?_
  obtain ⟨S_6, eS_6, h⟩ := z_bd_some h
  refine g_last hc hP hS eS_6 dX2_interpolate_20 (fun H locs hP hS => ?_)
  refine lv_iconst (v := 0) hx hb dX2_interpolate_21 (by decide) ?_
  refine lv_istore (lv' := [(4, .int (0 : Int32)), (0, .ref o), (1, .int a0), (2, .long a1)]) hx hb dX2_interpolate_22 hl (by decide) rfl (fun ls hl => ?_)
  obtain ⟨S_9, hlp, h⟩ := z_bd_some h
  refine z_lp_ind (P := fun x => ∀ (H : Heap) (locs : List Loc) (ls : Array Slot), g_P D cs A x.2 H → va_S A s.heap H locs → lv_has ls 7 [(0, .ref o), (1, .int a0), (2, .long a1), (4, .int x.1)] → W p l e (z_rmA 2 92 0 0) s m args below meth c H locs (0) (0) Q (F0 m 24 ls [])) (Qe := fun y => ∀ (H : Heap) (locs : List Loc) (ls : Array Slot), g_P D cs A y H → va_S A s.heap H locs → lv_has ls 7 [(0, .ref o), (1, .int a0), (2, .long a1)] → W p l e (z_rmA 2 92 0 0) s m args below meth c H locs (0) (0) Q (F0 m 131 ls [])) ?_ hlp ?_ H locs ls hP hS (lv_sub hl [1, 2, 3, 0] rfl)
  · clear h hlp hP hS hl
    rintro ⟨x4_7, S_8⟩ oo h K_24 H locs ls hP hS hl
    have hP : g_P D cs A S_8 H := hP
    have hl : lv_has ls 7 [(0, .ref o), (1, .int a0), (2, .long a1), (4, .int x4_7)] := hl
    have h : f_X2_interpolate_L24 a0 o x4_7 S_8 = some oo := h
    unfold f_X2_interpolate_L24 at h
    refine lv_iload hx hb dX2_interpolate_24 (lv_at hl 3 rfl) ?_
    refine lv_iload_n hx hb dX2_interpolate_26 rfl (lv_at hl 1 rfl) ?_
    refine lv_icmp_ge (tgt := 131) hx hb dX2_interpolate_27 (by decide) (fun c_27 => ?_) (fun c_27 => ?_)
    · replace h := z_ip_ c_27 h
      cases h
      exact K_24 H locs ls hP hS (lv_sub hl [0, 1, 2] rfl)
    · replace h := z_in_ c_27 h
      refine lv_iload hx hb dX2_interpolate_30 (lv_at hl 3 rfl) ?_
      refine lv_iconst (v := 4) hx hb dX2_interpolate_32 (by decide) ?_
      refine lv_icmp_ge (tgt := 131) hx hb dX2_interpolate_33 (by decide) (fun c_33 => ?_) (fun c_33 => ?_)
      · replace h := z_ip_ c_33 h
        cases h
        exact K_24 H locs ls hP hS (lv_sub hl [0, 1, 2] rfl)
      · replace h := z_in_ c_33 h
        refine lv_iload_n hx hb dX2_interpolate_36 rfl (lv_at hl 1 rfl) ?_
        refine lv_iconst (v := 1) hx hb dX2_interpolate_37 (by decide) ?_
        refine lv_isub hx hb dX2_interpolate_38 ?_
        refine lv_iload hx hb dX2_interpolate_39 (lv_at hl 3 rfl) ?_
        refine lv_isub hx hb dX2_interpolate_41 ?_
        obtain ⟨r_10, er_10, h⟩ := z_bd_some h
        refine s_calli (As := [.int ((a0 - (1 : Int32)) - x4_7)]) (r := r_10) (n := 1) hc.1 (mt_X2_sign l ((a0 - (1 : Int32)) - x4_7) er_10) wM_X2_148 wT_X2_sign wZ_X2 wC_X2_sign md_X2_sign ⟨rfl, rfl, Nat.le_of_ble_eq_true rfl, Nat.le_of_ble_eq_true rfl⟩ rfl hl.1 rfl (Nat.le_of_ble_eq_true rfl) dX2_interpolate_42 ⟨Nat.le_of_ble_eq_true rfl, Nat.le_of_ble_eq_true rfl⟩ ?_
        refine lv_i2l (v := r_10.toInt64) hx hb dX2_interpolate_45 rfl ?_
        refine lv_aload_n hx hb dX2_interpolate_46 rfl (lv_at hl 0 rfl) ?_
        refine lv_iload hx hb dX2_interpolate_47 (lv_at hl 3 rfl) ?_
        refine lv_iload_n hx hb dX2_interpolate_49 rfl (lv_at hl 1 rfl) ?_
        obtain ⟨ho_50, h⟩ := z_chk_some h
        obtain ⟨vs_, ho_50⟩ := Option.isSome_iff_exists.mp ho_50
        obtain ⟨r_11, e_50, h⟩ := z_bd_some h
        refine g_callV (ci := 2) (As := [.int x4_7, .int a0]) (rv := (some (.long r_11))) (n := 2) hc hP hS rfl ho_50 (mt_X2_spreadWithout l D cs A S_8 o x4_7 a0 e_50) wM_X2_144 wI_X2_spreadWithout wS_X2_spreadWithout wZ_X2 wC_X2_spreadWithout md_X2_spreadWithout ⟨rfl, rfl, Nat.le_of_ble_eq_true rfl, Nat.le_of_ble_eq_true rfl⟩ rfl hl.1 rfl (Nat.le_of_ble_eq_true rfl) dX2_interpolate_50 ⟨Nat.le_of_ble_eq_true rfl, Nat.le_of_ble_eq_true rfl⟩ (fun H locs hP hS => ?_)
        show W p l e (z_rmA 2 92 0 0) s m args below meth c H locs (0) (0) Q (F0 m 53 ls [.long r_11, .long r_10.toInt64])
        refine lv_lmul hx hb dX2_interpolate_53 ?_
        refine lv_aload_n hx hb dX2_interpolate_54 rfl (lv_at hl 0 rfl) ?_
        obtain ⟨f_12, ef_12, h⟩ := z_bd_some h
        refine g_get (ci := 2) (k := 4) (v := .ref f_12) hc hP rfl z_inX2 (by decide) wF_X2_25 (g_r_v ef_12) dX2_interpolate_55 ?_
        refine lv_iload hx hb dX2_interpolate_58 (lv_at hl 3 rfl) ?_
        obtain ⟨v_13, ev_13, h⟩ := z_bd_some h
        refine g_lald hc hP ev_13 dX2_interpolate_60 ?_
        refine lv_lmul hx hb dX2_interpolate_61 ?_
        refine lv_lstore (lv' := [(5, .long ((r_10.toInt64 * r_11) * v_13)), (0, .ref o), (1, .int a0), (2, .long a1), (4, .int x4_7)]) hx hb dX2_interpolate_62 hl (by decide) rfl (fun ls hl => ?_)
        refine lv_aload_n hx hb dX2_interpolate_64 rfl (lv_at hl 1 rfl) ?_
        refine lv_iload hx hb dX2_interpolate_65 (lv_at hl 4 rfl) ?_
        refine lv_iload_n hx hb dX2_interpolate_67 rfl (lv_at hl 2 rfl) ?_
        obtain ⟨ho_68, h⟩ := z_chk_some h
        obtain ⟨vs_, ho_68⟩ := Option.isSome_iff_exists.mp ho_68
        obtain ⟨S_14, e_68, h⟩ := z_bd_some h
        refine g_callV (ci := 2) (As := [.int x4_7, .int a0]) (rv := none) (n := 2) hc hP hS rfl ho_68 (mt_X2_makeBasis l D cs A S_8 o x4_7 a0 e_68) wM_X2_161 wI_X2_makeBasis wS_X2_makeBasis wZ_X2 wC_X2_makeBasis md_X2_makeBasis ⟨rfl, rfl, Nat.le_of_ble_eq_true rfl, Nat.le_of_ble_eq_true rfl⟩ rfl hl.1 rfl (Nat.le_of_ble_eq_true rfl) dX2_interpolate_68 ⟨Nat.le_of_ble_eq_true rfl, Nat.le_of_ble_eq_true rfl⟩ (fun H locs hP hS => ?_)
        show W p l e (z_rmA 2 92 0 0) s m args below meth c H locs (0) (0) Q (F0 m 71 ls [])
        refine lv_aload_n hx hb dX2_interpolate_71 rfl (lv_at hl 1 rfl) ?_
        obtain ⟨f_15, ef_15, h⟩ := z_bd_some h
        refine g_get (ci := 2) (k := 6) (v := .ref f_15) hc hP rfl z_inX2 (by decide) wF_X2_31 (g_r_v ef_15) dX2_interpolate_72 ?_
        refine lv_iconst (v := 0) hx hb dX2_interpolate_75 (by decide) ?_
        refine lv_dup2_11 hx hb dX2_interpolate_76 rfl rfl ?_
        obtain ⟨v_16, ev_16, h⟩ := z_bd_some h
        refine g_lald hc hP ev_16 dX2_interpolate_77 ?_
        refine lv_lload hx hb dX2_interpolate_78 (lv_at hl 0 rfl) ?_
        refine lv_aload_n hx hb dX2_interpolate_80 rfl (lv_at hl 1 rfl) ?_
        obtain ⟨f_17, ef_17, h⟩ := z_bd_some h
        refine g_get (ci := 2) (k := 5) (v := .ref f_17) hc hP rfl z_inX2 (by decide) wF_X2_28 (g_r_v ef_17) dX2_interpolate_81 ?_
        refine lv_iconst (v := 0) hx hb dX2_interpolate_84 (by decide) ?_
        obtain ⟨v_18, ev_18, h⟩ := z_bd_some h
        refine g_lald hc hP ev_18 dX2_interpolate_85 ?_
        refine lv_lmul hx hb dX2_interpolate_86 ?_
        refine lv_ladd hx hb dX2_interpolate_87 ?_
        obtain ⟨S_19, eS_19, h⟩ := z_bd_some h
        refine g_last hc hP hS eS_19 dX2_interpolate_88 (fun H locs hP hS => ?_)
        refine lv_aload_n hx hb dX2_interpolate_89 rfl (lv_at hl 1 rfl) ?_
        obtain ⟨f_20, ef_20, h⟩ := z_bd_some h
        refine g_get (ci := 2) (k := 6) (v := .ref f_20) hc hP rfl z_inX2 (by decide) wF_X2_31 (g_r_v ef_20) dX2_interpolate_90 ?_
        refine lv_iconst (v := 1) hx hb dX2_interpolate_93 (by decide) ?_
        refine lv_dup2_11 hx hb dX2_interpolate_94 rfl rfl ?_
        obtain ⟨v_21, ev_21, h⟩ := z_bd_some h
        refine g_lald hc hP ev_21 dX2_interpolate_95 ?_
        refine lv_lload hx hb dX2_interpolate_96 (lv_at hl 0 rfl) ?_
        refine lv_aload_n hx hb dX2_interpolate_98 rfl (lv_at hl 1 rfl) ?_
        obtain ⟨f_22, ef_22, h⟩ := z_bd_some h
        refine g_get (ci := 2) (k := 5) (v := .ref f_22) hc hP rfl z_inX2 (by decide) wF_X2_28 (g_r_v ef_22) dX2_interpolate_99 ?_
        refine lv_iconst (v := 1) hx hb dX2_interpolate_102 (by decide) ?_
        obtain ⟨v_23, ev_23, h⟩ := z_bd_some h
        refine g_lald hc hP ev_23 dX2_interpolate_103 ?_
        refine lv_lmul hx hb dX2_interpolate_104 ?_
        refine lv_ladd hx hb dX2_interpolate_105 ?_
        obtain ⟨S_24, eS_24, h⟩ := z_bd_some h
        refine g_last hc hP hS eS_24 dX2_interpolate_106 (fun H locs hP hS => ?_)
        refine lv_aload_n hx hb dX2_interpolate_107 rfl (lv_at hl 1 rfl) ?_
        obtain ⟨f_25, ef_25, h⟩ := z_bd_some h
        refine g_get (ci := 2) (k := 6) (v := .ref f_25) hc hP rfl z_inX2 (by decide) wF_X2_31 (g_r_v ef_25) dX2_interpolate_108 ?_
        refine lv_iconst (v := 2) hx hb dX2_interpolate_111 (by decide) ?_
        refine lv_dup2_11 hx hb dX2_interpolate_112 rfl rfl ?_
        obtain ⟨v_26, ev_26, h⟩ := z_bd_some h
        refine g_lald hc hP ev_26 dX2_interpolate_113 ?_
        refine lv_lload hx hb dX2_interpolate_114 (lv_at hl 0 rfl) ?_
        refine lv_aload_n hx hb dX2_interpolate_116 rfl (lv_at hl 1 rfl) ?_
        obtain ⟨f_27, ef_27, h⟩ := z_bd_some h
        refine g_get (ci := 2) (k := 5) (v := .ref f_27) hc hP rfl z_inX2 (by decide) wF_X2_28 (g_r_v ef_27) dX2_interpolate_117 ?_
        refine lv_iconst (v := 2) hx hb dX2_interpolate_120 (by decide) ?_
        obtain ⟨v_28, ev_28, h⟩ := z_bd_some h
        refine g_lald hc hP ev_28 dX2_interpolate_121 ?_
        refine lv_lmul hx hb dX2_interpolate_122 ?_
        refine lv_ladd hx hb dX2_interpolate_123 ?_
        obtain ⟨S_29, eS_29, h⟩ := z_bd_some h
        refine g_last hc hP hS eS_29 dX2_interpolate_124 (fun H locs hP hS => ?_)
        refine lv_iinc (v := (x4_7 + 1)) (lv' := [(4, .int (x4_7 + 1)), (5, .long ((r_10.toInt64 * r_11) * v_13)), (0, .ref o), (1, .int a0), (2, .long a1)]) hx hb dX2_interpolate_125 hl (k := 4) rfl rfl (by decide) rfl (fun ls hl => ?_)
        refine lv_goto (tgt := 24) hx hb dX2_interpolate_128 (by decide) ?_
        cases h
        exact K_24 H locs ls hP hS (lv_sub hl [2, 3, 4, 0] rfl)
  · clear hlp hP hS hl
    intro H locs ls hP hS hl
    have hP : g_P D cs A S_9 H := hP
    have hl : lv_has ls 7 [(0, .ref o), (1, .int a0), (2, .long a1)] := hl
    refine lv_aload_n hx hb dX2_interpolate_131 rfl (lv_at hl 0 rfl) ?_
    obtain ⟨f_30, ef_30, h⟩ := z_bd_some h
    refine g_get (ci := 2) (k := 7) (v := .ref f_30) hc hP rfl z_inX2 (by decide) wF_X2_37 (g_r_v ef_30) dX2_interpolate_132 ?_
    refine lv_aload_n hx hb dX2_interpolate_135 rfl (lv_at hl 0 rfl) ?_
    obtain ⟨f_31, ef_31, h⟩ := z_bd_some h
    refine g_get (ci := 2) (k := 6) (v := .ref f_31) hc hP rfl z_inX2 (by decide) wF_X2_31 (g_r_v ef_31) dX2_interpolate_136 ?_
    refine lv_iconst (v := 0) hx hb dX2_interpolate_139 (by decide) ?_
    obtain ⟨v_32, ev_32, h⟩ := z_bd_some h
    refine g_lald hc hP ev_32 dX2_interpolate_140 ?_
    refine lv_aload_n hx hb dX2_interpolate_141 rfl (lv_at hl 0 rfl) ?_
    obtain ⟨f_33, ef_33, h⟩ := z_bd_some h
    refine g_get (ci := 2) (k := 6) (v := .ref f_33) hc hP rfl z_inX2 (by decide) wF_X2_31 (g_r_v ef_33) dX2_interpolate_142 ?_
    refine lv_iconst (v := 1) hx hb dX2_interpolate_145 (by decide) ?_
    obtain ⟨v_34, ev_34, h⟩ := z_bd_some h
    refine g_lald hc hP ev_34 dX2_interpolate_146 ?_
    refine lv_aload_n hx hb dX2_interpolate_147 rfl (lv_at hl 0 rfl) ?_
    obtain ⟨f_35, ef_35, h⟩ := z_bd_some h
    refine g_get (ci := 2) (k := 6) (v := .ref f_35) hc hP rfl z_inX2 (by decide) wF_X2_31 (g_r_v ef_35) dX2_interpolate_148 ?_
    refine lv_iconst (v := 2) hx hb dX2_interpolate_151 (by decide) ?_
    obtain ⟨v_36, ev_36, h⟩ := z_bd_some h
    refine g_lald hc hP ev_36 dX2_interpolate_152 ?_
    refine lv_lload_n hx hb dX2_interpolate_153 rfl (lv_at hl 2 rfl) ?_
    refine lv_aload_n hx hb dX2_interpolate_154 rfl (lv_at hl 0 rfl) ?_
    refine lv_iconst (v := -1) hx hb dX2_interpolate_155 (by decide) ?_
    refine lv_iload_n hx hb dX2_interpolate_156 rfl (lv_at hl 1 rfl) ?_
    obtain ⟨ho_157, h⟩ := z_chk_some h
    obtain ⟨vs_, ho_157⟩ := Option.isSome_iff_exists.mp ho_157
    obtain ⟨r_37, e_157, h⟩ := z_bd_some h
    refine g_callV (ci := 2) (As := [.int (-1 : Int32), .int a0]) (rv := (some (.long r_37))) (n := 2) hc hP hS rfl ho_157 (mt_X2_spreadWithout l D cs A S_9 o (-1 : Int32) a0 e_157) wM_X2_144 wI_X2_spreadWithout wS_X2_spreadWithout wZ_X2 wC_X2_spreadWithout md_X2_spreadWithout ⟨rfl, rfl, Nat.le_of_ble_eq_true rfl, Nat.le_of_ble_eq_true rfl⟩ rfl hl.1 rfl (Nat.le_of_ble_eq_true rfl) dX2_interpolate_157 ⟨Nat.le_of_ble_eq_true rfl, Nat.le_of_ble_eq_true rfl⟩ (fun H locs hP hS => ?_)
    show W p l e (z_rmA 2 92 0 0) s m args below meth c H locs (0) (0) Q (F0 m 160 ls [.long r_37, .long a1, .long v_36, .long v_34, .long v_32, .ref f_30])
    refine lv_lmul hx hb dX2_interpolate_160 ?_
    obtain ⟨ho_161, h⟩ := z_chk_some h
    obtain ⟨vs_, ho_161⟩ := Option.isSome_iff_exists.mp ho_161
    obtain ⟨S_38, e_161, h⟩ := z_bd_some h
    refine g_callV (ci := 4) (As := [.long v_32, .long v_34, .long v_36, .long (a1 * r_37)]) (rv := none) (n := 4) hc hP hS rfl ho_161 (mt_X4_become l D cs A S_9 f_30 v_32 v_34 v_36 (a1 * r_37) e_161) wM_X2_103 wI_X4_become wS_X4_become wZ_X4 wC_X4_become md_X4_become ⟨rfl, rfl, Nat.le_of_ble_eq_true rfl, Nat.le_of_ble_eq_true rfl⟩ rfl hl.1 rfl (Nat.le_of_ble_eq_true rfl) dX2_interpolate_161 ⟨Nat.le_of_ble_eq_true rfl, Nat.le_of_ble_eq_true rfl⟩ (fun H locs hP hS => ?_)
    show W p l e (z_rmA 2 92 0 0) s m args below meth c H locs (0) (0) Q (F0 m 164 ls [])
    cases h
    rw [hQ]
    exact g_retv hc hr hlocks hP hS dX2_interpolate_164
theorem md_X2_interpolate : yX2_interpolate.cls ≠ "java/lang/invoke/MethodHandle" ∧ yX2_interpolate.cls ≠ "java/lang/invoke/VarHandle" ∧ (parseMethodDescriptor yX2_interpolate.desc).map (fun d => d.parameters.length) = some 2 := by decide +kernel
noncomputable def f_X2_solve_L7 (S : GS) (o : Nat) (x1_1 : Int64) (x3_2 : Int64) (x5_3 : Int32) : Option ((Int64 × Int64) ⊕ (Int64 × Int64 × Int32)) :=
  z_bd (g_i S 2 9 o) fun f_6 => if f_6 < x5_3 then some (.inl (x1_1, x3_2)) else if (4 : Int32) ≤ x5_3 then some (.inl (x1_1, x3_2)) else z_bd (g_i S 2 9 o) fun f_7 => z_chk (g_is S 2 o) (z_bd (f_X2_spreadWithout S o x5_3 (f_7 + (1 : Int32))) fun r_8 => z_bd (f_X2_sign x5_3) fun r_9 => z_bd (g_r S 2 1 o) fun f_10 => z_bd (g_r S 2 3 o) fun f_11 => z_bd (g_rI S f_11 x5_3) fun v_12 => z_bd (g_rJ S f_10 v_12) fun v_13 => z_bd (g_r S 2 3 o) fun f_14 => z_bd (g_rI S f_14 x5_3) fun v_15 => z_chk (g_is S 2 o) (z_bd (f_X2_weightShare S o v_15) fun r_16 => some (.inr ((x1_1 + ((r_9.toInt64 * r_8) * v_13)), (x3_2 + (r_8 * r_16)), (x5_3 + 1)))))
noncomputable def f_X2_solve_L87 (o : Nat) (y1_4 : Int64) (y3_5 : Int64) (x5_17 : Int32) (S_18 : GS) : Option ((GS) ⊕ (Int32 × GS)) :=
  z_bd (g_i S_18 2 9 o) fun f_20 => if f_20 ≤ x5_17 then some (.inl (S_18)) else if (4 : Int32) ≤ x5_17 then some (.inl (S_18)) else z_bd (g_r S_18 2 4 o) fun f_21 => z_bd (g_r S_18 2 1 o) fun f_22 => z_bd (g_r S_18 2 3 o) fun f_23 => z_bd (g_rI S_18 f_23 x5_17) fun v_24 => z_bd (g_rJ S_18 f_22 v_24) fun v_25 => z_bd (f_X2_sign x5_17) fun r_26 => z_bd (g_r S_18 2 3 o) fun f_27 => z_bd (g_rI S_18 f_27 x5_17) fun v_28 => z_chk (g_is S_18 2 o) (z_bd (f_X2_weightShare S_18 o v_28) fun r_29 => z_bd (g_wJ S_18 f_21 x5_17 ((v_25 * y3_5) - ((r_26.toInt64 * r_29) * y1_4))) fun S_30 => some (.inr ((x5_17 + 1), S_30)))
noncomputable def f_X2_solve (S : GS) (o : Nat) : Option (GS) :=
  z_bd2 (z_lp (fun x => f_X2_solve_L7 S o x.1 x.2.1 x.2.2) ((0 : Int64), (0 : Int64), (0 : Int32))) fun y1_4 y3_5 => z_bd (z_lp (fun x => f_X2_solve_L87 o y1_4 y3_5 x.1 x.2) ((0 : Int32), S)) fun S_19 => z_bd (g_i S_19 2 9 o) fun f_31 => z_chk (g_is S_19 2 o) (z_bd (f_X2_interpolate S_19 o f_31 y3_5) fun S_32 => some S_32)
set_option maxHeartbeats 4000000 in
set_option maxRecDepth 100000 in
theorem mt_X2_solve (l : Launch) (D : va_G) (cs : Nat → ClassId) (A : Nat → Prop) (S : GS) (o : Nat) {N_ : GS} (h : f_X2_solve S o = some N_) : Met l yX2_solve (z_wd yX2_solve cX2_solve 8 none) (z_rmA 3 134 0 0) (va_Pc [.ref o] (g_C D cs A S)) (g_Q none N_ D cs A) 0 0 A := by
  refine Met.ofW (cc := cX2_solve) (maxL := 8) (ret := none) (by decide) rfl ?_
  intro p e s m args below meth c s₁ B hml hv
  obtain ⟨hav, hP0, hK, hN, hSt, hAn⟩ := hv
  have hx := B.exec
  have hb := B.bytes
  have hr := B.returns
  have hts := atoms_spec (ws := z_wd yX2_solve cX2_solve 8 none) B.pre
  have hown : s.vm.findClass RX2 = some m.cls := findClass_of_methodNamed B.named
  have hlocks := B.notSynchronized
  have hc : g_X p s m args c cX2_solve 8 RX2 D cs A := ⟨⟨hx, hb, hml, fun w hw => hts w (List.mem_cons_of_mem _ hw), hown⟩, hK, hN, hSt, hAn⟩
  have hl := lv_entry ([.ref o]) (n := 8) (Nat.le_of_ble_eq_true rfl)
  have hE : entryFrame m args 8 = F0 m 0 ((lg_sl ([.ref o]) ++ List.replicate (8 - (lg_sl ([.ref o])).length) Slot.unset).toArray) [] := by rw [hav]; exact lg_entry_eq m _ _
  rw [hE]
  clear hE hav
  generalize (lg_sl ([.ref o]) ++ List.replicate (8 - (lg_sl ([.ref o])).length) Slot.unset).toArray = ls at hl ⊢
  have hl : lv_has ls 8 [(0, .ref o)] := hl
  obtain ⟨Q, hQ⟩ : ∃ Q, Q = MQ below (g_Q none N_ D cs A) args s 0 0 A := ⟨_, rfl⟩
  rw [← hQ]
  suffices hmain : ∀ (H : Heap) (locs : List Loc), g_P D cs A S H → va_S A s.heap H locs → W p l e (z_rmA 3 134 0 0) s m args below meth c H locs 0 0 Q (F0 m 0 ls []) from hmain s.heap [] hP0 va_S.rf
  clear hP0
  intro H locs hP hS
  unfold f_X2_solve at h
  refine lv_lconst (v := 0) hx hb dX2_solve_0 (by decide) ?_
  refine lv_lstore_n (lv' := [(1, .long (0 : Int64)), (0, .ref o)]) hx hb dX2_solve_1 rfl hl (by decide) rfl (fun ls hl => ?_)
  refine lv_lconst (v := 0) hx hb dX2_solve_2 (by decide) ?_
  refine lv_lstore_n (lv' := [(3, .long (0 : Int64)), (1, .long (0 : Int64)), (0, .ref o)]) hx hb dX2_solve_3 rfl hl (by decide) rfl (fun ls hl => ?_)
  refine lv_iconst (v := 0) hx hb dX2_solve_4 (by decide) ?_
  refine lv_istore (lv' := [(5, .int (0 : Int32)), (3, .long (0 : Int64)), (1, .long (0 : Int64)), (0, .ref o)]) hx hb dX2_solve_5 hl (by decide) rfl (fun ls hl => ?_)
  obtain ⟨y1_4, y3_5, hlp, h⟩ := z_bd2_some h
  refine z_lp_ind (P := fun x => ∀ (H : Heap) (locs : List Loc) (ls : Array Slot), g_P D cs A S H → va_S A s.heap H locs → lv_has ls 8 [(0, .ref o), (1, .long x.1), (3, .long x.2.1), (5, .int x.2.2)] → W p l e (z_rmA 3 134 0 0) s m args below meth c H locs (0) (0) Q (F0 m 7 ls [])) (Qe := fun y => ∀ (H : Heap) (locs : List Loc) (ls : Array Slot), g_P D cs A S H → va_S A s.heap H locs → lv_has ls 8 [(0, .ref o), (1, .long y.1), (3, .long y.2)] → W p l e (z_rmA 3 134 0 0) s m args below meth c H locs (0) (0) Q (F0 m 84 ls [])) ?_ hlp ?_ H locs ls hP hS (lv_sub hl [3, 2, 1, 0] rfl)
  · clear h hlp hP hS hl
    rintro ⟨x1_1, x3_2, x5_3⟩ oo h K_7 H locs ls hP hS hl
    have hP : g_P D cs A S H := hP
    have hl : lv_has ls 8 [(0, .ref o), (1, .long x1_1), (3, .long x3_2), (5, .int x5_3)] := hl
    have h : f_X2_solve_L7 S o x1_1 x3_2 x5_3 = some oo := h
    unfold f_X2_solve_L7 at h
    refine lv_iload hx hb dX2_solve_7 (lv_at hl 3 rfl) ?_
    refine lv_aload_n hx hb dX2_solve_9 rfl (lv_at hl 0 rfl) ?_
    obtain ⟨f_6, ef_6, h⟩ := z_bd_some h
    refine g_get (ci := 2) (k := 9) (v := .int f_6) hc hP rfl z_inX2 (by decide) wF_X2_45 (g_i_v ef_6) dX2_solve_10 ?_
    refine lv_icmp_gt (tgt := 84) hx hb dX2_solve_13 (by decide) (fun c_13 => ?_) (fun c_13 => ?_)
    · replace h := z_ip_ c_13 h
      cases h
      exact K_7 H locs ls hP hS (lv_sub hl [0, 1, 2] rfl)
    · replace h := z_in_ c_13 h
      refine lv_iload hx hb dX2_solve_16 (lv_at hl 3 rfl) ?_
      refine lv_iconst (v := 4) hx hb dX2_solve_18 (by decide) ?_
      refine lv_icmp_ge (tgt := 84) hx hb dX2_solve_19 (by decide) (fun c_19 => ?_) (fun c_19 => ?_)
      · replace h := z_ip_ c_19 h
        cases h
        exact K_7 H locs ls hP hS (lv_sub hl [0, 1, 2] rfl)
      · replace h := z_in_ c_19 h
        refine lv_aload_n hx hb dX2_solve_22 rfl (lv_at hl 0 rfl) ?_
        refine lv_iload hx hb dX2_solve_23 (lv_at hl 3 rfl) ?_
        refine lv_aload_n hx hb dX2_solve_25 rfl (lv_at hl 0 rfl) ?_
        obtain ⟨f_7, ef_7, h⟩ := z_bd_some h
        refine g_get (ci := 2) (k := 9) (v := .int f_7) hc hP rfl z_inX2 (by decide) wF_X2_45 (g_i_v ef_7) dX2_solve_26 ?_
        refine lv_iconst (v := 1) hx hb dX2_solve_29 (by decide) ?_
        refine lv_iadd hx hb dX2_solve_30 ?_
        obtain ⟨ho_31, h⟩ := z_chk_some h
        obtain ⟨vs_, ho_31⟩ := Option.isSome_iff_exists.mp ho_31
        obtain ⟨r_8, e_31, h⟩ := z_bd_some h
        refine g_callV (ci := 2) (As := [.int x5_3, .int (f_7 + (1 : Int32))]) (rv := (some (.long r_8))) (n := 2) hc hP hS rfl ho_31 (mt_X2_spreadWithout l D cs A S o x5_3 (f_7 + (1 : Int32)) e_31) wM_X2_144 wI_X2_spreadWithout wS_X2_spreadWithout wZ_X2 wC_X2_spreadWithout md_X2_spreadWithout ⟨rfl, rfl, Nat.le_of_ble_eq_true rfl, Nat.le_of_ble_eq_true rfl⟩ rfl hl.1 rfl (Nat.le_of_ble_eq_true rfl) dX2_solve_31 ⟨Nat.le_of_ble_eq_true rfl, Nat.le_of_ble_eq_true rfl⟩ (fun H locs hP hS => ?_)
        show W p l e (z_rmA 3 134 0 0) s m args below meth c H locs (0) (0) Q (F0 m 34 ls [.long r_8])
        refine lv_lstore (lv' := [(6, .long r_8), (0, .ref o), (1, .long x1_1), (3, .long x3_2), (5, .int x5_3)]) hx hb dX2_solve_34 hl (by decide) rfl (fun ls hl => ?_)
        refine lv_lload_n hx hb dX2_solve_36 rfl (lv_at hl 2 rfl) ?_
        refine lv_iload hx hb dX2_solve_37 (lv_at hl 4 rfl) ?_
        obtain ⟨r_9, er_9, h⟩ := z_bd_some h
        refine s_calli (As := [.int x5_3]) (r := r_9) (n := 1) hc.1 (mt_X2_sign l x5_3 er_9) wM_X2_148 wT_X2_sign wZ_X2 wC_X2_sign md_X2_sign ⟨rfl, rfl, Nat.le_of_ble_eq_true rfl, Nat.le_of_ble_eq_true rfl⟩ rfl hl.1 rfl (Nat.le_of_ble_eq_true rfl) dX2_solve_39 ⟨Nat.le_of_ble_eq_true rfl, Nat.le_of_ble_eq_true rfl⟩ ?_
        refine lv_i2l (v := r_9.toInt64) hx hb dX2_solve_42 rfl ?_
        refine lv_lload hx hb dX2_solve_43 (lv_at hl 0 rfl) ?_
        refine lv_lmul hx hb dX2_solve_45 ?_
        refine lv_aload_n hx hb dX2_solve_46 rfl (lv_at hl 1 rfl) ?_
        obtain ⟨f_10, ef_10, h⟩ := z_bd_some h
        refine g_get (ci := 2) (k := 1) (v := .ref f_10) hc hP rfl z_inX2 (by decide) wF_X2_15 (g_r_v ef_10) dX2_solve_47 ?_
        refine lv_aload_n hx hb dX2_solve_50 rfl (lv_at hl 1 rfl) ?_
        obtain ⟨f_11, ef_11, h⟩ := z_bd_some h
        refine g_get (ci := 2) (k := 3) (v := .ref f_11) hc hP rfl z_inX2 (by decide) wF_X2_21 (g_r_v ef_11) dX2_solve_51 ?_
        refine lv_iload hx hb dX2_solve_54 (lv_at hl 4 rfl) ?_
        obtain ⟨v_12, ev_12, h⟩ := z_bd_some h
        refine g_iald hc hP ev_12 dX2_solve_56 ?_
        obtain ⟨v_13, ev_13, h⟩ := z_bd_some h
        refine g_lald hc hP ev_13 dX2_solve_57 ?_
        refine lv_lmul hx hb dX2_solve_58 ?_
        refine lv_ladd hx hb dX2_solve_59 ?_
        refine lv_lstore_n (lv' := [(1, .long (x1_1 + ((r_9.toInt64 * r_8) * v_13))), (6, .long r_8), (0, .ref o), (3, .long x3_2), (5, .int x5_3)]) hx hb dX2_solve_60 rfl hl (by decide) rfl (fun ls hl => ?_)
        refine lv_lload_n hx hb dX2_solve_61 rfl (lv_at hl 3 rfl) ?_
        refine lv_lload hx hb dX2_solve_62 (lv_at hl 1 rfl) ?_
        refine lv_aload_n hx hb dX2_solve_64 rfl (lv_at hl 2 rfl) ?_
        refine lv_aload_n hx hb dX2_solve_65 rfl (lv_at hl 2 rfl) ?_
        obtain ⟨f_14, ef_14, h⟩ := z_bd_some h
        refine g_get (ci := 2) (k := 3) (v := .ref f_14) hc hP rfl z_inX2 (by decide) wF_X2_21 (g_r_v ef_14) dX2_solve_66 ?_
        refine lv_iload hx hb dX2_solve_69 (lv_at hl 4 rfl) ?_
        obtain ⟨v_15, ev_15, h⟩ := z_bd_some h
        refine g_iald hc hP ev_15 dX2_solve_71 ?_
        obtain ⟨ho_72, h⟩ := z_chk_some h
        obtain ⟨vs_, ho_72⟩ := Option.isSome_iff_exists.mp ho_72
        obtain ⟨r_16, e_72, h⟩ := z_bd_some h
        refine g_callV (ci := 2) (As := [.int v_15]) (rv := (some (.long r_16))) (n := 1) hc hP hS rfl ho_72 (mt_X2_weightShare l D cs A S o v_15 e_72) wM_X2_152 wI_X2_weightShare wS_X2_weightShare wZ_X2 wC_X2_weightShare md_X2_weightShare ⟨rfl, rfl, Nat.le_of_ble_eq_true rfl, Nat.le_of_ble_eq_true rfl⟩ rfl hl.1 rfl (Nat.le_of_ble_eq_true rfl) dX2_solve_72 ⟨Nat.le_of_ble_eq_true rfl, Nat.le_of_ble_eq_true rfl⟩ (fun H locs hP hS => ?_)
        show W p l e (z_rmA 3 134 0 0) s m args below meth c H locs (0) (0) Q (F0 m 75 ls [.long r_16, .long r_8, .long x3_2])
        refine lv_lmul hx hb dX2_solve_75 ?_
        refine lv_ladd hx hb dX2_solve_76 ?_
        refine lv_lstore_n (lv' := [(3, .long (x3_2 + (r_8 * r_16))), (1, .long (x1_1 + ((r_9.toInt64 * r_8) * v_13))), (6, .long r_8), (0, .ref o), (5, .int x5_3)]) hx hb dX2_solve_77 rfl hl (by decide) rfl (fun ls hl => ?_)
        refine lv_iinc (v := (x5_3 + 1)) (lv' := [(5, .int (x5_3 + 1)), (3, .long (x3_2 + (r_8 * r_16))), (1, .long (x1_1 + ((r_9.toInt64 * r_8) * v_13))), (6, .long r_8), (0, .ref o)]) hx hb dX2_solve_78 hl (k := 4) rfl rfl (by decide) rfl (fun ls hl => ?_)
        refine lv_goto (tgt := 7) hx hb dX2_solve_81 (by decide) ?_
        cases h
        exact K_7 H locs ls hP hS (lv_sub hl [4, 2, 1, 0] rfl)
  · clear hlp hP hS hl
    intro H locs ls hP hS hl
    have hP : g_P D cs A S H := hP
    have hl : lv_has ls 8 [(0, .ref o), (1, .long y1_4), (3, .long y3_5)] := hl
    refine lv_iconst (v := 0) hx hb dX2_solve_84 (by decide) ?_
    refine lv_istore (lv' := [(5, .int (0 : Int32)), (0, .ref o), (1, .long y1_4), (3, .long y3_5)]) hx hb dX2_solve_85 hl (by decide) rfl (fun ls hl => ?_)
    obtain ⟨S_19, hlp, h⟩ := z_bd_some h
    refine z_lp_ind (P := fun x => ∀ (H : Heap) (locs : List Loc) (ls : Array Slot), g_P D cs A x.2 H → va_S A s.heap H locs → lv_has ls 8 [(0, .ref o), (1, .long y1_4), (3, .long y3_5), (5, .int x.1)] → W p l e (z_rmA 3 134 0 0) s m args below meth c H locs (0) (0) Q (F0 m 87 ls [])) (Qe := fun y => ∀ (H : Heap) (locs : List Loc) (ls : Array Slot), g_P D cs A y H → va_S A s.heap H locs → lv_has ls 8 [(0, .ref o), (3, .long y3_5)] → W p l e (z_rmA 3 134 0 0) s m args below meth c H locs (0) (0) Q (F0 m 150 ls [])) ?_ hlp ?_ H locs ls hP hS (lv_sub hl [1, 2, 3, 0] rfl)
    · clear h hlp hP hS hl
      rintro ⟨x5_17, S_18⟩ oo h K_87 H locs ls hP hS hl
      have hP : g_P D cs A S_18 H := hP
      have hl : lv_has ls 8 [(0, .ref o), (1, .long y1_4), (3, .long y3_5), (5, .int x5_17)] := hl
      have h : f_X2_solve_L87 o y1_4 y3_5 x5_17 S_18 = some oo := h
      unfold f_X2_solve_L87 at h
      refine lv_iload hx hb dX2_solve_87 (lv_at hl 3 rfl) ?_
      refine lv_aload_n hx hb dX2_solve_89 rfl (lv_at hl 0 rfl) ?_
      obtain ⟨f_20, ef_20, h⟩ := z_bd_some h
      refine g_get (ci := 2) (k := 9) (v := .int f_20) hc hP rfl z_inX2 (by decide) wF_X2_45 (g_i_v ef_20) dX2_solve_90 ?_
      refine lv_icmp_ge (tgt := 150) hx hb dX2_solve_93 (by decide) (fun c_93 => ?_) (fun c_93 => ?_)
      · replace h := z_ip_ c_93 h
        cases h
        exact K_87 H locs ls hP hS (lv_sub hl [0, 2] rfl)
      · replace h := z_in_ c_93 h
        refine lv_iload hx hb dX2_solve_96 (lv_at hl 3 rfl) ?_
        refine lv_iconst (v := 4) hx hb dX2_solve_98 (by decide) ?_
        refine lv_icmp_ge (tgt := 150) hx hb dX2_solve_99 (by decide) (fun c_99 => ?_) (fun c_99 => ?_)
        · replace h := z_ip_ c_99 h
          cases h
          exact K_87 H locs ls hP hS (lv_sub hl [0, 2] rfl)
        · replace h := z_in_ c_99 h
          refine lv_aload_n hx hb dX2_solve_102 rfl (lv_at hl 0 rfl) ?_
          obtain ⟨f_21, ef_21, h⟩ := z_bd_some h
          refine g_get (ci := 2) (k := 4) (v := .ref f_21) hc hP rfl z_inX2 (by decide) wF_X2_25 (g_r_v ef_21) dX2_solve_103 ?_
          refine lv_iload hx hb dX2_solve_106 (lv_at hl 3 rfl) ?_
          refine lv_aload_n hx hb dX2_solve_108 rfl (lv_at hl 0 rfl) ?_
          obtain ⟨f_22, ef_22, h⟩ := z_bd_some h
          refine g_get (ci := 2) (k := 1) (v := .ref f_22) hc hP rfl z_inX2 (by decide) wF_X2_15 (g_r_v ef_22) dX2_solve_109 ?_
          refine lv_aload_n hx hb dX2_solve_112 rfl (lv_at hl 0 rfl) ?_
          obtain ⟨f_23, ef_23, h⟩ := z_bd_some h
          refine g_get (ci := 2) (k := 3) (v := .ref f_23) hc hP rfl z_inX2 (by decide) wF_X2_21 (g_r_v ef_23) dX2_solve_113 ?_
          refine lv_iload hx hb dX2_solve_116 (lv_at hl 3 rfl) ?_
          obtain ⟨v_24, ev_24, h⟩ := z_bd_some h
          refine g_iald hc hP ev_24 dX2_solve_118 ?_
          obtain ⟨v_25, ev_25, h⟩ := z_bd_some h
          refine g_lald hc hP ev_25 dX2_solve_119 ?_
          refine lv_lload_n hx hb dX2_solve_120 rfl (lv_at hl 2 rfl) ?_
          refine lv_lmul hx hb dX2_solve_121 ?_
          refine lv_iload hx hb dX2_solve_122 (lv_at hl 3 rfl) ?_
          obtain ⟨r_26, er_26, h⟩ := z_bd_some h
          refine s_calli (As := [.int x5_17]) (r := r_26) (n := 1) hc.1 (mt_X2_sign l x5_17 er_26) wM_X2_148 wT_X2_sign wZ_X2 wC_X2_sign md_X2_sign ⟨rfl, rfl, Nat.le_of_ble_eq_true rfl, Nat.le_of_ble_eq_true rfl⟩ rfl hl.1 rfl (Nat.le_of_ble_eq_true rfl) dX2_solve_124 ⟨Nat.le_of_ble_eq_true rfl, Nat.le_of_ble_eq_true rfl⟩ ?_
          refine lv_i2l (v := r_26.toInt64) hx hb dX2_solve_127 rfl ?_
          refine lv_aload_n hx hb dX2_solve_128 rfl (lv_at hl 0 rfl) ?_
          refine lv_aload_n hx hb dX2_solve_129 rfl (lv_at hl 0 rfl) ?_
          obtain ⟨f_27, ef_27, h⟩ := z_bd_some h
          refine g_get (ci := 2) (k := 3) (v := .ref f_27) hc hP rfl z_inX2 (by decide) wF_X2_21 (g_r_v ef_27) dX2_solve_130 ?_
          refine lv_iload hx hb dX2_solve_133 (lv_at hl 3 rfl) ?_
          obtain ⟨v_28, ev_28, h⟩ := z_bd_some h
          refine g_iald hc hP ev_28 dX2_solve_135 ?_
          obtain ⟨ho_136, h⟩ := z_chk_some h
          obtain ⟨vs_, ho_136⟩ := Option.isSome_iff_exists.mp ho_136
          obtain ⟨r_29, e_136, h⟩ := z_bd_some h
          refine g_callV (ci := 2) (As := [.int v_28]) (rv := (some (.long r_29))) (n := 1) hc hP hS rfl ho_136 (mt_X2_weightShare l D cs A S_18 o v_28 e_136) wM_X2_152 wI_X2_weightShare wS_X2_weightShare wZ_X2 wC_X2_weightShare md_X2_weightShare ⟨rfl, rfl, Nat.le_of_ble_eq_true rfl, Nat.le_of_ble_eq_true rfl⟩ rfl hl.1 rfl (Nat.le_of_ble_eq_true rfl) dX2_solve_136 ⟨Nat.le_of_ble_eq_true rfl, Nat.le_of_ble_eq_true rfl⟩ (fun H locs hP hS => ?_)
          show W p l e (z_rmA 3 134 0 0) s m args below meth c H locs (0) (0) Q (F0 m 139 ls [.long r_29, .long r_26.toInt64, .long (v_25 * y3_5), .int x5_17, .ref f_21])
          refine lv_lmul hx hb dX2_solve_139 ?_
          refine lv_lload_n hx hb dX2_solve_140 rfl (lv_at hl 1 rfl) ?_
          refine lv_lmul hx hb dX2_solve_141 ?_
          refine lv_lsub hx hb dX2_solve_142 ?_
          obtain ⟨S_30, eS_30, h⟩ := z_bd_some h
          refine g_last hc hP hS eS_30 dX2_solve_143 (fun H locs hP hS => ?_)
          refine lv_iinc (v := (x5_17 + 1)) (lv' := [(5, .int (x5_17 + 1)), (0, .ref o), (1, .long y1_4), (3, .long y3_5)]) hx hb dX2_solve_144 hl (k := 3) rfl rfl (by decide) rfl (fun ls hl => ?_)
          refine lv_goto (tgt := 87) hx hb dX2_solve_147 (by decide) ?_
          cases h
          exact K_87 H locs ls hP hS (lv_sub hl [1, 2, 3, 0] rfl)
    · clear hlp hP hS hl
      intro H locs ls hP hS hl
      have hP : g_P D cs A S_19 H := hP
      have hl : lv_has ls 8 [(0, .ref o), (3, .long y3_5)] := hl
      refine lv_aload_n hx hb dX2_solve_150 rfl (lv_at hl 0 rfl) ?_
      refine lv_aload_n hx hb dX2_solve_151 rfl (lv_at hl 0 rfl) ?_
      obtain ⟨f_31, ef_31, h⟩ := z_bd_some h
      refine g_get (ci := 2) (k := 9) (v := .int f_31) hc hP rfl z_inX2 (by decide) wF_X2_45 (g_i_v ef_31) dX2_solve_152 ?_
      refine lv_lload_n hx hb dX2_solve_155 rfl (lv_at hl 1 rfl) ?_
      obtain ⟨ho_156, h⟩ := z_chk_some h
      obtain ⟨vs_, ho_156⟩ := Option.isSome_iff_exists.mp ho_156
      obtain ⟨S_32, e_156, h⟩ := z_bd_some h
      refine g_callV (ci := 2) (As := [.int f_31, .long y3_5]) (rv := none) (n := 2) hc hP hS rfl ho_156 (mt_X2_interpolate l D cs A S_19 o f_31 y3_5 e_156) wM_X2_155 wI_X2_interpolate wS_X2_interpolate wZ_X2 wC_X2_interpolate md_X2_interpolate ⟨rfl, rfl, Nat.le_of_ble_eq_true rfl, Nat.le_of_ble_eq_true rfl⟩ rfl hl.1 rfl (Nat.le_of_ble_eq_true rfl) dX2_solve_156 ⟨Nat.le_of_ble_eq_true rfl, Nat.le_of_ble_eq_true rfl⟩ (fun H locs hP hS => ?_)
      show W p l e (z_rmA 3 134 0 0) s m args below meth c H locs (0) (0) Q (F0 m 159 ls [])
      cases h
      rw [hQ]
      exact g_retv hc hr hlocks hP hS dX2_solve_159
theorem md_X2_solve : yX2_solve.cls ≠ "java/lang/invoke/MethodHandle" ∧ yX2_solve.cls ≠ "java/lang/invoke/VarHandle" ∧ (parseMethodDescriptor yX2_solve.desc).map (fun d => d.parameters.length) = some 0 := by decide +kernel
noncomputable def f_X2_missAbove (S : GS) (o : Nat) (a0 : Int32) : Option (Int64) :=
  z_bd (g_r S 2 2 o) fun f_1 => z_bd (g_rJ S f_1 a0) fun v_2 => z_bd (g_r S 2 1 o) fun f_3 => z_bd (g_rJ S f_3 a0) fun v_4 => z_bd (g_r S 2 7 o) fun f_5 => z_bd (g_l S 4 3 f_5) fun f_6 => z_bd (g_r S 2 7 o) fun f_7 => z_bd (g_r S 2 0 o) fun f_8 => z_bd (g_rJ S f_8 a0) fun v_9 => z_chk (g_is S 4 f_7) (z_bd (f_X4_aboveAt S f_7 v_9) fun r_10 => some (v_2 * ((v_4 * f_6) - r_10)))
set_option maxHeartbeats 4000000 in
set_option maxRecDepth 100000 in
theorem mt_X2_missAbove (l : Launch) (D : va_G) (cs : Nat → ClassId) (A : Nat → Prop) (S : GS) (o : Nat) (a0 : Int32) {r_ : Int64} (h : f_X2_missAbove S o a0 = some r_) : Met l yX2_missAbove (z_wd yX2_missAbove cX2_missAbove 2 (some .long)) (z_rmA 1 38 0 0) (va_Pc [.ref o, .int a0] (g_C D cs A S)) (g_Q (some (.long r_)) S D cs A) 0 0 A := by
  refine Met.ofW (cc := cX2_missAbove) (maxL := 2) (ret := (some .long)) (by decide) rfl ?_
  intro p e s m args below meth c s₁ B hml hv
  obtain ⟨hav, hP0, hK, hN, hSt, hAn⟩ := hv
  have hx := B.exec
  have hb := B.bytes
  have hr := B.returns
  have hts := atoms_spec (ws := z_wd yX2_missAbove cX2_missAbove 2 (some .long)) B.pre
  have hown : s.vm.findClass RX2 = some m.cls := findClass_of_methodNamed B.named
  have hlocks := B.notSynchronized
  have hc : g_X p s m args c cX2_missAbove 2 RX2 D cs A := ⟨⟨hx, hb, hml, fun w hw => hts w (List.mem_cons_of_mem _ hw), hown⟩, hK, hN, hSt, hAn⟩
  have hl := lv_entry ([.ref o, .int a0]) (n := 2) (Nat.le_of_ble_eq_true rfl)
  have hE : entryFrame m args 2 = F0 m 0 ((lg_sl ([.ref o, .int a0]) ++ List.replicate (2 - (lg_sl ([.ref o, .int a0])).length) Slot.unset).toArray) [] := by rw [hav]; exact lg_entry_eq m _ _
  rw [hE]
  clear hE hav
  generalize (lg_sl ([.ref o, .int a0]) ++ List.replicate (2 - (lg_sl ([.ref o, .int a0])).length) Slot.unset).toArray = ls at hl ⊢
  have hl : lv_has ls 2 [(0, .ref o), (1, .int a0)] := hl
  obtain ⟨Q, hQ⟩ : ∃ Q, Q = MQ below (g_Q (some (.long r_)) S D cs A) args s 0 0 A := ⟨_, rfl⟩
  rw [← hQ]
  suffices hmain : ∀ (H : Heap) (locs : List Loc), g_P D cs A S H → va_S A s.heap H locs → W p l e (z_rmA 1 38 0 0) s m args below meth c H locs 0 0 Q (F0 m 0 ls []) from hmain s.heap [] hP0 va_S.rf
  clear hP0
  intro H locs hP hS
  unfold f_X2_missAbove at h
  refine lv_aload_n hx hb dX2_missAbove_0 rfl (lv_at hl 0 rfl) ?_
  obtain ⟨f_1, ef_1, h⟩ := z_bd_some h
  refine g_get (ci := 2) (k := 2) (v := .ref f_1) hc hP rfl z_inX2 (by decide) wF_X2_18 (g_r_v ef_1) dX2_missAbove_1 ?_
  refine lv_iload_n hx hb dX2_missAbove_4 rfl (lv_at hl 1 rfl) ?_
  obtain ⟨v_2, ev_2, h⟩ := z_bd_some h
  refine g_lald hc hP ev_2 dX2_missAbove_5 ?_
  refine lv_aload_n hx hb dX2_missAbove_6 rfl (lv_at hl 0 rfl) ?_
  obtain ⟨f_3, ef_3, h⟩ := z_bd_some h
  refine g_get (ci := 2) (k := 1) (v := .ref f_3) hc hP rfl z_inX2 (by decide) wF_X2_15 (g_r_v ef_3) dX2_missAbove_7 ?_
  refine lv_iload_n hx hb dX2_missAbove_10 rfl (lv_at hl 1 rfl) ?_
  obtain ⟨v_4, ev_4, h⟩ := z_bd_some h
  refine g_lald hc hP ev_4 dX2_missAbove_11 ?_
  refine lv_aload_n hx hb dX2_missAbove_12 rfl (lv_at hl 0 rfl) ?_
  obtain ⟨f_5, ef_5, h⟩ := z_bd_some h
  refine g_get (ci := 2) (k := 7) (v := .ref f_5) hc hP rfl z_inX2 (by decide) wF_X2_37 (g_r_v ef_5) dX2_missAbove_13 ?_
  obtain ⟨f_6, ef_6, h⟩ := z_bd_some h
  refine g_getN (ci := 4) (k := 3) (v := .long f_6) hc hP rfl z_inX4 (by decide) wG_X2_93 (g_l_v ef_6) dX2_missAbove_16 ?_
  refine lv_lmul hx hb dX2_missAbove_19 ?_
  refine lv_aload_n hx hb dX2_missAbove_20 rfl (lv_at hl 0 rfl) ?_
  obtain ⟨f_7, ef_7, h⟩ := z_bd_some h
  refine g_get (ci := 2) (k := 7) (v := .ref f_7) hc hP rfl z_inX2 (by decide) wF_X2_37 (g_r_v ef_7) dX2_missAbove_21 ?_
  refine lv_aload_n hx hb dX2_missAbove_24 rfl (lv_at hl 0 rfl) ?_
  obtain ⟨f_8, ef_8, h⟩ := z_bd_some h
  refine g_get (ci := 2) (k := 0) (v := .ref f_8) hc hP rfl z_inX2 (by decide) wF_X2_9 (g_r_v ef_8) dX2_missAbove_25 ?_
  refine lv_iload_n hx hb dX2_missAbove_28 rfl (lv_at hl 1 rfl) ?_
  obtain ⟨v_9, ev_9, h⟩ := z_bd_some h
  refine g_lald hc hP ev_9 dX2_missAbove_29 ?_
  obtain ⟨ho_30, h⟩ := z_chk_some h
  obtain ⟨vs_, ho_30⟩ := Option.isSome_iff_exists.mp ho_30
  obtain ⟨r_10, e_30, h⟩ := z_bd_some h
  refine g_callV (ci := 4) (As := [.long v_9]) (rv := (some (.long r_10))) (n := 1) hc hP hS rfl ho_30 (mt_X4_aboveAt l D cs A S f_7 v_9 e_30) wM_X2_141 wI_X4_aboveAt wS_X4_aboveAt wZ_X4 wC_X4_aboveAt md_X4_aboveAt ⟨rfl, rfl, Nat.le_of_ble_eq_true rfl, Nat.le_of_ble_eq_true rfl⟩ rfl hl.1 rfl (Nat.le_of_ble_eq_true rfl) dX2_missAbove_30 ⟨Nat.le_of_ble_eq_true rfl, Nat.le_of_ble_eq_true rfl⟩ (fun H locs hP hS => ?_)
  show W p l e (z_rmA 1 38 0 0) s m args below meth c H locs (0) (0) Q (F0 m 33 ls [.long r_10, .long (v_4 * f_6), .long v_2])
  refine lv_lsub hx hb dX2_missAbove_33 ?_
  refine lv_lmul hx hb dX2_missAbove_34 ?_
  cases h
  rw [hQ]
  exact g_retl hc hr hlocks hP hS dX2_missAbove_35
theorem md_X2_missAbove : yX2_missAbove.cls ≠ "java/lang/invoke/MethodHandle" ∧ yX2_missAbove.cls ≠ "java/lang/invoke/VarHandle" ∧ (parseMethodDescriptor yX2_missAbove.desc).map (fun d => d.parameters.length) = some 1 := by decide +kernel
noncomputable def f_X2_farthest_L4 (S : GS) (o : Nat) (x1_1 : Int32) (x2_2 : Int32) : Option ((Int32) ⊕ (Int32 × Int32)) :=
  z_bd (g_i S 2 8 o) fun f_4 => if f_4 ≤ x2_2 then some (.inl (x1_1)) else z_chk (g_is S 2 o) (z_bd (f_X2_missAbove S o x2_2) fun r_5 => z_bd (f_J9_abs_067f4 r_5) fun r_6 => z_chk (g_is S 2 o) (z_bd (f_X2_missAbove S o x1_1) fun r_7 => z_bd (f_J9_abs_067f4 r_7) fun r_8 => if (lg_cmp r_6 r_8) ≤ 0 then some (.inr (x1_1, (x2_2 + 1))) else some (.inr (x2_2, (x2_2 + 1)))))
noncomputable def f_X2_farthest (S : GS) (o : Nat) : Option (Int32) :=
  z_bd (z_lp (fun x => f_X2_farthest_L4 S o x.1 x.2) ((0 : Int32), (1 : Int32))) fun y1_3 => some y1_3
set_option maxHeartbeats 4000000 in
set_option maxRecDepth 100000 in
theorem mt_X2_farthest (l : Launch) (D : va_G) (cs : Nat → ClassId) (A : Nat → Prop) (S : GS) (o : Nat) {r_ : Int32} (h : f_X2_farthest S o = some r_) : Met l yX2_farthest (z_wd yX2_farthest cX2_farthest 3 (some .int)) (z_rmA 2 75 0 0) (va_Pc [.ref o] (g_C D cs A S)) (g_Q (some (.int r_)) S D cs A) 0 0 A := by
  refine Met.ofW (cc := cX2_farthest) (maxL := 3) (ret := (some .int)) (by decide) rfl ?_
  intro p e s m args below meth c s₁ B hml hv
  obtain ⟨hav, hP0, hK, hN, hSt, hAn⟩ := hv
  have hx := B.exec
  have hb := B.bytes
  have hr := B.returns
  have hts := atoms_spec (ws := z_wd yX2_farthest cX2_farthest 3 (some .int)) B.pre
  have hown : s.vm.findClass RX2 = some m.cls := findClass_of_methodNamed B.named
  have hlocks := B.notSynchronized
  have hc : g_X p s m args c cX2_farthest 3 RX2 D cs A := ⟨⟨hx, hb, hml, fun w hw => hts w (List.mem_cons_of_mem _ hw), hown⟩, hK, hN, hSt, hAn⟩
  have hl := lv_entry ([.ref o]) (n := 3) (Nat.le_of_ble_eq_true rfl)
  have hE : entryFrame m args 3 = F0 m 0 ((lg_sl ([.ref o]) ++ List.replicate (3 - (lg_sl ([.ref o])).length) Slot.unset).toArray) [] := by rw [hav]; exact lg_entry_eq m _ _
  rw [hE]
  clear hE hav
  generalize (lg_sl ([.ref o]) ++ List.replicate (3 - (lg_sl ([.ref o])).length) Slot.unset).toArray = ls at hl ⊢
  have hl : lv_has ls 3 [(0, .ref o)] := hl
  obtain ⟨Q, hQ⟩ : ∃ Q, Q = MQ below (g_Q (some (.int r_)) S D cs A) args s 0 0 A := ⟨_, rfl⟩
  rw [← hQ]
  suffices hmain : ∀ (H : Heap) (locs : List Loc), g_P D cs A S H → va_S A s.heap H locs → W p l e (z_rmA 2 75 0 0) s m args below meth c H locs 0 0 Q (F0 m 0 ls []) from hmain s.heap [] hP0 va_S.rf
  clear hP0
  intro H locs hP hS
  unfold f_X2_farthest at h
  refine lv_iconst (v := 0) hx hb dX2_farthest_0 (by decide) ?_
  refine lv_istore_n (lv' := [(1, .int (0 : Int32)), (0, .ref o)]) hx hb dX2_farthest_1 rfl hl (by decide) rfl (fun ls hl => ?_)
  refine lv_iconst (v := 1) hx hb dX2_farthest_2 (by decide) ?_
  refine lv_istore_n (lv' := [(2, .int (1 : Int32)), (1, .int (0 : Int32)), (0, .ref o)]) hx hb dX2_farthest_3 rfl hl (by decide) rfl (fun ls hl => ?_)
  obtain ⟨y1_3, hlp, h⟩ := z_bd_some h
  refine z_lp_ind (P := fun x => ∀ (H : Heap) (locs : List Loc) (ls : Array Slot), g_P D cs A S H → va_S A s.heap H locs → lv_has ls 3 [(0, .ref o), (1, .int x.1), (2, .int x.2)] → W p l e (z_rmA 2 75 0 0) s m args below meth c H locs (0) (0) Q (F0 m 4 ls [])) (Qe := fun y => ∀ (H : Heap) (locs : List Loc) (ls : Array Slot), g_P D cs A S H → va_S A s.heap H locs → lv_has ls 3 [(1, .int y)] → W p l e (z_rmA 2 75 0 0) s m args below meth c H locs (0) (0) Q (F0 m 40 ls [])) ?_ hlp ?_ H locs ls hP hS (lv_sub hl [2, 1, 0] rfl)
  · clear h hlp hP hS hl
    rintro ⟨x1_1, x2_2⟩ oo h K_4 H locs ls hP hS hl
    have hP : g_P D cs A S H := hP
    have hl : lv_has ls 3 [(0, .ref o), (1, .int x1_1), (2, .int x2_2)] := hl
    have h : f_X2_farthest_L4 S o x1_1 x2_2 = some oo := h
    unfold f_X2_farthest_L4 at h
    refine lv_iload_n hx hb dX2_farthest_4 rfl (lv_at hl 2 rfl) ?_
    refine lv_aload_n hx hb dX2_farthest_5 rfl (lv_at hl 0 rfl) ?_
    obtain ⟨f_4, ef_4, h⟩ := z_bd_some h
    refine g_get (ci := 2) (k := 8) (v := .int f_4) hc hP rfl z_inX2 (by decide) wF_X2_41 (g_i_v ef_4) dX2_farthest_6 ?_
    refine lv_icmp_ge (tgt := 40) hx hb dX2_farthest_9 (by decide) (fun c_9 => ?_) (fun c_9 => ?_)
    · replace h := z_ip_ c_9 h
      cases h
      exact K_4 H locs ls hP hS (lv_sub hl [1] rfl)
    · replace h := z_in_ c_9 h
      refine lv_aload_n hx hb dX2_farthest_12 rfl (lv_at hl 0 rfl) ?_
      refine lv_iload_n hx hb dX2_farthest_13 rfl (lv_at hl 2 rfl) ?_
      obtain ⟨ho_14, h⟩ := z_chk_some h
      obtain ⟨vs_, ho_14⟩ := Option.isSome_iff_exists.mp ho_14
      obtain ⟨r_5, e_14, h⟩ := z_bd_some h
      refine g_callV (ci := 2) (As := [.int x2_2]) (rv := (some (.long r_5))) (n := 1) hc hP hS rfl ho_14 (mt_X2_missAbove l D cs A S o x2_2 e_14) wM_X2_81 wI_X2_missAbove wS_X2_missAbove wZ_X2 wC_X2_missAbove md_X2_missAbove ⟨rfl, rfl, Nat.le_of_ble_eq_true rfl, Nat.le_of_ble_eq_true rfl⟩ rfl hl.1 rfl (Nat.le_of_ble_eq_true rfl) dX2_farthest_14 ⟨Nat.le_of_ble_eq_true rfl, Nat.le_of_ble_eq_true rfl⟩ (fun H locs hP hS => ?_)
      show W p l e (z_rmA 2 75 0 0) s m args below meth c H locs (0) (0) Q (F0 m 17 ls [.long r_5])
      obtain ⟨r_6, er_6, h⟩ := z_bd_some h
      refine s_calll (As := [.long r_5]) (r := r_6) (n := 1) hc.1 (mt_J9_abs_067f4 l r_5 er_6) wM_X2_85 wT_J9_abs_067f4 wZ_J9 wC_J9_abs_067f4 md_J9_abs_067f4 ⟨rfl, rfl, Nat.le_of_ble_eq_true rfl, Nat.le_of_ble_eq_true rfl⟩ rfl hl.1 rfl (Nat.le_of_ble_eq_true rfl) dX2_farthest_17 ⟨Nat.le_of_ble_eq_true rfl, Nat.le_of_ble_eq_true rfl⟩ ?_
      refine lv_aload_n hx hb dX2_farthest_20 rfl (lv_at hl 0 rfl) ?_
      refine lv_iload_n hx hb dX2_farthest_21 rfl (lv_at hl 1 rfl) ?_
      obtain ⟨ho_22, h⟩ := z_chk_some h
      obtain ⟨vs_, ho_22⟩ := Option.isSome_iff_exists.mp ho_22
      obtain ⟨r_7, e_22, h⟩ := z_bd_some h
      refine g_callV (ci := 2) (As := [.int x1_1]) (rv := (some (.long r_7))) (n := 1) hc hP hS rfl ho_22 (mt_X2_missAbove l D cs A S o x1_1 e_22) wM_X2_81 wI_X2_missAbove wS_X2_missAbove wZ_X2 wC_X2_missAbove md_X2_missAbove ⟨rfl, rfl, Nat.le_of_ble_eq_true rfl, Nat.le_of_ble_eq_true rfl⟩ rfl hl.1 rfl (Nat.le_of_ble_eq_true rfl) dX2_farthest_22 ⟨Nat.le_of_ble_eq_true rfl, Nat.le_of_ble_eq_true rfl⟩ (fun H locs hP hS => ?_)
      show W p l e (z_rmA 2 75 0 0) s m args below meth c H locs (0) (0) Q (F0 m 25 ls [.long r_7, .long r_6])
      obtain ⟨r_8, er_8, h⟩ := z_bd_some h
      refine s_calll (As := [.long r_7]) (r := r_8) (n := 1) hc.1 (mt_J9_abs_067f4 l r_7 er_8) wM_X2_85 wT_J9_abs_067f4 wZ_J9 wC_J9_abs_067f4 md_J9_abs_067f4 ⟨rfl, rfl, Nat.le_of_ble_eq_true rfl, Nat.le_of_ble_eq_true rfl⟩ rfl hl.1 rfl (Nat.le_of_ble_eq_true rfl) dX2_farthest_25 ⟨Nat.le_of_ble_eq_true rfl, Nat.le_of_ble_eq_true rfl⟩ ?_
      refine W.lcmp hx hb dX2_farthest_28 ?_
      refine lv_if_le (tgt := 34) hx hb dX2_farthest_29 (by decide) (fun c_29 => ?_) (fun c_29 => ?_)
      · replace h := z_ip_ c_29 h
        refine lv_iinc (v := (x2_2 + 1)) (lv' := [(2, .int (x2_2 + 1)), (0, .ref o), (1, .int x1_1)]) hx hb dX2_farthest_34 hl (k := 2) rfl rfl (by decide) rfl (fun ls hl => ?_)
        refine lv_goto (tgt := 4) hx hb dX2_farthest_37 (by decide) ?_
        cases h
        exact K_4 H locs ls hP hS (lv_sub hl [1, 2, 0] rfl)
      · replace h := z_in_ c_29 h
        refine lv_iload_n hx hb dX2_farthest_32 rfl (lv_at hl 2 rfl) ?_
        refine lv_istore_n (lv' := [(1, .int x2_2), (0, .ref o), (2, .int x2_2)]) hx hb dX2_farthest_33 rfl hl (by decide) rfl (fun ls hl => ?_)
        refine lv_iinc (v := (x2_2 + 1)) (lv' := [(2, .int (x2_2 + 1)), (1, .int x2_2), (0, .ref o)]) hx hb dX2_farthest_34 hl (k := 2) rfl rfl (by decide) rfl (fun ls hl => ?_)
        refine lv_goto (tgt := 4) hx hb dX2_farthest_37 (by decide) ?_
        cases h
        exact K_4 H locs ls hP hS (lv_sub hl [2, 1, 0] rfl)
  · clear hlp hP hS hl
    intro H locs ls hP hS hl
    have hP : g_P D cs A S H := hP
    have hl : lv_has ls 3 [(1, .int y1_3)] := hl
    refine lv_iload_n hx hb dX2_farthest_40 rfl (lv_at hl 0 rfl) ?_
    cases h
    rw [hQ]
    exact g_reti hc hr hlocks hP hS dX2_farthest_41
theorem md_X2_farthest : yX2_farthest.cls ≠ "java/lang/invoke/MethodHandle" ∧ yX2_farthest.cls ≠ "java/lang/invoke/VarHandle" ∧ (parseMethodDescriptor yX2_farthest.desc).map (fun d => d.parameters.length) = some 0 := by decide +kernel
noncomputable def f_X2_lowAbove (S : GS) (o : Nat) : Option (Int64) :=
  z_bd (g_r S 2 3 o) fun f_1 => z_bd (g_rI S f_1 (0 : Int32)) fun v_2 => z_chk (g_is S 2 o) (z_bd (f_X2_missAbove S o v_2) fun r_3 => z_bd (f_J9_abs_067f4 r_3) fun r_4 => some r_4)
set_option maxHeartbeats 4000000 in
set_option maxRecDepth 100000 in
theorem mt_X2_lowAbove (l : Launch) (D : va_G) (cs : Nat → ClassId) (A : Nat → Prop) (S : GS) (o : Nat) {r_ : Int64} (h : f_X2_lowAbove S o = some r_) : Met l yX2_lowAbove (z_wd yX2_lowAbove cX2_lowAbove 1 (some .long)) (z_rmA 2 75 0 0) (va_Pc [.ref o] (g_C D cs A S)) (g_Q (some (.long r_)) S D cs A) 0 0 A := by
  refine Met.ofW (cc := cX2_lowAbove) (maxL := 1) (ret := (some .long)) (by decide) rfl ?_
  intro p e s m args below meth c s₁ B hml hv
  obtain ⟨hav, hP0, hK, hN, hSt, hAn⟩ := hv
  have hx := B.exec
  have hb := B.bytes
  have hr := B.returns
  have hts := atoms_spec (ws := z_wd yX2_lowAbove cX2_lowAbove 1 (some .long)) B.pre
  have hown : s.vm.findClass RX2 = some m.cls := findClass_of_methodNamed B.named
  have hlocks := B.notSynchronized
  have hc : g_X p s m args c cX2_lowAbove 1 RX2 D cs A := ⟨⟨hx, hb, hml, fun w hw => hts w (List.mem_cons_of_mem _ hw), hown⟩, hK, hN, hSt, hAn⟩
  have hl := lv_entry ([.ref o]) (n := 1) (Nat.le_of_ble_eq_true rfl)
  have hE : entryFrame m args 1 = F0 m 0 ((lg_sl ([.ref o]) ++ List.replicate (1 - (lg_sl ([.ref o])).length) Slot.unset).toArray) [] := by rw [hav]; exact lg_entry_eq m _ _
  rw [hE]
  clear hE hav
  generalize (lg_sl ([.ref o]) ++ List.replicate (1 - (lg_sl ([.ref o])).length) Slot.unset).toArray = ls at hl ⊢
  have hl : lv_has ls 1 [(0, .ref o)] := hl
  obtain ⟨Q, hQ⟩ : ∃ Q, Q = MQ below (g_Q (some (.long r_)) S D cs A) args s 0 0 A := ⟨_, rfl⟩
  rw [← hQ]
  suffices hmain : ∀ (H : Heap) (locs : List Loc), g_P D cs A S H → va_S A s.heap H locs → W p l e (z_rmA 2 75 0 0) s m args below meth c H locs 0 0 Q (F0 m 0 ls []) from hmain s.heap [] hP0 va_S.rf
  clear hP0
  intro H locs hP hS
  unfold f_X2_lowAbove at h
  refine lv_aload_n hx hb dX2_lowAbove_0 rfl (lv_at hl 0 rfl) ?_
  refine lv_aload_n hx hb dX2_lowAbove_1 rfl (lv_at hl 0 rfl) ?_
  obtain ⟨f_1, ef_1, h⟩ := z_bd_some h
  refine g_get (ci := 2) (k := 3) (v := .ref f_1) hc hP rfl z_inX2 (by decide) wF_X2_21 (g_r_v ef_1) dX2_lowAbove_2 ?_
  refine lv_iconst (v := 0) hx hb dX2_lowAbove_5 (by decide) ?_
  obtain ⟨v_2, ev_2, h⟩ := z_bd_some h
  refine g_iald hc hP ev_2 dX2_lowAbove_6 ?_
  obtain ⟨ho_7, h⟩ := z_chk_some h
  obtain ⟨vs_, ho_7⟩ := Option.isSome_iff_exists.mp ho_7
  obtain ⟨r_3, e_7, h⟩ := z_bd_some h
  refine g_callV (ci := 2) (As := [.int v_2]) (rv := (some (.long r_3))) (n := 1) hc hP hS rfl ho_7 (mt_X2_missAbove l D cs A S o v_2 e_7) wM_X2_81 wI_X2_missAbove wS_X2_missAbove wZ_X2 wC_X2_missAbove md_X2_missAbove ⟨rfl, rfl, Nat.le_of_ble_eq_true rfl, Nat.le_of_ble_eq_true rfl⟩ rfl hl.1 rfl (Nat.le_of_ble_eq_true rfl) dX2_lowAbove_7 ⟨Nat.le_of_ble_eq_true rfl, Nat.le_of_ble_eq_true rfl⟩ (fun H locs hP hS => ?_)
  show W p l e (z_rmA 2 75 0 0) s m args below meth c H locs (0) (0) Q (F0 m 10 ls [.long r_3])
  obtain ⟨r_4, er_4, h⟩ := z_bd_some h
  refine s_calll (As := [.long r_3]) (r := r_4) (n := 1) hc.1 (mt_J9_abs_067f4 l r_3 er_4) wM_X2_85 wT_J9_abs_067f4 wZ_J9 wC_J9_abs_067f4 md_J9_abs_067f4 ⟨rfl, rfl, Nat.le_of_ble_eq_true rfl, Nat.le_of_ble_eq_true rfl⟩ rfl hl.1 rfl (Nat.le_of_ble_eq_true rfl) dX2_lowAbove_10 ⟨Nat.le_of_ble_eq_true rfl, Nat.le_of_ble_eq_true rfl⟩ ?_
  cases h
  rw [hQ]
  exact g_retl hc hr hlocks hP hS dX2_lowAbove_13
theorem md_X2_lowAbove : yX2_lowAbove.cls ≠ "java/lang/invoke/MethodHandle" ∧ yX2_lowAbove.cls ≠ "java/lang/invoke/VarHandle" ∧ (parseMethodDescriptor yX2_lowAbove.desc).map (fun d => d.parameters.length) = some 0 := by decide +kernel
noncomputable def f_X2_comeFirst_L9 (o : Nat) (x2_3 : Int32) (S_4 : GS) : Option ((GS) ⊕ (Int32 × GS)) :=
  if x2_3 ≤ 0 then some (.inl (S_4)) else z_bd (g_r S_4 2 3 o) fun f_6 => z_bd (g_r S_4 2 3 o) fun f_7 => z_bd (g_rI S_4 f_7 (x2_3 - (1 : Int32))) fun v_8 => z_bd (g_wI S_4 f_6 x2_3 v_8) fun S_9 => some (.inr ((x2_3 + (-1)), S_9))
noncomputable def f_X2_comeFirst (S : GS) (o : Nat) (a0 : Int32) : Option (GS) :=
  z_bd (g_i S 2 9 o) fun f_1 => z_bd (f_J9_min_7cf53 f_1 (3 : Int32)) fun r_2 => z_bd (z_lp (fun x => f_X2_comeFirst_L9 o x.1 x.2) (r_2, S)) fun S_5 => z_bd (g_r S_5 2 3 o) fun f_10 => z_bd (g_wI S_5 f_10 (0 : Int32) a0) fun S_11 => some S_11
set_option maxHeartbeats 4000000 in
set_option maxRecDepth 100000 in
theorem mt_X2_comeFirst (l : Launch) (D : va_G) (cs : Nat → ClassId) (A : Nat → Prop) (S : GS) (o : Nat) (a0 : Int32) {N_ : GS} (h : f_X2_comeFirst S o a0 = some N_) : Met l yX2_comeFirst (z_wd yX2_comeFirst cX2_comeFirst 3 none) (z_rmA 1 37 0 0) (va_Pc [.ref o, .int a0] (g_C D cs A S)) (g_Q none N_ D cs A) 0 0 A := by
  refine Met.ofW (cc := cX2_comeFirst) (maxL := 3) (ret := none) (by decide) rfl ?_
  intro p e s m args below meth c s₁ B hml hv
  obtain ⟨hav, hP0, hK, hN, hSt, hAn⟩ := hv
  have hx := B.exec
  have hb := B.bytes
  have hr := B.returns
  have hts := atoms_spec (ws := z_wd yX2_comeFirst cX2_comeFirst 3 none) B.pre
  have hown : s.vm.findClass RX2 = some m.cls := findClass_of_methodNamed B.named
  have hlocks := B.notSynchronized
  have hc : g_X p s m args c cX2_comeFirst 3 RX2 D cs A := ⟨⟨hx, hb, hml, fun w hw => hts w (List.mem_cons_of_mem _ hw), hown⟩, hK, hN, hSt, hAn⟩
  have hl := lv_entry ([.ref o, .int a0]) (n := 3) (Nat.le_of_ble_eq_true rfl)
  have hE : entryFrame m args 3 = F0 m 0 ((lg_sl ([.ref o, .int a0]) ++ List.replicate (3 - (lg_sl ([.ref o, .int a0])).length) Slot.unset).toArray) [] := by rw [hav]; exact lg_entry_eq m _ _
  rw [hE]
  clear hE hav
  generalize (lg_sl ([.ref o, .int a0]) ++ List.replicate (3 - (lg_sl ([.ref o, .int a0])).length) Slot.unset).toArray = ls at hl ⊢
  have hl : lv_has ls 3 [(0, .ref o), (1, .int a0)] := hl
  obtain ⟨Q, hQ⟩ : ∃ Q, Q = MQ below (g_Q none N_ D cs A) args s 0 0 A := ⟨_, rfl⟩
  rw [← hQ]
  suffices hmain : ∀ (H : Heap) (locs : List Loc), g_P D cs A S H → va_S A s.heap H locs → W p l e (z_rmA 1 37 0 0) s m args below meth c H locs 0 0 Q (F0 m 0 ls []) from hmain s.heap [] hP0 va_S.rf
  clear hP0
  intro H locs hP hS
  unfold f_X2_comeFirst at h
  refine lv_aload_n hx hb dX2_comeFirst_0 rfl (lv_at hl 0 rfl) ?_
  obtain ⟨f_1, ef_1, h⟩ := z_bd_some h
  refine g_get (ci := 2) (k := 9) (v := .int f_1) hc hP rfl z_inX2 (by decide) wF_X2_45 (g_i_v ef_1) dX2_comeFirst_1 ?_
  refine lv_iconst (v := 3) hx hb dX2_comeFirst_4 (by decide) ?_
  obtain ⟨r_2, er_2, h⟩ := z_bd_some h
  refine s_calli (As := [.int f_1, .int (3 : Int32)]) (r := r_2) (n := 2) hc.1 (mt_J9_min_7cf53 l f_1 (3 : Int32) er_2) wM_X2_56 wT_J9_min_7cf53 wZ_J9 wC_J9_min_7cf53 md_J9_min_7cf53 ⟨rfl, rfl, Nat.le_of_ble_eq_true rfl, Nat.le_of_ble_eq_true rfl⟩ rfl hl.1 rfl (Nat.le_of_ble_eq_true rfl) dX2_comeFirst_5 ⟨Nat.le_of_ble_eq_true rfl, Nat.le_of_ble_eq_true rfl⟩ ?_
  refine lv_istore_n (lv' := [(2, .int r_2), (0, .ref o), (1, .int a0)]) hx hb dX2_comeFirst_8 rfl hl (by decide) rfl (fun ls hl => ?_)
  obtain ⟨S_5, hlp, h⟩ := z_bd_some h
  refine z_lp_ind (P := fun x => ∀ (H : Heap) (locs : List Loc) (ls : Array Slot), g_P D cs A x.2 H → va_S A s.heap H locs → lv_has ls 3 [(0, .ref o), (1, .int a0), (2, .int x.1)] → W p l e (z_rmA 1 37 0 0) s m args below meth c H locs (0) (0) Q (F0 m 9 ls [])) (Qe := fun y => ∀ (H : Heap) (locs : List Loc) (ls : Array Slot), g_P D cs A y H → va_S A s.heap H locs → lv_has ls 3 [(0, .ref o), (1, .int a0)] → W p l e (z_rmA 1 37 0 0) s m args below meth c H locs (0) (0) Q (F0 m 33 ls [])) ?_ hlp ?_ H locs ls hP hS (lv_sub hl [1, 2, 0] rfl)
  · clear h hlp hP hS hl
    rintro ⟨x2_3, S_4⟩ oo h K_9 H locs ls hP hS hl
    have hP : g_P D cs A S_4 H := hP
    have hl : lv_has ls 3 [(0, .ref o), (1, .int a0), (2, .int x2_3)] := hl
    have h : f_X2_comeFirst_L9 o x2_3 S_4 = some oo := h
    unfold f_X2_comeFirst_L9 at h
    refine lv_iload_n hx hb dX2_comeFirst_9 rfl (lv_at hl 2 rfl) ?_
    refine lv_if_le (tgt := 33) hx hb dX2_comeFirst_10 (by decide) (fun c_10 => ?_) (fun c_10 => ?_)
    · replace h := z_ip_ c_10 h
      cases h
      exact K_9 H locs ls hP hS (lv_sub hl [0, 1] rfl)
    · replace h := z_in_ c_10 h
      refine lv_aload_n hx hb dX2_comeFirst_13 rfl (lv_at hl 0 rfl) ?_
      obtain ⟨f_6, ef_6, h⟩ := z_bd_some h
      refine g_get (ci := 2) (k := 3) (v := .ref f_6) hc hP rfl z_inX2 (by decide) wF_X2_21 (g_r_v ef_6) dX2_comeFirst_14 ?_
      refine lv_iload_n hx hb dX2_comeFirst_17 rfl (lv_at hl 2 rfl) ?_
      refine lv_aload_n hx hb dX2_comeFirst_18 rfl (lv_at hl 0 rfl) ?_
      obtain ⟨f_7, ef_7, h⟩ := z_bd_some h
      refine g_get (ci := 2) (k := 3) (v := .ref f_7) hc hP rfl z_inX2 (by decide) wF_X2_21 (g_r_v ef_7) dX2_comeFirst_19 ?_
      refine lv_iload_n hx hb dX2_comeFirst_22 rfl (lv_at hl 2 rfl) ?_
      refine lv_iconst (v := 1) hx hb dX2_comeFirst_23 (by decide) ?_
      refine lv_isub hx hb dX2_comeFirst_24 ?_
      obtain ⟨v_8, ev_8, h⟩ := z_bd_some h
      refine g_iald hc hP ev_8 dX2_comeFirst_25 ?_
      obtain ⟨S_9, eS_9, h⟩ := z_bd_some h
      refine g_iast hc hP hS eS_9 dX2_comeFirst_26 (fun H locs hP hS => ?_)
      refine lv_iinc (v := (x2_3 + (-1))) (lv' := [(2, .int (x2_3 + (-1))), (0, .ref o), (1, .int a0)]) hx hb dX2_comeFirst_27 hl (k := 2) rfl rfl (by decide) rfl (fun ls hl => ?_)
      refine lv_goto (tgt := 9) hx hb dX2_comeFirst_30 (by decide) ?_
      cases h
      exact K_9 H locs ls hP hS (lv_sub hl [1, 2, 0] rfl)
  · clear hlp hP hS hl
    intro H locs ls hP hS hl
    have hP : g_P D cs A S_5 H := hP
    have hl : lv_has ls 3 [(0, .ref o), (1, .int a0)] := hl
    refine lv_aload_n hx hb dX2_comeFirst_33 rfl (lv_at hl 0 rfl) ?_
    obtain ⟨f_10, ef_10, h⟩ := z_bd_some h
    refine g_get (ci := 2) (k := 3) (v := .ref f_10) hc hP rfl z_inX2 (by decide) wF_X2_21 (g_r_v ef_10) dX2_comeFirst_34 ?_
    refine lv_iconst (v := 0) hx hb dX2_comeFirst_37 (by decide) ?_
    refine lv_iload_n hx hb dX2_comeFirst_38 rfl (lv_at hl 1 rfl) ?_
    obtain ⟨S_11, eS_11, h⟩ := z_bd_some h
    refine g_iast hc hP hS eS_11 dX2_comeFirst_39 (fun H locs hP hS => ?_)
    cases h
    rw [hQ]
    exact g_retv hc hr hlocks hP hS dX2_comeFirst_40
theorem md_X2_comeFirst : yX2_comeFirst.cls ≠ "java/lang/invoke/MethodHandle" ∧ yX2_comeFirst.cls ≠ "java/lang/invoke/VarHandle" ∧ (parseMethodDescriptor yX2_comeFirst.desc).map (fun d => d.parameters.length) = some 1 := by decide +kernel
