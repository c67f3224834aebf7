noncomputable def f_X1_init (S : GS) (o : Nat) (a0 : Int32) (a1 : Int32) (a2 : Int32) (a3 : Nat) : Option (GS) :=
  z_bd (g_put S 1 0 o (.int a0)) fun S_1 => z_bd (g_put S_1 1 1 o (.int a1)) fun S_2 => z_bd (g_put S_2 1 2 o (.int a2)) fun S_3 => z_bd (g_put S_3 1 3 o (.ref a3)) fun S_4 => z_bd (if a1 = (4 : Int32) then z_bd (g_i S_4 3 3 a3) fun f_6 => z_bd (f_J9_max_7cf53 f_6 (1 : Int32)) fun r_7 => some (r_7) else some ((1 : Int32))) fun v_5 => z_chk (z_sz v_5 12) (z_lt (g_nw S_4 (.inr (.inr (.inl (3, v_5.toNatClampNeg, fun _ => none))))) fun S_8 => z_bd (g_put S_8 1 4 o (.ref S_4.2)) fun S_9 => z_chk (z_sz v_5 12) (z_lt (g_nw S_9 (.inl (v_5.toNatClampNeg, fun _ => 0))) fun S_10 => z_bd (g_put S_10 1 5 o (.ref S_9.2)) fun S_11 => z_bd (g_r S_11 1 4 o) fun f_12 => z_lt (g_nw S_11 (.inr (.inr (.inr (4, [.long 0, .long 0, .long 0, .long 0]))))) fun S_13 => z_bd (f_X4_init S_13 S_11.2 ) fun S_14 => z_chk (g_is S_14 4 S_11.2) (z_bd (g_wQ S_14 3 f_12 (0 : Int32) (some S_11.2)) fun S_15 => if a1 = (4 : Int32) then z_bd (g_put S_15 1 6 o (.int (0 : Int32))) fun S_17 => some S_17 else z_bd (g_put S_15 1 6 o (.int (1 : Int32))) fun S_16 => some S_16)))
set_option maxHeartbeats 4000000 in
set_option maxRecDepth 100000 in
theorem mt_X1_init (l : Launch) (D : va_G) (cs : Nat → ClassId) (A : Nat → Prop) (S : GS) (o : Nat) (a0 : Int32) (a1 : Int32) (a2 : Int32) (a3 : Nat) {N_ : GS} (h : f_X1_init S o a0 a1 a2 a3 = some N_) : Met l yX1_init (z_wd yX1_init cX1_init 6 none) (z_rmA 2 76 3 28) (va_Pc [.ref o, .int a0, .int a1, .int a2, .ref a3] (g_C D cs A S)) (g_Q none N_ D cs A) 3 28 A := by
  refine Met.ofW (cc := cX1_init) (maxL := 6) (ret := none) (by decide) rfl ?_
  intro p e s m args below meth c s₁ B hml hv
  obtain ⟨hav, hP0, hK, hN, hSt, hAn⟩ := hv
  have hx := B.exec
  have hb := B.bytes
  have hr := B.returns
  have hts := atoms_spec (ws := z_wd yX1_init cX1_init 6 none) B.pre
  have hown : s.vm.findClass RX1 = some m.cls := findClass_of_methodNamed B.named
  have hlocks := B.notSynchronized
  have hin : meth.name = "<init>" := (name_of_methodNamed B.named B.method).1
  have hc : g_X p s m args c cX1_init 6 RX1 D cs A := ⟨⟨hx, hb, hml, fun w hw => hts w (List.mem_cons_of_mem _ hw), hown⟩, hK, hN, hSt, hAn⟩
  have hl := lv_entry ([.ref o, .int a0, .int a1, .int a2, .ref a3]) (n := 6) (Nat.le_of_ble_eq_true rfl)
  have hE : entryFrame m args 6 = F0 m 0 ((lg_sl ([.ref o, .int a0, .int a1, .int a2, .ref a3]) ++ List.replicate (6 - (lg_sl ([.ref o, .int a0, .int a1, .int a2, .ref a3])).length) Slot.unset).toArray) [] := by rw [hav]; exact lg_entry_eq m _ _
  rw [hE]
  clear hE hav
  generalize (lg_sl ([.ref o, .int a0, .int a1, .int a2, .ref a3]) ++ List.replicate (6 - (lg_sl ([.ref o, .int a0, .int a1, .int a2, .ref a3])).length) Slot.unset).toArray = ls at hl ⊢
  have hl : lv_has ls 6 [(0, .ref o), (1, .int a0), (2, .int a1), (3, .int a2), (4, .ref a3)] := hl
  obtain ⟨Q, hQ⟩ : ∃ Q, Q = MQ below (g_Q none N_ D cs A) args s 3 28 A := ⟨_, rfl⟩
  rw [← hQ]
  suffices hmain : ∀ (H : Heap) (locs : List Loc), g_P D cs A S H → va_S A s.heap H locs → W p l e (z_rmA 2 76 3 28) s m args below meth c H locs 0 0 Q (F0 m 0 ls []) from hmain s.heap [] hP0 va_S.rf
  clear hP0
  intro H locs hP hS
  unfold f_X1_init at h
  refine lv_aload_n hx hb dX1_init_0 rfl (lv_at hl 0 rfl) ?_
  refine g_obj hc wM_X1_3 hl.1 (Nat.le_of_ble_eq_true rfl) (Nat.le_of_ble_eq_true rfl) dX1_init_1 ?_
  show W p l e (z_rmA 2 76 3 28) s m args below meth c H locs (0) (0) Q (F0 m 4 ls [])
  refine lv_aload_n hx hb dX1_init_4 rfl (lv_at hl 0 rfl) ?_
  refine lv_iload_n hx hb dX1_init_5 rfl (lv_at hl 1 rfl) ?_
  obtain ⟨S_1, eS_1, h⟩ := z_bd_some h
  refine g_putF (ci := 1) (k := 0) (ty := .int) tyX1 hc hP hS rfl z_inX1 tyX1_ok nmX1 (by decide) wF_X1_9 rfl hin rfl (by decide +kernel) rfl rfl eS_1 dX1_init_6 (fun H locs hP hS => ?_)
  refine lv_aload_n hx hb dX1_init_9 rfl (lv_at hl 0 rfl) ?_
  refine lv_iload_n hx hb dX1_init_10 rfl (lv_at hl 2 rfl) ?_
  obtain ⟨S_2, eS_2, h⟩ := z_bd_some h
  refine g_putF (ci := 1) (k := 1) (ty := .int) tyX1 hc hP hS rfl z_inX1 tyX1_ok nmX1 (by decide) wF_X1_15 rfl hin rfl (by decide +kernel) rfl rfl eS_2 dX1_init_11 (fun H locs hP hS => ?_)
  refine lv_aload_n hx hb dX1_init_14 rfl (lv_at hl 0 rfl) ?_
  refine lv_iload_n hx hb dX1_init_15 rfl (lv_at hl 3 rfl) ?_
  obtain ⟨S_3, eS_3, h⟩ := z_bd_some h
  refine g_putF (ci := 1) (k := 2) (ty := .int) tyX1 hc hP hS rfl z_inX1 tyX1_ok nmX1 (by decide) wF_X1_18 rfl hin rfl (by decide +kernel) rfl rfl eS_3 dX1_init_16 (fun H locs hP hS => ?_)
  refine lv_aload_n hx hb dX1_init_19 rfl (lv_at hl 0 rfl) ?_
  refine lv_aload hx hb dX1_init_20 (lv_at hl 4 rfl) ?_
  obtain ⟨S_4, eS_4, h⟩ := z_bd_some h
  refine g_putF (ci := 1) (k := 3) (ty := (.object "LevelFits$Points")) tyX1 hc hP hS rfl z_inX1 tyX1_ok nmX1 (by decide) wF_X1_21 rfl hin rfl (by decide +kernel) rfl rfl eS_4 dX1_init_22 (fun H locs hP hS => ?_)
  refine lv_iload_n hx hb dX1_init_25 rfl (lv_at hl 2 rfl) ?_
  refine lv_iconst (v := 4) hx hb dX1_init_26 (by decide) ?_
  obtain ⟨v_5, hJ, h⟩ := z_bd_some h
  have J_43 : ∀ (H : Heap) (locs : List Loc) (ls : Array Slot), g_P D cs A S_4 H → va_S A s.heap H locs → lv_has ls 6 [(0, .ref o), (2, .int a1)] → W p l e (z_rmA 2 76 3 28) s m args below meth c H locs (0) (0) Q (F0 m 43 ls [.int v_5]) := by
    intro H locs ls hP hS hl
    refine lv_istore (lv' := [(5, .int v_5), (0, .ref o), (2, .int a1)]) hx hb dX1_init_43 hl (by decide) rfl (fun ls hl => ?_)
    refine lv_aload_n hx hb dX1_init_45 rfl (lv_at hl 1 rfl) ?_
    refine lv_iload hx hb dX1_init_46 (lv_at hl 0 rfl) ?_
    obtain ⟨cz_48, h⟩ := z_chk_some h
    obtain ⟨S_8, eS_8, h⟩ := z_lt_some h
    refine g_newQ (t := 3) (N' := v_5.toNatClampNeg) hc hP hS rfl wK_X1_36 wA_Polynomial cz_48.1 rfl (by have := cz_48.2; omega) (Nat.le_of_ble_eq_true rfl) (Nat.le_trans (Nat.add_le_add_left cz_48.2 _) (Nat.le_of_ble_eq_true rfl)) eS_8 dX1_init_48 (fun H hP hS => ?_)
    refine W.widen (k := 1) (n := 12) (Nat.le_refl _) (Nat.add_le_add_left cz_48.2 _) ?_
    show W p l e (z_rmA 2 76 3 28) s m args below meth c H locs (1) (12) Q (F0 m 51 ls [.ref S_4.2, .ref o])
    obtain ⟨S_9, eS_9, h⟩ := z_bd_some h
    refine g_putF (ci := 1) (k := 4) (ty := (.array (.object "LevelFits$Polynomial"))) tyX1 hc hP hS rfl z_inX1 tyX1_ok nmX1 (by decide) wF_X1_38 rfl hin rfl (by decide +kernel) rfl rfl eS_9 dX1_init_51 (fun H locs hP hS => ?_)
    refine lv_aload_n hx hb dX1_init_54 rfl (lv_at hl 1 rfl) ?_
    refine lv_iload hx hb dX1_init_55 (lv_at hl 0 rfl) ?_
    obtain ⟨cz_57, h⟩ := z_chk_some h
    obtain ⟨S_10, eS_10, h⟩ := z_lt_some h
    refine g_newI (N' := v_5.toNatClampNeg) hc hP hS wY_int cz_57.1 rfl (by have := cz_57.2; omega) (Nat.le_of_ble_eq_true rfl) (Nat.le_trans (Nat.add_le_add_left cz_57.2 _) (Nat.le_of_ble_eq_true rfl)) eS_10 dX1_init_57 (fun H hP hS => ?_)
    refine W.widen (k := 2) (n := 24) (Nat.le_refl _) (Nat.add_le_add_left cz_57.2 _) ?_
    show W p l e (z_rmA 2 76 3 28) s m args below meth c H locs (2) (24) Q (F0 m 59 ls [.ref S_9.2, .ref o])
    obtain ⟨S_11, eS_11, h⟩ := z_bd_some h
    refine g_putF (ci := 1) (k := 5) (ty := (.array .int)) tyX1 hc hP hS rfl z_inX1 tyX1_ok nmX1 (by decide) wF_X1_42 rfl hin rfl (by decide +kernel) rfl rfl eS_11 dX1_init_59 (fun H locs hP hS => ?_)
    refine lv_aload_n hx hb dX1_init_62 rfl (lv_at hl 1 rfl) ?_
    obtain ⟨f_12, ef_12, h⟩ := z_bd_some h
    refine g_get (ci := 1) (k := 4) (v := .ref f_12) hc hP rfl z_inX1 (by decide) wF_X1_38 (g_r_v ef_12) dX1_init_63 ?_
    refine lv_iconst (v := 0) hx hb dX1_init_66 (by decide) ?_
    obtain ⟨S_13, eS_13, h⟩ := z_lt_some h
    refine g_new (ci := 4) tyX4 hc hP hS rfl z_inX4 tyX4_ok wK_X1_36 wN_X4 wZ_X4 gd_4 (Nat.le_of_ble_eq_true rfl) (Nat.le_of_ble_eq_true rfl) eS_13 dX1_init_67 (fun H hP hS => ?_)
    show W p l e (z_rmA 2 76 3 28) s m args below meth c H locs (3) (28) Q (F0 m 70 ls [.ref S_11.2, .int (0 : Int32), .ref f_12])
    refine lv_dup hx hb dX1_init_70 rfl ?_
    obtain ⟨S_14, e_71, h⟩ := z_bd_some h
    refine g_callIN (As := []) (rv := none) (n := 0) hc hP hS (mt_X4_init l D cs A S_13 S_11.2  e_71) wH_X1_46 wI_X4_init rfl wZ_X4 wC_X4_init md_X4_init ⟨rfl, rfl, Nat.le_of_ble_eq_true rfl, Nat.le_of_ble_eq_true rfl⟩ rfl hl.1 rfl (Nat.le_of_ble_eq_true rfl) dX1_init_71 ⟨Nat.le_of_ble_eq_true rfl, Nat.le_of_ble_eq_true rfl⟩ (fun H locs hP hS => ?_)
    show W p l e (z_rmA 2 76 3 28) s m args below meth c H locs (3) (28) Q (F0 m 74 ls [.ref S_11.2, .int (0 : Int32), .ref f_12])
    obtain ⟨ho_74, h⟩ := z_chk_some h
    obtain ⟨vs_, ho_74⟩ := Option.isSome_iff_exists.mp ho_74
    obtain ⟨S_15, eS_15, h⟩ := z_bd_some h
    refine g_aast (t := 3) (ci := 4) hc hP hS rfl rfl ho_74 eS_15 dX1_init_74 (fun H locs hP hS => ?_)
    refine lv_aload_n hx hb dX1_init_75 rfl (lv_at hl 1 rfl) ?_
    refine lv_iload_n hx hb dX1_init_76 rfl (lv_at hl 2 rfl) ?_
    refine lv_iconst (v := 4) hx hb dX1_init_77 (by decide) ?_
    refine lv_icmp_ne (tgt := 85) hx hb dX1_init_78 (by decide) (fun c_78 => ?_) (fun c_78 => ?_)
    · replace h := z_in_ c_78 h
      refine lv_iconst (v := 1) hx hb dX1_init_85 (by decide) ?_
      obtain ⟨S_16, eS_16, h⟩ := z_bd_some h
      refine g_putf (ci := 1) (k := 6) (ty := .int) tyX1 hc hP hS rfl z_inX1 tyX1_ok nmX1 (by decide) wF_X1_47 rfl (by decide +kernel) rfl rfl eS_16 dX1_init_86 (fun H locs hP hS => ?_)
      cases h
      rw [hQ]
      exact g_retv hc hr hlocks hP hS dX1_init_89
    · replace h := z_ip_ c_78 h
      refine lv_iconst (v := 0) hx hb dX1_init_81 (by decide) ?_
      refine lv_goto (tgt := 86) hx hb dX1_init_82 (by decide) ?_
      obtain ⟨S_17, eS_17, h⟩ := z_bd_some h
      refine g_putf (ci := 1) (k := 6) (ty := .int) tyX1 hc hP hS rfl z_inX1 tyX1_ok nmX1 (by decide) wF_X1_47 rfl (by decide +kernel) rfl rfl eS_17 dX1_init_86 (fun H locs hP hS => ?_)
      cases h
      rw [hQ]
      exact g_retv hc hr hlocks hP hS dX1_init_89
  clear h
  have h := hJ
  clear hJ
  refine lv_icmp_ne (tgt := 42) hx hb dX1_init_27 (by decide) (fun c_27 => ?_) (fun c_27 => ?_)
  · replace h := z_in_ c_27 h
    refine lv_iconst (v := 1) hx hb dX1_init_42 (by decide) ?_
    cases h
    exact J_43 H locs ls hP hS (lv_sub hl [0, 2] rfl)
  · replace h := z_ip_ c_27 h
    refine lv_aload hx hb dX1_init_30 (lv_at hl 4 rfl) ?_
    obtain ⟨f_6, ef_6, h⟩ := z_bd_some h
    refine g_getN (ci := 3) (k := 3) (v := .int f_6) hc hP rfl z_inX3 (by decide) wG_X1_25 (g_i_v ef_6) dX1_init_32 ?_
    refine lv_iconst (v := 1) hx hb dX1_init_35 (by decide) ?_
    obtain ⟨r_7, er_7, h⟩ := z_bd_some h
    refine s_calli (As := [.int f_6, .int (1 : Int32)]) (r := r_7) (n := 2) hc.1 (mt_J9_max_7cf53 l f_6 (1 : Int32) er_7) wM_X1_30 wT_J9_max_7cf53 wZ_J9 wC_J9_max_7cf53 md_J9_max_7cf53 ⟨rfl, rfl, Nat.le_of_ble_eq_true rfl, Nat.le_of_ble_eq_true rfl⟩ rfl hl.1 rfl (Nat.le_of_ble_eq_true rfl) dX1_init_36 ⟨Nat.le_of_ble_eq_true rfl, Nat.le_of_ble_eq_true rfl⟩ ?_
    refine lv_goto (tgt := 43) hx hb dX1_init_39 (by decide) ?_
    cases h
    exact J_43 H locs ls hP hS (lv_sub hl [0, 2] rfl)
theorem md_X1_init : yX1_init.cls ≠ "java/lang/invoke/MethodHandle" ∧ yX1_init.cls ≠ "java/lang/invoke/VarHandle" ∧ (parseMethodDescriptor yX1_init.desc).map (fun d => d.parameters.length) = some 4 := by decide +kernel
noncomputable def f_X1_firstPart (S : GS) (o : Nat) : Option (Option Nat) :=
  z_bd (g_r S 1 4 o) fun f_1 => z_bd (g_rQ S 3 f_1 (0 : Int32)) fun q_2 => some q_2
set_option maxHeartbeats 4000000 in
set_option maxRecDepth 100000 in
theorem mt_X1_firstPart (l : Launch) (D : va_G) (cs : Nat → ClassId) (A : Nat → Prop) (S : GS) (o : Nat) {r_ : Option Nat} (h : f_X1_firstPart S o = some r_) : Met l yX1_firstPart (z_wd yX1_firstPart cX1_firstPart 1 (some (.object "LevelFits$Polynomial"))) (z_rmA 0 0 0 0) (va_Pc [.ref o] (g_C D cs A S)) (g_Q (some (va_rf r_)) S D cs A) 0 0 A := by
  refine Met.ofW (cc := cX1_firstPart) (maxL := 1) (ret := (some (.object "LevelFits$Polynomial"))) (by decide) rfl ?_
  intro p e s m args below meth c s₁ B hml hv
  obtain ⟨hav, hP0, hK, hN, hSt, hAn⟩ := hv
  have hx := B.exec
  have hb := B.bytes
  have hr := B.returns
  have hts := atoms_spec (ws := z_wd yX1_firstPart cX1_firstPart 1 (some (.object "LevelFits$Polynomial"))) B.pre
  have hown : s.vm.findClass RX1 = some m.cls := findClass_of_methodNamed B.named
  have hlocks := B.notSynchronized
  have hc : g_X p s m args c cX1_firstPart 1 RX1 D cs A := ⟨⟨hx, hb, hml, fun w hw => hts w (List.mem_cons_of_mem _ hw), hown⟩, hK, hN, hSt, hAn⟩
  have hl := lv_entry ([.ref o]) (n := 1) (Nat.le_of_ble_eq_true rfl)
  have hE : entryFrame m args 1 = F0 m 0 ((lg_sl ([.ref o]) ++ List.replicate (1 - (lg_sl ([.ref o])).length) Slot.unset).toArray) [] := by rw [hav]; exact lg_entry_eq m _ _
  rw [hE]
  clear hE hav
  generalize (lg_sl ([.ref o]) ++ List.replicate (1 - (lg_sl ([.ref o])).length) Slot.unset).toArray = ls at hl ⊢
  have hl : lv_has ls 1 [(0, .ref o)] := hl
  obtain ⟨Q, hQ⟩ : ∃ Q, Q = MQ below (g_Q (some (va_rf r_)) S D cs A) args s 0 0 A := ⟨_, rfl⟩
  rw [← hQ]
  suffices hmain : ∀ (H : Heap) (locs : List Loc), g_P D cs A S H → va_S A s.heap H locs → W p l e (z_rmA 0 0 0 0) s m args below meth c H locs 0 0 Q (F0 m 0 ls []) from hmain s.heap [] hP0 va_S.rf
  clear hP0
  intro H locs hP hS
  unfold f_X1_firstPart at h
  refine lv_aload_n hx hb dX1_firstPart_0 rfl (lv_at hl 0 rfl) ?_
  obtain ⟨f_1, ef_1, h⟩ := z_bd_some h
  refine g_get (ci := 1) (k := 4) (v := .ref f_1) hc hP rfl z_inX1 (by decide) wF_X1_38 (g_r_v ef_1) dX1_firstPart_1 ?_
  refine lv_iconst (v := 0) hx hb dX1_firstPart_4 (by decide) ?_
  obtain ⟨q_2, eq_2, h⟩ := z_bd_some h
  refine g_aald (t := 3) hc hP rfl eq_2 dX1_firstPart_5 ?_
  cases h
  rw [hQ]
  exact g_retq hc hr hlocks hP hS dX1_firstPart_6
theorem md_X1_firstPart : yX1_firstPart.cls ≠ "java/lang/invoke/MethodHandle" ∧ yX1_firstPart.cls ≠ "java/lang/invoke/VarHandle" ∧ (parseMethodDescriptor yX1_firstPart.desc).map (fun d => d.parameters.length) = some 0 := by decide +kernel
noncomputable def f_X1_addPart (S : GS) (o : Nat) (a0 : Int32) : Option ((Option Nat) × GS) :=
  z_lt (g_nw S (.inr (.inr (.inr (4, [.long 0, .long 0, .long 0, .long 0]))))) fun S_1 => z_bd (f_X4_init S_1 S.2 ) fun S_2 => z_bd (g_i S_2 1 6 o) fun f_3 => z_bd (g_r S_2 1 4 o) fun f_4 => z_bd (g_lQ S_2 3 f_4) fun n_5 => if n_5 ≤ f_3 then some ((some S.2), S_2) else z_bd (g_r S_2 1 4 o) fun f_6 => z_bd (g_i S_2 1 6 o) fun f_7 => z_chk (g_is S_2 4 S.2) (z_bd (g_wQ S_2 3 f_6 f_7 (some S.2)) fun S_8 => z_bd (g_r S_8 1 5 o) fun f_9 => z_bd (g_i S_8 1 6 o) fun f_10 => z_bd (g_wI S_8 f_9 f_10 a0) fun S_11 => z_bd (g_i S_11 1 6 o) fun f_12 => z_bd (g_put S_11 1 6 o (.int (f_12 + (1 : Int32)))) fun S_13 => some ((some S.2), S_13))
set_option maxHeartbeats 4000000 in
set_option maxRecDepth 100000 in
theorem mt_X1_addPart (l : Launch) (D : va_G) (cs : Nat → ClassId) (A : Nat → Prop) (S : GS) (o : Nat) (a0 : Int32) {r_ : Option Nat} {N_ : GS} (h : f_X1_addPart S o a0 = some (r_, N_)) : Met l yX1_addPart (z_wd yX1_addPart cX1_addPart 3 (some (.object "LevelFits$Polynomial"))) (z_rmA 2 76 1 4) (va_Pc [.ref o, .int a0] (g_C D cs A S)) (g_Q (some (va_rf r_)) N_ D cs A) 1 4 A := by
  refine Met.ofW (cc := cX1_addPart) (maxL := 3) (ret := (some (.object "LevelFits$Polynomial"))) (by decide) rfl ?_
  intro p e s m args below meth c s₁ B hml hv
  obtain ⟨hav, hP0, hK, hN, hSt, hAn⟩ := hv
  have hx := B.exec
  have hb := B.bytes
  have hr := B.returns
  have hts := atoms_spec (ws := z_wd yX1_addPart cX1_addPart 3 (some (.object "LevelFits$Polynomial"))) B.pre
  have hown : s.vm.findClass RX1 = some m.cls := findClass_of_methodNamed B.named
  have hlocks := B.notSynchronized
  have hc : g_X p s m args c cX1_addPart 3 RX1 D cs A := ⟨⟨hx, hb, hml, fun w hw => hts w (List.mem_cons_of_mem _ hw), hown⟩, hK, hN, hSt, hAn⟩
  have hl := lv_entry ([.ref o, .int a0]) (n := 3) (Nat.le_of_ble_eq_true rfl)
  have hE : entryFrame m args 3 = F0 m 0 ((lg_sl ([.ref o, .int a0]) ++ List.replicate (3 - (lg_sl ([.ref o, .int a0])).length) Slot.unset).toArray) [] := by rw [hav]; exact lg_entry_eq m _ _
  rw [hE]
  clear hE hav
  generalize (lg_sl ([.ref o, .int a0]) ++ List.replicate (3 - (lg_sl ([.ref o, .int a0])).length) Slot.unset).toArray = ls at hl ⊢
  have hl : lv_has ls 3 [(0, .ref o), (1, .int a0)] := hl
  obtain ⟨Q, hQ⟩ : ∃ Q, Q = MQ below (g_Q (some (va_rf r_)) N_ D cs A) args s 1 4 A := ⟨_, rfl⟩
  rw [← hQ]
  suffices hmain : ∀ (H : Heap) (locs : List Loc), g_P D cs A S H → va_S A s.heap H locs → W p l e (z_rmA 2 76 1 4) s m args below meth c H locs 0 0 Q (F0 m 0 ls []) from hmain s.heap [] hP0 va_S.rf
  clear hP0
  intro H locs hP hS
  unfold f_X1_addPart at h
  obtain ⟨S_1, eS_1, h⟩ := z_lt_some h
  refine g_new (ci := 4) tyX4 hc hP hS rfl z_inX4 tyX4_ok wK_X1_36 wN_X4 wZ_X4 gd_4 (Nat.le_of_ble_eq_true rfl) (Nat.le_of_ble_eq_true rfl) eS_1 dX1_addPart_0 (fun H hP hS => ?_)
  show W p l e (z_rmA 2 76 1 4) s m args below meth c H locs (1) (4) Q (F0 m 3 ls [.ref S.2])
  refine lv_dup hx hb dX1_addPart_3 rfl ?_
  obtain ⟨S_2, e_4, h⟩ := z_bd_some h
  refine g_callIN (As := []) (rv := none) (n := 0) hc hP hS (mt_X4_init l D cs A S_1 S.2  e_4) wH_X1_46 wI_X4_init rfl wZ_X4 wC_X4_init md_X4_init ⟨rfl, rfl, Nat.le_of_ble_eq_true rfl, Nat.le_of_ble_eq_true rfl⟩ rfl hl.1 rfl (Nat.le_of_ble_eq_true rfl) dX1_addPart_4 ⟨Nat.le_of_ble_eq_true rfl, Nat.le_of_ble_eq_true rfl⟩ (fun H locs hP hS => ?_)
  show W p l e (z_rmA 2 76 1 4) s m args below meth c H locs (1) (4) Q (F0 m 7 ls [.ref S.2])
  refine lv_astore_n (lv' := [(2, .ref S.2), (0, .ref o), (1, .int a0)]) hx hb dX1_addPart_7 rfl hl (by decide) rfl (fun ls hl => ?_)
  refine lv_aload_n hx hb dX1_addPart_8 rfl (lv_at hl 1 rfl) ?_
  obtain ⟨f_3, ef_3, h⟩ := z_bd_some h
  refine g_get (ci := 1) (k := 6) (v := .int f_3) hc hP rfl z_inX1 (by decide) wF_X1_47 (g_i_v ef_3) dX1_addPart_9 ?_
  refine lv_aload_n hx hb dX1_addPart_12 rfl (lv_at hl 1 rfl) ?_
  obtain ⟨f_4, ef_4, h⟩ := z_bd_some h
  refine g_get (ci := 1) (k := 4) (v := .ref f_4) hc hP rfl z_inX1 (by decide) wF_X1_38 (g_r_v ef_4) dX1_addPart_13 ?_
  obtain ⟨n_5, en_5, h⟩ := z_bd_some h
  refine g_alenQ (t := 3) hc hP rfl en_5 dX1_addPart_16 ?_
  refine lv_icmp_ge (tgt := 50) hx hb dX1_addPart_17 (by decide) (fun c_17 => ?_) (fun c_17 => ?_)
  · replace h := z_ip_ c_17 h
    refine lv_aload_n hx hb dX1_addPart_50 rfl (lv_at hl 0 rfl) ?_
    cases h
    rw [hQ]
    exact g_retq (r := some _) hc hr hlocks hP hS dX1_addPart_51
  · replace h := z_in_ c_17 h
    refine lv_aload_n hx hb dX1_addPart_20 rfl (lv_at hl 1 rfl) ?_
    obtain ⟨f_6, ef_6, h⟩ := z_bd_some h
    refine g_get (ci := 1) (k := 4) (v := .ref f_6) hc hP rfl z_inX1 (by decide) wF_X1_38 (g_r_v ef_6) dX1_addPart_21 ?_
    refine lv_aload_n hx hb dX1_addPart_24 rfl (lv_at hl 1 rfl) ?_
    obtain ⟨f_7, ef_7, h⟩ := z_bd_some h
    refine g_get (ci := 1) (k := 6) (v := .int f_7) hc hP rfl z_inX1 (by decide) wF_X1_47 (g_i_v ef_7) dX1_addPart_25 ?_
    refine lv_aload_n hx hb dX1_addPart_28 rfl (lv_at hl 0 rfl) ?_
    obtain ⟨ho_29, h⟩ := z_chk_some h
    obtain ⟨vs_, ho_29⟩ := Option.isSome_iff_exists.mp ho_29
    obtain ⟨S_8, eS_8, h⟩ := z_bd_some h
    refine g_aast (t := 3) (ci := 4) hc hP hS rfl rfl ho_29 eS_8 dX1_addPart_29 (fun H locs hP hS => ?_)
    refine lv_aload_n hx hb dX1_addPart_30 rfl (lv_at hl 1 rfl) ?_
    obtain ⟨f_9, ef_9, h⟩ := z_bd_some h
    refine g_get (ci := 1) (k := 5) (v := .ref f_9) hc hP rfl z_inX1 (by decide) wF_X1_42 (g_r_v ef_9) dX1_addPart_31 ?_
    refine lv_aload_n hx hb dX1_addPart_34 rfl (lv_at hl 1 rfl) ?_
    obtain ⟨f_10, ef_10, h⟩ := z_bd_some h
    refine g_get (ci := 1) (k := 6) (v := .int f_10) hc hP rfl z_inX1 (by decide) wF_X1_47 (g_i_v ef_10) dX1_addPart_35 ?_
    refine lv_iload_n hx hb dX1_addPart_38 rfl (lv_at hl 2 rfl) ?_
    obtain ⟨S_11, eS_11, h⟩ := z_bd_some h
    refine g_iast hc hP hS eS_11 dX1_addPart_39 (fun H locs hP hS => ?_)
    refine lv_aload_n hx hb dX1_addPart_40 rfl (lv_at hl 1 rfl) ?_
    refine lv_dup hx hb dX1_addPart_41 rfl ?_
    obtain ⟨f_12, ef_12, h⟩ := z_bd_some h
    refine g_get (ci := 1) (k := 6) (v := .int f_12) hc hP rfl z_inX1 (by decide) wF_X1_47 (g_i_v ef_12) dX1_addPart_42 ?_
    refine lv_iconst (v := 1) hx hb dX1_addPart_45 (by decide) ?_
    refine lv_iadd hx hb dX1_addPart_46 ?_
    obtain ⟨S_13, eS_13, h⟩ := z_bd_some h
    refine g_putf (ci := 1) (k := 6) (ty := .int) tyX1 hc hP hS rfl z_inX1 tyX1_ok nmX1 (by decide) wF_X1_47 rfl (by decide +kernel) rfl rfl eS_13 dX1_addPart_47 (fun H locs hP hS => ?_)
    refine lv_aload_n hx hb dX1_addPart_50 rfl (lv_at hl 0 rfl) ?_
    cases h
    rw [hQ]
    exact g_retq (r := some _) hc hr hlocks hP hS dX1_addPart_51
theorem md_X1_addPart : yX1_addPart.cls ≠ "java/lang/invoke/MethodHandle" ∧ yX1_addPart.cls ≠ "java/lang/invoke/VarHandle" ∧ (parseMethodDescriptor yX1_addPart.desc).map (fun d => d.parameters.length) = some 1 := by decide +kernel
noncomputable def f_X1_hasPart (S : GS) (o : Nat) (a0 : Int32) : Option (Int32) :=
  if a0 < 0 then some (0 : Int32) else z_bd (g_i S 1 6 o) fun f_1 => if f_1 ≤ a0 then some (0 : Int32) else some (1 : Int32)
set_option maxHeartbeats 4000000 in
set_option maxRecDepth 100000 in
theorem mt_X1_hasPart (l : Launch) (D : va_G) (cs : Nat → ClassId) (A : Nat → Prop) (S : GS) (o : Nat) (a0 : Int32) {r_ : Int32} (h : f_X1_hasPart S o a0 = some r_) : Met l yX1_hasPart (z_wd yX1_hasPart cX1_hasPart 2 (some .boolean)) (z_rmA 0 0 0 0) (va_Pc [.ref o, .int a0] (g_C D cs A S)) (g_Q (some (.int r_)) S D cs A) 0 0 A := by
  refine Met.ofW (cc := cX1_hasPart) (maxL := 2) (ret := (some .boolean)) (by decide) rfl ?_
  intro p e s m args below meth c s₁ B hml hv
  obtain ⟨hav, hP0, hK, hN, hSt, hAn⟩ := hv
  have hx := B.exec
  have hb := B.bytes
  have hr := B.returns
  have hts := atoms_spec (ws := z_wd yX1_hasPart cX1_hasPart 2 (some .boolean)) B.pre
  have hown : s.vm.findClass RX1 = some m.cls := findClass_of_methodNamed B.named
  have hlocks := B.notSynchronized
  have hc : g_X p s m args c cX1_hasPart 2 RX1 D cs A := ⟨⟨hx, hb, hml, fun w hw => hts w (List.mem_cons_of_mem _ hw), hown⟩, hK, hN, hSt, hAn⟩
  have hl := lv_entry ([.ref o, .int a0]) (n := 2) (Nat.le_of_ble_eq_true rfl)
  have hE : entryFrame m args 2 = F0 m 0 ((lg_sl ([.ref o, .int a0]) ++ List.replicate (2 - (lg_sl ([.ref o, .int a0])).length) Slot.unset).toArray) [] := by rw [hav]; exact lg_entry_eq m _ _
  rw [hE]
  clear hE hav
  generalize (lg_sl ([.ref o, .int a0]) ++ List.replicate (2 - (lg_sl ([.ref o, .int a0])).length) Slot.unset).toArray = ls at hl ⊢
  have hl : lv_has ls 2 [(0, .ref o), (1, .int a0)] := hl
  obtain ⟨Q, hQ⟩ : ∃ Q, Q = MQ below (g_Q (some (.int r_)) S D cs A) args s 0 0 A := ⟨_, rfl⟩
  rw [← hQ]
  suffices hmain : ∀ (H : Heap) (locs : List Loc), g_P D cs A S H → va_S A s.heap H locs → W p l e (z_rmA 0 0 0 0) s m args below meth c H locs 0 0 Q (F0 m 0 ls []) from hmain s.heap [] hP0 va_S.rf
  clear hP0
  intro H locs hP hS
  unfold f_X1_hasPart at h
  refine lv_iload_n hx hb dX1_hasPart_0 rfl (lv_at hl 1 rfl) ?_
  refine lv_if_lt (tgt := 16) hx hb dX1_hasPart_1 (by decide) (fun c_1 => ?_) (fun c_1 => ?_)
  · replace h := z_ip_ c_1 h
    refine lv_iconst (v := 0) hx hb dX1_hasPart_16 (by decide) ?_
    cases h
    rw [hQ]
    exact g_retz hc hr hlocks (by decide) hP hS dX1_hasPart_17
  · replace h := z_in_ c_1 h
    refine lv_iload_n hx hb dX1_hasPart_4 rfl (lv_at hl 1 rfl) ?_
    refine lv_aload_n hx hb dX1_hasPart_5 rfl (lv_at hl 0 rfl) ?_
    obtain ⟨f_1, ef_1, h⟩ := z_bd_some h
    refine g_get (ci := 1) (k := 6) (v := .int f_1) hc hP rfl z_inX1 (by decide) wF_X1_47 (g_i_v ef_1) dX1_hasPart_6 ?_
    refine lv_icmp_ge (tgt := 16) hx hb dX1_hasPart_9 (by decide) (fun c_9 => ?_) (fun c_9 => ?_)
    · replace h := z_ip_ c_9 h
      refine lv_iconst (v := 0) hx hb dX1_hasPart_16 (by decide) ?_
      cases h
      rw [hQ]
      exact g_retz hc hr hlocks (by decide) hP hS dX1_hasPart_17
    · replace h := z_in_ c_9 h
      refine lv_iconst (v := 1) hx hb dX1_hasPart_12 (by decide) ?_
      refine lv_goto (tgt := 17) hx hb dX1_hasPart_13 (by decide) ?_
      cases h
      rw [hQ]
      exact g_retz hc hr hlocks (by decide) hP hS dX1_hasPart_17
theorem md_X1_hasPart : yX1_hasPart.cls ≠ "java/lang/invoke/MethodHandle" ∧ yX1_hasPart.cls ≠ "java/lang/invoke/VarHandle" ∧ (parseMethodDescriptor yX1_hasPart.desc).map (fun d => d.parameters.length) = some 1 := by decide +kernel
noncomputable def f_X1_partFor_L4 (S : GS) (a0 : Int32) (o : Nat) (x2_1 : Int32) (x3_2 : Int32) : Option ((Int32) ⊕ (Int32 × Int32)) :=
  z_bd (g_i S 1 6 o) fun f_4 => if f_4 ≤ x3_2 then some (.inl (x2_1)) else z_bd (g_r S 1 3 o) fun f_5 => z_bd (g_r S 3 0 f_5) fun f_6 => z_bd (g_r S 1 5 o) fun f_7 => z_bd (g_rI S f_7 x3_2) fun v_8 => z_bd (g_rI S f_6 v_8) fun v_9 => if a0 < v_9 then some (.inr (x2_1, (x3_2 + 1))) else some (.inr (x3_2, (x3_2 + 1)))
noncomputable def f_X1_partFor (S : GS) (o : Nat) (a0 : Int32) : Option (Option Nat) :=
  z_bd (z_lp (fun x => f_X1_partFor_L4 S a0 o x.1 x.2) ((0 : Int32), (1 : Int32))) fun y2_3 => z_bd (g_r S 1 4 o) fun f_10 => z_bd (g_rQ S 3 f_10 y2_3) fun q_11 => some q_11
set_option maxHeartbeats 4000000 in
set_option maxRecDepth 100000 in
theorem mt_X1_partFor (l : Launch) (D : va_G) (cs : Nat → ClassId) (A : Nat → Prop) (S : GS) (o : Nat) (a0 : Int32) {r_ : Option Nat} (h : f_X1_partFor S o a0 = some r_) : Met l yX1_partFor (z_wd yX1_partFor cX1_partFor 4 (some (.object "LevelFits$Polynomial"))) (z_rmA 0 0 0 0) (va_Pc [.ref o, .int a0] (g_C D cs A S)) (g_Q (some (va_rf r_)) S D cs A) 0 0 A := by
  refine Met.ofW (cc := cX1_partFor) (maxL := 4) (ret := (some (.object "LevelFits$Polynomial"))) (by decide) rfl ?_
  intro p e s m args below meth c s₁ B hml hv
  obtain ⟨hav, hP0, hK, hN, hSt, hAn⟩ := hv
  have hx := B.exec
  have hb := B.bytes
  have hr := B.returns
  have hts := atoms_spec (ws := z_wd yX1_partFor cX1_partFor 4 (some (.object "LevelFits$Polynomial"))) B.pre
  have hown : s.vm.findClass RX1 = some m.cls := findClass_of_methodNamed B.named
  have hlocks := B.notSynchronized
  have hc : g_X p s m args c cX1_partFor 4 RX1 D cs A := ⟨⟨hx, hb, hml, fun w hw => hts w (List.mem_cons_of_mem _ hw), hown⟩, hK, hN, hSt, hAn⟩
  have hl := lv_entry ([.ref o, .int a0]) (n := 4) (Nat.le_of_ble_eq_true rfl)
  have hE : entryFrame m args 4 = F0 m 0 ((lg_sl ([.ref o, .int a0]) ++ List.replicate (4 - (lg_sl ([.ref o, .int a0])).length) Slot.unset).toArray) [] := by rw [hav]; exact lg_entry_eq m _ _
  rw [hE]
  clear hE hav
  generalize (lg_sl ([.ref o, .int a0]) ++ List.replicate (4 - (lg_sl ([.ref o, .int a0])).length) Slot.unset).toArray = ls at hl ⊢
  have hl : lv_has ls 4 [(0, .ref o), (1, .int a0)] := hl
  obtain ⟨Q, hQ⟩ : ∃ Q, Q = MQ below (g_Q (some (va_rf r_)) S D cs A) args s 0 0 A := ⟨_, rfl⟩
  rw [← hQ]
  suffices hmain : ∀ (H : Heap) (locs : List Loc), g_P D cs A S H → va_S A s.heap H locs → W p l e (z_rmA 0 0 0 0) s m args below meth c H locs 0 0 Q (F0 m 0 ls []) from hmain s.heap [] hP0 va_S.rf
  clear hP0
  intro H locs hP hS
  unfold f_X1_partFor at h
  refine lv_iconst (v := 0) hx hb dX1_partFor_0 (by decide) ?_
  refine lv_istore_n (lv' := [(2, .int (0 : Int32)), (0, .ref o), (1, .int a0)]) hx hb dX1_partFor_1 rfl hl (by decide) rfl (fun ls hl => ?_)
  refine lv_iconst (v := 1) hx hb dX1_partFor_2 (by decide) ?_
  refine lv_istore_n (lv' := [(3, .int (1 : Int32)), (2, .int (0 : Int32)), (0, .ref o), (1, .int a0)]) hx hb dX1_partFor_3 rfl hl (by decide) rfl (fun ls hl => ?_)
  obtain ⟨y2_3, hlp, h⟩ := z_bd_some h
  refine z_lp_ind (P := fun x => ∀ (H : Heap) (locs : List Loc) (ls : Array Slot), g_P D cs A S H → va_S A s.heap H locs → lv_has ls 4 [(0, .ref o), (1, .int a0), (2, .int x.1), (3, .int x.2)] → W p l e (z_rmA 0 0 0 0) s m args below meth c H locs (0) (0) Q (F0 m 4 ls [])) (Qe := fun y => ∀ (H : Heap) (locs : List Loc) (ls : Array Slot), g_P D cs A S H → va_S A s.heap H locs → lv_has ls 4 [(0, .ref o), (2, .int y)] → W p l e (z_rmA 0 0 0 0) s m args below meth c H locs (0) (0) Q (F0 m 38 ls [])) ?_ hlp ?_ H locs ls hP hS (lv_sub hl [2, 3, 1, 0] rfl)
  · clear h hlp hP hS hl
    rintro ⟨x2_1, x3_2⟩ oo h K_4 H locs ls hP hS hl
    have hP : g_P D cs A S H := hP
    have hl : lv_has ls 4 [(0, .ref o), (1, .int a0), (2, .int x2_1), (3, .int x3_2)] := hl
    have h : f_X1_partFor_L4 S a0 o x2_1 x3_2 = some oo := h
    unfold f_X1_partFor_L4 at h
    refine lv_iload_n hx hb dX1_partFor_4 rfl (lv_at hl 3 rfl) ?_
    refine lv_aload_n hx hb dX1_partFor_5 rfl (lv_at hl 0 rfl) ?_
    obtain ⟨f_4, ef_4, h⟩ := z_bd_some h
    refine g_get (ci := 1) (k := 6) (v := .int f_4) hc hP rfl z_inX1 (by decide) wF_X1_47 (g_i_v ef_4) dX1_partFor_6 ?_
    refine lv_icmp_ge (tgt := 38) hx hb dX1_partFor_9 (by decide) (fun c_9 => ?_) (fun c_9 => ?_)
    · replace h := z_ip_ c_9 h
      cases h
      exact K_4 H locs ls hP hS (lv_sub hl [0, 2] rfl)
    · replace h := z_in_ c_9 h
      refine lv_aload_n hx hb dX1_partFor_12 rfl (lv_at hl 0 rfl) ?_
      obtain ⟨f_5, ef_5, h⟩ := z_bd_some h
      refine g_get (ci := 1) (k := 3) (v := .ref f_5) hc hP rfl z_inX1 (by decide) wF_X1_21 (g_r_v ef_5) dX1_partFor_13 ?_
      obtain ⟨f_6, ef_6, h⟩ := z_bd_some h
      refine g_getN (ci := 3) (k := 0) (v := .ref f_6) hc hP rfl z_inX3 (by decide) wG_X1_50 (g_r_v ef_6) dX1_partFor_16 ?_
      refine lv_aload_n hx hb dX1_partFor_19 rfl (lv_at hl 0 rfl) ?_
      obtain ⟨f_7, ef_7, h⟩ := z_bd_some h
      refine g_get (ci := 1) (k := 5) (v := .ref f_7) hc hP rfl z_inX1 (by decide) wF_X1_42 (g_r_v ef_7) dX1_partFor_20 ?_
      refine lv_iload_n hx hb dX1_partFor_23 rfl (lv_at hl 3 rfl) ?_
      obtain ⟨v_8, ev_8, h⟩ := z_bd_some h
      refine g_iald hc hP ev_8 dX1_partFor_24 ?_
      obtain ⟨v_9, ev_9, h⟩ := z_bd_some h
      refine g_iald hc hP ev_9 dX1_partFor_25 ?_
      refine lv_iload_n hx hb dX1_partFor_26 rfl (lv_at hl 1 rfl) ?_
      refine lv_icmp_gt (tgt := 32) hx hb dX1_partFor_27 (by decide) (fun c_27 => ?_) (fun c_27 => ?_)
      · replace h := z_ip_ c_27 h
        refine lv_iinc (v := (x3_2 + 1)) (lv' := [(3, .int (x3_2 + 1)), (0, .ref o), (1, .int a0), (2, .int x2_1)]) hx hb dX1_partFor_32 hl (k := 3) rfl rfl (by decide) rfl (fun ls hl => ?_)
        refine lv_goto (tgt := 4) hx hb dX1_partFor_35 (by decide) ?_
        cases h
        exact K_4 H locs ls hP hS (lv_sub hl [1, 2, 3, 0] rfl)
      · replace h := z_in_ c_27 h
        refine lv_iload_n hx hb dX1_partFor_30 rfl (lv_at hl 3 rfl) ?_
        refine lv_istore_n (lv' := [(2, .int x3_2), (0, .ref o), (1, .int a0), (3, .int x3_2)]) hx hb dX1_partFor_31 rfl hl (by decide) rfl (fun ls hl => ?_)
        refine lv_iinc (v := (x3_2 + 1)) (lv' := [(3, .int (x3_2 + 1)), (2, .int x3_2), (0, .ref o), (1, .int a0)]) hx hb dX1_partFor_32 hl (k := 3) rfl rfl (by decide) rfl (fun ls hl => ?_)
        refine lv_goto (tgt := 4) hx hb dX1_partFor_35 (by decide) ?_
        cases h
        exact K_4 H locs ls hP hS (lv_sub hl [2, 3, 1, 0] rfl)
  · clear hlp hP hS hl
    intro H locs ls hP hS hl
    have hP : g_P D cs A S H := hP
    have hl : lv_has ls 4 [(0, .ref o), (2, .int y2_3)] := hl
    refine lv_aload_n hx hb dX1_partFor_38 rfl (lv_at hl 0 rfl) ?_
    obtain ⟨f_10, ef_10, h⟩ := z_bd_some h
    refine g_get (ci := 1) (k := 4) (v := .ref f_10) hc hP rfl z_inX1 (by decide) wF_X1_38 (g_r_v ef_10) dX1_partFor_39 ?_
    refine lv_iload_n hx hb dX1_partFor_42 rfl (lv_at hl 1 rfl) ?_
    obtain ⟨q_11, eq_11, h⟩ := z_bd_some h
    refine g_aald (t := 3) hc hP rfl eq_11 dX1_partFor_43 ?_
    cases h
    rw [hQ]
    exact g_retq hc hr hlocks hP hS dX1_partFor_44
theorem md_X1_partFor : yX1_partFor.cls ≠ "java/lang/invoke/MethodHandle" ∧ yX1_partFor.cls ≠ "java/lang/invoke/VarHandle" ∧ (parseMethodDescriptor yX1_partFor.desc).map (fun d => d.parameters.length) = some 1 := by decide +kernel
noncomputable def f_X3_has (S : GS) (o : Nat) (a0 : Int32) : Option (Int32) :=
  if a0 < 0 then some (0 : Int32) else z_bd (g_i S 3 3 o) fun f_1 => if f_1 ≤ a0 then some (0 : Int32) else some (1 : Int32)
set_option maxHeartbeats 4000000 in
set_option maxRecDepth 100000 in
theorem mt_X3_has (l : Launch) (D : va_G) (cs : Nat → ClassId) (A : Nat → Prop) (S : GS) (o : Nat) (a0 : Int32) {r_ : Int32} (h : f_X3_has S o a0 = some r_) : Met l yX3_has (z_wd yX3_has cX3_has 2 (some .boolean)) (z_rmA 0 0 0 0) (va_Pc [.ref o, .int a0] (g_C D cs A S)) (g_Q (some (.int r_)) S D cs A) 0 0 A := by
  refine Met.ofW (cc := cX3_has) (maxL := 2) (ret := (some .boolean)) (by decide) rfl ?_
  intro p e s m args below meth c s₁ B hml hv
  obtain ⟨hav, hP0, hK, hN, hSt, hAn⟩ := hv
  have hx := B.exec
  have hb := B.bytes
  have hr := B.returns
  have hts := atoms_spec (ws := z_wd yX3_has cX3_has 2 (some .boolean)) B.pre
  have hown : s.vm.findClass RX3 = some m.cls := findClass_of_methodNamed B.named
  have hlocks := B.notSynchronized
  have hc : g_X p s m args c cX3_has 2 RX3 D cs A := ⟨⟨hx, hb, hml, fun w hw => hts w (List.mem_cons_of_mem _ hw), hown⟩, hK, hN, hSt, hAn⟩
  have hl := lv_entry ([.ref o, .int a0]) (n := 2) (Nat.le_of_ble_eq_true rfl)
  have hE : entryFrame m args 2 = F0 m 0 ((lg_sl ([.ref o, .int a0]) ++ List.replicate (2 - (lg_sl ([.ref o, .int a0])).length) Slot.unset).toArray) [] := by rw [hav]; exact lg_entry_eq m _ _
  rw [hE]
  clear hE hav
  generalize (lg_sl ([.ref o, .int a0]) ++ List.replicate (2 - (lg_sl ([.ref o, .int a0])).length) Slot.unset).toArray = ls at hl ⊢
  have hl : lv_has ls 2 [(0, .ref o), (1, .int a0)] := hl
  obtain ⟨Q, hQ⟩ : ∃ Q, Q = MQ below (g_Q (some (.int r_)) S D cs A) args s 0 0 A := ⟨_, rfl⟩
  rw [← hQ]
  suffices hmain : ∀ (H : Heap) (locs : List Loc), g_P D cs A S H → va_S A s.heap H locs → W p l e (z_rmA 0 0 0 0) s m args below meth c H locs 0 0 Q (F0 m 0 ls []) from hmain s.heap [] hP0 va_S.rf
  clear hP0
  intro H locs hP hS
  unfold f_X3_has at h
  refine lv_iload_n hx hb dX3_has_0 rfl (lv_at hl 1 rfl) ?_
  refine lv_if_lt (tgt := 16) hx hb dX3_has_1 (by decide) (fun c_1 => ?_) (fun c_1 => ?_)
  · replace h := z_ip_ c_1 h
    refine lv_iconst (v := 0) hx hb dX3_has_16 (by decide) ?_
    cases h
    rw [hQ]
    exact g_retz hc hr hlocks (by decide) hP hS dX3_has_17
  · replace h := z_in_ c_1 h
    refine lv_iload_n hx hb dX3_has_4 rfl (lv_at hl 1 rfl) ?_
    refine lv_aload_n hx hb dX3_has_5 rfl (lv_at hl 0 rfl) ?_
    obtain ⟨f_1, ef_1, h⟩ := z_bd_some h
    refine g_get (ci := 3) (k := 3) (v := .int f_1) hc hP rfl z_inX3 (by decide) wF_X3_21 (g_i_v ef_1) dX3_has_6 ?_
    refine lv_icmp_ge (tgt := 16) hx hb dX3_has_9 (by decide) (fun c_9 => ?_) (fun c_9 => ?_)
    · replace h := z_ip_ c_9 h
      refine lv_iconst (v := 0) hx hb dX3_has_16 (by decide) ?_
      cases h
      rw [hQ]
      exact g_retz hc hr hlocks (by decide) hP hS dX3_has_17
    · replace h := z_in_ c_9 h
      refine lv_iconst (v := 1) hx hb dX3_has_12 (by decide) ?_
      refine lv_goto (tgt := 17) hx hb dX3_has_13 (by decide) ?_
      cases h
      rw [hQ]
      exact g_retz hc hr hlocks (by decide) hP hS dX3_has_17
theorem md_X3_has : yX3_has.cls ≠ "java/lang/invoke/MethodHandle" ∧ yX3_has.cls ≠ "java/lang/invoke/VarHandle" ∧ (parseMethodDescriptor yX3_has.desc).map (fun d => d.parameters.length) = some 1 := by decide +kernel
