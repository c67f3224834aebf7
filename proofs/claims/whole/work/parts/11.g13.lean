noncomputable def f_X7_keepFit (S : GS) (o : Nat) (a0 : Nat) : Option ((Int32) × GS) :=
  z_bd (g_i S 7 6 o) fun f_1 => if f_1 < (10 : Int32) then z_bd (g_r S 7 1 o) fun f_2 => z_bd (g_i S 7 6 o) fun f_3 => z_chk (g_is S 1 a0) (z_bd (g_wQ S 1 f_2 f_3 (some a0)) fun S_4 => z_bd (g_i S_4 7 6 o) fun f_5 => z_bd (g_put S_4 7 6 o (.int (f_5 + (1 : Int32)))) fun S_6 => z_bd (g_i S_6 1 0 a0) fun f_7 => z_chk (g_is S_6 7 o) (z_bd2 (f_X7_done S_6 o f_7) fun r_9 S_8 => some (r_9, S_8))) else z_chk (g_is S 7 o) (z_bd2 (f_X7_refuse S o (2 : Int32)) fun r_11 S_10 => some (r_11, S_10))
set_option maxHeartbeats 4000000 in
set_option maxRecDepth 100000 in
theorem mt_X7_keepFit (l : Launch) (D : va_G) (cs : Nat → ClassId) (A : Nat → Prop) (S : GS) (o : Nat) (a0 : Nat) {r_ : Int32} {N_ : GS} (h : f_X7_keepFit S o a0 = some (r_, N_)) : Met l yX7_keepFit (z_wd yX7_keepFit cX7_keepFit 2 (some .int)) (z_rmA 1 37 0 0) (va_Pc [.ref o, .ref a0] (g_C D cs A S)) (g_Q (some (.int r_)) N_ D cs A) 0 0 A := by
  refine Met.ofW (cc := cX7_keepFit) (maxL := 2) (ret := (some .int)) (by decide) rfl ?_
  intro p e s m args below meth c s₁ B hml hv
  obtain ⟨hav, hP0, hK, hN, hSt, hAn⟩ := hv
  have hx := B.exec
  have hb := B.bytes
  have hr := B.returns
  have hts := atoms_spec (ws := z_wd yX7_keepFit cX7_keepFit 2 (some .int)) B.pre
  have hown : s.vm.findClass RX7 = some m.cls := findClass_of_methodNamed B.named
  have hlocks := B.notSynchronized
  have hc : g_X p s m args c cX7_keepFit 2 RX7 D cs A := ⟨⟨hx, hb, hml, fun w hw => hts w (List.mem_cons_of_mem _ hw), hown⟩, hK, hN, hSt, hAn⟩
  have hl := lv_entry ([.ref o, .ref a0]) (n := 2) (Nat.le_of_ble_eq_true rfl)
  have hE : entryFrame m args 2 = F0 m 0 ((lg_sl ([.ref o, .ref a0]) ++ List.replicate (2 - (lg_sl ([.ref o, .ref a0])).length) Slot.unset).toArray) [] := by rw [hav]; exact lg_entry_eq m _ _
  rw [hE]
  clear hE hav
  generalize (lg_sl ([.ref o, .ref a0]) ++ List.replicate (2 - (lg_sl ([.ref o, .ref a0])).length) Slot.unset).toArray = ls at hl ⊢
  have hl : lv_has ls 2 [(0, .ref o), (1, .ref a0)] := hl
  obtain ⟨Q, hQ⟩ : ∃ Q, Q = MQ below (g_Q (some (.int r_)) N_ D cs A) args s 0 0 A := ⟨_, rfl⟩
  rw [← hQ]
  suffices hmain : ∀ (H : Heap) (locs : List Loc), g_P D cs A S H → va_S A s.heap H locs → W p l e (z_rmA 1 37 0 0) s m args below meth c H locs 0 0 Q (F0 m 0 ls []) from hmain s.heap [] hP0 va_S.rf
  clear hP0
  intro H locs hP hS
  unfold f_X7_keepFit at h
  refine lv_aload_n hx hb dX7_keepFit_0 rfl (lv_at hl 0 rfl) ?_
  obtain ⟨f_1, ef_1, h⟩ := z_bd_some h
  refine g_get (ci := 7) (k := 6) (v := .int f_1) hc hP rfl z_inX7 (by decide) wF_X7_48 (g_i_v ef_1) dX7_keepFit_1 ?_
  refine lv_bipush (v := 10) hx hb dX7_keepFit_4 (by decide) ?_
  refine lv_icmp_lt (tgt := 15) hx hb dX7_keepFit_6 (by decide) (fun c_6 => ?_) (fun c_6 => ?_)
  · replace h := z_ip_ c_6 h
    refine lv_aload_n hx hb dX7_keepFit_15 rfl (lv_at hl 0 rfl) ?_
    obtain ⟨f_2, ef_2, h⟩ := z_bd_some h
    refine g_get (ci := 7) (k := 1) (v := .ref f_2) hc hP rfl z_inX7 (by decide) wF_X7_17 (g_r_v ef_2) dX7_keepFit_16 ?_
    refine lv_aload_n hx hb dX7_keepFit_19 rfl (lv_at hl 0 rfl) ?_
    obtain ⟨f_3, ef_3, h⟩ := z_bd_some h
    refine g_get (ci := 7) (k := 6) (v := .int f_3) hc hP rfl z_inX7 (by decide) wF_X7_48 (g_i_v ef_3) dX7_keepFit_20 ?_
    refine lv_aload_n hx hb dX7_keepFit_23 rfl (lv_at hl 1 rfl) ?_
    obtain ⟨ho_24, h⟩ := z_chk_some h
    obtain ⟨vs_, ho_24⟩ := Option.isSome_iff_exists.mp ho_24
    obtain ⟨S_4, eS_4, h⟩ := z_bd_some h
    refine g_aast (t := 1) (ci := 1) hc hP hS rfl rfl ho_24 eS_4 dX7_keepFit_24 (fun H locs hP hS => ?_)
    refine lv_aload_n hx hb dX7_keepFit_25 rfl (lv_at hl 0 rfl) ?_
    refine lv_dup hx hb dX7_keepFit_26 rfl ?_
    obtain ⟨f_5, ef_5, h⟩ := z_bd_some h
    refine g_get (ci := 7) (k := 6) (v := .int f_5) hc hP rfl z_inX7 (by decide) wF_X7_48 (g_i_v ef_5) dX7_keepFit_27 ?_
    refine lv_iconst (v := 1) hx hb dX7_keepFit_30 (by decide) ?_
    refine lv_iadd hx hb dX7_keepFit_31 ?_
    obtain ⟨S_6, eS_6, h⟩ := z_bd_some h
    refine g_putf (ci := 7) (k := 6) (ty := .int) tyX7 hc hP hS rfl z_inX7 tyX7_ok nmX7 (by decide) wF_X7_48 rfl (by decide +kernel) rfl rfl eS_6 dX7_keepFit_32 (fun H locs hP hS => ?_)
    refine lv_aload_n hx hb dX7_keepFit_35 rfl (lv_at hl 0 rfl) ?_
    refine lv_aload_n hx hb dX7_keepFit_36 rfl (lv_at hl 1 rfl) ?_
    obtain ⟨f_7, ef_7, h⟩ := z_bd_some h
    refine g_getN (ci := 1) (k := 0) (v := .int f_7) hc hP rfl z_inX1 (by decide) wG_X7_150 (g_i_v ef_7) dX7_keepFit_37 ?_
    obtain ⟨ho_40, h⟩ := z_chk_some h
    obtain ⟨vs_, ho_40⟩ := Option.isSome_iff_exists.mp ho_40
    obtain ⟨r_9, S_8, e_40, h⟩ := z_bd2_some h
    refine g_callV (ci := 7) (As := [.int f_7]) (rv := (some (.int r_9))) (n := 1) hc hP hS rfl ho_40 (mt_X7_done l D cs A S_6 o f_7 e_40) wM_X7_80 wI_X7_done wS_X7_done wZ_X7 wC_X7_done md_X7_done ⟨rfl, rfl, Nat.le_of_ble_eq_true rfl, Nat.le_of_ble_eq_true rfl⟩ rfl hl.1 rfl (Nat.le_of_ble_eq_true rfl) dX7_keepFit_40 ⟨Nat.le_of_ble_eq_true rfl, Nat.le_of_ble_eq_true rfl⟩ (fun H locs hP hS => ?_)
    show W p l e (z_rmA 1 37 0 0) s m args below meth c H locs (0) (0) Q (F0 m 43 ls [.int r_9])
    cases h
    rw [hQ]
    exact g_reti hc hr hlocks hP hS dX7_keepFit_43
  · replace h := z_in_ c_6 h
    refine lv_aload_n hx hb dX7_keepFit_9 rfl (lv_at hl 0 rfl) ?_
    refine lv_iconst (v := 2) hx hb dX7_keepFit_10 (by decide) ?_
    obtain ⟨ho_11, h⟩ := z_chk_some h
    obtain ⟨vs_, ho_11⟩ := Option.isSome_iff_exists.mp ho_11
    obtain ⟨r_11, S_10, e_11, h⟩ := z_bd2_some h
    refine g_callV (ci := 7) (As := [.int (2 : Int32)]) (rv := (some (.int r_11))) (n := 1) hc hP hS rfl ho_11 (mt_X7_refuse l D cs A S o (2 : Int32) e_11) wM_X7_64 wI_X7_refuse wS_X7_refuse wZ_X7 wC_X7_refuse md_X7_refuse ⟨rfl, rfl, Nat.le_of_ble_eq_true rfl, Nat.le_of_ble_eq_true rfl⟩ rfl hl.1 rfl (Nat.le_of_ble_eq_true rfl) dX7_keepFit_11 ⟨Nat.le_of_ble_eq_true rfl, Nat.le_of_ble_eq_true rfl⟩ (fun H locs hP hS => ?_)
    show W p l e (z_rmA 1 37 0 0) s m args below meth c H locs (0) (0) Q (F0 m 14 ls [.int r_11])
    cases h
    rw [hQ]
    exact g_reti hc hr hlocks hP hS dX7_keepFit_14
theorem md_X7_keepFit : yX7_keepFit.cls ≠ "java/lang/invoke/MethodHandle" ∧ yX7_keepFit.cls ≠ "java/lang/invoke/VarHandle" ∧ (parseMethodDescriptor yX7_keepFit.desc).map (fun d => d.parameters.length) = some 1 := by decide +kernel
noncomputable def f_X7_fit (S : GS) (o : Nat) (a0 : Int32) (a1 : Int32) (a2 : Int32) (a3 : Int32) (a4 : Int32) : Option ((Int32) × GS) :=
  z_chk (g_is S 7 o) (z_bd (f_X7_setAt S o a0) fun q_1 => z_bd (f_X7_isWithin a1 (-1000 : Int32) (1000 : Int32)) fun r_2 => z_bd (if r_2 = 0 then some ((0 : Int32)) else z_bd (f_X7_isWithin a2 (-1000 : Int32) (1000 : Int32)) fun r_4 => if r_4 = 0 then some ((0 : Int32)) else z_bd (f_X7_isWithin a3 (-1000 : Int32) (1000 : Int32)) fun r_5 => if r_5 = 0 then some ((0 : Int32)) else z_bd (f_X7_isWithin a4 (1 : Int32) (60 : Int32)) fun r_6 => if r_6 = 0 then some ((0 : Int32)) else some ((1 : Int32))) fun v_3 => z_mt q_1 (z_chk (g_is S 7 o) (z_bd2 (f_X7_refuse S o (1 : Int32)) fun r_9 S_8 => some (r_9, S_8))) fun a_7 => if v_3 = 0 then z_chk (g_is S 7 o) (z_bd2 (f_X7_refuse S o (1 : Int32)) fun r_25 S_24 => some (r_25, S_24)) else z_bd (g_i S 7 6 o) fun f_10 => if f_10 < (10 : Int32) then z_lt (g_nw S (.inr (.inr (.inr (1, [.int 0, .int 0, .int 0, .null, .null, .null, .int 0]))))) fun S_11 => z_bd (g_i S_11 7 6 o) fun f_12 => z_chk (g_is S_11 3 a_7) (z_bd2 (f_X3_copy S_11 a_7 ) fun q_14 S_13 => z_bd q_14 fun a_15 => z_bd (f_X1_init S_13 S.2 f_12 (0 : Int32) (2 : Int32) a_15) fun S_16 => z_chk (g_is S_16 1 S.2) (z_bd (f_X1_firstPart S_16 S.2 ) fun q_17 => z_bd q_17 fun a_18 => z_chk (g_is S_16 4 a_18) (z_bd (f_X4_become S_16 a_18 a1.toInt64 a2.toInt64 a3.toInt64 a4.toInt64) fun S_19 => z_chk (g_is S_19 7 o) (z_bd2 (f_X7_keepFit S_19 o S.2) fun r_21 S_20 => some (r_21, S_20))))) else z_chk (g_is S 7 o) (z_bd2 (f_X7_refuse S o (2 : Int32)) fun r_23 S_22 => some (r_23, S_22)))
set_option maxHeartbeats 4000000 in
set_option maxRecDepth 100000 in
theorem mt_X7_fit (l : Launch) (D : va_G) (cs : Nat → ClassId) (A : Nat → Prop) (S : GS) (o : Nat) (a0 : Int32) (a1 : Int32) (a2 : Int32) (a3 : Int32) (a4 : Int32) {r_ : Int32} {N_ : GS} (h : f_X7_fit S o a0 a1 a2 a3 a4 = some (r_, N_)) : Met l yX7_fit (z_wd yX7_fit cX7_fit 9 (some .int)) (z_rmA 3 117 8 75) (va_Pc [.ref o, .int a0, .int a1, .int a2, .int a3, .int a4] (g_C D cs A S)) (g_Q (some (.int r_)) N_ D cs A) 8 75 A := by
  refine Met.ofW (cc := cX7_fit) (maxL := 9) (ret := (some .int)) (by decide) rfl ?_
  intro p e s m args below meth c s₁ B hml hv
  obtain ⟨hav, hP0, hK, hN, hSt, hAn⟩ := hv
  have hx := B.exec
  have hb := B.bytes
  have hr := B.returns
  have hts := atoms_spec (ws := z_wd yX7_fit cX7_fit 9 (some .int)) B.pre
  have hown : s.vm.findClass RX7 = some m.cls := findClass_of_methodNamed B.named
  have hlocks := B.notSynchronized
  have hc : g_X p s m args c cX7_fit 9 RX7 D cs A := ⟨⟨hx, hb, hml, fun w hw => hts w (List.mem_cons_of_mem _ hw), hown⟩, hK, hN, hSt, hAn⟩
  have hl := lv_entry ([.ref o, .int a0, .int a1, .int a2, .int a3, .int a4]) (n := 9) (Nat.le_of_ble_eq_true rfl)
  have hE : entryFrame m args 9 = F0 m 0 ((lg_sl ([.ref o, .int a0, .int a1, .int a2, .int a3, .int a4]) ++ List.replicate (9 - (lg_sl ([.ref o, .int a0, .int a1, .int a2, .int a3, .int a4])).length) Slot.unset).toArray) [] := by rw [hav]; exact lg_entry_eq m _ _
  rw [hE]
  clear hE hav
  generalize (lg_sl ([.ref o, .int a0, .int a1, .int a2, .int a3, .int a4]) ++ List.replicate (9 - (lg_sl ([.ref o, .int a0, .int a1, .int a2, .int a3, .int a4])).length) Slot.unset).toArray = ls at hl ⊢
  have hl : lv_has ls 9 [(0, .ref o), (1, .int a0), (2, .int a1), (3, .int a2), (4, .int a3), (5, .int a4)] := hl
  obtain ⟨Q, hQ⟩ : ∃ Q, Q = MQ below (g_Q (some (.int r_)) N_ D cs A) args s 8 75 A := ⟨_, rfl⟩
  rw [← hQ]
  suffices hmain : ∀ (H : Heap) (locs : List Loc), g_P D cs A S H → va_S A s.heap H locs → W p l e (z_rmA 3 117 8 75) s m args below meth c H locs 0 0 Q (F0 m 0 ls []) from hmain s.heap [] hP0 va_S.rf
  clear hP0
  intro H locs hP hS
  unfold f_X7_fit at h
  refine lv_aload_n hx hb dX7_fit_0 rfl (lv_at hl 0 rfl) ?_
  refine lv_iload_n hx hb dX7_fit_1 rfl (lv_at hl 1 rfl) ?_
  obtain ⟨ho_2, h⟩ := z_chk_some h
  obtain ⟨vs_, ho_2⟩ := Option.isSome_iff_exists.mp ho_2
  obtain ⟨q_1, e_2, h⟩ := z_bd_some h
  refine g_callV (ci := 7) (As := [.int a0]) (rv := (some (va_rf q_1))) (n := 1) hc hP hS rfl ho_2 (mt_X7_setAt l D cs A S o a0 e_2) wM_X7_56 wI_X7_setAt wS_X7_setAt wZ_X7 wC_X7_setAt md_X7_setAt ⟨rfl, rfl, Nat.le_of_ble_eq_true rfl, Nat.le_of_ble_eq_true rfl⟩ rfl hl.1 rfl (Nat.le_of_ble_eq_true rfl) dX7_fit_2 ⟨Nat.le_of_ble_eq_true rfl, Nat.le_of_ble_eq_true rfl⟩ (fun H locs hP hS => ?_)
  show W p l e (z_rmA 3 117 8 75) s m args below meth c H locs (0) (0) Q (F0 m 5 ls [va_rf q_1])
  refine q_astore (lv' := [(6, va_rf q_1), (0, .ref o), (1, .int a0), (2, .int a1), (3, .int a2), (4, .int a3), (5, .int a4)]) hx hb dX7_fit_5 hl (by decide) rfl (fun ls hl => ?_)
  refine lv_iload_n hx hb dX7_fit_7 rfl (lv_at hl 3 rfl) ?_
  refine lv_sipush (v := -1000) hx hb dX7_fit_8 (by decide) ?_
  refine lv_sipush (v := 1000) hx hb dX7_fit_11 (by decide) ?_
  obtain ⟨r_2, er_2, h⟩ := z_bd_some h
  refine s_calli (As := [.int a1, .int (-1000 : Int32), .int (1000 : Int32)]) (r := r_2) (n := 3) hc.1 (mt_X7_isWithin l a1 (-1000 : Int32) (1000 : Int32) er_2) wM_X7_101 wT_X7_isWithin wZ_X7 wC_X7_isWithin md_X7_isWithin ⟨rfl, rfl, Nat.le_of_ble_eq_true rfl, Nat.le_of_ble_eq_true rfl⟩ rfl hl.1 rfl (Nat.le_of_ble_eq_true rfl) dX7_fit_14 ⟨Nat.le_of_ble_eq_true rfl, Nat.le_of_ble_eq_true rfl⟩ ?_
  obtain ⟨v_3, hJ, h⟩ := z_bd_some h
  have J_63 : ∀ (H : Heap) (locs : List Loc) (ls : Array Slot), g_P D cs A S H → va_S A s.heap H locs → lv_has ls 9 [(0, .ref o), (2, .int a1), (3, .int a2), (4, .int a3), (5, .int a4), (6, va_rf q_1)] → W p l e (z_rmA 3 117 8 75) s m args below meth c H locs (0) (0) Q (F0 m 63 ls [.int v_3]) := by
    intro H locs ls hP hS hl
    refine lv_istore (lv' := [(7, .int v_3), (0, .ref o), (2, .int a1), (3, .int a2), (4, .int a3), (5, .int a4), (6, va_rf q_1)]) hx hb dX7_fit_63 hl (by decide) (by cases q_1 <;> rfl) (fun ls hl => ?_)
    refine q_aload hx hb dX7_fit_65 (lv_at hl 6 rfl) ?_
    rcases q_1 with _ | a_7
    · replace h := z_mt_n h
      refine lv_ifnullN (tgt := 75) hx hb dX7_fit_67 (by decide) ?_
      refine lv_aload_n hx hb dX7_fit_75 rfl (lv_at hl 1 rfl) ?_
      refine lv_iconst (v := 1) hx hb dX7_fit_76 (by decide) ?_
      obtain ⟨ho_77, h⟩ := z_chk_some h
      obtain ⟨vs_, ho_77⟩ := Option.isSome_iff_exists.mp ho_77
      obtain ⟨r_9, S_8, e_77, h⟩ := z_bd2_some h
      refine g_callV (ci := 7) (As := [.int (1 : Int32)]) (rv := (some (.int r_9))) (n := 1) hc hP hS rfl ho_77 (mt_X7_refuse l D cs A S o (1 : Int32) e_77) wM_X7_64 wI_X7_refuse wS_X7_refuse wZ_X7 wC_X7_refuse md_X7_refuse ⟨rfl, rfl, Nat.le_of_ble_eq_true rfl, Nat.le_of_ble_eq_true rfl⟩ rfl hl.1 rfl (Nat.le_of_ble_eq_true rfl) dX7_fit_77 ⟨Nat.le_of_ble_eq_true rfl, Nat.le_of_ble_eq_true rfl⟩ (fun H locs hP hS => ?_)
      show W p l e (z_rmA 3 117 8 75) s m args below meth c H locs (0) (0) Q (F0 m 80 ls [.int r_9])
      cases h
      rw [hQ]
      refine W.widen (k := 8) (n := 75) (Nat.le_of_ble_eq_true rfl) (Nat.le_of_ble_eq_true rfl) ?_
      exact g_reti hc hr hlocks hP hS dX7_fit_80
    · replace h := z_mt_s h
      refine lv_ifnull hx hb dX7_fit_67 ?_
      refine lv_iload hx hb dX7_fit_70 (lv_at hl 0 rfl) ?_
      refine lv_if_ne (tgt := 81) hx hb dX7_fit_72 (by decide) (fun c_72 => ?_) (fun c_72 => ?_)
      · replace h := z_in_ c_72 h
        refine lv_aload_n hx hb dX7_fit_81 rfl (lv_at hl 1 rfl) ?_
        obtain ⟨f_10, ef_10, h⟩ := z_bd_some h
        refine g_get (ci := 7) (k := 6) (v := .int f_10) hc hP rfl z_inX7 (by decide) wF_X7_48 (g_i_v ef_10) dX7_fit_82 ?_
        refine lv_bipush (v := 10) hx hb dX7_fit_85 (by decide) ?_
        refine lv_icmp_lt (tgt := 96) hx hb dX7_fit_87 (by decide) (fun c_87 => ?_) (fun c_87 => ?_)
        · replace h := z_ip_ c_87 h
          obtain ⟨S_11, eS_11, h⟩ := z_lt_some h
          refine g_new (ci := 1) tyX1 hc hP hS rfl z_inX1 tyX1_ok wK_X7_15 wN_X1 wZ_X1 gd_1 (Nat.le_of_ble_eq_true rfl) (Nat.le_of_ble_eq_true rfl) eS_11 dX7_fit_96 (fun H hP hS => ?_)
          show W p l e (z_rmA 3 117 8 75) s m args below meth c H locs (1) (7) Q (F0 m 99 ls [.ref S.2])
          refine lv_dup hx hb dX7_fit_99 rfl ?_
          refine lv_aload_n hx hb dX7_fit_100 rfl (lv_at hl 1 rfl) ?_
          obtain ⟨f_12, ef_12, h⟩ := z_bd_some h
          refine g_get (ci := 7) (k := 6) (v := .int f_12) hc hP rfl z_inX7 (by decide) wF_X7_48 (g_i_v ef_12) dX7_fit_101 ?_
          refine lv_iconst (v := 0) hx hb dX7_fit_104 (by decide) ?_
          refine lv_iconst (v := 2) hx hb dX7_fit_105 (by decide) ?_
          refine lv_aload hx hb dX7_fit_106 (lv_at hl 6 rfl) ?_
          obtain ⟨ho_108, h⟩ := z_chk_some h
          obtain ⟨vs_, ho_108⟩ := Option.isSome_iff_exists.mp ho_108
          obtain ⟨q_14, S_13, e_108, h⟩ := z_bd2_some h
          refine g_callV (ci := 3) (As := []) (rv := (some (va_rf q_14))) (n := 0) hc hP hS rfl ho_108 (mt_X3_copy l D cs A S_11 a_7  e_108) wM_X7_104 wI_X3_copy wS_X3_copy wZ_X3 wC_X3_copy md_X3_copy ⟨rfl, rfl, Nat.le_of_ble_eq_true rfl, Nat.le_of_ble_eq_true rfl⟩ rfl hl.1 rfl (Nat.le_of_ble_eq_true rfl) dX7_fit_108 ⟨Nat.le_of_ble_eq_true rfl, Nat.le_of_ble_eq_true rfl⟩ (fun H locs hP hS => ?_)
          show W p l e (z_rmA 3 117 8 75) s m args below meth c H locs (5) (47) Q (F0 m 111 ls [va_rf q_14, .int (2 : Int32), .int (0 : Int32), .int f_12, .ref S.2, .ref S.2])
          obtain ⟨a_15, ea_15, hu⟩ := z_bd_some h
          clear h
          subst ea_15
          have h := hu
          clear hu
          obtain ⟨S_16, e_111, h⟩ := z_bd_some h
          refine g_callI (As := [.int f_12, .int (0 : Int32), .int (2 : Int32), .ref a_15]) (rv := none) (n := 4) hc hP hS (mt_X1_init l D cs A S_13 S.2 f_12 (0 : Int32) (2 : Int32) a_15 e_111) wM_X7_108 wI_X1_init rfl wZ_X1 wC_X1_init md_X1_init ⟨rfl, rfl, Nat.le_of_ble_eq_true rfl, Nat.le_of_ble_eq_true rfl⟩ rfl hl.1 rfl (Nat.le_of_ble_eq_true rfl) dX7_fit_111 ⟨Nat.le_of_ble_eq_true rfl, Nat.le_of_ble_eq_true rfl⟩ (fun H locs hP hS => ?_)
          show W p l e (z_rmA 3 117 8 75) s m args below meth c H locs (8) (75) Q (F0 m 114 ls [.ref S.2])
          refine lv_astore (lv' := [(8, .ref S.2), (7, .int v_3), (0, .ref o), (2, .int a1), (3, .int a2), (4, .int a3), (5, .int a4), (6, .ref a_7)]) hx hb dX7_fit_114 hl (by decide) rfl (fun ls hl => ?_)
          refine lv_aload hx hb dX7_fit_116 (lv_at hl 0 rfl) ?_
          obtain ⟨ho_118, h⟩ := z_chk_some h
          obtain ⟨vs_, ho_118⟩ := Option.isSome_iff_exists.mp ho_118
          obtain ⟨q_17, e_118, h⟩ := z_bd_some h
          refine g_callV (ci := 1) (As := []) (rv := (some (va_rf q_17))) (n := 0) hc hP hS rfl ho_118 (mt_X1_firstPart l D cs A S_16 S.2  e_118) wM_X7_111 wI_X1_firstPart wS_X1_firstPart wZ_X1 wC_X1_firstPart md_X1_firstPart ⟨rfl, rfl, Nat.le_of_ble_eq_true rfl, Nat.le_of_ble_eq_true rfl⟩ rfl hl.1 rfl (Nat.le_of_ble_eq_true rfl) dX7_fit_118 ⟨Nat.le_of_ble_eq_true rfl, Nat.le_of_ble_eq_true rfl⟩ (fun H locs hP hS => ?_)
          show W p l e (z_rmA 3 117 8 75) s m args below meth c H locs (8) (75) Q (F0 m 121 ls [va_rf q_17])
          refine lv_iload_n hx hb dX7_fit_121 rfl (lv_at hl 3 rfl) ?_
          refine lv_i2l (v := a1.toInt64) hx hb dX7_fit_122 rfl ?_
          refine lv_iload_n hx hb dX7_fit_123 rfl (lv_at hl 4 rfl) ?_
          refine lv_i2l (v := a2.toInt64) hx hb dX7_fit_124 rfl ?_
          refine lv_iload hx hb dX7_fit_125 (lv_at hl 5 rfl) ?_
          refine lv_i2l (v := a3.toInt64) hx hb dX7_fit_127 rfl ?_
          refine lv_iload hx hb dX7_fit_128 (lv_at hl 6 rfl) ?_
          refine lv_i2l (v := a4.toInt64) hx hb dX7_fit_130 rfl ?_
          obtain ⟨a_18, ea_18, hu⟩ := z_bd_some h
          clear h
          subst ea_18
          have h := hu
          clear hu
          obtain ⟨ho_131, h⟩ := z_chk_some h
          obtain ⟨vs_, ho_131⟩ := Option.isSome_iff_exists.mp ho_131
          obtain ⟨S_19, e_131, h⟩ := z_bd_some h
          refine g_callV (ci := 4) (As := [.long a1.toInt64, .long a2.toInt64, .long a3.toInt64, .long a4.toInt64]) (rv := none) (n := 4) hc hP hS rfl ho_131 (mt_X4_become l D cs A S_16 a_18 a1.toInt64 a2.toInt64 a3.toInt64 a4.toInt64 e_131) wM_X7_115 wI_X4_become wS_X4_become wZ_X4 wC_X4_become md_X4_become ⟨rfl, rfl, Nat.le_of_ble_eq_true rfl, Nat.le_of_ble_eq_true rfl⟩ rfl hl.1 rfl (Nat.le_of_ble_eq_true rfl) dX7_fit_131 ⟨Nat.le_of_ble_eq_true rfl, Nat.le_of_ble_eq_true rfl⟩ (fun H locs hP hS => ?_)
          show W p l e (z_rmA 3 117 8 75) s m args below meth c H locs (8) (75) Q (F0 m 134 ls [])
          refine lv_aload_n hx hb dX7_fit_134 rfl (lv_at hl 2 rfl) ?_
          refine lv_aload hx hb dX7_fit_135 (lv_at hl 0 rfl) ?_
          obtain ⟨ho_137, h⟩ := z_chk_some h
          obtain ⟨vs_, ho_137⟩ := Option.isSome_iff_exists.mp ho_137
          obtain ⟨r_21, S_20, e_137, h⟩ := z_bd2_some h
          refine g_callV (ci := 7) (As := [.ref S.2]) (rv := (some (.int r_21))) (n := 1) hc hP hS rfl ho_137 (mt_X7_keepFit l D cs A S_19 o S.2 e_137) wM_X7_121 wI_X7_keepFit wS_X7_keepFit wZ_X7 wC_X7_keepFit md_X7_keepFit ⟨rfl, rfl, Nat.le_of_ble_eq_true rfl, Nat.le_of_ble_eq_true rfl⟩ rfl hl.1 rfl (Nat.le_of_ble_eq_true rfl) dX7_fit_137 ⟨Nat.le_of_ble_eq_true rfl, Nat.le_of_ble_eq_true rfl⟩ (fun H locs hP hS => ?_)
          show W p l e (z_rmA 3 117 8 75) s m args below meth c H locs (8) (75) Q (F0 m 140 ls [.int r_21])
          cases h
          rw [hQ]
          exact g_reti hc hr hlocks hP hS dX7_fit_140
        · replace h := z_in_ c_87 h
          refine lv_aload_n hx hb dX7_fit_90 rfl (lv_at hl 1 rfl) ?_
          refine lv_iconst (v := 2) hx hb dX7_fit_91 (by decide) ?_
          obtain ⟨ho_92, h⟩ := z_chk_some h
          obtain ⟨vs_, ho_92⟩ := Option.isSome_iff_exists.mp ho_92
          obtain ⟨r_23, S_22, e_92, h⟩ := z_bd2_some h
          refine g_callV (ci := 7) (As := [.int (2 : Int32)]) (rv := (some (.int r_23))) (n := 1) hc hP hS rfl ho_92 (mt_X7_refuse l D cs A S o (2 : Int32) e_92) wM_X7_64 wI_X7_refuse wS_X7_refuse wZ_X7 wC_X7_refuse md_X7_refuse ⟨rfl, rfl, Nat.le_of_ble_eq_true rfl, Nat.le_of_ble_eq_true rfl⟩ rfl hl.1 rfl (Nat.le_of_ble_eq_true rfl) dX7_fit_92 ⟨Nat.le_of_ble_eq_true rfl, Nat.le_of_ble_eq_true rfl⟩ (fun H locs hP hS => ?_)
          show W p l e (z_rmA 3 117 8 75) s m args below meth c H locs (0) (0) Q (F0 m 95 ls [.int r_23])
          cases h
          rw [hQ]
          refine W.widen (k := 8) (n := 75) (Nat.le_of_ble_eq_true rfl) (Nat.le_of_ble_eq_true rfl) ?_
          exact g_reti hc hr hlocks hP hS dX7_fit_95
      · replace h := z_ip_ c_72 h
        refine lv_aload_n hx hb dX7_fit_75 rfl (lv_at hl 1 rfl) ?_
        refine lv_iconst (v := 1) hx hb dX7_fit_76 (by decide) ?_
        obtain ⟨ho_77, h⟩ := z_chk_some h
        obtain ⟨vs_, ho_77⟩ := Option.isSome_iff_exists.mp ho_77
        obtain ⟨r_25, S_24, e_77, h⟩ := z_bd2_some h
        refine g_callV (ci := 7) (As := [.int (1 : Int32)]) (rv := (some (.int r_25))) (n := 1) hc hP hS rfl ho_77 (mt_X7_refuse l D cs A S o (1 : Int32) e_77) wM_X7_64 wI_X7_refuse wS_X7_refuse wZ_X7 wC_X7_refuse md_X7_refuse ⟨rfl, rfl, Nat.le_of_ble_eq_true rfl, Nat.le_of_ble_eq_true rfl⟩ rfl hl.1 rfl (Nat.le_of_ble_eq_true rfl) dX7_fit_77 ⟨Nat.le_of_ble_eq_true rfl, Nat.le_of_ble_eq_true rfl⟩ (fun H locs hP hS => ?_)
        show W p l e (z_rmA 3 117 8 75) s m args below meth c H locs (0) (0) Q (F0 m 80 ls [.int r_25])
        cases h
        rw [hQ]
        refine W.widen (k := 8) (n := 75) (Nat.le_of_ble_eq_true rfl) (Nat.le_of_ble_eq_true rfl) ?_
        exact g_reti hc hr hlocks hP hS dX7_fit_80
  clear h
  have h := hJ
  clear hJ
  refine lv_if_eq (tgt := 62) hx hb dX7_fit_17 (by decide) (fun c_17 => ?_) (fun c_17 => ?_)
  · replace h := z_ip_ c_17 h
    refine lv_iconst (v := 0) hx hb dX7_fit_62 (by decide) ?_
    cases h
    exact J_63 H locs ls hP hS (lv_sub hl [1, 3, 4, 5, 6, 0] rfl)
  · replace h := z_in_ c_17 h
    refine lv_iload_n hx hb dX7_fit_20 rfl (lv_at hl 4 rfl) ?_
    refine lv_sipush (v := -1000) hx hb dX7_fit_21 (by decide) ?_
    refine lv_sipush (v := 1000) hx hb dX7_fit_24 (by decide) ?_
    obtain ⟨r_4, er_4, h⟩ := z_bd_some h
    refine s_calli (As := [.int a2, .int (-1000 : Int32), .int (1000 : Int32)]) (r := r_4) (n := 3) hc.1 (mt_X7_isWithin l a2 (-1000 : Int32) (1000 : Int32) er_4) wM_X7_101 wT_X7_isWithin wZ_X7 wC_X7_isWithin md_X7_isWithin ⟨rfl, rfl, Nat.le_of_ble_eq_true rfl, Nat.le_of_ble_eq_true rfl⟩ rfl hl.1 rfl (Nat.le_of_ble_eq_true rfl) dX7_fit_27 ⟨Nat.le_of_ble_eq_true rfl, Nat.le_of_ble_eq_true rfl⟩ ?_
    refine lv_if_eq (tgt := 62) hx hb dX7_fit_30 (by decide) (fun c_30 => ?_) (fun c_30 => ?_)
    · replace h := z_ip_ c_30 h
      refine lv_iconst (v := 0) hx hb dX7_fit_62 (by decide) ?_
      cases h
      exact J_63 H locs ls hP hS (lv_sub hl [1, 3, 4, 5, 6, 0] rfl)
    · replace h := z_in_ c_30 h
      refine lv_iload hx hb dX7_fit_33 (lv_at hl 5 rfl) ?_
      refine lv_sipush (v := -1000) hx hb dX7_fit_35 (by decide) ?_
      refine lv_sipush (v := 1000) hx hb dX7_fit_38 (by decide) ?_
      obtain ⟨r_5, er_5, h⟩ := z_bd_some h
      refine s_calli (As := [.int a3, .int (-1000 : Int32), .int (1000 : Int32)]) (r := r_5) (n := 3) hc.1 (mt_X7_isWithin l a3 (-1000 : Int32) (1000 : Int32) er_5) wM_X7_101 wT_X7_isWithin wZ_X7 wC_X7_isWithin md_X7_isWithin ⟨rfl, rfl, Nat.le_of_ble_eq_true rfl, Nat.le_of_ble_eq_true rfl⟩ rfl hl.1 rfl (Nat.le_of_ble_eq_true rfl) dX7_fit_41 ⟨Nat.le_of_ble_eq_true rfl, Nat.le_of_ble_eq_true rfl⟩ ?_
      refine lv_if_eq (tgt := 62) hx hb dX7_fit_44 (by decide) (fun c_44 => ?_) (fun c_44 => ?_)
      · replace h := z_ip_ c_44 h
        refine lv_iconst (v := 0) hx hb dX7_fit_62 (by decide) ?_
        cases h
        exact J_63 H locs ls hP hS (lv_sub hl [1, 3, 4, 5, 6, 0] rfl)
      · replace h := z_in_ c_44 h
        refine lv_iload hx hb dX7_fit_47 (lv_at hl 6 rfl) ?_
        refine lv_iconst (v := 1) hx hb dX7_fit_49 (by decide) ?_
        refine lv_bipush (v := 60) hx hb dX7_fit_50 (by decide) ?_
        obtain ⟨r_6, er_6, h⟩ := z_bd_some h
        refine s_calli (As := [.int a4, .int (1 : Int32), .int (60 : Int32)]) (r := r_6) (n := 3) hc.1 (mt_X7_isWithin l a4 (1 : Int32) (60 : Int32) er_6) wM_X7_101 wT_X7_isWithin wZ_X7 wC_X7_isWithin md_X7_isWithin ⟨rfl, rfl, Nat.le_of_ble_eq_true rfl, Nat.le_of_ble_eq_true rfl⟩ rfl hl.1 rfl (Nat.le_of_ble_eq_true rfl) dX7_fit_52 ⟨Nat.le_of_ble_eq_true rfl, Nat.le_of_ble_eq_true rfl⟩ ?_
        refine lv_if_eq (tgt := 62) hx hb dX7_fit_55 (by decide) (fun c_55 => ?_) (fun c_55 => ?_)
        · replace h := z_ip_ c_55 h
          refine lv_iconst (v := 0) hx hb dX7_fit_62 (by decide) ?_
          cases h
          exact J_63 H locs ls hP hS (lv_sub hl [1, 3, 4, 5, 6, 0] rfl)
        · replace h := z_in_ c_55 h
          refine lv_iconst (v := 1) hx hb dX7_fit_58 (by decide) ?_
          refine lv_goto (tgt := 63) hx hb dX7_fit_59 (by decide) ?_
          cases h
          exact J_63 H locs ls hP hS (lv_sub hl [1, 3, 4, 5, 6, 0] rfl)
theorem md_X7_fit : yX7_fit.cls ≠ "java/lang/invoke/MethodHandle" ∧ yX7_fit.cls ≠ "java/lang/invoke/VarHandle" ∧ (parseMethodDescriptor yX7_fit.desc).map (fun d => d.parameters.length) = some 5 := by decide +kernel
noncomputable def f_X7_levelledFit (S : GS) (o : Nat) (a0 : Int32) (a1 : Int32) (a2 : Nat) : Option ((Option Nat) × GS) :=
  z_lt (g_nw S (.inr (.inr (.inr (1, [.int 0, .int 0, .int 0, .null, .null, .null, .int 0]))))) fun S_1 => z_bd (g_i S_1 7 6 o) fun f_2 => z_chk (g_is S_1 3 a2) (z_bd2 (f_X3_copy S_1 a2 ) fun q_4 S_3 => z_bd q_4 fun a_5 => z_bd (f_X1_init S_3 S.2 f_2 a0 a1 a_5) fun S_6 => z_bd (g_r S_6 7 3 o) fun f_7 => z_bd (g_r S_6 1 3 S.2) fun f_8 => z_bd (g_i S_6 3 3 f_8) fun f_9 => z_chk (g_is S_6 2 f_7) (z_bd (f_X2_levelRow S_6 f_7 S.2 (0 : Int32) f_9) fun S_10 => z_bd (g_r S_10 7 3 o) fun f_11 => z_chk (g_is S_10 1 S.2) (z_bd (f_X1_firstPart S_10 S.2 ) fun q_12 => z_bd q_12 fun a_13 => z_chk (g_is S_10 2 f_11) (z_bd (f_X2_hand S_10 f_11 a_13) fun S_14 => some ((some S.2), S_14)))))
set_option maxHeartbeats 4000000 in
set_option maxRecDepth 100000 in
theorem mt_X7_levelledFit (l : Launch) (D : va_G) (cs : Nat → ClassId) (A : Nat → Prop) (S : GS) (o : Nat) (a0 : Int32) (a1 : Int32) (a2 : Nat) {r_ : Option Nat} {N_ : GS} (h : f_X7_levelledFit S o a0 a1 a2 = some (r_, N_)) : Met l yX7_levelledFit (z_wd yX7_levelledFit cX7_levelledFit 5 (some (.object "LevelFits$Fit"))) (z_rmA 6 255 8 75) (va_Pc [.ref o, .int a0, .int a1, .ref a2] (g_C D cs A S)) (g_Q (some (va_rf r_)) N_ D cs A) 8 75 A := by
  refine Met.ofW (cc := cX7_levelledFit) (maxL := 5) (ret := (some (.object "LevelFits$Fit"))) (by decide) rfl ?_
  intro p e s m args below meth c s₁ B hml hv
  obtain ⟨hav, hP0, hK, hN, hSt, hAn⟩ := hv
  have hx := B.exec
  have hb := B.bytes
  have hr := B.returns
  have hts := atoms_spec (ws := z_wd yX7_levelledFit cX7_levelledFit 5 (some (.object "LevelFits$Fit"))) B.pre
  have hown : s.vm.findClass RX7 = some m.cls := findClass_of_methodNamed B.named
  have hlocks := B.notSynchronized
  have hc : g_X p s m args c cX7_levelledFit 5 RX7 D cs A := ⟨⟨hx, hb, hml, fun w hw => hts w (List.mem_cons_of_mem _ hw), hown⟩, hK, hN, hSt, hAn⟩
  have hl := lv_entry ([.ref o, .int a0, .int a1, .ref a2]) (n := 5) (Nat.le_of_ble_eq_true rfl)
  have hE : entryFrame m args 5 = F0 m 0 ((lg_sl ([.ref o, .int a0, .int a1, .ref a2]) ++ List.replicate (5 - (lg_sl ([.ref o, .int a0, .int a1, .ref a2])).length) Slot.unset).toArray) [] := by rw [hav]; exact lg_entry_eq m _ _
  rw [hE]
  clear hE hav
  generalize (lg_sl ([.ref o, .int a0, .int a1, .ref a2]) ++ List.replicate (5 - (lg_sl ([.ref o, .int a0, .int a1, .ref a2])).length) Slot.unset).toArray = ls at hl ⊢
  have hl : lv_has ls 5 [(0, .ref o), (1, .int a0), (2, .int a1), (3, .ref a2)] := hl
  obtain ⟨Q, hQ⟩ : ∃ Q, Q = MQ below (g_Q (some (va_rf r_)) N_ D cs A) args s 8 75 A := ⟨_, rfl⟩
  rw [← hQ]
  suffices hmain : ∀ (H : Heap) (locs : List Loc), g_P D cs A S H → va_S A s.heap H locs → W p l e (z_rmA 6 255 8 75) s m args below meth c H locs 0 0 Q (F0 m 0 ls []) from hmain s.heap [] hP0 va_S.rf
  clear hP0
  intro H locs hP hS
  unfold f_X7_levelledFit at h
  obtain ⟨S_1, eS_1, h⟩ := z_lt_some h
  refine g_new (ci := 1) tyX1 hc hP hS rfl z_inX1 tyX1_ok wK_X7_15 wN_X1 wZ_X1 gd_1 (Nat.le_of_ble_eq_true rfl) (Nat.le_of_ble_eq_true rfl) eS_1 dX7_levelledFit_0 (fun H hP hS => ?_)
  show W p l e (z_rmA 6 255 8 75) s m args below meth c H locs (1) (7) Q (F0 m 3 ls [.ref S.2])
  refine lv_dup hx hb dX7_levelledFit_3 rfl ?_
  refine lv_aload_n hx hb dX7_levelledFit_4 rfl (lv_at hl 0 rfl) ?_
  obtain ⟨f_2, ef_2, h⟩ := z_bd_some h
  refine g_get (ci := 7) (k := 6) (v := .int f_2) hc hP rfl z_inX7 (by decide) wF_X7_48 (g_i_v ef_2) dX7_levelledFit_5 ?_
  refine lv_iload_n hx hb dX7_levelledFit_8 rfl (lv_at hl 1 rfl) ?_
  refine lv_iload_n hx hb dX7_levelledFit_9 rfl (lv_at hl 2 rfl) ?_
  refine lv_aload_n hx hb dX7_levelledFit_10 rfl (lv_at hl 3 rfl) ?_
  obtain ⟨ho_11, h⟩ := z_chk_some h
  obtain ⟨vs_, ho_11⟩ := Option.isSome_iff_exists.mp ho_11
  obtain ⟨q_4, S_3, e_11, h⟩ := z_bd2_some h
  refine g_callV (ci := 3) (As := []) (rv := (some (va_rf q_4))) (n := 0) hc hP hS rfl ho_11 (mt_X3_copy l D cs A S_1 a2  e_11) wM_X7_104 wI_X3_copy wS_X3_copy wZ_X3 wC_X3_copy md_X3_copy ⟨rfl, rfl, Nat.le_of_ble_eq_true rfl, Nat.le_of_ble_eq_true rfl⟩ rfl hl.1 rfl (Nat.le_of_ble_eq_true rfl) dX7_levelledFit_11 ⟨Nat.le_of_ble_eq_true rfl, Nat.le_of_ble_eq_true rfl⟩ (fun H locs hP hS => ?_)
  show W p l e (z_rmA 6 255 8 75) s m args below meth c H locs (5) (47) Q (F0 m 14 ls [va_rf q_4, .int a1, .int a0, .int f_2, .ref S.2, .ref S.2])
  obtain ⟨a_5, ea_5, hu⟩ := z_bd_some h
  clear h
  subst ea_5
  have h := hu
  clear hu
  obtain ⟨S_6, e_14, h⟩ := z_bd_some h
  refine g_callI (As := [.int f_2, .int a0, .int a1, .ref a_5]) (rv := none) (n := 4) hc hP hS (mt_X1_init l D cs A S_3 S.2 f_2 a0 a1 a_5 e_14) wM_X7_108 wI_X1_init rfl wZ_X1 wC_X1_init md_X1_init ⟨rfl, rfl, Nat.le_of_ble_eq_true rfl, Nat.le_of_ble_eq_true rfl⟩ rfl hl.1 rfl (Nat.le_of_ble_eq_true rfl) dX7_levelledFit_14 ⟨Nat.le_of_ble_eq_true rfl, Nat.le_of_ble_eq_true rfl⟩ (fun H locs hP hS => ?_)
  show W p l e (z_rmA 6 255 8 75) s m args below meth c H locs (8) (75) Q (F0 m 17 ls [.ref S.2])
  refine lv_astore (lv' := [(4, .ref S.2), (0, .ref o), (1, .int a0), (2, .int a1), (3, .ref a2)]) hx hb dX7_levelledFit_17 hl (by decide) rfl (fun ls hl => ?_)
  refine lv_aload_n hx hb dX7_levelledFit_19 rfl (lv_at hl 1 rfl) ?_
  obtain ⟨f_7, ef_7, h⟩ := z_bd_some h
  refine g_get (ci := 7) (k := 3) (v := .ref f_7) hc hP rfl z_inX7 (by decide) wF_X7_30 (g_r_v ef_7) dX7_levelledFit_20 ?_
  refine lv_aload hx hb dX7_levelledFit_23 (lv_at hl 0 rfl) ?_
  refine lv_iconst (v := 0) hx hb dX7_levelledFit_25 (by decide) ?_
  refine lv_aload hx hb dX7_levelledFit_26 (lv_at hl 0 rfl) ?_
  obtain ⟨f_8, ef_8, h⟩ := z_bd_some h
  refine g_getN (ci := 1) (k := 3) (v := .ref f_8) hc hP rfl z_inX1 (by decide) wG_X7_132 (g_r_v ef_8) dX7_levelledFit_28 ?_
  obtain ⟨f_9, ef_9, h⟩ := z_bd_some h
  refine g_getN (ci := 3) (k := 3) (v := .int f_9) hc hP rfl z_inX3 (by decide) wG_X7_129 (g_i_v ef_9) dX7_levelledFit_31 ?_
  obtain ⟨ho_34, h⟩ := z_chk_some h
  obtain ⟨vs_, ho_34⟩ := Option.isSome_iff_exists.mp ho_34
  obtain ⟨S_10, e_34, h⟩ := z_bd_some h
  refine g_callV (ci := 2) (As := [.ref S.2, .int (0 : Int32), .int f_9]) (rv := none) (n := 3) hc hP hS rfl ho_34 (mt_X2_levelRow l D cs A S_6 f_7 S.2 (0 : Int32) f_9 e_34) wM_X7_153 wI_X2_levelRow wS_X2_levelRow wZ_X2 wC_X2_levelRow md_X2_levelRow ⟨rfl, rfl, Nat.le_of_ble_eq_true rfl, Nat.le_of_ble_eq_true rfl⟩ rfl hl.1 rfl (Nat.le_of_ble_eq_true rfl) dX7_levelledFit_34 ⟨Nat.le_of_ble_eq_true rfl, Nat.le_of_ble_eq_true rfl⟩ (fun H locs hP hS => ?_)
  show W p l e (z_rmA 6 255 8 75) s m args below meth c H locs (8) (75) Q (F0 m 37 ls [])
  refine lv_aload_n hx hb dX7_levelledFit_37 rfl (lv_at hl 1 rfl) ?_
  obtain ⟨f_11, ef_11, h⟩ := z_bd_some h
  refine g_get (ci := 7) (k := 3) (v := .ref f_11) hc hP rfl z_inX7 (by decide) wF_X7_30 (g_r_v ef_11) dX7_levelledFit_38 ?_
  refine lv_aload hx hb dX7_levelledFit_41 (lv_at hl 0 rfl) ?_
  obtain ⟨ho_43, h⟩ := z_chk_some h
  obtain ⟨vs_, ho_43⟩ := Option.isSome_iff_exists.mp ho_43
  obtain ⟨q_12, e_43, h⟩ := z_bd_some h
  refine g_callV (ci := 1) (As := []) (rv := (some (va_rf q_12))) (n := 0) hc hP hS rfl ho_43 (mt_X1_firstPart l D cs A S_10 S.2  e_43) wM_X7_111 wI_X1_firstPart wS_X1_firstPart wZ_X1 wC_X1_firstPart md_X1_firstPart ⟨rfl, rfl, Nat.le_of_ble_eq_true rfl, Nat.le_of_ble_eq_true rfl⟩ rfl hl.1 rfl (Nat.le_of_ble_eq_true rfl) dX7_levelledFit_43 ⟨Nat.le_of_ble_eq_true rfl, Nat.le_of_ble_eq_true rfl⟩ (fun H locs hP hS => ?_)
  show W p l e (z_rmA 6 255 8 75) s m args below meth c H locs (8) (75) Q (F0 m 46 ls [va_rf q_12, .ref f_11])
  obtain ⟨a_13, ea_13, hu⟩ := z_bd_some h
  clear h
  subst ea_13
  have h := hu
  clear hu
  obtain ⟨ho_46, h⟩ := z_chk_some h
  obtain ⟨vs_, ho_46⟩ := Option.isSome_iff_exists.mp ho_46
  obtain ⟨S_14, e_46, h⟩ := z_bd_some h
  refine g_callV (ci := 2) (As := [.ref a_13]) (rv := none) (n := 1) hc hP hS rfl ho_46 (mt_X2_hand l D cs A S_10 f_11 a_13 e_46) wM_X7_157 wI_X2_hand wS_X2_hand wZ_X2 wC_X2_hand md_X2_hand ⟨rfl, rfl, Nat.le_of_ble_eq_true rfl, Nat.le_of_ble_eq_true rfl⟩ rfl hl.1 rfl (Nat.le_of_ble_eq_true rfl) dX7_levelledFit_46 ⟨Nat.le_of_ble_eq_true rfl, Nat.le_of_ble_eq_true rfl⟩ (fun H locs hP hS => ?_)
  show W p l e (z_rmA 6 255 8 75) s m args below meth c H locs (8) (75) Q (F0 m 49 ls [])
  refine lv_aload hx hb dX7_levelledFit_49 (lv_at hl 0 rfl) ?_
  cases h
  rw [hQ]
  exact g_retq (r := some _) hc hr hlocks hP hS dX7_levelledFit_51
theorem md_X7_levelledFit : yX7_levelledFit.cls ≠ "java/lang/invoke/MethodHandle" ∧ yX7_levelledFit.cls ≠ "java/lang/invoke/VarHandle" ∧ (parseMethodDescriptor yX7_levelledFit.desc).map (fun d => d.parameters.length) = some 3 := by decide +kernel
noncomputable def f_X7_line (S : GS) (o : Nat) (a0 : Int32) (a1 : Int32) : Option ((Int32) × GS) :=
  z_chk (g_is S 7 o) (z_bd (f_X7_setAt S o a0) fun q_1 => z_mt q_1 (z_chk (g_is S 7 o) (z_bd2 (f_X7_refuse S o (1 : Int32)) fun r_4 S_3 => some (r_4, S_3))) fun a_2 => z_bd (f_X7_isWithin a1 (0 : Int32) (2 : Int32)) fun r_5 => if r_5 = 0 then z_chk (g_is S 7 o) (z_bd2 (f_X7_refuse S o (1 : Int32)) fun r_15 S_14 => some (r_15, S_14)) else z_bd (g_i S 7 6 o) fun f_6 => if f_6 < (10 : Int32) then z_chk (g_is S 7 o) (z_bd2 (f_X7_levelledFit S o (1 : Int32) a1 a_2) fun q_8 S_7 => z_bd q_8 fun a_9 => z_chk (g_is S_7 7 o) (z_bd2 (f_X7_keepFit S_7 o a_9) fun r_11 S_10 => some (r_11, S_10))) else z_chk (g_is S 7 o) (z_bd2 (f_X7_refuse S o (2 : Int32)) fun r_13 S_12 => some (r_13, S_12)))
set_option maxHeartbeats 4000000 in
set_option maxRecDepth 100000 in
theorem mt_X7_line (l : Launch) (D : va_G) (cs : Nat → ClassId) (A : Nat → Prop) (S : GS) (o : Nat) (a0 : Int32) (a1 : Int32) {r_ : Int32} {N_ : GS} (h : f_X7_line S o a0 a1 = some (r_, N_)) : Met l yX7_line (z_wd yX7_line cX7_line 4 (some .int)) (z_rmA 7 295 8 75) (va_Pc [.ref o, .int a0, .int a1] (g_C D cs A S)) (g_Q (some (.int r_)) N_ D cs A) 8 75 A := by
  refine Met.ofW (cc := cX7_line) (maxL := 4) (ret := (some .int)) (by decide) rfl ?_
  intro p e s m args below meth c s₁ B hml hv
  obtain ⟨hav, hP0, hK, hN, hSt, hAn⟩ := hv
  have hx := B.exec
  have hb := B.bytes
  have hr := B.returns
  have hts := atoms_spec (ws := z_wd yX7_line cX7_line 4 (some .int)) B.pre
  have hown : s.vm.findClass RX7 = some m.cls := findClass_of_methodNamed B.named
  have hlocks := B.notSynchronized
  have hc : g_X p s m args c cX7_line 4 RX7 D cs A := ⟨⟨hx, hb, hml, fun w hw => hts w (List.mem_cons_of_mem _ hw), hown⟩, hK, hN, hSt, hAn⟩
  have hl := lv_entry ([.ref o, .int a0, .int a1]) (n := 4) (Nat.le_of_ble_eq_true rfl)
  have hE : entryFrame m args 4 = F0 m 0 ((lg_sl ([.ref o, .int a0, .int a1]) ++ List.replicate (4 - (lg_sl ([.ref o, .int a0, .int a1])).length) Slot.unset).toArray) [] := by rw [hav]; exact lg_entry_eq m _ _
  rw [hE]
  clear hE hav
  generalize (lg_sl ([.ref o, .int a0, .int a1]) ++ List.replicate (4 - (lg_sl ([.ref o, .int a0, .int a1])).length) Slot.unset).toArray = ls at hl ⊢
  have hl : lv_has ls 4 [(0, .ref o), (1, .int a0), (2, .int a1)] := hl
  obtain ⟨Q, hQ⟩ : ∃ Q, Q = MQ below (g_Q (some (.int r_)) N_ D cs A) args s 8 75 A := ⟨_, rfl⟩
  rw [← hQ]
  suffices hmain : ∀ (H : Heap) (locs : List Loc), g_P D cs A S H → va_S A s.heap H locs → W p l e (z_rmA 7 295 8 75) s m args below meth c H locs 0 0 Q (F0 m 0 ls []) from hmain s.heap [] hP0 va_S.rf
  clear hP0
  intro H locs hP hS
  unfold f_X7_line at h
  refine lv_aload_n hx hb dX7_line_0 rfl (lv_at hl 0 rfl) ?_
  refine lv_iload_n hx hb dX7_line_1 rfl (lv_at hl 1 rfl) ?_
  obtain ⟨ho_2, h⟩ := z_chk_some h
  obtain ⟨vs_, ho_2⟩ := Option.isSome_iff_exists.mp ho_2
  obtain ⟨q_1, e_2, h⟩ := z_bd_some h
  refine g_callV (ci := 7) (As := [.int a0]) (rv := (some (va_rf q_1))) (n := 1) hc hP hS rfl ho_2 (mt_X7_setAt l D cs A S o a0 e_2) wM_X7_56 wI_X7_setAt wS_X7_setAt wZ_X7 wC_X7_setAt md_X7_setAt ⟨rfl, rfl, Nat.le_of_ble_eq_true rfl, Nat.le_of_ble_eq_true rfl⟩ rfl hl.1 rfl (Nat.le_of_ble_eq_true rfl) dX7_line_2 ⟨Nat.le_of_ble_eq_true rfl, Nat.le_of_ble_eq_true rfl⟩ (fun H locs hP hS => ?_)
  show W p l e (z_rmA 7 295 8 75) s m args below meth c H locs (0) (0) Q (F0 m 5 ls [va_rf q_1])
  refine q_astore_n (lv' := [(3, va_rf q_1), (0, .ref o), (1, .int a0), (2, .int a1)]) hx hb dX7_line_5 rfl hl (by decide) rfl (fun ls hl => ?_)
  refine q_aload_n hx hb dX7_line_6 rfl (lv_at hl 0 rfl) ?_
  rcases q_1 with _ | a_2
  · replace h := z_mt_n h
    refine lv_ifnullN (tgt := 19) hx hb dX7_line_7 (by decide) ?_
    refine lv_aload_n hx hb dX7_line_19 rfl (lv_at hl 1 rfl) ?_
    refine lv_iconst (v := 1) hx hb dX7_line_20 (by decide) ?_
    obtain ⟨ho_21, h⟩ := z_chk_some h
    obtain ⟨vs_, ho_21⟩ := Option.isSome_iff_exists.mp ho_21
    obtain ⟨r_4, S_3, e_21, h⟩ := z_bd2_some h
    refine g_callV (ci := 7) (As := [.int (1 : Int32)]) (rv := (some (.int r_4))) (n := 1) hc hP hS rfl ho_21 (mt_X7_refuse l D cs A S o (1 : Int32) e_21) wM_X7_64 wI_X7_refuse wS_X7_refuse wZ_X7 wC_X7_refuse md_X7_refuse ⟨rfl, rfl, Nat.le_of_ble_eq_true rfl, Nat.le_of_ble_eq_true rfl⟩ rfl hl.1 rfl (Nat.le_of_ble_eq_true rfl) dX7_line_21 ⟨Nat.le_of_ble_eq_true rfl, Nat.le_of_ble_eq_true rfl⟩ (fun H locs hP hS => ?_)
    show W p l e (z_rmA 7 295 8 75) s m args below meth c H locs (0) (0) Q (F0 m 24 ls [.int r_4])
    cases h
    rw [hQ]
    refine W.widen (k := 8) (n := 75) (Nat.le_of_ble_eq_true rfl) (Nat.le_of_ble_eq_true rfl) ?_
    exact g_reti hc hr hlocks hP hS dX7_line_24
  · replace h := z_mt_s h
    refine lv_ifnull hx hb dX7_line_7 ?_
    refine lv_iload_n hx hb dX7_line_10 rfl (lv_at hl 3 rfl) ?_
    refine lv_iconst (v := 0) hx hb dX7_line_11 (by decide) ?_
    refine lv_iconst (v := 2) hx hb dX7_line_12 (by decide) ?_
    obtain ⟨r_5, er_5, h⟩ := z_bd_some h
    refine s_calli (As := [.int a1, .int (0 : Int32), .int (2 : Int32)]) (r := r_5) (n := 3) hc.1 (mt_X7_isWithin l a1 (0 : Int32) (2 : Int32) er_5) wM_X7_101 wT_X7_isWithin wZ_X7 wC_X7_isWithin md_X7_isWithin ⟨rfl, rfl, Nat.le_of_ble_eq_true rfl, Nat.le_of_ble_eq_true rfl⟩ rfl hl.1 rfl (Nat.le_of_ble_eq_true rfl) dX7_line_13 ⟨Nat.le_of_ble_eq_true rfl, Nat.le_of_ble_eq_true rfl⟩ ?_
    refine lv_if_ne (tgt := 25) hx hb dX7_line_16 (by decide) (fun c_16 => ?_) (fun c_16 => ?_)
    · replace h := z_in_ c_16 h
      refine lv_aload_n hx hb dX7_line_25 rfl (lv_at hl 1 rfl) ?_
      obtain ⟨f_6, ef_6, h⟩ := z_bd_some h
      refine g_get (ci := 7) (k := 6) (v := .int f_6) hc hP rfl z_inX7 (by decide) wF_X7_48 (g_i_v ef_6) dX7_line_26 ?_
      refine lv_bipush (v := 10) hx hb dX7_line_29 (by decide) ?_
      refine lv_icmp_lt (tgt := 40) hx hb dX7_line_31 (by decide) (fun c_31 => ?_) (fun c_31 => ?_)
      · replace h := z_ip_ c_31 h
        refine lv_aload_n hx hb dX7_line_40 rfl (lv_at hl 1 rfl) ?_
        refine lv_aload_n hx hb dX7_line_41 rfl (lv_at hl 1 rfl) ?_
        refine lv_iconst (v := 1) hx hb dX7_line_42 (by decide) ?_
        refine lv_iload_n hx hb dX7_line_43 rfl (lv_at hl 3 rfl) ?_
        refine lv_aload_n hx hb dX7_line_44 rfl (lv_at hl 0 rfl) ?_
        obtain ⟨ho_45, h⟩ := z_chk_some h
        obtain ⟨vs_, ho_45⟩ := Option.isSome_iff_exists.mp ho_45
        obtain ⟨q_8, S_7, e_45, h⟩ := z_bd2_some h
        refine g_callV (ci := 7) (As := [.int (1 : Int32), .int a1, .ref a_2]) (rv := (some (va_rf q_8))) (n := 3) hc hP hS rfl ho_45 (mt_X7_levelledFit l D cs A S o (1 : Int32) a1 a_2 e_45) wM_X7_125 wI_X7_levelledFit wS_X7_levelledFit wZ_X7 wC_X7_levelledFit md_X7_levelledFit ⟨rfl, rfl, Nat.le_of_ble_eq_true rfl, Nat.le_of_ble_eq_true rfl⟩ rfl hl.1 rfl (Nat.le_of_ble_eq_true rfl) dX7_line_45 ⟨Nat.le_of_ble_eq_true rfl, Nat.le_of_ble_eq_true rfl⟩ (fun H locs hP hS => ?_)
        show W p l e (z_rmA 7 295 8 75) s m args below meth c H locs (8) (75) Q (F0 m 48 ls [va_rf q_8, .ref o])
        obtain ⟨a_9, ea_9, hu⟩ := z_bd_some h
        clear h
        subst ea_9
        have h := hu
        clear hu
        obtain ⟨ho_48, h⟩ := z_chk_some h
        obtain ⟨vs_, ho_48⟩ := Option.isSome_iff_exists.mp ho_48
        obtain ⟨r_11, S_10, e_48, h⟩ := z_bd2_some h
        refine g_callV (ci := 7) (As := [.ref a_9]) (rv := (some (.int r_11))) (n := 1) hc hP hS rfl ho_48 (mt_X7_keepFit l D cs A S_7 o a_9 e_48) wM_X7_121 wI_X7_keepFit wS_X7_keepFit wZ_X7 wC_X7_keepFit md_X7_keepFit ⟨rfl, rfl, Nat.le_of_ble_eq_true rfl, Nat.le_of_ble_eq_true rfl⟩ rfl hl.1 rfl (Nat.le_of_ble_eq_true rfl) dX7_line_48 ⟨Nat.le_of_ble_eq_true rfl, Nat.le_of_ble_eq_true rfl⟩ (fun H locs hP hS => ?_)
        show W p l e (z_rmA 7 295 8 75) s m args below meth c H locs (8) (75) Q (F0 m 51 ls [.int r_11])
        cases h
        rw [hQ]
        exact g_reti hc hr hlocks hP hS dX7_line_51
      · replace h := z_in_ c_31 h
        refine lv_aload_n hx hb dX7_line_34 rfl (lv_at hl 1 rfl) ?_
        refine lv_iconst (v := 2) hx hb dX7_line_35 (by decide) ?_
        obtain ⟨ho_36, h⟩ := z_chk_some h
        obtain ⟨vs_, ho_36⟩ := Option.isSome_iff_exists.mp ho_36
        obtain ⟨r_13, S_12, e_36, h⟩ := z_bd2_some h
        refine g_callV (ci := 7) (As := [.int (2 : Int32)]) (rv := (some (.int r_13))) (n := 1) hc hP hS rfl ho_36 (mt_X7_refuse l D cs A S o (2 : Int32) e_36) wM_X7_64 wI_X7_refuse wS_X7_refuse wZ_X7 wC_X7_refuse md_X7_refuse ⟨rfl, rfl, Nat.le_of_ble_eq_true rfl, Nat.le_of_ble_eq_true rfl⟩ rfl hl.1 rfl (Nat.le_of_ble_eq_true rfl) dX7_line_36 ⟨Nat.le_of_ble_eq_true rfl, Nat.le_of_ble_eq_true rfl⟩ (fun H locs hP hS => ?_)
        show W p l e (z_rmA 7 295 8 75) s m args below meth c H locs (0) (0) Q (F0 m 39 ls [.int r_13])
        cases h
        rw [hQ]
        refine W.widen (k := 8) (n := 75) (Nat.le_of_ble_eq_true rfl) (Nat.le_of_ble_eq_true rfl) ?_
        exact g_reti hc hr hlocks hP hS dX7_line_39
    · replace h := z_ip_ c_16 h
      refine lv_aload_n hx hb dX7_line_19 rfl (lv_at hl 1 rfl) ?_
      refine lv_iconst (v := 1) hx hb dX7_line_20 (by decide) ?_
      obtain ⟨ho_21, h⟩ := z_chk_some h
      obtain ⟨vs_, ho_21⟩ := Option.isSome_iff_exists.mp ho_21
      obtain ⟨r_15, S_14, e_21, h⟩ := z_bd2_some h
      refine g_callV (ci := 7) (As := [.int (1 : Int32)]) (rv := (some (.int r_15))) (n := 1) hc hP hS rfl ho_21 (mt_X7_refuse l D cs A S o (1 : Int32) e_21) wM_X7_64 wI_X7_refuse wS_X7_refuse wZ_X7 wC_X7_refuse md_X7_refuse ⟨rfl, rfl, Nat.le_of_ble_eq_true rfl, Nat.le_of_ble_eq_true rfl⟩ rfl hl.1 rfl (Nat.le_of_ble_eq_true rfl) dX7_line_21 ⟨Nat.le_of_ble_eq_true rfl, Nat.le_of_ble_eq_true rfl⟩ (fun H locs hP hS => ?_)
      show W p l e (z_rmA 7 295 8 75) s m args below meth c H locs (0) (0) Q (F0 m 24 ls [.int r_15])
      cases h
      rw [hQ]
      refine W.widen (k := 8) (n := 75) (Nat.le_of_ble_eq_true rfl) (Nat.le_of_ble_eq_true rfl) ?_
      exact g_reti hc hr hlocks hP hS dX7_line_24
theorem md_X7_line : yX7_line.cls ≠ "java/lang/invoke/MethodHandle" ∧ yX7_line.cls ≠ "java/lang/invoke/VarHandle" ∧ (parseMethodDescriptor yX7_line.desc).map (fun d => d.parameters.length) = some 2 := by decide +kernel
noncomputable def f_X7_even (S : GS) (o : Nat) (a0 : Int32) : Option ((Int32) × GS) :=
  z_chk (g_is S 7 o) (z_bd (f_X7_setAt S o a0) fun q_1 => z_mt q_1 (z_chk (g_is S 7 o) (z_bd2 (f_X7_refuse S o (1 : Int32)) fun r_4 S_3 => some (r_4, S_3))) fun a_2 => z_bd (g_i S 7 6 o) fun f_5 => if f_5 < (10 : Int32) then z_bd (g_i S 3 3 a_2) fun f_6 => if f_6 ≤ 0 then z_chk (g_is S 7 o) (z_bd2 (f_X7_levelledFit S o (2 : Int32) (2 : Int32) a_2) fun q_8 S_7 => z_bd q_8 fun a_9 => z_chk (g_is S_7 7 o) (z_bd2 (f_X7_keepFit S_7 o a_9) fun r_11 S_10 => some (r_11, S_10))) else z_bd (g_r S 3 0 a_2) fun f_12 => z_bd (g_rI S f_12 (0 : Int32)) fun v_13 => if 0 ≤ v_13 then z_chk (g_is S 7 o) (z_bd2 (f_X7_levelledFit S o (2 : Int32) (2 : Int32) a_2) fun q_15 S_14 => z_bd q_15 fun a_16 => z_chk (g_is S_14 7 o) (z_bd2 (f_X7_keepFit S_14 o a_16) fun r_18 S_17 => some (r_18, S_17))) else z_chk (g_is S 7 o) (z_bd2 (f_X7_refuse S o (3 : Int32)) fun r_20 S_19 => some (r_20, S_19)) else z_chk (g_is S 7 o) (z_bd2 (f_X7_refuse S o (2 : Int32)) fun r_22 S_21 => some (r_22, S_21)))
set_option maxHeartbeats 4000000 in
set_option maxRecDepth 100000 in
theorem mt_X7_even (l : Launch) (D : va_G) (cs : Nat → ClassId) (A : Nat → Prop) (S : GS) (o : Nat) (a0 : Int32) {r_ : Int32} {N_ : GS} (h : f_X7_even S o a0 = some (r_, N_)) : Met l yX7_even (z_wd yX7_even cX7_even 3 (some .int)) (z_rmA 7 295 8 75) (va_Pc [.ref o, .int a0] (g_C D cs A S)) (g_Q (some (.int r_)) N_ D cs A) 8 75 A := by
  refine Met.ofW (cc := cX7_even) (maxL := 3) (ret := (some .int)) (by decide) rfl ?_
  intro p e s m args below meth c s₁ B hml hv
  obtain ⟨hav, hP0, hK, hN, hSt, hAn⟩ := hv
  have hx := B.exec
  have hb := B.bytes
  have hr := B.returns
  have hts := atoms_spec (ws := z_wd yX7_even cX7_even 3 (some .int)) B.pre
  have hown : s.vm.findClass RX7 = some m.cls := findClass_of_methodNamed B.named
  have hlocks := B.notSynchronized
  have hc : g_X p s m args c cX7_even 3 RX7 D cs A := ⟨⟨hx, hb, hml, fun w hw => hts w (List.mem_cons_of_mem _ hw), hown⟩, hK, hN, hSt, hAn⟩
  have hl := lv_entry ([.ref o, .int a0]) (n := 3) (Nat.le_of_ble_eq_true rfl)
  have hE : entryFrame m args 3 = F0 m 0 ((lg_sl ([.ref o, .int a0]) ++ List.replicate (3 - (lg_sl ([.ref o, .int a0])).length) Slot.unset).toArray) [] := by rw [hav]; exact lg_entry_eq m _ _
  rw [hE]
  clear hE hav
  generalize (lg_sl ([.ref o, .int a0]) ++ List.replicate (3 - (lg_sl ([.ref o, .int a0])).length) Slot.unset).toArray = ls at hl ⊢
  have hl : lv_has ls 3 [(0, .ref o), (1, .int a0)] := hl
  obtain ⟨Q, hQ⟩ : ∃ Q, Q = MQ below (g_Q (some (.int r_)) N_ D cs A) args s 8 75 A := ⟨_, rfl⟩
  rw [← hQ]
  suffices hmain : ∀ (H : Heap) (locs : List Loc), g_P D cs A S H → va_S A s.heap H locs → W p l e (z_rmA 7 295 8 75) s m args below meth c H locs 0 0 Q (F0 m 0 ls []) from hmain s.heap [] hP0 va_S.rf
  clear hP0
  intro H locs hP hS
  unfold f_X7_even at h
  refine lv_aload_n hx hb dX7_even_0 rfl (lv_at hl 0 rfl) ?_
  refine lv_iload_n hx hb dX7_even_1 rfl (lv_at hl 1 rfl) ?_
  obtain ⟨ho_2, h⟩ := z_chk_some h
  obtain ⟨vs_, ho_2⟩ := Option.isSome_iff_exists.mp ho_2
  obtain ⟨q_1, e_2, h⟩ := z_bd_some h
  refine g_callV (ci := 7) (As := [.int a0]) (rv := (some (va_rf q_1))) (n := 1) hc hP hS rfl ho_2 (mt_X7_setAt l D cs A S o a0 e_2) wM_X7_56 wI_X7_setAt wS_X7_setAt wZ_X7 wC_X7_setAt md_X7_setAt ⟨rfl, rfl, Nat.le_of_ble_eq_true rfl, Nat.le_of_ble_eq_true rfl⟩ rfl hl.1 rfl (Nat.le_of_ble_eq_true rfl) dX7_even_2 ⟨Nat.le_of_ble_eq_true rfl, Nat.le_of_ble_eq_true rfl⟩ (fun H locs hP hS => ?_)
  show W p l e (z_rmA 7 295 8 75) s m args below meth c H locs (0) (0) Q (F0 m 5 ls [va_rf q_1])
  refine q_astore_n (lv' := [(2, va_rf q_1), (0, .ref o), (1, .int a0)]) hx hb dX7_even_5 rfl hl (by decide) rfl (fun ls hl => ?_)
  refine q_aload_n hx hb dX7_even_6 rfl (lv_at hl 0 rfl) ?_
  rcases q_1 with _ | a_2
  · replace h := z_mt_n h
    refine lv_ifnonnullN hx hb dX7_even_7 ?_
    refine lv_aload_n hx hb dX7_even_10 rfl (lv_at hl 1 rfl) ?_
    refine lv_iconst (v := 1) hx hb dX7_even_11 (by decide) ?_
    obtain ⟨ho_12, h⟩ := z_chk_some h
    obtain ⟨vs_, ho_12⟩ := Option.isSome_iff_exists.mp ho_12
    obtain ⟨r_4, S_3, e_12, h⟩ := z_bd2_some h
    refine g_callV (ci := 7) (As := [.int (1 : Int32)]) (rv := (some (.int r_4))) (n := 1) hc hP hS rfl ho_12 (mt_X7_refuse l D cs A S o (1 : Int32) e_12) wM_X7_64 wI_X7_refuse wS_X7_refuse wZ_X7 wC_X7_refuse md_X7_refuse ⟨rfl, rfl, Nat.le_of_ble_eq_true rfl, Nat.le_of_ble_eq_true rfl⟩ rfl hl.1 rfl (Nat.le_of_ble_eq_true rfl) dX7_even_12 ⟨Nat.le_of_ble_eq_true rfl, Nat.le_of_ble_eq_true rfl⟩ (fun H locs hP hS => ?_)
    show W p l e (z_rmA 7 295 8 75) s m args below meth c H locs (0) (0) Q (F0 m 15 ls [.int r_4])
    cases h
    rw [hQ]
    refine W.widen (k := 8) (n := 75) (Nat.le_of_ble_eq_true rfl) (Nat.le_of_ble_eq_true rfl) ?_
    exact g_reti hc hr hlocks hP hS dX7_even_15
  · replace h := z_mt_s h
    refine lv_ifnonnull (tgt := 16) hx hb dX7_even_7 (by decide) ?_
    refine lv_aload_n hx hb dX7_even_16 rfl (lv_at hl 1 rfl) ?_
    obtain ⟨f_5, ef_5, h⟩ := z_bd_some h
    refine g_get (ci := 7) (k := 6) (v := .int f_5) hc hP rfl z_inX7 (by decide) wF_X7_48 (g_i_v ef_5) dX7_even_17 ?_
    refine lv_bipush (v := 10) hx hb dX7_even_20 (by decide) ?_
    refine lv_icmp_lt (tgt := 31) hx hb dX7_even_22 (by decide) (fun c_22 => ?_) (fun c_22 => ?_)
    · replace h := z_ip_ c_22 h
      refine lv_aload_n hx hb dX7_even_31 rfl (lv_at hl 0 rfl) ?_
      obtain ⟨f_6, ef_6, h⟩ := z_bd_some h
      refine g_getN (ci := 3) (k := 3) (v := .int f_6) hc hP rfl z_inX3 (by decide) wG_X7_129 (g_i_v ef_6) dX7_even_32 ?_
      refine lv_if_le (tgt := 53) hx hb dX7_even_35 (by decide) (fun c_35 => ?_) (fun c_35 => ?_)
      · replace h := z_ip_ c_35 h
        refine lv_aload_n hx hb dX7_even_53 rfl (lv_at hl 1 rfl) ?_
        refine lv_aload_n hx hb dX7_even_54 rfl (lv_at hl 1 rfl) ?_
        refine lv_iconst (v := 2) hx hb dX7_even_55 (by decide) ?_
        refine lv_iconst (v := 2) hx hb dX7_even_56 (by decide) ?_
        refine lv_aload_n hx hb dX7_even_57 rfl (lv_at hl 0 rfl) ?_
        obtain ⟨ho_58, h⟩ := z_chk_some h
        obtain ⟨vs_, ho_58⟩ := Option.isSome_iff_exists.mp ho_58
        obtain ⟨q_8, S_7, e_58, h⟩ := z_bd2_some h
        refine g_callV (ci := 7) (As := [.int (2 : Int32), .int (2 : Int32), .ref a_2]) (rv := (some (va_rf q_8))) (n := 3) hc hP hS rfl ho_58 (mt_X7_levelledFit l D cs A S o (2 : Int32) (2 : Int32) a_2 e_58) wM_X7_125 wI_X7_levelledFit wS_X7_levelledFit wZ_X7 wC_X7_levelledFit md_X7_levelledFit ⟨rfl, rfl, Nat.le_of_ble_eq_true rfl, Nat.le_of_ble_eq_true rfl⟩ rfl hl.1 rfl (Nat.le_of_ble_eq_true rfl) dX7_even_58 ⟨Nat.le_of_ble_eq_true rfl, Nat.le_of_ble_eq_true rfl⟩ (fun H locs hP hS => ?_)
        show W p l e (z_rmA 7 295 8 75) s m args below meth c H locs (8) (75) Q (F0 m 61 ls [va_rf q_8, .ref o])
        obtain ⟨a_9, ea_9, hu⟩ := z_bd_some h
        clear h
        subst ea_9
        have h := hu
        clear hu
        obtain ⟨ho_61, h⟩ := z_chk_some h
        obtain ⟨vs_, ho_61⟩ := Option.isSome_iff_exists.mp ho_61
        obtain ⟨r_11, S_10, e_61, h⟩ := z_bd2_some h
        refine g_callV (ci := 7) (As := [.ref a_9]) (rv := (some (.int r_11))) (n := 1) hc hP hS rfl ho_61 (mt_X7_keepFit l D cs A S_7 o a_9 e_61) wM_X7_121 wI_X7_keepFit wS_X7_keepFit wZ_X7 wC_X7_keepFit md_X7_keepFit ⟨rfl, rfl, Nat.le_of_ble_eq_true rfl, Nat.le_of_ble_eq_true rfl⟩ rfl hl.1 rfl (Nat.le_of_ble_eq_true rfl) dX7_even_61 ⟨Nat.le_of_ble_eq_true rfl, Nat.le_of_ble_eq_true rfl⟩ (fun H locs hP hS => ?_)
        show W p l e (z_rmA 7 295 8 75) s m args below meth c H locs (8) (75) Q (F0 m 64 ls [.int r_11])
        cases h
        rw [hQ]
        exact g_reti hc hr hlocks hP hS dX7_even_64
      · replace h := z_in_ c_35 h
        refine lv_aload_n hx hb dX7_even_38 rfl (lv_at hl 0 rfl) ?_
        obtain ⟨f_12, ef_12, h⟩ := z_bd_some h
        refine g_getN (ci := 3) (k := 0) (v := .ref f_12) hc hP rfl z_inX3 (by decide) wG_X7_91 (g_r_v ef_12) dX7_even_39 ?_
        refine lv_iconst (v := 0) hx hb dX7_even_42 (by decide) ?_
        obtain ⟨v_13, ev_13, h⟩ := z_bd_some h
        refine g_iald hc hP ev_13 dX7_even_43 ?_
        refine lv_if_ge (tgt := 53) hx hb dX7_even_44 (by decide) (fun c_44 => ?_) (fun c_44 => ?_)
        · replace h := z_ip_ c_44 h
          refine lv_aload_n hx hb dX7_even_53 rfl (lv_at hl 1 rfl) ?_
          refine lv_aload_n hx hb dX7_even_54 rfl (lv_at hl 1 rfl) ?_
          refine lv_iconst (v := 2) hx hb dX7_even_55 (by decide) ?_
          refine lv_iconst (v := 2) hx hb dX7_even_56 (by decide) ?_
          refine lv_aload_n hx hb dX7_even_57 rfl (lv_at hl 0 rfl) ?_
          obtain ⟨ho_58, h⟩ := z_chk_some h
          obtain ⟨vs_, ho_58⟩ := Option.isSome_iff_exists.mp ho_58
          obtain ⟨q_15, S_14, e_58, h⟩ := z_bd2_some h
          refine g_callV (ci := 7) (As := [.int (2 : Int32), .int (2 : Int32), .ref a_2]) (rv := (some (va_rf q_15))) (n := 3) hc hP hS rfl ho_58 (mt_X7_levelledFit l D cs A S o (2 : Int32) (2 : Int32) a_2 e_58) wM_X7_125 wI_X7_levelledFit wS_X7_levelledFit wZ_X7 wC_X7_levelledFit md_X7_levelledFit ⟨rfl, rfl, Nat.le_of_ble_eq_true rfl, Nat.le_of_ble_eq_true rfl⟩ rfl hl.1 rfl (Nat.le_of_ble_eq_true rfl) dX7_even_58 ⟨Nat.le_of_ble_eq_true rfl, Nat.le_of_ble_eq_true rfl⟩ (fun H locs hP hS => ?_)
          show W p l e (z_rmA 7 295 8 75) s m args below meth c H locs (8) (75) Q (F0 m 61 ls [va_rf q_15, .ref o])
          obtain ⟨a_16, ea_16, hu⟩ := z_bd_some h
          clear h
          subst ea_16
          have h := hu
          clear hu
          obtain ⟨ho_61, h⟩ := z_chk_some h
          obtain ⟨vs_, ho_61⟩ := Option.isSome_iff_exists.mp ho_61
          obtain ⟨r_18, S_17, e_61, h⟩ := z_bd2_some h
          refine g_callV (ci := 7) (As := [.ref a_16]) (rv := (some (.int r_18))) (n := 1) hc hP hS rfl ho_61 (mt_X7_keepFit l D cs A S_14 o a_16 e_61) wM_X7_121 wI_X7_keepFit wS_X7_keepFit wZ_X7 wC_X7_keepFit md_X7_keepFit ⟨rfl, rfl, Nat.le_of_ble_eq_true rfl, Nat.le_of_ble_eq_true rfl⟩ rfl hl.1 rfl (Nat.le_of_ble_eq_true rfl) dX7_even_61 ⟨Nat.le_of_ble_eq_true rfl, Nat.le_of_ble_eq_true rfl⟩ (fun H locs hP hS => ?_)
          show W p l e (z_rmA 7 295 8 75) s m args below meth c H locs (8) (75) Q (F0 m 64 ls [.int r_18])
          cases h
          rw [hQ]
          exact g_reti hc hr hlocks hP hS dX7_even_64
        · replace h := z_in_ c_44 h
          refine lv_aload_n hx hb dX7_even_47 rfl (lv_at hl 1 rfl) ?_
          refine lv_iconst (v := 3) hx hb dX7_even_48 (by decide) ?_
          obtain ⟨ho_49, h⟩ := z_chk_some h
          obtain ⟨vs_, ho_49⟩ := Option.isSome_iff_exists.mp ho_49
          obtain ⟨r_20, S_19, e_49, h⟩ := z_bd2_some h
          refine g_callV (ci := 7) (As := [.int (3 : Int32)]) (rv := (some (.int r_20))) (n := 1) hc hP hS rfl ho_49 (mt_X7_refuse l D cs A S o (3 : Int32) e_49) wM_X7_64 wI_X7_refuse wS_X7_refuse wZ_X7 wC_X7_refuse md_X7_refuse ⟨rfl, rfl, Nat.le_of_ble_eq_true rfl, Nat.le_of_ble_eq_true rfl⟩ rfl hl.1 rfl (Nat.le_of_ble_eq_true rfl) dX7_even_49 ⟨Nat.le_of_ble_eq_true rfl, Nat.le_of_ble_eq_true rfl⟩ (fun H locs hP hS => ?_)
          show W p l e (z_rmA 7 295 8 75) s m args below meth c H locs (0) (0) Q (F0 m 52 ls [.int r_20])
          cases h
          rw [hQ]
          refine W.widen (k := 8) (n := 75) (Nat.le_of_ble_eq_true rfl) (Nat.le_of_ble_eq_true rfl) ?_
          exact g_reti hc hr hlocks hP hS dX7_even_52
    · replace h := z_in_ c_22 h
      refine lv_aload_n hx hb dX7_even_25 rfl (lv_at hl 1 rfl) ?_
      refine lv_iconst (v := 2) hx hb dX7_even_26 (by decide) ?_
      obtain ⟨ho_27, h⟩ := z_chk_some h
      obtain ⟨vs_, ho_27⟩ := Option.isSome_iff_exists.mp ho_27
      obtain ⟨r_22, S_21, e_27, h⟩ := z_bd2_some h
      refine g_callV (ci := 7) (As := [.int (2 : Int32)]) (rv := (some (.int r_22))) (n := 1) hc hP hS rfl ho_27 (mt_X7_refuse l D cs A S o (2 : Int32) e_27) wM_X7_64 wI_X7_refuse wS_X7_refuse wZ_X7 wC_X7_refuse md_X7_refuse ⟨rfl, rfl, Nat.le_of_ble_eq_true rfl, Nat.le_of_ble_eq_true rfl⟩ rfl hl.1 rfl (Nat.le_of_ble_eq_true rfl) dX7_even_27 ⟨Nat.le_of_ble_eq_true rfl, Nat.le_of_ble_eq_true rfl⟩ (fun H locs hP hS => ?_)
      show W p l e (z_rmA 7 295 8 75) s m args below meth c H locs (0) (0) Q (F0 m 30 ls [.int r_22])
      cases h
      rw [hQ]
      refine W.widen (k := 8) (n := 75) (Nat.le_of_ble_eq_true rfl) (Nat.le_of_ble_eq_true rfl) ?_
      exact g_reti hc hr hlocks hP hS dX7_even_30
theorem md_X7_even : yX7_even.cls ≠ "java/lang/invoke/MethodHandle" ∧ yX7_even.cls ≠ "java/lang/invoke/VarHandle" ∧ (parseMethodDescriptor yX7_even.desc).map (fun d => d.parameters.length) = some 1 := by decide +kernel
noncomputable def f_X7_shorts (S : GS) (o : Nat) (a0 : Int32) (a1 : Int32) (a2 : Int32) : Option ((Int32) × GS) :=
  z_chk (g_is S 7 o) (z_bd (f_X7_setAt S o a0) fun q_1 => z_mt q_1 (z_chk (g_is S 7 o) (z_bd2 (f_X7_refuse S o (1 : Int32)) fun r_4 S_3 => some (r_4, S_3))) fun a_2 => z_bd (f_X7_isWithin a1 (0 : Int32) (1 : Int32)) fun r_5 => if r_5 = 0 then z_chk (g_is S 7 o) (z_bd2 (f_X7_refuse S o (1 : Int32)) fun r_7 S_6 => some (r_7, S_6)) else z_bd (f_X7_isWithin a2 (0 : Int32) (2 : Int32)) fun r_8 => if r_8 = 0 then z_chk (g_is S 7 o) (z_bd2 (f_X7_refuse S o (1 : Int32)) fun r_31 S_30 => some (r_31, S_30)) else z_bd (g_i S 7 6 o) fun f_9 => if f_9 < (10 : Int32) then z_lt (g_nw S (.inr (.inr (.inr (1, [.int 0, .int 0, .int 0, .null, .null, .null, .int 0]))))) fun S_10 => z_bd (g_i S_10 7 6 o) fun f_11 => z_chk (g_is S_10 3 a_2) (z_bd2 (f_X3_copy S_10 a_2 ) fun q_13 S_12 => z_bd q_13 fun a_14 => z_bd (f_X1_init S_12 S.2 f_11 (3 : Int32) a1 a_14) fun S_15 => z_bd (g_r S_15 7 4 o) fun f_16 => z_bd (g_r S_15 1 3 S.2) fun f_17 => z_chk (g_is S_15 6 f_16) (z_bd (f_X6_search S_15 f_16 f_17 a1 a2) fun S_18 => z_chk (g_is S_18 1 S.2) (z_bd (f_X1_firstPart S_18 S.2 ) fun q_19 => z_bd (g_r S_18 7 4 o) fun f_20 => z_bd (g_i S_18 6 1 f_20) fun f_21 => z_bd (g_r S_18 7 4 o) fun f_22 => z_bd (g_i S_18 6 2 f_22) fun f_23 => z_bd q_19 fun a_24 => z_chk (g_is S_18 4 a_24) (z_bd (f_X4_become S_18 a_24 f_21.toInt64 f_23.toInt64 (0 : Int64) ((1 : Int64) <<< (a2.toInt64 &&& 63))) fun S_25 => z_chk (g_is S_25 7 o) (z_bd2 (f_X7_keepFit S_25 o S.2) fun r_27 S_26 => some (r_27, S_26)))))) else z_chk (g_is S 7 o) (z_bd2 (f_X7_refuse S o (2 : Int32)) fun r_29 S_28 => some (r_29, S_28)))
set_option maxHeartbeats 4000000 in
set_option maxRecDepth 100000 in
theorem mt_X7_shorts (l : Launch) (D : va_G) (cs : Nat → ClassId) (A : Nat → Prop) (S : GS) (o : Nat) (a0 : Int32) (a1 : Int32) (a2 : Int32) {r_ : Int32} {N_ : GS} (h : f_X7_shorts S o a0 a1 a2 = some (r_, N_)) : Met l yX7_shorts (z_wd yX7_shorts cX7_shorts 6 (some .int)) (z_rmA 4 164 8 75) (va_Pc [.ref o, .int a0, .int a1, .int a2] (g_C D cs A S)) (g_Q (some (.int r_)) N_ D cs A) 8 75 A := by
  refine Met.ofW (cc := cX7_shorts) (maxL := 6) (ret := (some .int)) (by decide) rfl ?_
  intro p e s m args below meth c s₁ B hml hv
  obtain ⟨hav, hP0, hK, hN, hSt, hAn⟩ := hv
  have hx := B.exec
  have hb := B.bytes
  have hr := B.returns
  have hts := atoms_spec (ws := z_wd yX7_shorts cX7_shorts 6 (some .int)) B.pre
  have hown : s.vm.findClass RX7 = some m.cls := findClass_of_methodNamed B.named
  have hlocks := B.notSynchronized
  have hc : g_X p s m args c cX7_shorts 6 RX7 D cs A := ⟨⟨hx, hb, hml, fun w hw => hts w (List.mem_cons_of_mem _ hw), hown⟩, hK, hN, hSt, hAn⟩
  have hl := lv_entry ([.ref o, .int a0, .int a1, .int a2]) (n := 6) (Nat.le_of_ble_eq_true rfl)
  have hE : entryFrame m args 6 = F0 m 0 ((lg_sl ([.ref o, .int a0, .int a1, .int a2]) ++ List.replicate (6 - (lg_sl ([.ref o, .int a0, .int a1, .int a2])).length) Slot.unset).toArray) [] := by rw [hav]; exact lg_entry_eq m _ _
  rw [hE]
  clear hE hav
  generalize (lg_sl ([.ref o, .int a0, .int a1, .int a2]) ++ List.replicate (6 - (lg_sl ([.ref o, .int a0, .int a1, .int a2])).length) Slot.unset).toArray = ls at hl ⊢
  have hl : lv_has ls 6 [(0, .ref o), (1, .int a0), (2, .int a1), (3, .int a2)] := hl
  obtain ⟨Q, hQ⟩ : ∃ Q, Q = MQ below (g_Q (some (.int r_)) N_ D cs A) args s 8 75 A := ⟨_, rfl⟩
  rw [← hQ]
  suffices hmain : ∀ (H : Heap) (locs : List Loc), g_P D cs A S H → va_S A s.heap H locs → W p l e (z_rmA 4 164 8 75) s m args below meth c H locs 0 0 Q (F0 m 0 ls []) from hmain s.heap [] hP0 va_S.rf
  clear hP0
  intro H locs hP hS
  unfold f_X7_shorts at h
  refine lv_aload_n hx hb dX7_shorts_0 rfl (lv_at hl 0 rfl) ?_
  refine lv_iload_n hx hb dX7_shorts_1 rfl (lv_at hl 1 rfl) ?_
  obtain ⟨ho_2, h⟩ := z_chk_some h
  obtain ⟨vs_, ho_2⟩ := Option.isSome_iff_exists.mp ho_2
  obtain ⟨q_1, e_2, h⟩ := z_bd_some h
  refine g_callV (ci := 7) (As := [.int a0]) (rv := (some (va_rf q_1))) (n := 1) hc hP hS rfl ho_2 (mt_X7_setAt l D cs A S o a0 e_2) wM_X7_56 wI_X7_setAt wS_X7_setAt wZ_X7 wC_X7_setAt md_X7_setAt ⟨rfl, rfl, Nat.le_of_ble_eq_true rfl, Nat.le_of_ble_eq_true rfl⟩ rfl hl.1 rfl (Nat.le_of_ble_eq_true rfl) dX7_shorts_2 ⟨Nat.le_of_ble_eq_true rfl, Nat.le_of_ble_eq_true rfl⟩ (fun H locs hP hS => ?_)
  show W p l e (z_rmA 4 164 8 75) s m args below meth c H locs (0) (0) Q (F0 m 5 ls [va_rf q_1])
  refine q_astore (lv' := [(4, va_rf q_1), (0, .ref o), (1, .int a0), (2, .int a1), (3, .int a2)]) hx hb dX7_shorts_5 hl (by decide) rfl (fun ls hl => ?_)
  refine q_aload hx hb dX7_shorts_7 (lv_at hl 0 rfl) ?_
  rcases q_1 with _ | a_2
  · replace h := z_mt_n h
    refine lv_ifnullN (tgt := 30) hx hb dX7_shorts_9 (by decide) ?_
    refine lv_aload_n hx hb dX7_shorts_30 rfl (lv_at hl 1 rfl) ?_
    refine lv_iconst (v := 1) hx hb dX7_shorts_31 (by decide) ?_
    obtain ⟨ho_32, h⟩ := z_chk_some h
    obtain ⟨vs_, ho_32⟩ := Option.isSome_iff_exists.mp ho_32
    obtain ⟨r_4, S_3, e_32, h⟩ := z_bd2_some h
    refine g_callV (ci := 7) (As := [.int (1 : Int32)]) (rv := (some (.int r_4))) (n := 1) hc hP hS rfl ho_32 (mt_X7_refuse l D cs A S o (1 : Int32) e_32) wM_X7_64 wI_X7_refuse wS_X7_refuse wZ_X7 wC_X7_refuse md_X7_refuse ⟨rfl, rfl, Nat.le_of_ble_eq_true rfl, Nat.le_of_ble_eq_true rfl⟩ rfl hl.1 rfl (Nat.le_of_ble_eq_true rfl) dX7_shorts_32 ⟨Nat.le_of_ble_eq_true rfl, Nat.le_of_ble_eq_true rfl⟩ (fun H locs hP hS => ?_)
    show W p l e (z_rmA 4 164 8 75) s m args below meth c H locs (0) (0) Q (F0 m 35 ls [.int r_4])
    cases h
    rw [hQ]
    refine W.widen (k := 8) (n := 75) (Nat.le_of_ble_eq_true rfl) (Nat.le_of_ble_eq_true rfl) ?_
    exact g_reti hc hr hlocks hP hS dX7_shorts_35
  · replace h := z_mt_s h
    refine lv_ifnull hx hb dX7_shorts_9 ?_
    refine lv_iload_n hx hb dX7_shorts_12 rfl (lv_at hl 3 rfl) ?_
    refine lv_iconst (v := 0) hx hb dX7_shorts_13 (by decide) ?_
    refine lv_iconst (v := 1) hx hb dX7_shorts_14 (by decide) ?_
    obtain ⟨r_5, er_5, h⟩ := z_bd_some h
    refine s_calli (As := [.int a1, .int (0 : Int32), .int (1 : Int32)]) (r := r_5) (n := 3) hc.1 (mt_X7_isWithin l a1 (0 : Int32) (1 : Int32) er_5) wM_X7_101 wT_X7_isWithin wZ_X7 wC_X7_isWithin md_X7_isWithin ⟨rfl, rfl, Nat.le_of_ble_eq_true rfl, Nat.le_of_ble_eq_true rfl⟩ rfl hl.1 rfl (Nat.le_of_ble_eq_true rfl) dX7_shorts_15 ⟨Nat.le_of_ble_eq_true rfl, Nat.le_of_ble_eq_true rfl⟩ ?_
    refine lv_if_eq (tgt := 30) hx hb dX7_shorts_18 (by decide) (fun c_18 => ?_) (fun c_18 => ?_)
    · replace h := z_ip_ c_18 h
      refine lv_aload_n hx hb dX7_shorts_30 rfl (lv_at hl 1 rfl) ?_
      refine lv_iconst (v := 1) hx hb dX7_shorts_31 (by decide) ?_
      obtain ⟨ho_32, h⟩ := z_chk_some h
      obtain ⟨vs_, ho_32⟩ := Option.isSome_iff_exists.mp ho_32
      obtain ⟨r_7, S_6, e_32, h⟩ := z_bd2_some h
      refine g_callV (ci := 7) (As := [.int (1 : Int32)]) (rv := (some (.int r_7))) (n := 1) hc hP hS rfl ho_32 (mt_X7_refuse l D cs A S o (1 : Int32) e_32) wM_X7_64 wI_X7_refuse wS_X7_refuse wZ_X7 wC_X7_refuse md_X7_refuse ⟨rfl, rfl, Nat.le_of_ble_eq_true rfl, Nat.le_of_ble_eq_true rfl⟩ rfl hl.1 rfl (Nat.le_of_ble_eq_true rfl) dX7_shorts_32 ⟨Nat.le_of_ble_eq_true rfl, Nat.le_of_ble_eq_true rfl⟩ (fun H locs hP hS => ?_)
      show W p l e (z_rmA 4 164 8 75) s m args below meth c H locs (0) (0) Q (F0 m 35 ls [.int r_7])
      cases h
      rw [hQ]
      refine W.widen (k := 8) (n := 75) (Nat.le_of_ble_eq_true rfl) (Nat.le_of_ble_eq_true rfl) ?_
      exact g_reti hc hr hlocks hP hS dX7_shorts_35
    · replace h := z_in_ c_18 h
      refine lv_iload_n hx hb dX7_shorts_21 rfl (lv_at hl 4 rfl) ?_
      refine lv_iconst (v := 0) hx hb dX7_shorts_22 (by decide) ?_
      refine lv_iconst (v := 2) hx hb dX7_shorts_23 (by decide) ?_
      obtain ⟨r_8, er_8, h⟩ := z_bd_some h
      refine s_calli (As := [.int a2, .int (0 : Int32), .int (2 : Int32)]) (r := r_8) (n := 3) hc.1 (mt_X7_isWithin l a2 (0 : Int32) (2 : Int32) er_8) wM_X7_101 wT_X7_isWithin wZ_X7 wC_X7_isWithin md_X7_isWithin ⟨rfl, rfl, Nat.le_of_ble_eq_true rfl, Nat.le_of_ble_eq_true rfl⟩ rfl hl.1 rfl (Nat.le_of_ble_eq_true rfl) dX7_shorts_24 ⟨Nat.le_of_ble_eq_true rfl, Nat.le_of_ble_eq_true rfl⟩ ?_
      refine lv_if_ne (tgt := 36) hx hb dX7_shorts_27 (by decide) (fun c_27 => ?_) (fun c_27 => ?_)
      · replace h := z_in_ c_27 h
        refine lv_aload_n hx hb dX7_shorts_36 rfl (lv_at hl 1 rfl) ?_
        obtain ⟨f_9, ef_9, h⟩ := z_bd_some h
        refine g_get (ci := 7) (k := 6) (v := .int f_9) hc hP rfl z_inX7 (by decide) wF_X7_48 (g_i_v ef_9) dX7_shorts_37 ?_
        refine lv_bipush (v := 10) hx hb dX7_shorts_40 (by decide) ?_
        refine lv_icmp_lt (tgt := 51) hx hb dX7_shorts_42 (by decide) (fun c_42 => ?_) (fun c_42 => ?_)
        · replace h := z_ip_ c_42 h
          obtain ⟨S_10, eS_10, h⟩ := z_lt_some h
          refine g_new (ci := 1) tyX1 hc hP hS rfl z_inX1 tyX1_ok wK_X7_15 wN_X1 wZ_X1 gd_1 (Nat.le_of_ble_eq_true rfl) (Nat.le_of_ble_eq_true rfl) eS_10 dX7_shorts_51 (fun H hP hS => ?_)
          show W p l e (z_rmA 4 164 8 75) s m args below meth c H locs (1) (7) Q (F0 m 54 ls [.ref S.2])
          refine lv_dup hx hb dX7_shorts_54 rfl ?_
          refine lv_aload_n hx hb dX7_shorts_55 rfl (lv_at hl 1 rfl) ?_
          obtain ⟨f_11, ef_11, h⟩ := z_bd_some h
          refine g_get (ci := 7) (k := 6) (v := .int f_11) hc hP rfl z_inX7 (by decide) wF_X7_48 (g_i_v ef_11) dX7_shorts_56 ?_
          refine lv_iconst (v := 3) hx hb dX7_shorts_59 (by decide) ?_
          refine lv_iload_n hx hb dX7_shorts_60 rfl (lv_at hl 3 rfl) ?_
          refine lv_aload hx hb dX7_shorts_61 (lv_at hl 0 rfl) ?_
          obtain ⟨ho_63, h⟩ := z_chk_some h
          obtain ⟨vs_, ho_63⟩ := Option.isSome_iff_exists.mp ho_63
          obtain ⟨q_13, S_12, e_63, h⟩ := z_bd2_some h
          refine g_callV (ci := 3) (As := []) (rv := (some (va_rf q_13))) (n := 0) hc hP hS rfl ho_63 (mt_X3_copy l D cs A S_10 a_2  e_63) wM_X7_104 wI_X3_copy wS_X3_copy wZ_X3 wC_X3_copy md_X3_copy ⟨rfl, rfl, Nat.le_of_ble_eq_true rfl, Nat.le_of_ble_eq_true rfl⟩ rfl hl.1 rfl (Nat.le_of_ble_eq_true rfl) dX7_shorts_63 ⟨Nat.le_of_ble_eq_true rfl, Nat.le_of_ble_eq_true rfl⟩ (fun H locs hP hS => ?_)
          show W p l e (z_rmA 4 164 8 75) s m args below meth c H locs (5) (47) Q (F0 m 66 ls [va_rf q_13, .int a1, .int (3 : Int32), .int f_11, .ref S.2, .ref S.2])
          obtain ⟨a_14, ea_14, hu⟩ := z_bd_some h
          clear h
          subst ea_14
          have h := hu
          clear hu
          obtain ⟨S_15, e_66, h⟩ := z_bd_some h
          refine g_callI (As := [.int f_11, .int (3 : Int32), .int a1, .ref a_14]) (rv := none) (n := 4) hc hP hS (mt_X1_init l D cs A S_12 S.2 f_11 (3 : Int32) a1 a_14 e_66) wM_X7_108 wI_X1_init rfl wZ_X1 wC_X1_init md_X1_init ⟨rfl, rfl, Nat.le_of_ble_eq_true rfl, Nat.le_of_ble_eq_true rfl⟩ rfl hl.1 rfl (Nat.le_of_ble_eq_true rfl) dX7_shorts_66 ⟨Nat.le_of_ble_eq_true rfl, Nat.le_of_ble_eq_true rfl⟩ (fun H locs hP hS => ?_)
          show W p l e (z_rmA 4 164 8 75) s m args below meth c H locs (8) (75) Q (F0 m 69 ls [.ref S.2])
          refine lv_astore (lv' := [(5, .ref S.2), (4, .ref a_2), (0, .ref o), (1, .int a0), (2, .int a1), (3, .int a2)]) hx hb dX7_shorts_69 hl (by decide) rfl (fun ls hl => ?_)
          refine lv_aload_n hx hb dX7_shorts_71 rfl (lv_at hl 2 rfl) ?_
          obtain ⟨f_16, ef_16, h⟩ := z_bd_some h
          refine g_get (ci := 7) (k := 4) (v := .ref f_16) hc hP rfl z_inX7 (by decide) wF_X7_37 (g_r_v ef_16) dX7_shorts_72 ?_
          refine lv_aload hx hb dX7_shorts_75 (lv_at hl 0 rfl) ?_
          obtain ⟨f_17, ef_17, h⟩ := z_bd_some h
          refine g_getN (ci := 1) (k := 3) (v := .ref f_17) hc hP rfl z_inX1 (by decide) wG_X7_132 (g_r_v ef_17) dX7_shorts_77 ?_
          refine lv_iload_n hx hb dX7_shorts_80 rfl (lv_at hl 4 rfl) ?_
          refine lv_iload_n hx hb dX7_shorts_81 rfl (lv_at hl 5 rfl) ?_
          obtain ⟨ho_82, h⟩ := z_chk_some h
          obtain ⟨vs_, ho_82⟩ := Option.isSome_iff_exists.mp ho_82
          obtain ⟨S_18, e_82, h⟩ := z_bd_some h
          refine g_callV (ci := 6) (As := [.ref f_17, .int a1, .int a2]) (rv := none) (n := 3) hc hP hS rfl ho_82 (mt_X6_search l D cs A S_15 f_16 f_17 a1 a2 e_82) wM_X7_136 wI_X6_search wS_X6_search wZ_X6 wC_X6_search md_X6_search ⟨rfl, rfl, Nat.le_of_ble_eq_true rfl, Nat.le_of_ble_eq_true rfl⟩ rfl hl.1 rfl (Nat.le_of_ble_eq_true rfl) dX7_shorts_82 ⟨Nat.le_of_ble_eq_true rfl, Nat.le_of_ble_eq_true rfl⟩ (fun H locs hP hS => ?_)
          show W p l e (z_rmA 4 164 8 75) s m args below meth c H locs (8) (75) Q (F0 m 85 ls [])
          refine lv_aload hx hb dX7_shorts_85 (lv_at hl 0 rfl) ?_
          obtain ⟨ho_87, h⟩ := z_chk_some h
          obtain ⟨vs_, ho_87⟩ := Option.isSome_iff_exists.mp ho_87
          obtain ⟨q_19, e_87, h⟩ := z_bd_some h
          refine g_callV (ci := 1) (As := []) (rv := (some (va_rf q_19))) (n := 0) hc hP hS rfl ho_87 (mt_X1_firstPart l D cs A S_18 S.2  e_87) wM_X7_111 wI_X1_firstPart wS_X1_firstPart wZ_X1 wC_X1_firstPart md_X1_firstPart ⟨rfl, rfl, Nat.le_of_ble_eq_true rfl, Nat.le_of_ble_eq_true rfl⟩ rfl hl.1 rfl (Nat.le_of_ble_eq_true rfl) dX7_shorts_87 ⟨Nat.le_of_ble_eq_true rfl, Nat.le_of_ble_eq_true rfl⟩ (fun H locs hP hS => ?_)
          show W p l e (z_rmA 4 164 8 75) s m args below meth c H locs (8) (75) Q (F0 m 90 ls [va_rf q_19])
          refine lv_aload_n hx hb dX7_shorts_90 rfl (lv_at hl 2 rfl) ?_
          obtain ⟨f_20, ef_20, h⟩ := z_bd_some h
          refine g_get (ci := 7) (k := 4) (v := .ref f_20) hc hP rfl z_inX7 (by decide) wF_X7_37 (g_r_v ef_20) dX7_shorts_91 ?_
          obtain ⟨f_21, ef_21, h⟩ := z_bd_some h
          refine g_getN (ci := 6) (k := 1) (v := .int f_21) hc hP rfl z_inX6 (by decide) wG_X7_140 (g_i_v ef_21) dX7_shorts_94 ?_
          refine lv_i2l (v := f_21.toInt64) hx hb dX7_shorts_97 rfl ?_
          refine lv_aload_n hx hb dX7_shorts_98 rfl (lv_at hl 2 rfl) ?_
          obtain ⟨f_22, ef_22, h⟩ := z_bd_some h
          refine g_get (ci := 7) (k := 4) (v := .ref f_22) hc hP rfl z_inX7 (by decide) wF_X7_37 (g_r_v ef_22) dX7_shorts_99 ?_
          obtain ⟨f_23, ef_23, h⟩ := z_bd_some h
          refine g_getN (ci := 6) (k := 2) (v := .int f_23) hc hP rfl z_inX6 (by decide) wG_X7_143 (g_i_v ef_23) dX7_shorts_102 ?_
          refine lv_i2l (v := f_23.toInt64) hx hb dX7_shorts_105 rfl ?_
          refine lv_lconst (v := 0) hx hb dX7_shorts_106 (by decide) ?_
          refine lv_lconst (v := 1) hx hb dX7_shorts_107 (by decide) ?_
          refine lv_iload_n hx hb dX7_shorts_108 rfl (lv_at hl 5 rfl) ?_
          refine lv_lshl (v := ((1 : Int64) <<< (a2.toInt64 &&& 63))) hx hb dX7_shorts_109 rfl ?_
          obtain ⟨a_24, ea_24, hu⟩ := z_bd_some h
          clear h
          subst ea_24
          have h := hu
          clear hu
          obtain ⟨ho_110, h⟩ := z_chk_some h
          obtain ⟨vs_, ho_110⟩ := Option.isSome_iff_exists.mp ho_110
          obtain ⟨S_25, e_110, h⟩ := z_bd_some h
          refine g_callV (ci := 4) (As := [.long f_21.toInt64, .long f_23.toInt64, .long (0 : Int64), .long ((1 : Int64) <<< (a2.toInt64 &&& 63))]) (rv := none) (n := 4) hc hP hS rfl ho_110 (mt_X4_become l D cs A S_18 a_24 f_21.toInt64 f_23.toInt64 (0 : Int64) ((1 : Int64) <<< (a2.toInt64 &&& 63)) e_110) wM_X7_115 wI_X4_become wS_X4_become wZ_X4 wC_X4_become md_X4_become ⟨rfl, rfl, Nat.le_of_ble_eq_true rfl, Nat.le_of_ble_eq_true rfl⟩ rfl hl.1 rfl (Nat.le_of_ble_eq_true rfl) dX7_shorts_110 ⟨Nat.le_of_ble_eq_true rfl, Nat.le_of_ble_eq_true rfl⟩ (fun H locs hP hS => ?_)
          show W p l e (z_rmA 4 164 8 75) s m args below meth c H locs (8) (75) Q (F0 m 113 ls [])
          refine lv_aload_n hx hb dX7_shorts_113 rfl (lv_at hl 2 rfl) ?_
          refine lv_aload hx hb dX7_shorts_114 (lv_at hl 0 rfl) ?_
          obtain ⟨ho_116, h⟩ := z_chk_some h
          obtain ⟨vs_, ho_116⟩ := Option.isSome_iff_exists.mp ho_116
          obtain ⟨r_27, S_26, e_116, h⟩ := z_bd2_some h
          refine g_callV (ci := 7) (As := [.ref S.2]) (rv := (some (.int r_27))) (n := 1) hc hP hS rfl ho_116 (mt_X7_keepFit l D cs A S_25 o S.2 e_116) wM_X7_121 wI_X7_keepFit wS_X7_keepFit wZ_X7 wC_X7_keepFit md_X7_keepFit ⟨rfl, rfl, Nat.le_of_ble_eq_true rfl, Nat.le_of_ble_eq_true rfl⟩ rfl hl.1 rfl (Nat.le_of_ble_eq_true rfl) dX7_shorts_116 ⟨Nat.le_of_ble_eq_true rfl, Nat.le_of_ble_eq_true rfl⟩ (fun H locs hP hS => ?_)
          show W p l e (z_rmA 4 164 8 75) s m args below meth c H locs (8) (75) Q (F0 m 119 ls [.int r_27])
          cases h
          rw [hQ]
          exact g_reti hc hr hlocks hP hS dX7_shorts_119
        · replace h := z_in_ c_42 h
          refine lv_aload_n hx hb dX7_shorts_45 rfl (lv_at hl 1 rfl) ?_
          refine lv_iconst (v := 2) hx hb dX7_shorts_46 (by decide) ?_
          obtain ⟨ho_47, h⟩ := z_chk_some h
          obtain ⟨vs_, ho_47⟩ := Option.isSome_iff_exists.mp ho_47
          obtain ⟨r_29, S_28, e_47, h⟩ := z_bd2_some h
          refine g_callV (ci := 7) (As := [.int (2 : Int32)]) (rv := (some (.int r_29))) (n := 1) hc hP hS rfl ho_47 (mt_X7_refuse l D cs A S o (2 : Int32) e_47) wM_X7_64 wI_X7_refuse wS_X7_refuse wZ_X7 wC_X7_refuse md_X7_refuse ⟨rfl, rfl, Nat.le_of_ble_eq_true rfl, Nat.le_of_ble_eq_true rfl⟩ rfl hl.1 rfl (Nat.le_of_ble_eq_true rfl) dX7_shorts_47 ⟨Nat.le_of_ble_eq_true rfl, Nat.le_of_ble_eq_true rfl⟩ (fun H locs hP hS => ?_)
          show W p l e (z_rmA 4 164 8 75) s m args below meth c H locs (0) (0) Q (F0 m 50 ls [.int r_29])
          cases h
          rw [hQ]
          refine W.widen (k := 8) (n := 75) (Nat.le_of_ble_eq_true rfl) (Nat.le_of_ble_eq_true rfl) ?_
          exact g_reti hc hr hlocks hP hS dX7_shorts_50
      · replace h := z_ip_ c_27 h
        refine lv_aload_n hx hb dX7_shorts_30 rfl (lv_at hl 1 rfl) ?_
        refine lv_iconst (v := 1) hx hb dX7_shorts_31 (by decide) ?_
        obtain ⟨ho_32, h⟩ := z_chk_some h
        obtain ⟨vs_, ho_32⟩ := Option.isSome_iff_exists.mp ho_32
        obtain ⟨r_31, S_30, e_32, h⟩ := z_bd2_some h
        refine g_callV (ci := 7) (As := [.int (1 : Int32)]) (rv := (some (.int r_31))) (n := 1) hc hP hS rfl ho_32 (mt_X7_refuse l D cs A S o (1 : Int32) e_32) wM_X7_64 wI_X7_refuse wS_X7_refuse wZ_X7 wC_X7_refuse md_X7_refuse ⟨rfl, rfl, Nat.le_of_ble_eq_true rfl, Nat.le_of_ble_eq_true rfl⟩ rfl hl.1 rfl (Nat.le_of_ble_eq_true rfl) dX7_shorts_32 ⟨Nat.le_of_ble_eq_true rfl, Nat.le_of_ble_eq_true rfl⟩ (fun H locs hP hS => ?_)
        show W p l e (z_rmA 4 164 8 75) s m args below meth c H locs (0) (0) Q (F0 m 35 ls [.int r_31])
        cases h
        rw [hQ]
        refine W.widen (k := 8) (n := 75) (Nat.le_of_ble_eq_true rfl) (Nat.le_of_ble_eq_true rfl) ?_
        exact g_reti hc hr hlocks hP hS dX7_shorts_35
theorem md_X7_shorts : yX7_shorts.cls ≠ "java/lang/invoke/MethodHandle" ∧ yX7_shorts.cls ≠ "java/lang/invoke/VarHandle" ∧ (parseMethodDescriptor yX7_shorts.desc).map (fun d => d.parameters.length) = some 3 := by decide +kernel
