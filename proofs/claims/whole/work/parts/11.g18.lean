noncomputable def f_X7_statusOf (S : GS) (a0 : Option Nat) (a1 : Int32) : Option (Int32) :=
  z_mt a0 (some (10 : Int32)) fun a_1 => z_bd (g_i S 5 0 a_1) fun f_2 => if f_2 = a1 then some (0 : Int32) else some (11 : Int32)
set_option maxHeartbeats 4000000 in
set_option maxRecDepth 100000 in
theorem mt_X7_statusOf (l : Launch) (D : va_G) (cs : Nat → ClassId) (A : Nat → Prop) (S : GS) (a0 : Option Nat) (a1 : Int32) {r_ : Int32} (h : f_X7_statusOf S a0 a1 = some r_) : Met l yX7_statusOf (z_wd yX7_statusOf cX7_statusOf 2 (some .int)) (z_rmA 0 0 0 0) (va_Pc [va_rf a0, .int a1] (g_C D cs A S)) (g_Q (some (.int r_)) S D cs A) 0 0 A := by
  refine Met.ofW (cc := cX7_statusOf) (maxL := 2) (ret := (some .int)) (by decide) rfl ?_
  intro p e s m args below meth c s₁ B hml hv
  obtain ⟨hav, hP0, hK, hN, hSt, hAn⟩ := hv
  have hx := B.exec
  have hb := B.bytes
  have hr := B.returns
  have hts := atoms_spec (ws := z_wd yX7_statusOf cX7_statusOf 2 (some .int)) B.pre
  have hown : s.vm.findClass RX7 = some m.cls := findClass_of_methodNamed B.named
  have hlocks := B.notSynchronized
  have hc : g_X p s m args c cX7_statusOf 2 RX7 D cs A := ⟨⟨hx, hb, hml, fun w hw => hts w (List.mem_cons_of_mem _ hw), hown⟩, hK, hN, hSt, hAn⟩
  have hl := lv_entry ([va_rf a0, .int a1]) (n := 2) (by cases a0 <;> exact Nat.le_of_ble_eq_true rfl)
  have hE : entryFrame m args 2 = F0 m 0 ((lg_sl ([va_rf a0, .int a1]) ++ List.replicate (2 - (lg_sl ([va_rf a0, .int a1])).length) Slot.unset).toArray) [] := by rw [hav]; exact lg_entry_eq m _ _
  rw [hE]
  clear hE hav
  generalize (lg_sl ([va_rf a0, .int a1]) ++ List.replicate (2 - (lg_sl ([va_rf a0, .int a1])).length) Slot.unset).toArray = ls at hl ⊢
  have hl : lv_has ls 2 [(0, va_rf a0), (1, .int a1)] := by cases a0 <;> exact hl
  obtain ⟨Q, hQ⟩ : ∃ Q, Q = MQ below (g_Q (some (.int r_)) S D cs A) args s 0 0 A := ⟨_, rfl⟩
  rw [← hQ]
  suffices hmain : ∀ (H : Heap) (locs : List Loc), g_P D cs A S H → va_S A s.heap H locs → W p l e (z_rmA 0 0 0 0) s m args below meth c H locs 0 0 Q (F0 m 0 ls []) from hmain s.heap [] hP0 va_S.rf
  clear hP0
  intro H locs hP hS
  unfold f_X7_statusOf at h
  refine q_aload_n hx hb dX7_statusOf_0 rfl (lv_at hl 0 rfl) ?_
  rcases a0 with _ | a_1
  · replace h := z_mt_n h
    refine lv_ifnonnullN hx hb dX7_statusOf_1 ?_
    refine lv_bipush (v := 10) hx hb dX7_statusOf_4 (by decide) ?_
    cases h
    rw [hQ]
    exact g_reti hc hr hlocks hP hS dX7_statusOf_6
  · replace h := z_mt_s h
    refine lv_ifnonnull (tgt := 7) hx hb dX7_statusOf_1 (by decide) ?_
    refine lv_aload_n hx hb dX7_statusOf_7 rfl (lv_at hl 0 rfl) ?_
    obtain ⟨f_2, ef_2, h⟩ := z_bd_some h
    refine g_getN (ci := 5) (k := 0) (v := .int f_2) hc hP rfl z_inX5 (by decide) wG_X7_294 (g_i_v ef_2) dX7_statusOf_8 ?_
    refine lv_iload_n hx hb dX7_statusOf_11 rfl (lv_at hl 1 rfl) ?_
    refine lv_icmp_ne (tgt := 19) hx hb dX7_statusOf_12 (by decide) (fun c_12 => ?_) (fun c_12 => ?_)
    · replace h := z_in_ c_12 h
      refine lv_bipush (v := 11) hx hb dX7_statusOf_19 (by decide) ?_
      cases h
      rw [hQ]
      exact g_reti hc hr hlocks hP hS dX7_statusOf_21
    · replace h := z_ip_ c_12 h
      refine lv_iconst (v := 0) hx hb dX7_statusOf_15 (by decide) ?_
      refine lv_goto (tgt := 21) hx hb dX7_statusOf_16 (by decide) ?_
      cases h
      rw [hQ]
      exact g_reti hc hr hlocks hP hS dX7_statusOf_21
theorem md_X7_statusOf : yX7_statusOf.cls ≠ "java/lang/invoke/MethodHandle" ∧ yX7_statusOf.cls ≠ "java/lang/invoke/VarHandle" ∧ (parseMethodDescriptor yX7_statusOf.desc).map (fun d => d.parameters.length) = some 2 := by decide +kernel
noncomputable def f_X7_points (S : GS) (o : Nat) (a0 : Int32) (a1 : Int32) (a2 : Int32) (a3 : Int32) : Option ((Int32) × GS) :=
  z_chk (g_is S 7 o) (z_bd (f_X7_setAt S o a0) fun q_1 => z_mt q_1 (z_chk (g_is S 7 o) (z_bd2 (f_X7_refuse S o (1 : Int32)) fun r_4 S_3 => some (r_4, S_3))) fun a_2 => z_bd (f_X7_isSheet a1) fun r_5 => if r_5 = 0 then z_chk (g_is S 7 o) (z_bd2 (f_X7_refuse S o (1 : Int32)) fun r_7 S_6 => some (r_7, S_6)) else z_bd (f_X7_isWithin a2 (0 : Int32) (2 : Int32)) fun r_8 => if r_8 = 0 then z_chk (g_is S 7 o) (z_bd2 (f_X7_refuse S o (1 : Int32)) fun r_43 S_42 => some (r_43, S_42)) else z_chk (g_is S 3 a_2) (z_bd (f_X3_isFull S a_2 ) fun r_9 => if r_9 = 0 then z_bd (g_r S 7 2 o) fun f_10 => z_bd (g_rQ S 2 f_10 a1) fun q_11 => z_bd (f_X7_statusOf S q_11 a2) fun r_12 => z_mt q_11 (z_chk (g_is S 7 o) (z_bd2 (f_X7_refuse S o r_12) fun r_15 S_14 => some (r_15, S_14))) fun a_13 => if r_12 = 0 then z_chk (g_is S 5 a_13) (z_bd (f_X5_has S a_13 a3) fun r_16 => if r_16 = 0 then z_chk (g_is S 7 o) (z_bd2 (f_X7_refuse S o (12 : Int32)) fun r_18 S_17 => some (r_18, S_17)) else z_chk (g_is S 5 a_13) (z_bd (f_X5_has S a_13 (a3 + (2 : Int32))) fun r_19 => if r_19 = 0 then z_chk (g_is S 7 o) (z_bd2 (f_X7_refuse S o (12 : Int32)) fun r_37 S_36 => some (r_37, S_36)) else z_bd (g_r S 5 1 a_13) fun f_20 => z_bd (g_rI S f_20 a3) fun v_21 => z_bd (g_r S 5 1 a_13) fun f_22 => z_bd (g_rI S f_22 (a3 + (1 : Int32))) fun v_23 => z_bd (g_r S 5 1 a_13) fun f_24 => z_bd (g_rI S f_24 (a3 + (2 : Int32))) fun v_25 => z_bd (f_X3_allows S v_21 v_23 v_25) fun r_26 => if r_26 = 0 then z_chk (g_is S 7 o) (z_bd2 (f_X7_refuse S o (3 : Int32)) fun r_28 S_27 => some (r_28, S_27)) else z_chk (g_is S 3 a_2) (z_bd (f_X3_holds S a_2 v_21) fun r_29 => if r_29 = 0 then z_chk (g_is S 3 a_2) (z_bd2 (f_X3_insert S a_2 v_21 v_23 v_25) fun r_31 S_30 => z_chk (g_is S_30 7 o) (z_bd2 (f_X7_done S_30 o r_31) fun r_33 S_32 => some (r_33, S_32))) else z_chk (g_is S 7 o) (z_bd2 (f_X7_refuse S o (3 : Int32)) fun r_35 S_34 => some (r_35, S_34))))) else z_chk (g_is S 7 o) (z_bd2 (f_X7_refuse S o r_12) fun r_39 S_38 => some (r_39, S_38)) else z_chk (g_is S 7 o) (z_bd2 (f_X7_refuse S o (2 : Int32)) fun r_41 S_40 => some (r_41, S_40))))
set_option maxHeartbeats 4000000 in
set_option maxRecDepth 100000 in
theorem mt_X7_points (l : Launch) (D : va_G) (cs : Nat → ClassId) (A : Nat → Prop) (S : GS) (o : Nat) (a0 : Int32) (a1 : Int32) (a2 : Int32) (a3 : Int32) {r_ : Int32} {N_ : GS} (h : f_X7_points S o a0 a1 a2 a3 = some (r_, N_)) : Met l yX7_points (z_wd yX7_points cX7_points 11 (some .int)) (z_rmA 2 78 0 0) (va_Pc [.ref o, .int a0, .int a1, .int a2, .int a3] (g_C D cs A S)) (g_Q (some (.int r_)) N_ D cs A) 0 0 A := by
  refine Met.ofW (cc := cX7_points) (maxL := 11) (ret := (some .int)) (by decide) rfl ?_
  intro p e s m args below meth c s₁ B hml hv
  obtain ⟨hav, hP0, hK, hN, hSt, hAn⟩ := hv
  have hx := B.exec
  have hb := B.bytes
  have hr := B.returns
  have hts := atoms_spec (ws := z_wd yX7_points cX7_points 11 (some .int)) B.pre
  have hown : s.vm.findClass RX7 = some m.cls := findClass_of_methodNamed B.named
  have hlocks := B.notSynchronized
  have hc : g_X p s m args c cX7_points 11 RX7 D cs A := ⟨⟨hx, hb, hml, fun w hw => hts w (List.mem_cons_of_mem _ hw), hown⟩, hK, hN, hSt, hAn⟩
  have hl := lv_entry ([.ref o, .int a0, .int a1, .int a2, .int a3]) (n := 11) (Nat.le_of_ble_eq_true rfl)
  have hE : entryFrame m args 11 = F0 m 0 ((lg_sl ([.ref o, .int a0, .int a1, .int a2, .int a3]) ++ List.replicate (11 - (lg_sl ([.ref o, .int a0, .int a1, .int a2, .int a3])).length) Slot.unset).toArray) [] := by rw [hav]; exact lg_entry_eq m _ _
  rw [hE]
  clear hE hav
  generalize (lg_sl ([.ref o, .int a0, .int a1, .int a2, .int a3]) ++ List.replicate (11 - (lg_sl ([.ref o, .int a0, .int a1, .int a2, .int a3])).length) Slot.unset).toArray = ls at hl ⊢
  have hl : lv_has ls 11 [(0, .ref o), (1, .int a0), (2, .int a1), (3, .int a2), (4, .int a3)] := hl
  obtain ⟨Q, hQ⟩ : ∃ Q, Q = MQ below (g_Q (some (.int r_)) N_ D cs A) args s 0 0 A := ⟨_, rfl⟩
  rw [← hQ]
  suffices hmain : ∀ (H : Heap) (locs : List Loc), g_P D cs A S H → va_S A s.heap H locs → W p l e (z_rmA 2 78 0 0) s m args below meth c H locs 0 0 Q (F0 m 0 ls []) from hmain s.heap [] hP0 va_S.rf
  clear hP0
  intro H locs hP hS
  unfold f_X7_points at h
  refine lv_aload_n hx hb dX7_points_0 rfl (lv_at hl 0 rfl) ?_
  refine lv_iload_n hx hb dX7_points_1 rfl (lv_at hl 1 rfl) ?_
  obtain ⟨ho_2, h⟩ := z_chk_some h
  obtain ⟨vs_, ho_2⟩ := Option.isSome_iff_exists.mp ho_2
  obtain ⟨q_1, e_2, h⟩ := z_bd_some h
  refine g_callV (ci := 7) (As := [.int a0]) (rv := (some (va_rf q_1))) (n := 1) hc hP hS rfl ho_2 (mt_X7_setAt l D cs A S o a0 e_2) wM_X7_56 wI_X7_setAt wS_X7_setAt wZ_X7 wC_X7_setAt md_X7_setAt ⟨rfl, rfl, Nat.le_of_ble_eq_true rfl, Nat.le_of_ble_eq_true rfl⟩ rfl hl.1 rfl (Nat.le_of_ble_eq_true rfl) dX7_points_2 ⟨Nat.le_of_ble_eq_true rfl, Nat.le_of_ble_eq_true rfl⟩ (fun H locs hP hS => ?_)
  show W p l e (z_rmA 2 78 0 0) s m args below meth c H locs (0) (0) Q (F0 m 5 ls [va_rf q_1])
  refine q_astore (lv' := [(5, va_rf q_1), (0, .ref o), (1, .int a0), (2, .int a1), (3, .int a2), (4, .int a3)]) hx hb dX7_points_5 hl (by decide) rfl (fun ls hl => ?_)
  refine q_aload hx hb dX7_points_7 (lv_at hl 0 rfl) ?_
  rcases q_1 with _ | a_2
  · replace h := z_mt_n h
    refine lv_ifnullN (tgt := 28) hx hb dX7_points_9 (by decide) ?_
    refine lv_aload_n hx hb dX7_points_28 rfl (lv_at hl 1 rfl) ?_
    refine lv_iconst (v := 1) hx hb dX7_points_29 (by decide) ?_
    obtain ⟨ho_30, h⟩ := z_chk_some h
    obtain ⟨vs_, ho_30⟩ := Option.isSome_iff_exists.mp ho_30
    obtain ⟨r_4, S_3, e_30, h⟩ := z_bd2_some h
    refine g_callV (ci := 7) (As := [.int (1 : Int32)]) (rv := (some (.int r_4))) (n := 1) hc hP hS rfl ho_30 (mt_X7_refuse l D cs A S o (1 : Int32) e_30) wM_X7_64 wI_X7_refuse wS_X7_refuse wZ_X7 wC_X7_refuse md_X7_refuse ⟨rfl, rfl, Nat.le_of_ble_eq_true rfl, Nat.le_of_ble_eq_true rfl⟩ rfl hl.1 rfl (Nat.le_of_ble_eq_true rfl) dX7_points_30 ⟨Nat.le_of_ble_eq_true rfl, Nat.le_of_ble_eq_true rfl⟩ (fun H locs hP hS => ?_)
    show W p l e (z_rmA 2 78 0 0) s m args below meth c H locs (0) (0) Q (F0 m 33 ls [.int r_4])
    cases h
    rw [hQ]
    exact g_reti hc hr hlocks hP hS dX7_points_33
  · replace h := z_mt_s h
    refine lv_ifnull hx hb dX7_points_9 ?_
    refine lv_iload_n hx hb dX7_points_12 rfl (lv_at hl 3 rfl) ?_
    obtain ⟨r_5, er_5, h⟩ := z_bd_some h
    refine s_calli (As := [.int a1]) (r := r_5) (n := 1) hc.1 (mt_X7_isSheet l a1 er_5) wM_X7_280 wT_X7_isSheet wZ_X7 wC_X7_isSheet md_X7_isSheet ⟨rfl, rfl, Nat.le_of_ble_eq_true rfl, Nat.le_of_ble_eq_true rfl⟩ rfl hl.1 rfl (Nat.le_of_ble_eq_true rfl) dX7_points_13 ⟨Nat.le_of_ble_eq_true rfl, Nat.le_of_ble_eq_true rfl⟩ ?_
    refine lv_if_eq (tgt := 28) hx hb dX7_points_16 (by decide) (fun c_16 => ?_) (fun c_16 => ?_)
    · replace h := z_ip_ c_16 h
      refine lv_aload_n hx hb dX7_points_28 rfl (lv_at hl 1 rfl) ?_
      refine lv_iconst (v := 1) hx hb dX7_points_29 (by decide) ?_
      obtain ⟨ho_30, h⟩ := z_chk_some h
      obtain ⟨vs_, ho_30⟩ := Option.isSome_iff_exists.mp ho_30
      obtain ⟨r_7, S_6, e_30, h⟩ := z_bd2_some h
      refine g_callV (ci := 7) (As := [.int (1 : Int32)]) (rv := (some (.int r_7))) (n := 1) hc hP hS rfl ho_30 (mt_X7_refuse l D cs A S o (1 : Int32) e_30) wM_X7_64 wI_X7_refuse wS_X7_refuse wZ_X7 wC_X7_refuse md_X7_refuse ⟨rfl, rfl, Nat.le_of_ble_eq_true rfl, Nat.le_of_ble_eq_true rfl⟩ rfl hl.1 rfl (Nat.le_of_ble_eq_true rfl) dX7_points_30 ⟨Nat.le_of_ble_eq_true rfl, Nat.le_of_ble_eq_true rfl⟩ (fun H locs hP hS => ?_)
      show W p l e (z_rmA 2 78 0 0) s m args below meth c H locs (0) (0) Q (F0 m 33 ls [.int r_7])
      cases h
      rw [hQ]
      exact g_reti hc hr hlocks hP hS dX7_points_33
    · replace h := z_in_ c_16 h
      refine lv_iload_n hx hb dX7_points_19 rfl (lv_at hl 4 rfl) ?_
      refine lv_iconst (v := 0) hx hb dX7_points_20 (by decide) ?_
      refine lv_iconst (v := 2) hx hb dX7_points_21 (by decide) ?_
      obtain ⟨r_8, er_8, h⟩ := z_bd_some h
      refine s_calli (As := [.int a2, .int (0 : Int32), .int (2 : Int32)]) (r := r_8) (n := 3) hc.1 (mt_X7_isWithin l a2 (0 : Int32) (2 : Int32) er_8) wM_X7_101 wT_X7_isWithin wZ_X7 wC_X7_isWithin md_X7_isWithin ⟨rfl, rfl, Nat.le_of_ble_eq_true rfl, Nat.le_of_ble_eq_true rfl⟩ rfl hl.1 rfl (Nat.le_of_ble_eq_true rfl) dX7_points_22 ⟨Nat.le_of_ble_eq_true rfl, Nat.le_of_ble_eq_true rfl⟩ ?_
      refine lv_if_ne (tgt := 34) hx hb dX7_points_25 (by decide) (fun c_25 => ?_) (fun c_25 => ?_)
      · replace h := z_in_ c_25 h
        refine lv_aload hx hb dX7_points_34 (lv_at hl 0 rfl) ?_
        obtain ⟨ho_36, h⟩ := z_chk_some h
        obtain ⟨vs_, ho_36⟩ := Option.isSome_iff_exists.mp ho_36
        obtain ⟨r_9, e_36, h⟩ := z_bd_some h
        refine g_callV (ci := 3) (As := []) (rv := (some (.int r_9))) (n := 0) hc hP hS rfl ho_36 (mt_X3_isFull l D cs A S a_2  e_36) wM_X7_68 wI_X3_isFull wS_X3_isFull wZ_X3 wC_X3_isFull md_X3_isFull ⟨rfl, rfl, Nat.le_of_ble_eq_true rfl, Nat.le_of_ble_eq_true rfl⟩ rfl hl.1 rfl (Nat.le_of_ble_eq_true rfl) dX7_points_36 ⟨Nat.le_of_ble_eq_true rfl, Nat.le_of_ble_eq_true rfl⟩ (fun H locs hP hS => ?_)
        show W p l e (z_rmA 2 78 0 0) s m args below meth c H locs (0) (0) Q (F0 m 39 ls [.int r_9])
        refine lv_if_eq (tgt := 48) hx hb dX7_points_39 (by decide) (fun c_39 => ?_) (fun c_39 => ?_)
        · replace h := z_ip_ c_39 h
          refine lv_aload_n hx hb dX7_points_48 rfl (lv_at hl 1 rfl) ?_
          obtain ⟨f_10, ef_10, h⟩ := z_bd_some h
          refine g_get (ci := 7) (k := 2) (v := .ref f_10) hc hP rfl z_inX7 (by decide) wF_X7_23 (g_r_v ef_10) dX7_points_49 ?_
          refine lv_iload_n hx hb dX7_points_52 rfl (lv_at hl 3 rfl) ?_
          obtain ⟨q_11, eq_11, h⟩ := z_bd_some h
          refine g_aald (t := 2) hc hP rfl eq_11 dX7_points_53 ?_
          refine q_astore (lv' := [(6, va_rf q_11), (5, .ref a_2), (0, .ref o), (1, .int a0), (2, .int a1), (3, .int a2), (4, .int a3)]) hx hb dX7_points_54 hl (by decide) rfl (fun ls hl => ?_)
          refine q_aload hx hb dX7_points_56 (lv_at hl 0 rfl) ?_
          refine lv_iload_n hx hb dX7_points_58 rfl (lv_at hl 5 rfl) ?_
          obtain ⟨r_12, e_59, h⟩ := z_bd_some h
          refine g_callS (As := [va_rf q_11, .int a2]) (rv := (some (.int r_12))) (n := 2) hc hP hS (mt_X7_statusOf l D cs A S q_11 a2 e_59) wM_X7_290 wT_X7_statusOf wZ_X7 wC_X7_statusOf md_X7_statusOf ⟨rfl, rfl, Nat.le_of_ble_eq_true rfl, Nat.le_of_ble_eq_true rfl⟩ rfl hl.1 rfl (Nat.le_of_ble_eq_true rfl) dX7_points_59 ⟨Nat.le_of_ble_eq_true rfl, Nat.le_of_ble_eq_true rfl⟩ (fun H locs hP hS => ?_)
          show W p l e (z_rmA 2 78 0 0) s m args below meth c H locs (0) (0) Q (F0 m 62 ls [.int r_12])
          refine lv_istore (lv' := [(7, .int r_12), (6, va_rf q_11), (5, .ref a_2), (0, .ref o), (1, .int a0), (2, .int a1), (3, .int a2), (4, .int a3)]) hx hb dX7_points_62 hl (by decide) (by cases q_11 <;> rfl) (fun ls hl => ?_)
          refine q_aload hx hb dX7_points_64 (lv_at hl 1 rfl) ?_
          rcases q_11 with _ | a_13
          · replace h := z_mt_n h
            refine lv_ifnullN (tgt := 74) hx hb dX7_points_66 (by decide) ?_
            refine lv_aload_n hx hb dX7_points_74 rfl (lv_at hl 3 rfl) ?_
            refine lv_iload hx hb dX7_points_75 (lv_at hl 0 rfl) ?_
            obtain ⟨ho_77, h⟩ := z_chk_some h
            obtain ⟨vs_, ho_77⟩ := Option.isSome_iff_exists.mp ho_77
            obtain ⟨r_15, S_14, e_77, h⟩ := z_bd2_some h
            refine g_callV (ci := 7) (As := [.int r_12]) (rv := (some (.int r_15))) (n := 1) hc hP hS rfl ho_77 (mt_X7_refuse l D cs A S o r_12 e_77) wM_X7_64 wI_X7_refuse wS_X7_refuse wZ_X7 wC_X7_refuse md_X7_refuse ⟨rfl, rfl, Nat.le_of_ble_eq_true rfl, Nat.le_of_ble_eq_true rfl⟩ rfl hl.1 rfl (Nat.le_of_ble_eq_true rfl) dX7_points_77 ⟨Nat.le_of_ble_eq_true rfl, Nat.le_of_ble_eq_true rfl⟩ (fun H locs hP hS => ?_)
            show W p l e (z_rmA 2 78 0 0) s m args below meth c H locs (0) (0) Q (F0 m 80 ls [.int r_15])
            cases h
            rw [hQ]
            exact g_reti hc hr hlocks hP hS dX7_points_80
          · replace h := z_mt_s h
            refine lv_ifnull hx hb dX7_points_66 ?_
            refine lv_iload hx hb dX7_points_69 (lv_at hl 0 rfl) ?_
            refine lv_if_eq (tgt := 81) hx hb dX7_points_71 (by decide) (fun c_71 => ?_) (fun c_71 => ?_)
            · replace h := z_ip_ c_71 h
              refine lv_aload hx hb dX7_points_81 (lv_at hl 1 rfl) ?_
              refine lv_iload hx hb dX7_points_83 (lv_at hl 7 rfl) ?_
              obtain ⟨ho_85, h⟩ := z_chk_some h
              obtain ⟨vs_, ho_85⟩ := Option.isSome_iff_exists.mp ho_85
              obtain ⟨r_16, e_85, h⟩ := z_bd_some h
              refine g_callV (ci := 5) (As := [.int a3]) (rv := (some (.int r_16))) (n := 1) hc hP hS rfl ho_85 (mt_X5_has l D cs A S a_13 a3 e_85) wM_X7_286 wI_X5_has wS_X5_has wZ_X5 wC_X5_has md_X5_has ⟨rfl, rfl, Nat.le_of_ble_eq_true rfl, Nat.le_of_ble_eq_true rfl⟩ rfl hl.1 rfl (Nat.le_of_ble_eq_true rfl) dX7_points_85 ⟨Nat.le_of_ble_eq_true rfl, Nat.le_of_ble_eq_true rfl⟩ (fun H locs hP hS => ?_)
              show W p l e (z_rmA 2 78 0 0) s m args below meth c H locs (0) (0) Q (F0 m 88 ls [.int r_16])
              refine lv_if_eq (tgt := 103) hx hb dX7_points_88 (by decide) (fun c_88 => ?_) (fun c_88 => ?_)
              · replace h := z_ip_ c_88 h
                refine lv_aload_n hx hb dX7_points_103 rfl (lv_at hl 3 rfl) ?_
                refine lv_bipush (v := 12) hx hb dX7_points_104 (by decide) ?_
                obtain ⟨ho_106, h⟩ := z_chk_some h
                obtain ⟨vs_, ho_106⟩ := Option.isSome_iff_exists.mp ho_106
                obtain ⟨r_18, S_17, e_106, h⟩ := z_bd2_some h
                refine g_callV (ci := 7) (As := [.int (12 : Int32)]) (rv := (some (.int r_18))) (n := 1) hc hP hS rfl ho_106 (mt_X7_refuse l D cs A S o (12 : Int32) e_106) wM_X7_64 wI_X7_refuse wS_X7_refuse wZ_X7 wC_X7_refuse md_X7_refuse ⟨rfl, rfl, Nat.le_of_ble_eq_true rfl, Nat.le_of_ble_eq_true rfl⟩ rfl hl.1 rfl (Nat.le_of_ble_eq_true rfl) dX7_points_106 ⟨Nat.le_of_ble_eq_true rfl, Nat.le_of_ble_eq_true rfl⟩ (fun H locs hP hS => ?_)
                show W p l e (z_rmA 2 78 0 0) s m args below meth c H locs (0) (0) Q (F0 m 109 ls [.int r_18])
                cases h
                rw [hQ]
                exact g_reti hc hr hlocks hP hS dX7_points_109
              · replace h := z_in_ c_88 h
                refine lv_aload hx hb dX7_points_91 (lv_at hl 1 rfl) ?_
                refine lv_iload hx hb dX7_points_93 (lv_at hl 7 rfl) ?_
                refine lv_iconst (v := 2) hx hb dX7_points_95 (by decide) ?_
                refine lv_iadd hx hb dX7_points_96 ?_
                obtain ⟨ho_97, h⟩ := z_chk_some h
                obtain ⟨vs_, ho_97⟩ := Option.isSome_iff_exists.mp ho_97
                obtain ⟨r_19, e_97, h⟩ := z_bd_some h
                refine g_callV (ci := 5) (As := [.int (a3 + (2 : Int32))]) (rv := (some (.int r_19))) (n := 1) hc hP hS rfl ho_97 (mt_X5_has l D cs A S a_13 (a3 + (2 : Int32)) e_97) wM_X7_286 wI_X5_has wS_X5_has wZ_X5 wC_X5_has md_X5_has ⟨rfl, rfl, Nat.le_of_ble_eq_true rfl, Nat.le_of_ble_eq_true rfl⟩ rfl hl.1 rfl (Nat.le_of_ble_eq_true rfl) dX7_points_97 ⟨Nat.le_of_ble_eq_true rfl, Nat.le_of_ble_eq_true rfl⟩ (fun H locs hP hS => ?_)
                show W p l e (z_rmA 2 78 0 0) s m args below meth c H locs (0) (0) Q (F0 m 100 ls [.int r_19])
                refine lv_if_ne (tgt := 110) hx hb dX7_points_100 (by decide) (fun c_100 => ?_) (fun c_100 => ?_)
                · replace h := z_in_ c_100 h
                  refine lv_aload hx hb dX7_points_110 (lv_at hl 1 rfl) ?_
                  obtain ⟨f_20, ef_20, h⟩ := z_bd_some h
                  refine g_getN (ci := 5) (k := 1) (v := .ref f_20) hc hP rfl z_inX5 (by decide) wG_X7_287 (g_r_v ef_20) dX7_points_112 ?_
                  refine lv_iload hx hb dX7_points_115 (lv_at hl 7 rfl) ?_
                  obtain ⟨v_21, ev_21, h⟩ := z_bd_some h
                  refine g_iald hc hP ev_21 dX7_points_117 ?_
                  refine lv_istore (lv' := [(8, .int v_21), (7, .int r_12), (6, .ref a_13), (5, .ref a_2), (0, .ref o), (1, .int a0), (2, .int a1), (3, .int a2), (4, .int a3)]) hx hb dX7_points_118 hl (by decide) rfl (fun ls hl => ?_)
                  refine lv_aload hx hb dX7_points_120 (lv_at hl 2 rfl) ?_
                  obtain ⟨f_22, ef_22, h⟩ := z_bd_some h
                  refine g_getN (ci := 5) (k := 1) (v := .ref f_22) hc hP rfl z_inX5 (by decide) wG_X7_287 (g_r_v ef_22) dX7_points_122 ?_
                  refine lv_iload hx hb dX7_points_125 (lv_at hl 8 rfl) ?_
                  refine lv_iconst (v := 1) hx hb dX7_points_127 (by decide) ?_
                  refine lv_iadd hx hb dX7_points_128 ?_
                  obtain ⟨v_23, ev_23, h⟩ := z_bd_some h
                  refine g_iald hc hP ev_23 dX7_points_129 ?_
                  refine lv_istore (lv' := [(9, .int v_23), (8, .int v_21), (7, .int r_12), (6, .ref a_13), (5, .ref a_2), (0, .ref o), (1, .int a0), (2, .int a1), (3, .int a2), (4, .int a3)]) hx hb dX7_points_130 hl (by decide) rfl (fun ls hl => ?_)
                  refine lv_aload hx hb dX7_points_132 (lv_at hl 3 rfl) ?_
                  obtain ⟨f_24, ef_24, h⟩ := z_bd_some h
                  refine g_getN (ci := 5) (k := 1) (v := .ref f_24) hc hP rfl z_inX5 (by decide) wG_X7_287 (g_r_v ef_24) dX7_points_134 ?_
                  refine lv_iload hx hb dX7_points_137 (lv_at hl 9 rfl) ?_
                  refine lv_iconst (v := 2) hx hb dX7_points_139 (by decide) ?_
                  refine lv_iadd hx hb dX7_points_140 ?_
                  obtain ⟨v_25, ev_25, h⟩ := z_bd_some h
                  refine g_iald hc hP ev_25 dX7_points_141 ?_
                  refine lv_istore (lv' := [(10, .int v_25), (9, .int v_23), (8, .int v_21), (7, .int r_12), (6, .ref a_13), (5, .ref a_2), (0, .ref o), (1, .int a0), (2, .int a1), (3, .int a2), (4, .int a3)]) hx hb dX7_points_142 hl (by decide) rfl (fun ls hl => ?_)
                  refine lv_iload hx hb dX7_points_144 (lv_at hl 2 rfl) ?_
                  refine lv_iload hx hb dX7_points_146 (lv_at hl 1 rfl) ?_
                  refine lv_iload hx hb dX7_points_148 (lv_at hl 0 rfl) ?_
                  obtain ⟨r_26, e_150, h⟩ := z_bd_some h
                  refine g_callS (As := [.int v_21, .int v_23, .int v_25]) (rv := (some (.int r_26))) (n := 3) hc hP hS (mt_X3_allows l D cs A S v_21 v_23 v_25 e_150) wM_X7_60 wT_X3_allows wZ_X3 wC_X3_allows md_X3_allows ⟨rfl, rfl, Nat.le_of_ble_eq_true rfl, Nat.le_of_ble_eq_true rfl⟩ rfl hl.1 rfl (Nat.le_of_ble_eq_true rfl) dX7_points_150 ⟨Nat.le_of_ble_eq_true rfl, Nat.le_of_ble_eq_true rfl⟩ (fun H locs hP hS => ?_)
                  show W p l e (z_rmA 2 78 0 0) s m args below meth c H locs (0) (0) Q (F0 m 153 ls [.int r_26])
                  refine lv_if_eq (tgt := 166) hx hb dX7_points_153 (by decide) (fun c_153 => ?_) (fun c_153 => ?_)
                  · replace h := z_ip_ c_153 h
                    refine lv_aload_n hx hb dX7_points_166 rfl (lv_at hl 6 rfl) ?_
                    refine lv_iconst (v := 3) hx hb dX7_points_167 (by decide) ?_
                    obtain ⟨ho_168, h⟩ := z_chk_some h
                    obtain ⟨vs_, ho_168⟩ := Option.isSome_iff_exists.mp ho_168
                    obtain ⟨r_28, S_27, e_168, h⟩ := z_bd2_some h
                    refine g_callV (ci := 7) (As := [.int (3 : Int32)]) (rv := (some (.int r_28))) (n := 1) hc hP hS rfl ho_168 (mt_X7_refuse l D cs A S o (3 : Int32) e_168) wM_X7_64 wI_X7_refuse wS_X7_refuse wZ_X7 wC_X7_refuse md_X7_refuse ⟨rfl, rfl, Nat.le_of_ble_eq_true rfl, Nat.le_of_ble_eq_true rfl⟩ rfl hl.1 rfl (Nat.le_of_ble_eq_true rfl) dX7_points_168 ⟨Nat.le_of_ble_eq_true rfl, Nat.le_of_ble_eq_true rfl⟩ (fun H locs hP hS => ?_)
                    show W p l e (z_rmA 2 78 0 0) s m args below meth c H locs (0) (0) Q (F0 m 171 ls [.int r_28])
                    cases h
                    rw [hQ]
                    exact g_reti hc hr hlocks hP hS dX7_points_171
                  · replace h := z_in_ c_153 h
                    refine lv_aload hx hb dX7_points_156 (lv_at hl 5 rfl) ?_
                    refine lv_iload hx hb dX7_points_158 (lv_at hl 2 rfl) ?_
                    obtain ⟨ho_160, h⟩ := z_chk_some h
                    obtain ⟨vs_, ho_160⟩ := Option.isSome_iff_exists.mp ho_160
                    obtain ⟨r_29, e_160, h⟩ := z_bd_some h
                    refine g_callV (ci := 3) (As := [.int v_21]) (rv := (some (.int r_29))) (n := 1) hc hP hS rfl ho_160 (mt_X3_holds l D cs A S a_2 v_21 e_160) wM_X7_72 wI_X3_holds wS_X3_holds wZ_X3 wC_X3_holds md_X3_holds ⟨rfl, rfl, Nat.le_of_ble_eq_true rfl, Nat.le_of_ble_eq_true rfl⟩ rfl hl.1 rfl (Nat.le_of_ble_eq_true rfl) dX7_points_160 ⟨Nat.le_of_ble_eq_true rfl, Nat.le_of_ble_eq_true rfl⟩ (fun H locs hP hS => ?_)
                    show W p l e (z_rmA 2 78 0 0) s m args below meth c H locs (0) (0) Q (F0 m 163 ls [.int r_29])
                    refine lv_if_eq (tgt := 172) hx hb dX7_points_163 (by decide) (fun c_163 => ?_) (fun c_163 => ?_)
                    · replace h := z_ip_ c_163 h
                      refine lv_aload_n hx hb dX7_points_172 rfl (lv_at hl 6 rfl) ?_
                      refine lv_aload hx hb dX7_points_173 (lv_at hl 5 rfl) ?_
                      refine lv_iload hx hb dX7_points_175 (lv_at hl 2 rfl) ?_
                      refine lv_iload hx hb dX7_points_177 (lv_at hl 1 rfl) ?_
                      refine lv_iload hx hb dX7_points_179 (lv_at hl 0 rfl) ?_
                      obtain ⟨ho_181, h⟩ := z_chk_some h
                      obtain ⟨vs_, ho_181⟩ := Option.isSome_iff_exists.mp ho_181
                      obtain ⟨r_31, S_30, e_181, h⟩ := z_bd2_some h
                      refine g_callV (ci := 3) (As := [.int v_21, .int v_23, .int v_25]) (rv := (some (.int r_31))) (n := 3) hc hP hS rfl ho_181 (mt_X3_insert l D cs A S a_2 v_21 v_23 v_25 e_181) wM_X7_76 wI_X3_insert wS_X3_insert wZ_X3 wC_X3_insert md_X3_insert ⟨rfl, rfl, Nat.le_of_ble_eq_true rfl, Nat.le_of_ble_eq_true rfl⟩ rfl hl.1 rfl (Nat.le_of_ble_eq_true rfl) dX7_points_181 ⟨Nat.le_of_ble_eq_true rfl, Nat.le_of_ble_eq_true rfl⟩ (fun H locs hP hS => ?_)
                      show W p l e (z_rmA 2 78 0 0) s m args below meth c H locs (0) (0) Q (F0 m 184 ls [.int r_31, .ref o])
                      obtain ⟨ho_184, h⟩ := z_chk_some h
                      obtain ⟨vs_, ho_184⟩ := Option.isSome_iff_exists.mp ho_184
                      obtain ⟨r_33, S_32, e_184, h⟩ := z_bd2_some h
                      refine g_callV (ci := 7) (As := [.int r_31]) (rv := (some (.int r_33))) (n := 1) hc hP hS rfl ho_184 (mt_X7_done l D cs A S_30 o r_31 e_184) wM_X7_80 wI_X7_done wS_X7_done wZ_X7 wC_X7_done md_X7_done ⟨rfl, rfl, Nat.le_of_ble_eq_true rfl, Nat.le_of_ble_eq_true rfl⟩ rfl hl.1 rfl (Nat.le_of_ble_eq_true rfl) dX7_points_184 ⟨Nat.le_of_ble_eq_true rfl, Nat.le_of_ble_eq_true rfl⟩ (fun H locs hP hS => ?_)
                      show W p l e (z_rmA 2 78 0 0) s m args below meth c H locs (0) (0) Q (F0 m 187 ls [.int r_33])
                      cases h
                      rw [hQ]
                      exact g_reti hc hr hlocks hP hS dX7_points_187
                    · replace h := z_in_ c_163 h
                      refine lv_aload_n hx hb dX7_points_166 rfl (lv_at hl 6 rfl) ?_
                      refine lv_iconst (v := 3) hx hb dX7_points_167 (by decide) ?_
                      obtain ⟨ho_168, h⟩ := z_chk_some h
                      obtain ⟨vs_, ho_168⟩ := Option.isSome_iff_exists.mp ho_168
                      obtain ⟨r_35, S_34, e_168, h⟩ := z_bd2_some h
                      refine g_callV (ci := 7) (As := [.int (3 : Int32)]) (rv := (some (.int r_35))) (n := 1) hc hP hS rfl ho_168 (mt_X7_refuse l D cs A S o (3 : Int32) e_168) wM_X7_64 wI_X7_refuse wS_X7_refuse wZ_X7 wC_X7_refuse md_X7_refuse ⟨rfl, rfl, Nat.le_of_ble_eq_true rfl, Nat.le_of_ble_eq_true rfl⟩ rfl hl.1 rfl (Nat.le_of_ble_eq_true rfl) dX7_points_168 ⟨Nat.le_of_ble_eq_true rfl, Nat.le_of_ble_eq_true rfl⟩ (fun H locs hP hS => ?_)
                      show W p l e (z_rmA 2 78 0 0) s m args below meth c H locs (0) (0) Q (F0 m 171 ls [.int r_35])
                      cases h
                      rw [hQ]
                      exact g_reti hc hr hlocks hP hS dX7_points_171
                · replace h := z_ip_ c_100 h
                  refine lv_aload_n hx hb dX7_points_103 rfl (lv_at hl 3 rfl) ?_
                  refine lv_bipush (v := 12) hx hb dX7_points_104 (by decide) ?_
                  obtain ⟨ho_106, h⟩ := z_chk_some h
                  obtain ⟨vs_, ho_106⟩ := Option.isSome_iff_exists.mp ho_106
                  obtain ⟨r_37, S_36, e_106, h⟩ := z_bd2_some h
                  refine g_callV (ci := 7) (As := [.int (12 : Int32)]) (rv := (some (.int r_37))) (n := 1) hc hP hS rfl ho_106 (mt_X7_refuse l D cs A S o (12 : Int32) e_106) wM_X7_64 wI_X7_refuse wS_X7_refuse wZ_X7 wC_X7_refuse md_X7_refuse ⟨rfl, rfl, Nat.le_of_ble_eq_true rfl, Nat.le_of_ble_eq_true rfl⟩ rfl hl.1 rfl (Nat.le_of_ble_eq_true rfl) dX7_points_106 ⟨Nat.le_of_ble_eq_true rfl, Nat.le_of_ble_eq_true rfl⟩ (fun H locs hP hS => ?_)
                  show W p l e (z_rmA 2 78 0 0) s m args below meth c H locs (0) (0) Q (F0 m 109 ls [.int r_37])
                  cases h
                  rw [hQ]
                  exact g_reti hc hr hlocks hP hS dX7_points_109
            · replace h := z_in_ c_71 h
              refine lv_aload_n hx hb dX7_points_74 rfl (lv_at hl 3 rfl) ?_
              refine lv_iload hx hb dX7_points_75 (lv_at hl 0 rfl) ?_
              obtain ⟨ho_77, h⟩ := z_chk_some h
              obtain ⟨vs_, ho_77⟩ := Option.isSome_iff_exists.mp ho_77
              obtain ⟨r_39, S_38, e_77, h⟩ := z_bd2_some h
              refine g_callV (ci := 7) (As := [.int r_12]) (rv := (some (.int r_39))) (n := 1) hc hP hS rfl ho_77 (mt_X7_refuse l D cs A S o r_12 e_77) wM_X7_64 wI_X7_refuse wS_X7_refuse wZ_X7 wC_X7_refuse md_X7_refuse ⟨rfl, rfl, Nat.le_of_ble_eq_true rfl, Nat.le_of_ble_eq_true rfl⟩ rfl hl.1 rfl (Nat.le_of_ble_eq_true rfl) dX7_points_77 ⟨Nat.le_of_ble_eq_true rfl, Nat.le_of_ble_eq_true rfl⟩ (fun H locs hP hS => ?_)
              show W p l e (z_rmA 2 78 0 0) s m args below meth c H locs (0) (0) Q (F0 m 80 ls [.int r_39])
              cases h
              rw [hQ]
              exact g_reti hc hr hlocks hP hS dX7_points_80
        · replace h := z_in_ c_39 h
          refine lv_aload_n hx hb dX7_points_42 rfl (lv_at hl 1 rfl) ?_
          refine lv_iconst (v := 2) hx hb dX7_points_43 (by decide) ?_
          obtain ⟨ho_44, h⟩ := z_chk_some h
          obtain ⟨vs_, ho_44⟩ := Option.isSome_iff_exists.mp ho_44
          obtain ⟨r_41, S_40, e_44, h⟩ := z_bd2_some h
          refine g_callV (ci := 7) (As := [.int (2 : Int32)]) (rv := (some (.int r_41))) (n := 1) hc hP hS rfl ho_44 (mt_X7_refuse l D cs A S o (2 : Int32) e_44) wM_X7_64 wI_X7_refuse wS_X7_refuse wZ_X7 wC_X7_refuse md_X7_refuse ⟨rfl, rfl, Nat.le_of_ble_eq_true rfl, Nat.le_of_ble_eq_true rfl⟩ rfl hl.1 rfl (Nat.le_of_ble_eq_true rfl) dX7_points_44 ⟨Nat.le_of_ble_eq_true rfl, Nat.le_of_ble_eq_true rfl⟩ (fun H locs hP hS => ?_)
          show W p l e (z_rmA 2 78 0 0) s m args below meth c H locs (0) (0) Q (F0 m 47 ls [.int r_41])
          cases h
          rw [hQ]
          exact g_reti hc hr hlocks hP hS dX7_points_47
      · replace h := z_ip_ c_25 h
        refine lv_aload_n hx hb dX7_points_28 rfl (lv_at hl 1 rfl) ?_
        refine lv_iconst (v := 1) hx hb dX7_points_29 (by decide) ?_
        obtain ⟨ho_30, h⟩ := z_chk_some h
        obtain ⟨vs_, ho_30⟩ := Option.isSome_iff_exists.mp ho_30
        obtain ⟨r_43, S_42, e_30, h⟩ := z_bd2_some h
        refine g_callV (ci := 7) (As := [.int (1 : Int32)]) (rv := (some (.int r_43))) (n := 1) hc hP hS rfl ho_30 (mt_X7_refuse l D cs A S o (1 : Int32) e_30) wM_X7_64 wI_X7_refuse wS_X7_refuse wZ_X7 wC_X7_refuse md_X7_refuse ⟨rfl, rfl, Nat.le_of_ble_eq_true rfl, Nat.le_of_ble_eq_true rfl⟩ rfl hl.1 rfl (Nat.le_of_ble_eq_true rfl) dX7_points_30 ⟨Nat.le_of_ble_eq_true rfl, Nat.le_of_ble_eq_true rfl⟩ (fun H locs hP hS => ?_)
        show W p l e (z_rmA 2 78 0 0) s m args below meth c H locs (0) (0) Q (F0 m 33 ls [.int r_43])
        cases h
        rw [hQ]
        exact g_reti hc hr hlocks hP hS dX7_points_33
theorem md_X7_points : yX7_points.cls ≠ "java/lang/invoke/MethodHandle" ∧ yX7_points.cls ≠ "java/lang/invoke/VarHandle" ∧ (parseMethodDescriptor yX7_points.desc).map (fun d => d.parameters.length) = some 4 := by decide +kernel
noncomputable def f_J9_floorMod_7cf53 (a0 : Int32) (a1 : Int32) : Option (Int32) :=
  z_chk (¬ a1 = 0) (if 0 ≤ (a0 ^^^ a1) then some (a0 - a0 / a1 * a1) else if (a0 - a0 / a1 * a1) = 0 then some (a0 - a0 / a1 * a1) else some ((a0 - a0 / a1 * a1) + a1))
set_option maxHeartbeats 4000000 in
set_option maxRecDepth 100000 in
theorem mt_J9_floorMod_7cf53 (l : Launch) (a0 : Int32) (a1 : Int32) {r_ : Int32} (h : f_J9_floorMod_7cf53 a0 a1 = some r_) : Met l yJ9_floorMod_7cf53 (z_wd yJ9_floorMod_7cf53 cJ9_floorMod_7cf53 3 (some .int)) (z_rm 0 0) (va_Pc [.int a0, .int a1] (fun _ => True)) (vp_Si (fun r1 : Int32 => r1 = r_)) 0 0 (fun _ => False) := by
  refine z_ofWF (cc := cJ9_floorMod_7cf53) (maxL := 3) (ret := (some .int)) (by decide +kernel) rfl ?_
  intro p e s m args below meth c s₁ B hml hv
  obtain ⟨hav, -⟩ := hv
  have hx := B.exec
  have hb := B.bytes
  have hr := B.returns
  have hts := atoms_spec (ws := z_wd yJ9_floorMod_7cf53 cJ9_floorMod_7cf53 3 (some .int)) B.pre
  have hown : s.vm.findClass RJ9 = some m.cls := findClass_of_methodNamed B.named
  have hlocks := B.notSynchronized
  have hc : s_X p s m args c cJ9_floorMod_7cf53 3 RJ9 := ⟨hx, hb, hml, fun w hw => hts w (List.mem_cons_of_mem _ hw), hown⟩
  have hl := lv_entry ([.int a0, .int a1]) (n := 3) (Nat.le_of_ble_eq_true rfl)
  have hE : entryFrame m args 3 = F0 m 0 ((lg_sl ([.int a0, .int a1]) ++ List.replicate (3 - (lg_sl ([.int a0, .int a1])).length) Slot.unset).toArray) [] := by rw [hav]; exact lg_entry_eq m _ _
  rw [hE]
  clear hE hav
  generalize (lg_sl ([.int a0, .int a1]) ++ List.replicate (3 - (lg_sl ([.int a0, .int a1])).length) Slot.unset).toArray = ls at hl ⊢
  have hl : lv_has ls 3 [(0, .int a0), (1, .int a1)] := hl
  obtain ⟨Q, hQ⟩ : ∃ Q, Q = MQ below (vp_Si (fun r1 : Int32 => r1 = r_)) args s 0 0 (fun _ => False) := ⟨_, rfl⟩
  rw [← hQ]
  show W p l e (z_rm 0 0) s m args below meth c s.heap [] 0 0 Q (F0 m 0 ls [])
  unfold f_J9_floorMod_7cf53 at h
  refine lv_iload_n hx hb dJ9_floorMod_7cf53_0 rfl (lv_at hl 0 rfl) ?_
  refine lv_iload_n hx hb dJ9_floorMod_7cf53_1 rfl (lv_at hl 1 rfl) ?_
  obtain ⟨c_2, h⟩ := z_chk_some h
  refine lv_irem hx hb dJ9_floorMod_7cf53_2 c_2 ?_
  refine lv_istore_n (lv' := [(2, .int (a0 - a0 / a1 * a1)), (0, .int a0), (1, .int a1)]) hx hb dJ9_floorMod_7cf53_3 rfl hl (by decide) rfl (fun ls hl => ?_)
  refine lv_iload_n hx hb dJ9_floorMod_7cf53_4 rfl (lv_at hl 1 rfl) ?_
  refine lv_iload_n hx hb dJ9_floorMod_7cf53_5 rfl (lv_at hl 2 rfl) ?_
  refine lv_ixor hx hb dJ9_floorMod_7cf53_6 ?_
  refine lv_if_ge (tgt := 18) hx hb dJ9_floorMod_7cf53_7 (by decide) (fun c_7 => ?_) (fun c_7 => ?_)
  · replace h := z_ip_ c_7 h
    refine lv_iload_n hx hb dJ9_floorMod_7cf53_18 rfl (lv_at hl 0 rfl) ?_
    cases h
    rw [hQ]
    exact s_reti hc hr hlocks dJ9_floorMod_7cf53_19
  · replace h := z_in_ c_7 h
    refine lv_iload_n hx hb dJ9_floorMod_7cf53_10 rfl (lv_at hl 0 rfl) ?_
    refine lv_if_eq (tgt := 18) hx hb dJ9_floorMod_7cf53_11 (by decide) (fun c_11 => ?_) (fun c_11 => ?_)
    · replace h := z_ip_ c_11 h
      refine lv_iload_n hx hb dJ9_floorMod_7cf53_18 rfl (lv_at hl 0 rfl) ?_
      cases h
      rw [hQ]
      exact s_reti hc hr hlocks dJ9_floorMod_7cf53_19
    · replace h := z_in_ c_11 h
      refine lv_iload_n hx hb dJ9_floorMod_7cf53_14 rfl (lv_at hl 0 rfl) ?_
      refine lv_iload_n hx hb dJ9_floorMod_7cf53_15 rfl (lv_at hl 2 rfl) ?_
      refine lv_iadd hx hb dJ9_floorMod_7cf53_16 ?_
      cases h
      rw [hQ]
      exact s_reti hc hr hlocks dJ9_floorMod_7cf53_17
theorem md_J9_floorMod_7cf53 : yJ9_floorMod_7cf53.cls ≠ "java/lang/invoke/MethodHandle" ∧ yJ9_floorMod_7cf53.cls ≠ "java/lang/invoke/VarHandle" ∧ (parseMethodDescriptor yJ9_floorMod_7cf53.desc).map (fun d => d.parameters.length) = some 2 := by decide +kernel
noncomputable def f_X7_isKindOrUnder_L4 (a1 : Int32) (x2_1 : Int32) (x3_2 : Int32) : Option (((Int32) ⊕ (Unit)) ⊕ (Int32 × Int32)) :=
  if (5 : Int32) ≤ x3_2 then some (.inl (.inr ())) else if x2_1 < 0 then some (.inl (.inr ())) else if (5 : Int32) ≤ x2_1 then some (.inl (.inr ())) else if x2_1 = a1 then some (.inl (.inl (1 : Int32))) else z_chk (z_in x2_1 5) (some (.inr ((z_ka x2_1.toNatClampNeg), (x3_2 + 1))))
noncomputable def f_X7_isKindOrUnder (S : GS) (a0 : Int32) (a1 : Int32) : Option (Int32) :=
  z_bs (z_lp (fun x => f_X7_isKindOrUnder_L4 a1 x.1 x.2) (a0, (0 : Int32))) fun y => some (0 : Int32)
set_option maxHeartbeats 4000000 in
set_option maxRecDepth 100000 in
theorem mt_X7_isKindOrUnder (l : Launch) (D : va_G) (cs : Nat → ClassId) (A : Nat → Prop) (S : GS) (a0 : Int32) (a1 : Int32) {r_ : Int32} (h : f_X7_isKindOrUnder S a0 a1 = some r_) : Met l yX7_isKindOrUnder (z_wd yX7_isKindOrUnder cX7_isKindOrUnder 4 (some .boolean)) (z_rmA 0 0 0 0) (va_Pc [.int a0, .int a1] (g_C D cs A S)) (g_Q (some (.int r_)) S D cs A) 0 0 A := by
  refine Met.ofW (cc := cX7_isKindOrUnder) (maxL := 4) (ret := (some .boolean)) (by decide) rfl ?_
  intro p e s m args below meth c s₁ B hml hv
  obtain ⟨hav, hP0, hK, hN, hSt, hAn⟩ := hv
  have hx := B.exec
  have hb := B.bytes
  have hr := B.returns
  have hts := atoms_spec (ws := z_wd yX7_isKindOrUnder cX7_isKindOrUnder 4 (some .boolean)) B.pre
  have hown : s.vm.findClass RX7 = some m.cls := findClass_of_methodNamed B.named
  have hlocks := B.notSynchronized
  have hc : g_X p s m args c cX7_isKindOrUnder 4 RX7 D cs A := ⟨⟨hx, hb, hml, fun w hw => hts w (List.mem_cons_of_mem _ hw), hown⟩, hK, hN, hSt, hAn⟩
  obtain ⟨⟨t1_, hZ1, hT1⟩, ⟨t2_, hZ2, hT2⟩⟩ := id hSt
  have hl := lv_entry ([.int a0, .int a1]) (n := 4) (Nat.le_of_ble_eq_true rfl)
  have hE : entryFrame m args 4 = F0 m 0 ((lg_sl ([.int a0, .int a1]) ++ List.replicate (4 - (lg_sl ([.int a0, .int a1])).length) Slot.unset).toArray) [] := by rw [hav]; exact lg_entry_eq m _ _
  rw [hE]
  clear hE hav
  generalize (lg_sl ([.int a0, .int a1]) ++ List.replicate (4 - (lg_sl ([.int a0, .int a1])).length) Slot.unset).toArray = ls at hl ⊢
  have hl : lv_has ls 4 [(0, .int a0), (1, .int a1)] := hl
  obtain ⟨Q, hQ⟩ : ∃ Q, Q = MQ below (g_Q (some (.int r_)) S D cs A) args s 0 0 A := ⟨_, rfl⟩
  rw [← hQ]
  suffices hmain : ∀ (H : Heap) (locs : List Loc), g_P D cs A S H → va_S A s.heap H locs → W p l e (z_rmA 0 0 0 0) s m args below meth c H locs 0 0 Q (F0 m 0 ls []) from hmain s.heap [] hP0 va_S.rf
  clear hP0
  intro H locs hP hS
  unfold f_X7_isKindOrUnder at h
  refine lv_iload_n hx hb dX7_isKindOrUnder_0 rfl (lv_at hl 0 rfl) ?_
  refine lv_istore_n (lv' := [(2, .int a0), (0, .int a0), (1, .int a1)]) hx hb dX7_isKindOrUnder_1 rfl hl (by decide) rfl (fun ls hl => ?_)
  refine lv_iconst (v := 0) hx hb dX7_isKindOrUnder_2 (by decide) ?_
  refine lv_istore_n (lv' := [(3, .int (0 : Int32)), (2, .int a0), (0, .int a0), (1, .int a1)]) hx hb dX7_isKindOrUnder_3 rfl hl (by decide) rfl (fun ls hl => ?_)
  have LP_4 : ∀ ee, z_lp (fun x => f_X7_isKindOrUnder_L4 a1 x.1 x.2) (a0, (0 : Int32)) = some ee → ((fun z => match z with
      | .inl rr => rr = r_
      | .inr y => ∀ (H : Heap) (locs : List Loc) (ls : Array Slot), g_P D cs A S H → va_S A s.heap H locs → lv_has ls 4 [] → W p l e (z_rmA 0 0 0 0) s m args below meth c H locs (0) (0) Q (F0 m 37 ls []) : (Int32) ⊕ (Unit) → Prop) ee) → W p l e (z_rmA 0 0 0 0) s m args below meth c H locs (0) (0) Q (F0 m 4 ls []) := by
    intro ee hlp hq
    refine z_lp_ind (P := fun x => ∀ (H : Heap) (locs : List Loc) (ls : Array Slot), g_P D cs A S H → va_S A s.heap H locs → lv_has ls 4 [(1, .int a1), (2, .int x.1), (3, .int x.2)] → W p l e (z_rmA 0 0 0 0) s m args below meth c H locs (0) (0) Q (F0 m 4 ls [])) (Qe := fun z => match z with
      | .inl rr => rr = r_
      | .inr y => ∀ (H : Heap) (locs : List Loc) (ls : Array Slot), g_P D cs A S H → va_S A s.heap H locs → lv_has ls 4 [] → W p l e (z_rmA 0 0 0 0) s m args below meth c H locs (0) (0) Q (F0 m 37 ls [])) ?_ hlp hq H locs ls hP hS (lv_sub hl [3, 1, 0] rfl)
    clear h hlp hq hP hS hl
    rintro ⟨x2_1, x3_2⟩ oo h K_4 H locs ls hP hS hl
    have hP : g_P D cs A S H := hP
    have hl : lv_has ls 4 [(1, .int a1), (2, .int x2_1), (3, .int x3_2)] := hl
    have h : f_X7_isKindOrUnder_L4 a1 x2_1 x3_2 = some oo := h
    unfold f_X7_isKindOrUnder_L4 at h
    refine lv_iload_n hx hb dX7_isKindOrUnder_4 rfl (lv_at hl 2 rfl) ?_
    refine lv_iconst (v := 5) hx hb dX7_isKindOrUnder_5 (by decide) ?_
    refine lv_icmp_ge (tgt := 37) hx hb dX7_isKindOrUnder_6 (by decide) (fun c_6 => ?_) (fun c_6 => ?_)
    · replace h := z_ip_ c_6 h
      cases h
      exact K_4 H locs ls hP hS (lv_sub hl [] rfl)
    · replace h := z_in_ c_6 h
      refine lv_iload_n hx hb dX7_isKindOrUnder_9 rfl (lv_at hl 1 rfl) ?_
      refine lv_if_lt (tgt := 37) hx hb dX7_isKindOrUnder_10 (by decide) (fun c_10 => ?_) (fun c_10 => ?_)
      · replace h := z_ip_ c_10 h
        cases h
        exact K_4 H locs ls hP hS (lv_sub hl [] rfl)
      · replace h := z_in_ c_10 h
        refine lv_iload_n hx hb dX7_isKindOrUnder_13 rfl (lv_at hl 1 rfl) ?_
        refine lv_iconst (v := 5) hx hb dX7_isKindOrUnder_14 (by decide) ?_
        refine lv_icmp_ge (tgt := 37) hx hb dX7_isKindOrUnder_15 (by decide) (fun c_15 => ?_) (fun c_15 => ?_)
        · replace h := z_ip_ c_15 h
          cases h
          exact K_4 H locs ls hP hS (lv_sub hl [] rfl)
        · replace h := z_in_ c_15 h
          refine lv_iload_n hx hb dX7_isKindOrUnder_18 rfl (lv_at hl 1 rfl) ?_
          refine lv_iload_n hx hb dX7_isKindOrUnder_19 rfl (lv_at hl 0 rfl) ?_
          refine lv_icmp_ne (tgt := 25) hx hb dX7_isKindOrUnder_20 (by decide) (fun c_20 => ?_) (fun c_20 => ?_)
          · replace h := z_in_ c_20 h
            refine va_gets hx hb hZ1 hS hc.1.2.2.2.2 (hc.1.2.2.2.1 _ wF_X7_319) (fun _ h9 => h9) dX7_isKindOrUnder_25 ?_
            refine lv_iload_n hx hb dX7_isKindOrUnder_28 rfl (lv_at hl 1 rfl) ?_
            obtain ⟨c_29, h⟩ := z_chk_some h
            refine va_ti (v := .int (z_ka x2_1.toNatClampNeg)) hx hb hT1 hS c_29 rfl dX7_isKindOrUnder_29 ?_
            refine lv_istore_n (lv' := [(2, .int (z_ka x2_1.toNatClampNeg)), (1, .int a1), (3, .int x3_2)]) hx hb dX7_isKindOrUnder_30 rfl hl (by decide) rfl (fun ls hl => ?_)
            refine lv_iinc (v := (x3_2 + 1)) (lv' := [(3, .int (x3_2 + 1)), (2, .int (z_ka x2_1.toNatClampNeg)), (1, .int a1)]) hx hb dX7_isKindOrUnder_31 hl (k := 2) rfl rfl (by decide) rfl (fun ls hl => ?_)
            refine lv_goto (tgt := 4) hx hb dX7_isKindOrUnder_34 (by decide) ?_
            cases h
            exact K_4 H locs ls hP hS (lv_sub hl [2, 1, 0] rfl)
          · replace h := z_ip_ c_20 h
            refine lv_iconst (v := 1) hx hb dX7_isKindOrUnder_23 (by decide) ?_
            cases h
            have K_4 : (1 : Int32) = r_ := K_4
            cases K_4
            rw [hQ]
            exact g_retz hc hr hlocks (by decide) hP hS dX7_isKindOrUnder_24
  rcases z_bs_some h with hlp | ⟨y, hlp, h⟩
  · exact LP_4 _ hlp rfl
  · refine LP_4 _ hlp ?_
    skip
    clear hlp LP_4 hP hS hl
    show ∀ (H : Heap) (locs : List Loc) (ls : Array Slot), g_P D cs A S H → va_S A s.heap H locs → lv_has ls 4 [] → W p l e (z_rmA 0 0 0 0) s m args below meth c H locs (0) (0) Q (F0 m 37 ls [])
    intro H locs ls hP hS hl
    have hP : g_P D cs A S H := hP
    have hl : lv_has ls 4 [] := hl
    refine lv_iconst (v := 0) hx hb dX7_isKindOrUnder_37 (by decide) ?_
    cases h
    rw [hQ]
    exact g_retz hc hr hlocks (by decide) hP hS dX7_isKindOrUnder_38
theorem md_X7_isKindOrUnder : yX7_isKindOrUnder.cls ≠ "java/lang/invoke/MethodHandle" ∧ yX7_isKindOrUnder.cls ≠ "java/lang/invoke/VarHandle" ∧ (parseMethodDescriptor yX7_isKindOrUnder.desc).map (fun d => d.parameters.length) = some 2 := by decide +kernel
noncomputable def f_X7_forgeKind (S : GS) (o : Nat) (a0 : Option Nat) (a1 : Int32) : Option ((Int32) × GS) :=
  z_mt a0 (z_chk (g_is S 7 o) (z_bd2 (f_X7_refuse S o (10 : Int32)) fun r_3 S_2 => some (r_3, S_2))) fun a_1 => z_bd (g_i S 1 1 a_1) fun f_4 => z_bd (f_X7_isKindOrUnder S f_4 a1) fun r_5 => if r_5 = 0 then z_chk (g_is S 7 o) (z_bd2 (f_X7_refuse S o (11 : Int32)) fun r_7 S_6 => some (r_7, S_6)) else z_bd (g_i S 1 1 a_1) fun f_8 => z_chk (g_is S 7 o) (z_bd2 (f_X7_done S o f_8) fun r_10 S_9 => some (r_10, S_9))
set_option maxHeartbeats 4000000 in
set_option maxRecDepth 100000 in
theorem mt_X7_forgeKind (l : Launch) (D : va_G) (cs : Nat → ClassId) (A : Nat → Prop) (S : GS) (o : Nat) (a0 : Option Nat) (a1 : Int32) {r_ : Int32} {N_ : GS} (h : f_X7_forgeKind S o a0 a1 = some (r_, N_)) : Met l yX7_forgeKind (z_wd yX7_forgeKind cX7_forgeKind 3 (some .int)) (z_rmA 1 39 0 0) (va_Pc [.ref o, va_rf a0, .int a1] (g_C D cs A S)) (g_Q (some (.int r_)) N_ D cs A) 0 0 A := by
  refine Met.ofW (cc := cX7_forgeKind) (maxL := 3) (ret := (some .int)) (by decide) rfl ?_
  intro p e s m args below meth c s₁ B hml hv
  obtain ⟨hav, hP0, hK, hN, hSt, hAn⟩ := hv
  have hx := B.exec
  have hb := B.bytes
  have hr := B.returns
  have hts := atoms_spec (ws := z_wd yX7_forgeKind cX7_forgeKind 3 (some .int)) B.pre
  have hown : s.vm.findClass RX7 = some m.cls := findClass_of_methodNamed B.named
  have hlocks := B.notSynchronized
  have hc : g_X p s m args c cX7_forgeKind 3 RX7 D cs A := ⟨⟨hx, hb, hml, fun w hw => hts w (List.mem_cons_of_mem _ hw), hown⟩, hK, hN, hSt, hAn⟩
  have hl := lv_entry ([.ref o, va_rf a0, .int a1]) (n := 3) (by cases a0 <;> exact Nat.le_of_ble_eq_true rfl)
  have hE : entryFrame m args 3 = F0 m 0 ((lg_sl ([.ref o, va_rf a0, .int a1]) ++ List.replicate (3 - (lg_sl ([.ref o, va_rf a0, .int a1])).length) Slot.unset).toArray) [] := by rw [hav]; exact lg_entry_eq m _ _
  rw [hE]
  clear hE hav
  generalize (lg_sl ([.ref o, va_rf a0, .int a1]) ++ List.replicate (3 - (lg_sl ([.ref o, va_rf a0, .int a1])).length) Slot.unset).toArray = ls at hl ⊢
  have hl : lv_has ls 3 [(0, .ref o), (1, va_rf a0), (2, .int a1)] := by cases a0 <;> exact hl
  obtain ⟨Q, hQ⟩ : ∃ Q, Q = MQ below (g_Q (some (.int r_)) N_ D cs A) args s 0 0 A := ⟨_, rfl⟩
  rw [← hQ]
  suffices hmain : ∀ (H : Heap) (locs : List Loc), g_P D cs A S H → va_S A s.heap H locs → W p l e (z_rmA 1 39 0 0) s m args below meth c H locs 0 0 Q (F0 m 0 ls []) from hmain s.heap [] hP0 va_S.rf
  clear hP0
  intro H locs hP hS
  unfold f_X7_forgeKind at h
  refine q_aload_n hx hb dX7_forgeKind_0 rfl (lv_at hl 1 rfl) ?_
  rcases a0 with _ | a_1
  · replace h := z_mt_n h
    refine lv_ifnonnullN hx hb dX7_forgeKind_1 ?_
    refine lv_aload_n hx hb dX7_forgeKind_4 rfl (lv_at hl 0 rfl) ?_
    refine lv_bipush (v := 10) hx hb dX7_forgeKind_5 (by decide) ?_
    obtain ⟨ho_7, h⟩ := z_chk_some h
    obtain ⟨vs_, ho_7⟩ := Option.isSome_iff_exists.mp ho_7
    obtain ⟨r_3, S_2, e_7, h⟩ := z_bd2_some h
    refine g_callV (ci := 7) (As := [.int (10 : Int32)]) (rv := (some (.int r_3))) (n := 1) hc hP hS rfl ho_7 (mt_X7_refuse l D cs A S o (10 : Int32) e_7) wM_X7_64 wI_X7_refuse wS_X7_refuse wZ_X7 wC_X7_refuse md_X7_refuse ⟨rfl, rfl, Nat.le_of_ble_eq_true rfl, Nat.le_of_ble_eq_true rfl⟩ rfl hl.1 rfl (Nat.le_of_ble_eq_true rfl) dX7_forgeKind_7 ⟨Nat.le_of_ble_eq_true rfl, Nat.le_of_ble_eq_true rfl⟩ (fun H locs hP hS => ?_)
    show W p l e (z_rmA 1 39 0 0) s m args below meth c H locs (0) (0) Q (F0 m 10 ls [.int r_3])
    cases h
    rw [hQ]
    exact g_reti hc hr hlocks hP hS dX7_forgeKind_10
  · replace h := z_mt_s h
    refine lv_ifnonnull (tgt := 11) hx hb dX7_forgeKind_1 (by decide) ?_
    refine lv_aload_n hx hb dX7_forgeKind_11 rfl (lv_at hl 1 rfl) ?_
    obtain ⟨f_4, ef_4, h⟩ := z_bd_some h
    refine g_getN (ci := 1) (k := 1) (v := .int f_4) hc hP rfl z_inX1 (by decide) wG_X7_176 (g_i_v ef_4) dX7_forgeKind_12 ?_
    refine lv_iload_n hx hb dX7_forgeKind_15 rfl (lv_at hl 2 rfl) ?_
    obtain ⟨r_5, e_16, h⟩ := z_bd_some h
    refine g_callS (As := [.int f_4, .int a1]) (rv := (some (.int r_5))) (n := 2) hc hP hS (mt_X7_isKindOrUnder l D cs A S f_4 a1 e_16) wM_X7_316 wT_X7_isKindOrUnder wZ_X7 wC_X7_isKindOrUnder md_X7_isKindOrUnder ⟨rfl, rfl, Nat.le_of_ble_eq_true rfl, Nat.le_of_ble_eq_true rfl⟩ rfl hl.1 rfl (Nat.le_of_ble_eq_true rfl) dX7_forgeKind_16 ⟨Nat.le_of_ble_eq_true rfl, Nat.le_of_ble_eq_true rfl⟩ (fun H locs hP hS => ?_)
    show W p l e (z_rmA 1 39 0 0) s m args below meth c H locs (0) (0) Q (F0 m 19 ls [.int r_5])
    refine lv_if_eq (tgt := 33) hx hb dX7_forgeKind_19 (by decide) (fun c_19 => ?_) (fun c_19 => ?_)
    · replace h := z_ip_ c_19 h
      refine lv_aload_n hx hb dX7_forgeKind_33 rfl (lv_at hl 0 rfl) ?_
      refine lv_bipush (v := 11) hx hb dX7_forgeKind_34 (by decide) ?_
      obtain ⟨ho_36, h⟩ := z_chk_some h
      obtain ⟨vs_, ho_36⟩ := Option.isSome_iff_exists.mp ho_36
      obtain ⟨r_7, S_6, e_36, h⟩ := z_bd2_some h
      refine g_callV (ci := 7) (As := [.int (11 : Int32)]) (rv := (some (.int r_7))) (n := 1) hc hP hS rfl ho_36 (mt_X7_refuse l D cs A S o (11 : Int32) e_36) wM_X7_64 wI_X7_refuse wS_X7_refuse wZ_X7 wC_X7_refuse md_X7_refuse ⟨rfl, rfl, Nat.le_of_ble_eq_true rfl, Nat.le_of_ble_eq_true rfl⟩ rfl hl.1 rfl (Nat.le_of_ble_eq_true rfl) dX7_forgeKind_36 ⟨Nat.le_of_ble_eq_true rfl, Nat.le_of_ble_eq_true rfl⟩ (fun H locs hP hS => ?_)
      show W p l e (z_rmA 1 39 0 0) s m args below meth c H locs (0) (0) Q (F0 m 39 ls [.int r_7])
      cases h
      rw [hQ]
      exact g_reti hc hr hlocks hP hS dX7_forgeKind_39
    · replace h := z_in_ c_19 h
      refine lv_aload_n hx hb dX7_forgeKind_22 rfl (lv_at hl 0 rfl) ?_
      refine lv_aload_n hx hb dX7_forgeKind_23 rfl (lv_at hl 1 rfl) ?_
      obtain ⟨f_8, ef_8, h⟩ := z_bd_some h
      refine g_getN (ci := 1) (k := 1) (v := .int f_8) hc hP rfl z_inX1 (by decide) wG_X7_176 (g_i_v ef_8) dX7_forgeKind_24 ?_
      obtain ⟨ho_27, h⟩ := z_chk_some h
      obtain ⟨vs_, ho_27⟩ := Option.isSome_iff_exists.mp ho_27
      obtain ⟨r_10, S_9, e_27, h⟩ := z_bd2_some h
      refine g_callV (ci := 7) (As := [.int f_8]) (rv := (some (.int r_10))) (n := 1) hc hP hS rfl ho_27 (mt_X7_done l D cs A S o f_8 e_27) wM_X7_80 wI_X7_done wS_X7_done wZ_X7 wC_X7_done md_X7_done ⟨rfl, rfl, Nat.le_of_ble_eq_true rfl, Nat.le_of_ble_eq_true rfl⟩ rfl hl.1 rfl (Nat.le_of_ble_eq_true rfl) dX7_forgeKind_27 ⟨Nat.le_of_ble_eq_true rfl, Nat.le_of_ble_eq_true rfl⟩ (fun H locs hP hS => ?_)
      show W p l e (z_rmA 1 39 0 0) s m args below meth c H locs (0) (0) Q (F0 m 30 ls [.int r_10])
      refine lv_goto (tgt := 39) hx hb dX7_forgeKind_30 (by decide) ?_
      cases h
      rw [hQ]
      exact g_reti hc hr hlocks hP hS dX7_forgeKind_39
theorem md_X7_forgeKind : yX7_forgeKind.cls ≠ "java/lang/invoke/MethodHandle" ∧ yX7_forgeKind.cls ≠ "java/lang/invoke/VarHandle" ∧ (parseMethodDescriptor yX7_forgeKind.desc).map (fun d => d.parameters.length) = some 2 := by decide +kernel
noncomputable def f_X7_forgeNumber (S : GS) (o : Nat) (a0 : Option Nat) (a1 : Int32) : Option ((Int32) × GS) :=
  z_bd (f_X7_statusOf S a0 (1 : Int32)) fun r_1 => z_mt a0 (z_chk (g_is S 7 o) (z_bd2 (f_X7_refuse S o r_1) fun r_4 S_3 => some (r_4, S_3))) fun a_2 => if r_1 = 0 then z_chk (g_is S 5 a_2) (z_bd (f_X5_has S a_2 a1) fun r_5 => if r_5 = 0 then z_chk (g_is S 7 o) (z_bd2 (f_X7_refuse S o (12 : Int32)) fun r_7 S_6 => some (r_7, S_6)) else z_bd (g_r S 5 1 a_2) fun f_8 => z_bd (g_rI S f_8 a1) fun v_9 => z_chk (g_is S 7 o) (z_bd2 (f_X7_done S o v_9) fun r_11 S_10 => some (r_11, S_10))) else z_chk (g_is S 7 o) (z_bd2 (f_X7_refuse S o r_1) fun r_13 S_12 => some (r_13, S_12))
set_option maxHeartbeats 4000000 in
set_option maxRecDepth 100000 in
theorem mt_X7_forgeNumber (l : Launch) (D : va_G) (cs : Nat → ClassId) (A : Nat → Prop) (S : GS) (o : Nat) (a0 : Option Nat) (a1 : Int32) {r_ : Int32} {N_ : GS} (h : f_X7_forgeNumber S o a0 a1 = some (r_, N_)) : Met l yX7_forgeNumber (z_wd yX7_forgeNumber cX7_forgeNumber 4 (some .int)) (z_rmA 1 37 0 0) (va_Pc [.ref o, va_rf a0, .int a1] (g_C D cs A S)) (g_Q (some (.int r_)) N_ D cs A) 0 0 A := by
  refine Met.ofW (cc := cX7_forgeNumber) (maxL := 4) (ret := (some .int)) (by decide) rfl ?_
  intro p e s m args below meth c s₁ B hml hv
  obtain ⟨hav, hP0, hK, hN, hSt, hAn⟩ := hv
  have hx := B.exec
  have hb := B.bytes
  have hr := B.returns
  have hts := atoms_spec (ws := z_wd yX7_forgeNumber cX7_forgeNumber 4 (some .int)) B.pre
  have hown : s.vm.findClass RX7 = some m.cls := findClass_of_methodNamed B.named
  have hlocks := B.notSynchronized
  have hc : g_X p s m args c cX7_forgeNumber 4 RX7 D cs A := ⟨⟨hx, hb, hml, fun w hw => hts w (List.mem_cons_of_mem _ hw), hown⟩, hK, hN, hSt, hAn⟩
  have hl := lv_entry ([.ref o, va_rf a0, .int a1]) (n := 4) (by cases a0 <;> exact Nat.le_of_ble_eq_true rfl)
  have hE : entryFrame m args 4 = F0 m 0 ((lg_sl ([.ref o, va_rf a0, .int a1]) ++ List.replicate (4 - (lg_sl ([.ref o, va_rf a0, .int a1])).length) Slot.unset).toArray) [] := by rw [hav]; exact lg_entry_eq m _ _
  rw [hE]
  clear hE hav
  generalize (lg_sl ([.ref o, va_rf a0, .int a1]) ++ List.replicate (4 - (lg_sl ([.ref o, va_rf a0, .int a1])).length) Slot.unset).toArray = ls at hl ⊢
  have hl : lv_has ls 4 [(0, .ref o), (1, va_rf a0), (2, .int a1)] := by cases a0 <;> exact hl
  obtain ⟨Q, hQ⟩ : ∃ Q, Q = MQ below (g_Q (some (.int r_)) N_ D cs A) args s 0 0 A := ⟨_, rfl⟩
  rw [← hQ]
  suffices hmain : ∀ (H : Heap) (locs : List Loc), g_P D cs A S H → va_S A s.heap H locs → W p l e (z_rmA 1 37 0 0) s m args below meth c H locs 0 0 Q (F0 m 0 ls []) from hmain s.heap [] hP0 va_S.rf
  clear hP0
  intro H locs hP hS
  unfold f_X7_forgeNumber at h
  refine q_aload_n hx hb dX7_forgeNumber_0 rfl (lv_at hl 1 rfl) ?_
  refine lv_iconst (v := 1) hx hb dX7_forgeNumber_1 (by decide) ?_
  obtain ⟨r_1, e_2, h⟩ := z_bd_some h
  refine g_callS (As := [va_rf a0, .int (1 : Int32)]) (rv := (some (.int r_1))) (n := 2) hc hP hS (mt_X7_statusOf l D cs A S a0 (1 : Int32) e_2) wM_X7_290 wT_X7_statusOf wZ_X7 wC_X7_statusOf md_X7_statusOf ⟨rfl, rfl, Nat.le_of_ble_eq_true rfl, Nat.le_of_ble_eq_true rfl⟩ rfl hl.1 rfl (Nat.le_of_ble_eq_true rfl) dX7_forgeNumber_2 ⟨Nat.le_of_ble_eq_true rfl, Nat.le_of_ble_eq_true rfl⟩ (fun H locs hP hS => ?_)
  show W p l e (z_rmA 1 37 0 0) s m args below meth c H locs (0) (0) Q (F0 m 5 ls [.int r_1])
  refine lv_istore_n (lv' := [(3, .int r_1), (0, .ref o), (1, va_rf a0), (2, .int a1)]) hx hb dX7_forgeNumber_5 rfl hl (by decide) rfl (fun ls hl => ?_)
  refine q_aload_n hx hb dX7_forgeNumber_6 rfl (lv_at hl 2 rfl) ?_
  rcases a0 with _ | a_2
  · replace h := z_mt_n h
    refine lv_ifnullN (tgt := 14) hx hb dX7_forgeNumber_7 (by decide) ?_
    refine lv_aload_n hx hb dX7_forgeNumber_14 rfl (lv_at hl 1 rfl) ?_
    refine lv_iload_n hx hb dX7_forgeNumber_15 rfl (lv_at hl 0 rfl) ?_
    obtain ⟨ho_16, h⟩ := z_chk_some h
    obtain ⟨vs_, ho_16⟩ := Option.isSome_iff_exists.mp ho_16
    obtain ⟨r_4, S_3, e_16, h⟩ := z_bd2_some h
    refine g_callV (ci := 7) (As := [.int r_1]) (rv := (some (.int r_4))) (n := 1) hc hP hS rfl ho_16 (mt_X7_refuse l D cs A S o r_1 e_16) wM_X7_64 wI_X7_refuse wS_X7_refuse wZ_X7 wC_X7_refuse md_X7_refuse ⟨rfl, rfl, Nat.le_of_ble_eq_true rfl, Nat.le_of_ble_eq_true rfl⟩ rfl hl.1 rfl (Nat.le_of_ble_eq_true rfl) dX7_forgeNumber_16 ⟨Nat.le_of_ble_eq_true rfl, Nat.le_of_ble_eq_true rfl⟩ (fun H locs hP hS => ?_)
    show W p l e (z_rmA 1 37 0 0) s m args below meth c H locs (0) (0) Q (F0 m 19 ls [.int r_4])
    cases h
    rw [hQ]
    exact g_reti hc hr hlocks hP hS dX7_forgeNumber_19
  · replace h := z_mt_s h
    refine lv_ifnull hx hb dX7_forgeNumber_7 ?_
    refine lv_iload_n hx hb dX7_forgeNumber_10 rfl (lv_at hl 0 rfl) ?_
    refine lv_if_eq (tgt := 20) hx hb dX7_forgeNumber_11 (by decide) (fun c_11 => ?_) (fun c_11 => ?_)
    · replace h := z_ip_ c_11 h
      refine lv_aload_n hx hb dX7_forgeNumber_20 rfl (lv_at hl 2 rfl) ?_
      refine lv_iload_n hx hb dX7_forgeNumber_21 rfl (lv_at hl 3 rfl) ?_
      obtain ⟨ho_22, h⟩ := z_chk_some h
      obtain ⟨vs_, ho_22⟩ := Option.isSome_iff_exists.mp ho_22
      obtain ⟨r_5, e_22, h⟩ := z_bd_some h
      refine g_callV (ci := 5) (As := [.int a1]) (rv := (some (.int r_5))) (n := 1) hc hP hS rfl ho_22 (mt_X5_has l D cs A S a_2 a1 e_22) wM_X7_286 wI_X5_has wS_X5_has wZ_X5 wC_X5_has md_X5_has ⟨rfl, rfl, Nat.le_of_ble_eq_true rfl, Nat.le_of_ble_eq_true rfl⟩ rfl hl.1 rfl (Nat.le_of_ble_eq_true rfl) dX7_forgeNumber_22 ⟨Nat.le_of_ble_eq_true rfl, Nat.le_of_ble_eq_true rfl⟩ (fun H locs hP hS => ?_)
      show W p l e (z_rmA 1 37 0 0) s m args below meth c H locs (0) (0) Q (F0 m 25 ls [.int r_5])
      refine lv_if_eq (tgt := 41) hx hb dX7_forgeNumber_25 (by decide) (fun c_25 => ?_) (fun c_25 => ?_)
      · replace h := z_ip_ c_25 h
        refine lv_aload_n hx hb dX7_forgeNumber_41 rfl (lv_at hl 1 rfl) ?_
        refine lv_bipush (v := 12) hx hb dX7_forgeNumber_42 (by decide) ?_
        obtain ⟨ho_44, h⟩ := z_chk_some h
        obtain ⟨vs_, ho_44⟩ := Option.isSome_iff_exists.mp ho_44
        obtain ⟨r_7, S_6, e_44, h⟩ := z_bd2_some h
        refine g_callV (ci := 7) (As := [.int (12 : Int32)]) (rv := (some (.int r_7))) (n := 1) hc hP hS rfl ho_44 (mt_X7_refuse l D cs A S o (12 : Int32) e_44) wM_X7_64 wI_X7_refuse wS_X7_refuse wZ_X7 wC_X7_refuse md_X7_refuse ⟨rfl, rfl, Nat.le_of_ble_eq_true rfl, Nat.le_of_ble_eq_true rfl⟩ rfl hl.1 rfl (Nat.le_of_ble_eq_true rfl) dX7_forgeNumber_44 ⟨Nat.le_of_ble_eq_true rfl, Nat.le_of_ble_eq_true rfl⟩ (fun H locs hP hS => ?_)
        show W p l e (z_rmA 1 37 0 0) s m args below meth c H locs (0) (0) Q (F0 m 47 ls [.int r_7])
        cases h
        rw [hQ]
        exact g_reti hc hr hlocks hP hS dX7_forgeNumber_47
      · replace h := z_in_ c_25 h
        refine lv_aload_n hx hb dX7_forgeNumber_28 rfl (lv_at hl 1 rfl) ?_
        refine lv_aload_n hx hb dX7_forgeNumber_29 rfl (lv_at hl 2 rfl) ?_
        obtain ⟨f_8, ef_8, h⟩ := z_bd_some h
        refine g_getN (ci := 5) (k := 1) (v := .ref f_8) hc hP rfl z_inX5 (by decide) wG_X7_287 (g_r_v ef_8) dX7_forgeNumber_30 ?_
        refine lv_iload_n hx hb dX7_forgeNumber_33 rfl (lv_at hl 3 rfl) ?_
        obtain ⟨v_9, ev_9, h⟩ := z_bd_some h
        refine g_iald hc hP ev_9 dX7_forgeNumber_34 ?_
        obtain ⟨ho_35, h⟩ := z_chk_some h
        obtain ⟨vs_, ho_35⟩ := Option.isSome_iff_exists.mp ho_35
        obtain ⟨r_11, S_10, e_35, h⟩ := z_bd2_some h
        refine g_callV (ci := 7) (As := [.int v_9]) (rv := (some (.int r_11))) (n := 1) hc hP hS rfl ho_35 (mt_X7_done l D cs A S o v_9 e_35) wM_X7_80 wI_X7_done wS_X7_done wZ_X7 wC_X7_done md_X7_done ⟨rfl, rfl, Nat.le_of_ble_eq_true rfl, Nat.le_of_ble_eq_true rfl⟩ rfl hl.1 rfl (Nat.le_of_ble_eq_true rfl) dX7_forgeNumber_35 ⟨Nat.le_of_ble_eq_true rfl, Nat.le_of_ble_eq_true rfl⟩ (fun H locs hP hS => ?_)
        show W p l e (z_rmA 1 37 0 0) s m args below meth c H locs (0) (0) Q (F0 m 38 ls [.int r_11])
        refine lv_goto (tgt := 47) hx hb dX7_forgeNumber_38 (by decide) ?_
        cases h
        rw [hQ]
        exact g_reti hc hr hlocks hP hS dX7_forgeNumber_47
    · replace h := z_in_ c_11 h
      refine lv_aload_n hx hb dX7_forgeNumber_14 rfl (lv_at hl 1 rfl) ?_
      refine lv_iload_n hx hb dX7_forgeNumber_15 rfl (lv_at hl 0 rfl) ?_
      obtain ⟨ho_16, h⟩ := z_chk_some h
      obtain ⟨vs_, ho_16⟩ := Option.isSome_iff_exists.mp ho_16
      obtain ⟨r_13, S_12, e_16, h⟩ := z_bd2_some h
      refine g_callV (ci := 7) (As := [.int r_1]) (rv := (some (.int r_13))) (n := 1) hc hP hS rfl ho_16 (mt_X7_refuse l D cs A S o r_1 e_16) wM_X7_64 wI_X7_refuse wS_X7_refuse wZ_X7 wC_X7_refuse md_X7_refuse ⟨rfl, rfl, Nat.le_of_ble_eq_true rfl, Nat.le_of_ble_eq_true rfl⟩ rfl hl.1 rfl (Nat.le_of_ble_eq_true rfl) dX7_forgeNumber_16 ⟨Nat.le_of_ble_eq_true rfl, Nat.le_of_ble_eq_true rfl⟩ (fun H locs hP hS => ?_)
      show W p l e (z_rmA 1 37 0 0) s m args below meth c H locs (0) (0) Q (F0 m 19 ls [.int r_13])
      cases h
      rw [hQ]
      exact g_reti hc hr hlocks hP hS dX7_forgeNumber_19
theorem md_X7_forgeNumber : yX7_forgeNumber.cls ≠ "java/lang/invoke/MethodHandle" ∧ yX7_forgeNumber.cls ≠ "java/lang/invoke/VarHandle" ∧ (parseMethodDescriptor yX7_forgeNumber.desc).map (fun d => d.parameters.length) = some 2 := by decide +kernel
