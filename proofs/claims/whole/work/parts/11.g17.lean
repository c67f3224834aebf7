noncomputable def f_X7_same (S : GS) (o : Nat) (a0 : Int32) (a1 : Int32) : Option (Int32) :=
  z_chk (g_is S 7 o) (z_bd (f_X7_fitAt S o a0) fun q_1 => z_chk (g_is S 7 o) (z_bd (f_X7_fitAt S o a1) fun q_2 => z_mt q_1 (some (-1 : Int32)) fun a_3 => z_mt q_2 (some (-1 : Int32)) fun a_4 => z_bd (g_i S 1 1 a_3) fun f_5 => if f_5 = (4 : Int32) then some (-1 : Int32) else z_bd (g_i S 1 1 a_4) fun f_6 => if f_6 = (4 : Int32) then some (-1 : Int32) else z_chk (g_is S 1 a_3) (z_bd (f_X1_firstPart S a_3 ) fun q_7 => z_chk (g_is S 1 a_4) (z_bd (f_X1_firstPart S a_4 ) fun q_8 => z_bd q_8 fun a_9 => z_bd q_7 fun a_10 => z_chk (g_is S 4 a_10) (z_bd (f_X4_isLike S a_10 a_9) fun r_11 => if r_11 = 0 then some (0 : Int32) else some (1 : Int32))))))
set_option maxHeartbeats 4000000 in
set_option maxRecDepth 100000 in
theorem mt_X7_same (l : Launch) (D : va_G) (cs : Nat → ClassId) (A : Nat → Prop) (S : GS) (o : Nat) (a0 : Int32) (a1 : Int32) {r_ : Int32} (h : f_X7_same S o a0 a1 = some r_) : Met l yX7_same (z_wd yX7_same cX7_same 5 (some .int)) (z_rmA 1 37 0 0) (va_Pc [.ref o, .int a0, .int a1] (g_C D cs A S)) (g_Q (some (.int r_)) S D cs A) 0 0 A := by
  refine Met.ofW (cc := cX7_same) (maxL := 5) (ret := (some .int)) (by decide) rfl ?_
  intro p e s m args below meth c s₁ B hml hv
  obtain ⟨hav, hP0, hK, hN, hSt, hAn⟩ := hv
  have hx := B.exec
  have hb := B.bytes
  have hr := B.returns
  have hts := atoms_spec (ws := z_wd yX7_same cX7_same 5 (some .int)) B.pre
  have hown : s.vm.findClass RX7 = some m.cls := findClass_of_methodNamed B.named
  have hlocks := B.notSynchronized
  have hc : g_X p s m args c cX7_same 5 RX7 D cs A := ⟨⟨hx, hb, hml, fun w hw => hts w (List.mem_cons_of_mem _ hw), hown⟩, hK, hN, hSt, hAn⟩
  have hl := lv_entry ([.ref o, .int a0, .int a1]) (n := 5) (Nat.le_of_ble_eq_true rfl)
  have hE : entryFrame m args 5 = F0 m 0 ((lg_sl ([.ref o, .int a0, .int a1]) ++ List.replicate (5 - (lg_sl ([.ref o, .int a0, .int a1])).length) Slot.unset).toArray) [] := by rw [hav]; exact lg_entry_eq m _ _
  rw [hE]
  clear hE hav
  generalize (lg_sl ([.ref o, .int a0, .int a1]) ++ List.replicate (5 - (lg_sl ([.ref o, .int a0, .int a1])).length) Slot.unset).toArray = ls at hl ⊢
  have hl : lv_has ls 5 [(0, .ref o), (1, .int a0), (2, .int a1)] := hl
  obtain ⟨Q, hQ⟩ : ∃ Q, Q = MQ below (g_Q (some (.int r_)) S D cs A) args s 0 0 A := ⟨_, rfl⟩
  rw [← hQ]
  suffices hmain : ∀ (H : Heap) (locs : List Loc), g_P D cs A S H → va_S A s.heap H locs → W p l e (z_rmA 1 37 0 0) s m args below meth c H locs 0 0 Q (F0 m 0 ls []) from hmain s.heap [] hP0 va_S.rf
  clear hP0
  intro H locs hP hS
  unfold f_X7_same at h
  refine lv_aload_n hx hb dX7_same_0 rfl (lv_at hl 0 rfl) ?_
  refine lv_iload_n hx hb dX7_same_1 rfl (lv_at hl 1 rfl) ?_
  obtain ⟨ho_2, h⟩ := z_chk_some h
  obtain ⟨vs_, ho_2⟩ := Option.isSome_iff_exists.mp ho_2
  obtain ⟨q_1, e_2, h⟩ := z_bd_some h
  refine g_callV (ci := 7) (As := [.int a0]) (rv := (some (va_rf q_1))) (n := 1) hc hP hS rfl ho_2 (mt_X7_fitAt l D cs A S o a0 e_2) wM_X7_172 wI_X7_fitAt wS_X7_fitAt wZ_X7 wC_X7_fitAt md_X7_fitAt ⟨rfl, rfl, Nat.le_of_ble_eq_true rfl, Nat.le_of_ble_eq_true rfl⟩ rfl hl.1 rfl (Nat.le_of_ble_eq_true rfl) dX7_same_2 ⟨Nat.le_of_ble_eq_true rfl, Nat.le_of_ble_eq_true rfl⟩ (fun H locs hP hS => ?_)
  show W p l e (z_rmA 1 37 0 0) s m args below meth c H locs (0) (0) Q (F0 m 5 ls [va_rf q_1])
  refine q_astore_n (lv' := [(3, va_rf q_1), (0, .ref o), (1, .int a0), (2, .int a1)]) hx hb dX7_same_5 rfl hl (by decide) rfl (fun ls hl => ?_)
  refine lv_aload_n hx hb dX7_same_6 rfl (lv_at hl 1 rfl) ?_
  refine lv_iload_n hx hb dX7_same_7 rfl (lv_at hl 3 rfl) ?_
  obtain ⟨ho_8, h⟩ := z_chk_some h
  obtain ⟨vs_, ho_8⟩ := Option.isSome_iff_exists.mp ho_8
  obtain ⟨q_2, e_8, h⟩ := z_bd_some h
  refine g_callV (ci := 7) (As := [.int a1]) (rv := (some (va_rf q_2))) (n := 1) hc hP hS rfl ho_8 (mt_X7_fitAt l D cs A S o a1 e_8) wM_X7_172 wI_X7_fitAt wS_X7_fitAt wZ_X7 wC_X7_fitAt md_X7_fitAt ⟨rfl, rfl, Nat.le_of_ble_eq_true rfl, Nat.le_of_ble_eq_true rfl⟩ rfl hl.1 rfl (Nat.le_of_ble_eq_true rfl) dX7_same_8 ⟨Nat.le_of_ble_eq_true rfl, Nat.le_of_ble_eq_true rfl⟩ (fun H locs hP hS => ?_)
  show W p l e (z_rmA 1 37 0 0) s m args below meth c H locs (0) (0) Q (F0 m 11 ls [va_rf q_2])
  refine q_astore (lv' := [(4, va_rf q_2), (3, va_rf q_1), (0, .ref o), (1, .int a0), (2, .int a1)]) hx hb dX7_same_11 hl (by decide) (by cases q_1 <;> rfl) (fun ls hl => ?_)
  refine q_aload_n hx hb dX7_same_13 rfl (lv_at hl 1 rfl) ?_
  rcases q_1 with _ | a_3
  · replace h := z_mt_n h
    refine lv_ifnullN (tgt := 39) hx hb dX7_same_14 (by decide) ?_
    refine lv_iconst (v := -1) hx hb dX7_same_39 (by decide) ?_
    cases h
    rw [hQ]
    exact g_reti hc hr hlocks hP hS dX7_same_40
  · replace h := z_mt_s h
    refine lv_ifnull hx hb dX7_same_14 ?_
    refine q_aload hx hb dX7_same_17 (lv_at hl 0 rfl) ?_
    rcases q_2 with _ | a_4
    · replace h := z_mt_n h
      refine lv_ifnullN (tgt := 39) hx hb dX7_same_19 (by decide) ?_
      refine lv_iconst (v := -1) hx hb dX7_same_39 (by decide) ?_
      cases h
      rw [hQ]
      exact g_reti hc hr hlocks hP hS dX7_same_40
    · replace h := z_mt_s h
      refine lv_ifnull hx hb dX7_same_19 ?_
      refine lv_aload_n hx hb dX7_same_22 rfl (lv_at hl 1 rfl) ?_
      obtain ⟨f_5, ef_5, h⟩ := z_bd_some h
      refine g_getN (ci := 1) (k := 1) (v := .int f_5) hc hP rfl z_inX1 (by decide) wG_X7_176 (g_i_v ef_5) dX7_same_23 ?_
      refine lv_iconst (v := 4) hx hb dX7_same_26 (by decide) ?_
      refine lv_icmp_eq (tgt := 39) hx hb dX7_same_27 (by decide) (fun c_27 => ?_) (fun c_27 => ?_)
      · replace h := z_ip_ c_27 h
        refine lv_iconst (v := -1) hx hb dX7_same_39 (by decide) ?_
        cases h
        rw [hQ]
        exact g_reti hc hr hlocks hP hS dX7_same_40
      · replace h := z_in_ c_27 h
        refine lv_aload hx hb dX7_same_30 (lv_at hl 0 rfl) ?_
        obtain ⟨f_6, ef_6, h⟩ := z_bd_some h
        refine g_getN (ci := 1) (k := 1) (v := .int f_6) hc hP rfl z_inX1 (by decide) wG_X7_176 (g_i_v ef_6) dX7_same_32 ?_
        refine lv_iconst (v := 4) hx hb dX7_same_35 (by decide) ?_
        refine lv_icmp_ne (tgt := 41) hx hb dX7_same_36 (by decide) (fun c_36 => ?_) (fun c_36 => ?_)
        · replace h := z_in_ c_36 h
          refine lv_aload_n hx hb dX7_same_41 rfl (lv_at hl 1 rfl) ?_
          obtain ⟨ho_42, h⟩ := z_chk_some h
          obtain ⟨vs_, ho_42⟩ := Option.isSome_iff_exists.mp ho_42
          obtain ⟨q_7, e_42, h⟩ := z_bd_some h
          refine g_callV (ci := 1) (As := []) (rv := (some (va_rf q_7))) (n := 0) hc hP hS rfl ho_42 (mt_X1_firstPart l D cs A S a_3  e_42) wM_X7_111 wI_X1_firstPart wS_X1_firstPart wZ_X1 wC_X1_firstPart md_X1_firstPart ⟨rfl, rfl, Nat.le_of_ble_eq_true rfl, Nat.le_of_ble_eq_true rfl⟩ rfl hl.1 rfl (Nat.le_of_ble_eq_true rfl) dX7_same_42 ⟨Nat.le_of_ble_eq_true rfl, Nat.le_of_ble_eq_true rfl⟩ (fun H locs hP hS => ?_)
          show W p l e (z_rmA 1 37 0 0) s m args below meth c H locs (0) (0) Q (F0 m 45 ls [va_rf q_7])
          refine lv_aload hx hb dX7_same_45 (lv_at hl 0 rfl) ?_
          obtain ⟨ho_47, h⟩ := z_chk_some h
          obtain ⟨vs_, ho_47⟩ := Option.isSome_iff_exists.mp ho_47
          obtain ⟨q_8, e_47, h⟩ := z_bd_some h
          refine g_callV (ci := 1) (As := []) (rv := (some (va_rf q_8))) (n := 0) hc hP hS rfl ho_47 (mt_X1_firstPart l D cs A S a_4  e_47) wM_X7_111 wI_X1_firstPart wS_X1_firstPart wZ_X1 wC_X1_firstPart md_X1_firstPart ⟨rfl, rfl, Nat.le_of_ble_eq_true rfl, Nat.le_of_ble_eq_true rfl⟩ rfl hl.1 rfl (by cases q_7 <;> exact Nat.le_of_ble_eq_true rfl) dX7_same_47 ⟨Nat.le_of_ble_eq_true rfl, Nat.le_of_ble_eq_true rfl⟩ (fun H locs hP hS => ?_)
          show W p l e (z_rmA 1 37 0 0) s m args below meth c H locs (0) (0) Q (F0 m 50 ls [va_rf q_8, va_rf q_7])
          obtain ⟨a_9, ea_9, hu⟩ := z_bd_some h
          clear h
          subst ea_9
          have h := hu
          clear hu
          obtain ⟨a_10, ea_10, hu⟩ := z_bd_some h
          clear h
          subst ea_10
          have h := hu
          clear hu
          obtain ⟨ho_50, h⟩ := z_chk_some h
          obtain ⟨vs_, ho_50⟩ := Option.isSome_iff_exists.mp ho_50
          obtain ⟨r_11, e_50, h⟩ := z_bd_some h
          refine g_callV (ci := 4) (As := [.ref a_9]) (rv := (some (.int r_11))) (n := 1) hc hP hS rfl ho_50 (mt_X4_isLike l D cs A S a_10 a_9 e_50) wM_X7_269 wI_X4_isLike wS_X4_isLike wZ_X4 wC_X4_isLike md_X4_isLike ⟨rfl, rfl, Nat.le_of_ble_eq_true rfl, Nat.le_of_ble_eq_true rfl⟩ rfl hl.1 rfl (Nat.le_of_ble_eq_true rfl) dX7_same_50 ⟨Nat.le_of_ble_eq_true rfl, Nat.le_of_ble_eq_true rfl⟩ (fun H locs hP hS => ?_)
          show W p l e (z_rmA 1 37 0 0) s m args below meth c H locs (0) (0) Q (F0 m 53 ls [.int r_11])
          refine lv_if_eq (tgt := 60) hx hb dX7_same_53 (by decide) (fun c_53 => ?_) (fun c_53 => ?_)
          · replace h := z_ip_ c_53 h
            refine lv_iconst (v := 0) hx hb dX7_same_60 (by decide) ?_
            cases h
            rw [hQ]
            exact g_reti hc hr hlocks hP hS dX7_same_61
          · replace h := z_in_ c_53 h
            refine lv_iconst (v := 1) hx hb dX7_same_56 (by decide) ?_
            refine lv_goto (tgt := 61) hx hb dX7_same_57 (by decide) ?_
            cases h
            rw [hQ]
            exact g_reti hc hr hlocks hP hS dX7_same_61
        · replace h := z_ip_ c_36 h
          refine lv_iconst (v := -1) hx hb dX7_same_39 (by decide) ?_
          cases h
          rw [hQ]
          exact g_reti hc hr hlocks hP hS dX7_same_40
theorem md_X7_same : yX7_same.cls ≠ "java/lang/invoke/MethodHandle" ∧ yX7_same.cls ≠ "java/lang/invoke/VarHandle" ∧ (parseMethodDescriptor yX7_same.desc).map (fun d => d.parameters.length) = some 2 := by decide +kernel
noncomputable def f_X7_act (S : GS) (o : Nat) (a0 : Int32) (a1 : Int32) (a2 : Int32) : Option ((Int32) × GS) :=
  z_chk (g_is S 7 o) (z_bd (f_X7_fitAt S o a0) fun q_1 => z_mt q_1 (z_chk (g_is S 7 o) (z_bd2 (f_X7_refuse S o (1 : Int32)) fun r_4 S_3 => some (r_4, S_3))) fun a_2 => z_bd (f_X7_isWithin a1 (0 : Int32) (3 : Int32)) fun r_5 => if r_5 = 0 then z_chk (g_is S 7 o) (z_bd2 (f_X7_refuse S o (1 : Int32)) fun r_12 S_11 => some (r_12, S_11)) else z_bd (g_r S 7 5 o) fun f_6 => z_chk (g_is S 0 f_6) (z_bd2 (f_X0_start S f_6 a_2 a1 a2) fun r_8 S_7 => z_chk (g_is S_7 7 o) (z_bd2 (f_X7_done S_7 o r_8) fun r_10 S_9 => some (r_10, S_9))))
set_option maxHeartbeats 4000000 in
set_option maxRecDepth 100000 in
theorem mt_X7_act (l : Launch) (D : va_G) (cs : Nat → ClassId) (A : Nat → Prop) (S : GS) (o : Nat) (a0 : Int32) (a1 : Int32) (a2 : Int32) {r_ : Int32} {N_ : GS} (h : f_X7_act S o a0 a1 a2 = some (r_, N_)) : Met l yX7_act (z_wd yX7_act cX7_act 5 (some .int)) (z_rmA 50 4881 0 0) (va_Pc [.ref o, .int a0, .int a1, .int a2] (g_C D cs A S)) (g_Q (some (.int r_)) N_ D cs A) 0 0 A := by
  refine Met.ofW (cc := cX7_act) (maxL := 5) (ret := (some .int)) (by decide) rfl ?_
  intro p e s m args below meth c s₁ B hml hv
  obtain ⟨hav, hP0, hK, hN, hSt, hAn⟩ := hv
  have hx := B.exec
  have hb := B.bytes
  have hr := B.returns
  have hts := atoms_spec (ws := z_wd yX7_act cX7_act 5 (some .int)) B.pre
  have hown : s.vm.findClass RX7 = some m.cls := findClass_of_methodNamed B.named
  have hlocks := B.notSynchronized
  have hc : g_X p s m args c cX7_act 5 RX7 D cs A := ⟨⟨hx, hb, hml, fun w hw => hts w (List.mem_cons_of_mem _ hw), hown⟩, hK, hN, hSt, hAn⟩
  have hl := lv_entry ([.ref o, .int a0, .int a1, .int a2]) (n := 5) (Nat.le_of_ble_eq_true rfl)
  have hE : entryFrame m args 5 = F0 m 0 ((lg_sl ([.ref o, .int a0, .int a1, .int a2]) ++ List.replicate (5 - (lg_sl ([.ref o, .int a0, .int a1, .int a2])).length) Slot.unset).toArray) [] := by rw [hav]; exact lg_entry_eq m _ _
  rw [hE]
  clear hE hav
  generalize (lg_sl ([.ref o, .int a0, .int a1, .int a2]) ++ List.replicate (5 - (lg_sl ([.ref o, .int a0, .int a1, .int a2])).length) Slot.unset).toArray = ls at hl ⊢
  have hl : lv_has ls 5 [(0, .ref o), (1, .int a0), (2, .int a1), (3, .int a2)] := hl
  obtain ⟨Q, hQ⟩ : ∃ Q, Q = MQ below (g_Q (some (.int r_)) N_ D cs A) args s 0 0 A := ⟨_, rfl⟩
  rw [← hQ]
  suffices hmain : ∀ (H : Heap) (locs : List Loc), g_P D cs A S H → va_S A s.heap H locs → W p l e (z_rmA 50 4881 0 0) s m args below meth c H locs 0 0 Q (F0 m 0 ls []) from hmain s.heap [] hP0 va_S.rf
  clear hP0
  intro H locs hP hS
  unfold f_X7_act at h
  refine lv_aload_n hx hb dX7_act_0 rfl (lv_at hl 0 rfl) ?_
  refine lv_iload_n hx hb dX7_act_1 rfl (lv_at hl 1 rfl) ?_
  obtain ⟨ho_2, h⟩ := z_chk_some h
  obtain ⟨vs_, ho_2⟩ := Option.isSome_iff_exists.mp ho_2
  obtain ⟨q_1, e_2, h⟩ := z_bd_some h
  refine g_callV (ci := 7) (As := [.int a0]) (rv := (some (va_rf q_1))) (n := 1) hc hP hS rfl ho_2 (mt_X7_fitAt l D cs A S o a0 e_2) wM_X7_172 wI_X7_fitAt wS_X7_fitAt wZ_X7 wC_X7_fitAt md_X7_fitAt ⟨rfl, rfl, Nat.le_of_ble_eq_true rfl, Nat.le_of_ble_eq_true rfl⟩ rfl hl.1 rfl (Nat.le_of_ble_eq_true rfl) dX7_act_2 ⟨Nat.le_of_ble_eq_true rfl, Nat.le_of_ble_eq_true rfl⟩ (fun H locs hP hS => ?_)
  show W p l e (z_rmA 50 4881 0 0) s m args below meth c H locs (0) (0) Q (F0 m 5 ls [va_rf q_1])
  refine q_astore (lv' := [(4, va_rf q_1), (0, .ref o), (1, .int a0), (2, .int a1), (3, .int a2)]) hx hb dX7_act_5 hl (by decide) rfl (fun ls hl => ?_)
  refine q_aload hx hb dX7_act_7 (lv_at hl 0 rfl) ?_
  rcases q_1 with _ | a_2
  · replace h := z_mt_n h
    refine lv_ifnullN (tgt := 21) hx hb dX7_act_9 (by decide) ?_
    refine lv_aload_n hx hb dX7_act_21 rfl (lv_at hl 1 rfl) ?_
    refine lv_iconst (v := 1) hx hb dX7_act_22 (by decide) ?_
    obtain ⟨ho_23, h⟩ := z_chk_some h
    obtain ⟨vs_, ho_23⟩ := Option.isSome_iff_exists.mp ho_23
    obtain ⟨r_4, S_3, e_23, h⟩ := z_bd2_some h
    refine g_callV (ci := 7) (As := [.int (1 : Int32)]) (rv := (some (.int r_4))) (n := 1) hc hP hS rfl ho_23 (mt_X7_refuse l D cs A S o (1 : Int32) e_23) wM_X7_64 wI_X7_refuse wS_X7_refuse wZ_X7 wC_X7_refuse md_X7_refuse ⟨rfl, rfl, Nat.le_of_ble_eq_true rfl, Nat.le_of_ble_eq_true rfl⟩ rfl hl.1 rfl (Nat.le_of_ble_eq_true rfl) dX7_act_23 ⟨Nat.le_of_ble_eq_true rfl, Nat.le_of_ble_eq_true rfl⟩ (fun H locs hP hS => ?_)
    show W p l e (z_rmA 50 4881 0 0) s m args below meth c H locs (0) (0) Q (F0 m 26 ls [.int r_4])
    cases h
    rw [hQ]
    exact g_reti hc hr hlocks hP hS dX7_act_26
  · replace h := z_mt_s h
    refine lv_ifnull hx hb dX7_act_9 ?_
    refine lv_iload_n hx hb dX7_act_12 rfl (lv_at hl 3 rfl) ?_
    refine lv_iconst (v := 0) hx hb dX7_act_13 (by decide) ?_
    refine lv_iconst (v := 3) hx hb dX7_act_14 (by decide) ?_
    obtain ⟨r_5, er_5, h⟩ := z_bd_some h
    refine s_calli (As := [.int a1, .int (0 : Int32), .int (3 : Int32)]) (r := r_5) (n := 3) hc.1 (mt_X7_isWithin l a1 (0 : Int32) (3 : Int32) er_5) wM_X7_101 wT_X7_isWithin wZ_X7 wC_X7_isWithin md_X7_isWithin ⟨rfl, rfl, Nat.le_of_ble_eq_true rfl, Nat.le_of_ble_eq_true rfl⟩ rfl hl.1 rfl (Nat.le_of_ble_eq_true rfl) dX7_act_15 ⟨Nat.le_of_ble_eq_true rfl, Nat.le_of_ble_eq_true rfl⟩ ?_
    refine lv_if_ne (tgt := 27) hx hb dX7_act_18 (by decide) (fun c_18 => ?_) (fun c_18 => ?_)
    · replace h := z_in_ c_18 h
      refine lv_aload_n hx hb dX7_act_27 rfl (lv_at hl 1 rfl) ?_
      refine lv_aload_n hx hb dX7_act_28 rfl (lv_at hl 1 rfl) ?_
      obtain ⟨f_6, ef_6, h⟩ := z_bd_some h
      refine g_get (ci := 7) (k := 5) (v := .ref f_6) hc hP rfl z_inX7 (by decide) wF_X7_44 (g_r_v ef_6) dX7_act_29 ?_
      refine lv_aload hx hb dX7_act_32 (lv_at hl 0 rfl) ?_
      refine lv_iload_n hx hb dX7_act_34 rfl (lv_at hl 3 rfl) ?_
      refine lv_iload_n hx hb dX7_act_35 rfl (lv_at hl 4 rfl) ?_
      obtain ⟨ho_36, h⟩ := z_chk_some h
      obtain ⟨vs_, ho_36⟩ := Option.isSome_iff_exists.mp ho_36
      obtain ⟨r_8, S_7, e_36, h⟩ := z_bd2_some h
      refine g_callV (ci := 0) (As := [.ref a_2, .int a1, .int a2]) (rv := (some (.int r_8))) (n := 3) hc hP hS rfl ho_36 (mt_X0_start l D cs A S f_6 a_2 a1 a2 e_36) wM_X7_273 wI_X0_start wS_X0_start wZ_X0 wC_X0_start md_X0_start ⟨rfl, rfl, Nat.le_of_ble_eq_true rfl, Nat.le_of_ble_eq_true rfl⟩ rfl hl.1 rfl (Nat.le_of_ble_eq_true rfl) dX7_act_36 ⟨Nat.le_of_ble_eq_true rfl, Nat.le_of_ble_eq_true rfl⟩ (fun H locs hP hS => ?_)
      show W p l e (z_rmA 50 4881 0 0) s m args below meth c H locs (0) (0) Q (F0 m 39 ls [.int r_8, .ref o])
      obtain ⟨ho_39, h⟩ := z_chk_some h
      obtain ⟨vs_, ho_39⟩ := Option.isSome_iff_exists.mp ho_39
      obtain ⟨r_10, S_9, e_39, h⟩ := z_bd2_some h
      refine g_callV (ci := 7) (As := [.int r_8]) (rv := (some (.int r_10))) (n := 1) hc hP hS rfl ho_39 (mt_X7_done l D cs A S_7 o r_8 e_39) wM_X7_80 wI_X7_done wS_X7_done wZ_X7 wC_X7_done md_X7_done ⟨rfl, rfl, Nat.le_of_ble_eq_true rfl, Nat.le_of_ble_eq_true rfl⟩ rfl hl.1 rfl (Nat.le_of_ble_eq_true rfl) dX7_act_39 ⟨Nat.le_of_ble_eq_true rfl, Nat.le_of_ble_eq_true rfl⟩ (fun H locs hP hS => ?_)
      show W p l e (z_rmA 50 4881 0 0) s m args below meth c H locs (0) (0) Q (F0 m 42 ls [.int r_10])
      cases h
      rw [hQ]
      exact g_reti hc hr hlocks hP hS dX7_act_42
    · replace h := z_ip_ c_18 h
      refine lv_aload_n hx hb dX7_act_21 rfl (lv_at hl 1 rfl) ?_
      refine lv_iconst (v := 1) hx hb dX7_act_22 (by decide) ?_
      obtain ⟨ho_23, h⟩ := z_chk_some h
      obtain ⟨vs_, ho_23⟩ := Option.isSome_iff_exists.mp ho_23
      obtain ⟨r_12, S_11, e_23, h⟩ := z_bd2_some h
      refine g_callV (ci := 7) (As := [.int (1 : Int32)]) (rv := (some (.int r_12))) (n := 1) hc hP hS rfl ho_23 (mt_X7_refuse l D cs A S o (1 : Int32) e_23) wM_X7_64 wI_X7_refuse wS_X7_refuse wZ_X7 wC_X7_refuse md_X7_refuse ⟨rfl, rfl, Nat.le_of_ble_eq_true rfl, Nat.le_of_ble_eq_true rfl⟩ rfl hl.1 rfl (Nat.le_of_ble_eq_true rfl) dX7_act_23 ⟨Nat.le_of_ble_eq_true rfl, Nat.le_of_ble_eq_true rfl⟩ (fun H locs hP hS => ?_)
      show W p l e (z_rmA 50 4881 0 0) s m args below meth c H locs (0) (0) Q (F0 m 26 ls [.int r_12])
      cases h
      rw [hQ]
      exact g_reti hc hr hlocks hP hS dX7_act_26
theorem md_X7_act : yX7_act.cls ≠ "java/lang/invoke/MethodHandle" ∧ yX7_act.cls ≠ "java/lang/invoke/VarHandle" ∧ (parseMethodDescriptor yX7_act.desc).map (fun d => d.parameters.length) = some 3 := by decide +kernel
noncomputable def f_X7_trace (S : GS) (o : Nat) (a0 : Int32) : Option (Int32) :=
  if a0 < 0 then some (-1 : Int32) else z_bd (g_r S 7 5 o) fun f_1 => z_bd (g_i S 0 1 f_1) fun f_2 => if f_2 ≤ a0 then some (-1 : Int32) else if (50 : Int32) ≤ a0 then some (-1 : Int32) else z_bd (g_r S 7 5 o) fun f_3 => z_bd (g_r S 0 0 f_3) fun f_4 => z_bd (g_rI S f_4 a0) fun v_5 => some v_5
set_option maxHeartbeats 4000000 in
set_option maxRecDepth 100000 in
theorem mt_X7_trace (l : Launch) (D : va_G) (cs : Nat → ClassId) (A : Nat → Prop) (S : GS) (o : Nat) (a0 : Int32) {r_ : Int32} (h : f_X7_trace S o a0 = some r_) : Met l yX7_trace (z_wd yX7_trace cX7_trace 2 (some .int)) (z_rmA 0 0 0 0) (va_Pc [.ref o, .int a0] (g_C D cs A S)) (g_Q (some (.int r_)) S D cs A) 0 0 A := by
  refine Met.ofW (cc := cX7_trace) (maxL := 2) (ret := (some .int)) (by decide) rfl ?_
  intro p e s m args below meth c s₁ B hml hv
  obtain ⟨hav, hP0, hK, hN, hSt, hAn⟩ := hv
  have hx := B.exec
  have hb := B.bytes
  have hr := B.returns
  have hts := atoms_spec (ws := z_wd yX7_trace cX7_trace 2 (some .int)) B.pre
  have hown : s.vm.findClass RX7 = some m.cls := findClass_of_methodNamed B.named
  have hlocks := B.notSynchronized
  have hc : g_X p s m args c cX7_trace 2 RX7 D cs A := ⟨⟨hx, hb, hml, fun w hw => hts w (List.mem_cons_of_mem _ hw), hown⟩, hK, hN, hSt, hAn⟩
  have hl := lv_entry ([.ref o, .int a0]) (n := 2) (Nat.le_of_ble_eq_true rfl)
  have hE : entryFrame m args 2 = F0 m 0 ((lg_sl ([.ref o, .int a0]) ++ List.replicate (2 - (lg_sl ([.ref o, .int a0])).length) Slot.unset).toArray) [] := by rw [hav]; exact lg_entry_eq m _ _
  rw [hE]
  clear hE hav
  generalize (lg_sl ([.ref o, .int a0]) ++ List.replicate (2 - (lg_sl ([.ref o, .int a0])).length) Slot.unset).toArray = ls at hl ⊢
  have hl : lv_has ls 2 [(0, .ref o), (1, .int a0)] := hl
  obtain ⟨Q, hQ⟩ : ∃ Q, Q = MQ below (g_Q (some (.int r_)) S D cs A) args s 0 0 A := ⟨_, rfl⟩
  rw [← hQ]
  suffices hmain : ∀ (H : Heap) (locs : List Loc), g_P D cs A S H → va_S A s.heap H locs → W p l e (z_rmA 0 0 0 0) s m args below meth c H locs 0 0 Q (F0 m 0 ls []) from hmain s.heap [] hP0 va_S.rf
  clear hP0
  intro H locs hP hS
  unfold f_X7_trace at h
  refine lv_iload_n hx hb dX7_trace_0 rfl (lv_at hl 1 rfl) ?_
  refine lv_if_lt (tgt := 33) hx hb dX7_trace_1 (by decide) (fun c_1 => ?_) (fun c_1 => ?_)
  · replace h := z_ip_ c_1 h
    refine lv_iconst (v := -1) hx hb dX7_trace_33 (by decide) ?_
    cases h
    rw [hQ]
    exact g_reti hc hr hlocks hP hS dX7_trace_34
  · replace h := z_in_ c_1 h
    refine lv_iload_n hx hb dX7_trace_4 rfl (lv_at hl 1 rfl) ?_
    refine lv_aload_n hx hb dX7_trace_5 rfl (lv_at hl 0 rfl) ?_
    obtain ⟨f_1, ef_1, h⟩ := z_bd_some h
    refine g_get (ci := 7) (k := 5) (v := .ref f_1) hc hP rfl z_inX7 (by decide) wF_X7_44 (g_r_v ef_1) dX7_trace_6 ?_
    obtain ⟨f_2, ef_2, h⟩ := z_bd_some h
    refine g_getN (ci := 0) (k := 1) (v := .int f_2) hc hP rfl z_inX0 (by decide) wG_X7_169 (g_i_v ef_2) dX7_trace_9 ?_
    refine lv_icmp_ge (tgt := 33) hx hb dX7_trace_12 (by decide) (fun c_12 => ?_) (fun c_12 => ?_)
    · replace h := z_ip_ c_12 h
      refine lv_iconst (v := -1) hx hb dX7_trace_33 (by decide) ?_
      cases h
      rw [hQ]
      exact g_reti hc hr hlocks hP hS dX7_trace_34
    · replace h := z_in_ c_12 h
      refine lv_iload_n hx hb dX7_trace_15 rfl (lv_at hl 1 rfl) ?_
      refine lv_bipush (v := 50) hx hb dX7_trace_16 (by decide) ?_
      refine lv_icmp_ge (tgt := 33) hx hb dX7_trace_18 (by decide) (fun c_18 => ?_) (fun c_18 => ?_)
      · replace h := z_ip_ c_18 h
        refine lv_iconst (v := -1) hx hb dX7_trace_33 (by decide) ?_
        cases h
        rw [hQ]
        exact g_reti hc hr hlocks hP hS dX7_trace_34
      · replace h := z_in_ c_18 h
        refine lv_aload_n hx hb dX7_trace_21 rfl (lv_at hl 0 rfl) ?_
        obtain ⟨f_3, ef_3, h⟩ := z_bd_some h
        refine g_get (ci := 7) (k := 5) (v := .ref f_3) hc hP rfl z_inX7 (by decide) wF_X7_44 (g_r_v ef_3) dX7_trace_22 ?_
        obtain ⟨f_4, ef_4, h⟩ := z_bd_some h
        refine g_getN (ci := 0) (k := 0) (v := .ref f_4) hc hP rfl z_inX0 (by decide) wG_X7_277 (g_r_v ef_4) dX7_trace_25 ?_
        refine lv_iload_n hx hb dX7_trace_28 rfl (lv_at hl 1 rfl) ?_
        obtain ⟨v_5, ev_5, h⟩ := z_bd_some h
        refine g_iald hc hP ev_5 dX7_trace_29 ?_
        refine lv_goto (tgt := 34) hx hb dX7_trace_30 (by decide) ?_
        cases h
        rw [hQ]
        exact g_reti hc hr hlocks hP hS dX7_trace_34
theorem md_X7_trace : yX7_trace.cls ≠ "java/lang/invoke/MethodHandle" ∧ yX7_trace.cls ≠ "java/lang/invoke/VarHandle" ∧ (parseMethodDescriptor yX7_trace.desc).map (fun d => d.parameters.length) = some 1 := by decide +kernel
noncomputable def f_X7_isSheet (a0 : Int32) : Option (Int32) :=
  if a0 < 0 then some (0 : Int32) else if (4 : Int32) ≤ a0 then some (0 : Int32) else some (1 : Int32)
set_option maxHeartbeats 4000000 in
set_option maxRecDepth 100000 in
theorem mt_X7_isSheet (l : Launch) (a0 : Int32) {r_ : Int32} (h : f_X7_isSheet a0 = some r_) : Met l yX7_isSheet (z_wd yX7_isSheet cX7_isSheet 1 (some .boolean)) (z_rm 0 0) (va_Pc [.int a0] (fun _ => True)) (vp_Si (fun r1 : Int32 => r1 = r_)) 0 0 (fun _ => False) := by
  refine Met.ofW (cc := cX7_isSheet) (maxL := 1) (ret := (some .boolean)) (by decide) rfl ?_
  intro p e s m args below meth c s₁ B hml hv
  obtain ⟨hav, -⟩ := hv
  have hx := B.exec
  have hb := B.bytes
  have hr := B.returns
  have hts := atoms_spec (ws := z_wd yX7_isSheet cX7_isSheet 1 (some .boolean)) B.pre
  have hown : s.vm.findClass RX7 = some m.cls := findClass_of_methodNamed B.named
  have hlocks := B.notSynchronized
  have hc : s_X p s m args c cX7_isSheet 1 RX7 := ⟨hx, hb, hml, fun w hw => hts w (List.mem_cons_of_mem _ hw), hown⟩
  have hl := lv_entry ([.int a0]) (n := 1) (Nat.le_of_ble_eq_true rfl)
  have hE : entryFrame m args 1 = F0 m 0 ((lg_sl ([.int a0]) ++ List.replicate (1 - (lg_sl ([.int a0])).length) Slot.unset).toArray) [] := by rw [hav]; exact lg_entry_eq m _ _
  rw [hE]
  clear hE hav
  generalize (lg_sl ([.int a0]) ++ List.replicate (1 - (lg_sl ([.int a0])).length) Slot.unset).toArray = ls at hl ⊢
  have hl : lv_has ls 1 [(0, .int a0)] := hl
  obtain ⟨Q, hQ⟩ : ∃ Q, Q = MQ below (vp_Si (fun r1 : Int32 => r1 = r_)) args s 0 0 (fun _ => False) := ⟨_, rfl⟩
  rw [← hQ]
  show W p l e (z_rm 0 0) s m args below meth c s.heap [] 0 0 Q (F0 m 0 ls [])
  unfold f_X7_isSheet at h
  refine lv_iload_n hx hb dX7_isSheet_0 rfl (lv_at hl 0 rfl) ?_
  refine lv_if_lt (tgt := 13) hx hb dX7_isSheet_1 (by decide) (fun c_1 => ?_) (fun c_1 => ?_)
  · replace h := z_ip_ c_1 h
    refine lv_iconst (v := 0) hx hb dX7_isSheet_13 (by decide) ?_
    cases h
    rw [hQ]
    exact s_retz hc hr hlocks (by decide) dX7_isSheet_14
  · replace h := z_in_ c_1 h
    refine lv_iload_n hx hb dX7_isSheet_4 rfl (lv_at hl 0 rfl) ?_
    refine lv_iconst (v := 4) hx hb dX7_isSheet_5 (by decide) ?_
    refine lv_icmp_ge (tgt := 13) hx hb dX7_isSheet_6 (by decide) (fun c_6 => ?_) (fun c_6 => ?_)
    · replace h := z_ip_ c_6 h
      refine lv_iconst (v := 0) hx hb dX7_isSheet_13 (by decide) ?_
      cases h
      rw [hQ]
      exact s_retz hc hr hlocks (by decide) dX7_isSheet_14
    · replace h := z_in_ c_6 h
      refine lv_iconst (v := 1) hx hb dX7_isSheet_9 (by decide) ?_
      refine lv_goto (tgt := 14) hx hb dX7_isSheet_10 (by decide) ?_
      cases h
      rw [hQ]
      exact s_retz hc hr hlocks (by decide) dX7_isSheet_14
theorem md_X7_isSheet : yX7_isSheet.cls ≠ "java/lang/invoke/MethodHandle" ∧ yX7_isSheet.cls ≠ "java/lang/invoke/VarHandle" ∧ (parseMethodDescriptor yX7_isSheet.desc).map (fun d => d.parameters.length) = some 1 := by decide +kernel
noncomputable def f_X7_sheet (S : GS) (o : Nat) (a0 : Int32) (a1 : Int32) (a2 : Int32) : Option ((Int32) × GS) :=
  z_bd (if a1 = (-1 : Int32) then some ((0 : Int32)) else some ((1 : Int32))) fun v_1 => z_bd (f_X7_isSheet a0) fun r_2 => if r_2 = 0 then z_chk (g_is S 7 o) (z_bd2 (f_X7_refuse S o (1 : Int32)) fun r_4 S_3 => some (r_4, S_3)) else z_bd (f_X7_isWithin a1 (-1 : Int32) (2 : Int32)) fun r_5 => if r_5 = 0 then z_chk (g_is S 7 o) (z_bd2 (f_X7_refuse S o (1 : Int32)) fun r_7 S_6 => some (r_7, S_6)) else if v_1 = 0 then z_bd (g_r S 7 2 o) fun f_8 => z_bd2 (if v_1 = 0 then some (none, S) else z_lt (g_nw S (.inr (.inr (.inr (5, [.int 0, .null]))))) fun S_11 => z_bd (f_X5_init S_11 S.2 a1 a2) fun S_12 => some ((some S.2), S_12)) fun v_9 S_10 => z_mt v_9 (z_bd (g_wQ S_10 2 f_8 a0 none) fun S_14 => z_chk (g_is S_14 7 o) (z_bd2 (f_X7_done S_14 o (1 : Int32)) fun r_16 S_15 => some (r_16, S_15))) fun a_13 => z_chk (g_is S_10 5 a_13) (z_bd (g_wQ S_10 2 f_8 a0 (some a_13)) fun S_17 => z_chk (g_is S_17 7 o) (z_bd2 (f_X7_done S_17 o (1 : Int32)) fun r_19 S_18 => some (r_19, S_18))) else z_bd (f_X7_isWithin a2 (0 : Int32) (40 : Int32)) fun r_20 => if r_20 = 0 then z_chk (g_is S 7 o) (z_bd2 (f_X7_refuse S o (1 : Int32)) fun r_34 S_33 => some (r_34, S_33)) else z_bd (g_r S 7 2 o) fun f_21 => z_bd2 (if v_1 = 0 then some (none, S) else z_lt (g_nw S (.inr (.inr (.inr (5, [.int 0, .null]))))) fun S_24 => z_bd (f_X5_init S_24 S.2 a1 a2) fun S_25 => some ((some S.2), S_25)) fun v_22 S_23 => z_mt v_22 (z_bd (g_wQ S_23 2 f_21 a0 none) fun S_27 => z_chk (g_is S_27 7 o) (z_bd2 (f_X7_done S_27 o (1 : Int32)) fun r_29 S_28 => some (r_29, S_28))) fun a_26 => z_chk (g_is S_23 5 a_26) (z_bd (g_wQ S_23 2 f_21 a0 (some a_26)) fun S_30 => z_chk (g_is S_30 7 o) (z_bd2 (f_X7_done S_30 o (1 : Int32)) fun r_32 S_31 => some (r_32, S_31)))
set_option maxHeartbeats 4000000 in
set_option maxRecDepth 100000 in
theorem mt_X7_sheet (l : Launch) (D : va_G) (cs : Nat → ClassId) (A : Nat → Prop) (S : GS) (o : Nat) (a0 : Int32) (a1 : Int32) (a2 : Int32) {r_ : Int32} {N_ : GS} (h : f_X7_sheet S o a0 a1 a2 = some (r_, N_)) : Met l yX7_sheet (z_wd yX7_sheet cX7_sheet 5 (some .int)) (z_rmA 2 78 2 42) (va_Pc [.ref o, .int a0, .int a1, .int a2] (g_C D cs A S)) (g_Q (some (.int r_)) N_ D cs A) 2 42 A := by
  refine Met.ofW (cc := cX7_sheet) (maxL := 5) (ret := (some .int)) (by decide) rfl ?_
  intro p e s m args below meth c s₁ B hml hv
  obtain ⟨hav, hP0, hK, hN, hSt, hAn⟩ := hv
  have hx := B.exec
  have hb := B.bytes
  have hr := B.returns
  have hts := atoms_spec (ws := z_wd yX7_sheet cX7_sheet 5 (some .int)) B.pre
  have hown : s.vm.findClass RX7 = some m.cls := findClass_of_methodNamed B.named
  have hlocks := B.notSynchronized
  have hc : g_X p s m args c cX7_sheet 5 RX7 D cs A := ⟨⟨hx, hb, hml, fun w hw => hts w (List.mem_cons_of_mem _ hw), hown⟩, hK, hN, hSt, hAn⟩
  have hl := lv_entry ([.ref o, .int a0, .int a1, .int a2]) (n := 5) (Nat.le_of_ble_eq_true rfl)
  have hE : entryFrame m args 5 = F0 m 0 ((lg_sl ([.ref o, .int a0, .int a1, .int a2]) ++ List.replicate (5 - (lg_sl ([.ref o, .int a0, .int a1, .int a2])).length) Slot.unset).toArray) [] := by rw [hav]; exact lg_entry_eq m _ _
  rw [hE]
  clear hE hav
  generalize (lg_sl ([.ref o, .int a0, .int a1, .int a2]) ++ List.replicate (5 - (lg_sl ([.ref o, .int a0, .int a1, .int a2])).length) Slot.unset).toArray = ls at hl ⊢
  have hl : lv_has ls 5 [(0, .ref o), (1, .int a0), (2, .int a1), (3, .int a2)] := hl
  obtain ⟨Q, hQ⟩ : ∃ Q, Q = MQ below (g_Q (some (.int r_)) N_ D cs A) args s 2 42 A := ⟨_, rfl⟩
  rw [← hQ]
  suffices hmain : ∀ (H : Heap) (locs : List Loc), g_P D cs A S H → va_S A s.heap H locs → W p l e (z_rmA 2 78 2 42) s m args below meth c H locs 0 0 Q (F0 m 0 ls []) from hmain s.heap [] hP0 va_S.rf
  clear hP0
  intro H locs hP hS
  unfold f_X7_sheet at h
  refine lv_iload_n hx hb dX7_sheet_0 rfl (lv_at hl 2 rfl) ?_
  refine lv_iconst (v := -1) hx hb dX7_sheet_1 (by decide) ?_
  obtain ⟨v_1, hJ, h⟩ := z_bd_some h
  have J_10 : ∀ (H : Heap) (locs : List Loc) (ls : Array Slot), g_P D cs A S H → va_S A s.heap H locs → lv_has ls 5 [(0, .ref o), (1, .int a0), (2, .int a1), (3, .int a2)] → W p l e (z_rmA 2 78 2 42) s m args below meth c H locs (0) (0) Q (F0 m 10 ls [.int v_1]) := by
    intro H locs ls hP hS hl
    refine lv_istore (lv' := [(4, .int v_1), (0, .ref o), (1, .int a0), (2, .int a1), (3, .int a2)]) hx hb dX7_sheet_10 hl (by decide) rfl (fun ls hl => ?_)
    refine lv_iload_n hx hb dX7_sheet_12 rfl (lv_at hl 2 rfl) ?_
    obtain ⟨r_2, er_2, h⟩ := z_bd_some h
    refine s_calli (As := [.int a0]) (r := r_2) (n := 1) hc.1 (mt_X7_isSheet l a0 er_2) wM_X7_280 wT_X7_isSheet wZ_X7 wC_X7_isSheet md_X7_isSheet ⟨rfl, rfl, Nat.le_of_ble_eq_true rfl, Nat.le_of_ble_eq_true rfl⟩ rfl hl.1 rfl (Nat.le_of_ble_eq_true rfl) dX7_sheet_13 ⟨Nat.le_of_ble_eq_true rfl, Nat.le_of_ble_eq_true rfl⟩ ?_
    refine lv_if_eq (tgt := 43) hx hb dX7_sheet_16 (by decide) (fun c_16 => ?_) (fun c_16 => ?_)
    · replace h := z_ip_ c_16 h
      refine lv_aload_n hx hb dX7_sheet_43 rfl (lv_at hl 1 rfl) ?_
      refine lv_iconst (v := 1) hx hb dX7_sheet_44 (by decide) ?_
      obtain ⟨ho_45, h⟩ := z_chk_some h
      obtain ⟨vs_, ho_45⟩ := Option.isSome_iff_exists.mp ho_45
      obtain ⟨r_4, S_3, e_45, h⟩ := z_bd2_some h
      refine g_callV (ci := 7) (As := [.int (1 : Int32)]) (rv := (some (.int r_4))) (n := 1) hc hP hS rfl ho_45 (mt_X7_refuse l D cs A S o (1 : Int32) e_45) wM_X7_64 wI_X7_refuse wS_X7_refuse wZ_X7 wC_X7_refuse md_X7_refuse ⟨rfl, rfl, Nat.le_of_ble_eq_true rfl, Nat.le_of_ble_eq_true rfl⟩ rfl hl.1 rfl (Nat.le_of_ble_eq_true rfl) dX7_sheet_45 ⟨Nat.le_of_ble_eq_true rfl, Nat.le_of_ble_eq_true rfl⟩ (fun H locs hP hS => ?_)
      show W p l e (z_rmA 2 78 2 42) s m args below meth c H locs (0) (0) Q (F0 m 48 ls [.int r_4])
      cases h
      rw [hQ]
      refine W.widen (k := 2) (n := 42) (Nat.le_of_ble_eq_true rfl) (Nat.le_of_ble_eq_true rfl) ?_
      exact g_reti hc hr hlocks hP hS dX7_sheet_48
    · replace h := z_in_ c_16 h
      refine lv_iload_n hx hb dX7_sheet_19 rfl (lv_at hl 3 rfl) ?_
      refine lv_iconst (v := -1) hx hb dX7_sheet_20 (by decide) ?_
      refine lv_iconst (v := 2) hx hb dX7_sheet_21 (by decide) ?_
      obtain ⟨r_5, er_5, h⟩ := z_bd_some h
      refine s_calli (As := [.int a1, .int (-1 : Int32), .int (2 : Int32)]) (r := r_5) (n := 3) hc.1 (mt_X7_isWithin l a1 (-1 : Int32) (2 : Int32) er_5) wM_X7_101 wT_X7_isWithin wZ_X7 wC_X7_isWithin md_X7_isWithin ⟨rfl, rfl, Nat.le_of_ble_eq_true rfl, Nat.le_of_ble_eq_true rfl⟩ rfl hl.1 rfl (Nat.le_of_ble_eq_true rfl) dX7_sheet_22 ⟨Nat.le_of_ble_eq_true rfl, Nat.le_of_ble_eq_true rfl⟩ ?_
      refine lv_if_eq (tgt := 43) hx hb dX7_sheet_25 (by decide) (fun c_25 => ?_) (fun c_25 => ?_)
      · replace h := z_ip_ c_25 h
        refine lv_aload_n hx hb dX7_sheet_43 rfl (lv_at hl 1 rfl) ?_
        refine lv_iconst (v := 1) hx hb dX7_sheet_44 (by decide) ?_
        obtain ⟨ho_45, h⟩ := z_chk_some h
        obtain ⟨vs_, ho_45⟩ := Option.isSome_iff_exists.mp ho_45
        obtain ⟨r_7, S_6, e_45, h⟩ := z_bd2_some h
        refine g_callV (ci := 7) (As := [.int (1 : Int32)]) (rv := (some (.int r_7))) (n := 1) hc hP hS rfl ho_45 (mt_X7_refuse l D cs A S o (1 : Int32) e_45) wM_X7_64 wI_X7_refuse wS_X7_refuse wZ_X7 wC_X7_refuse md_X7_refuse ⟨rfl, rfl, Nat.le_of_ble_eq_true rfl, Nat.le_of_ble_eq_true rfl⟩ rfl hl.1 rfl (Nat.le_of_ble_eq_true rfl) dX7_sheet_45 ⟨Nat.le_of_ble_eq_true rfl, Nat.le_of_ble_eq_true rfl⟩ (fun H locs hP hS => ?_)
        show W p l e (z_rmA 2 78 2 42) s m args below meth c H locs (0) (0) Q (F0 m 48 ls [.int r_7])
        cases h
        rw [hQ]
        refine W.widen (k := 2) (n := 42) (Nat.le_of_ble_eq_true rfl) (Nat.le_of_ble_eq_true rfl) ?_
        exact g_reti hc hr hlocks hP hS dX7_sheet_48
      · replace h := z_in_ c_25 h
        refine lv_iload hx hb dX7_sheet_28 (lv_at hl 0 rfl) ?_
        refine lv_if_eq (tgt := 49) hx hb dX7_sheet_30 (by decide) (fun c_30 => ?_) (fun c_30 => ?_)
        · replace h := z_ip_ c_30 h
          refine lv_aload_n hx hb dX7_sheet_49 rfl (lv_at hl 1 rfl) ?_
          obtain ⟨f_8, ef_8, h⟩ := z_bd_some h
          refine g_get (ci := 7) (k := 2) (v := .ref f_8) hc hP rfl z_inX7 (by decide) wF_X7_23 (g_r_v ef_8) dX7_sheet_50 ?_
          refine lv_iload_n hx hb dX7_sheet_53 rfl (lv_at hl 2 rfl) ?_
          refine lv_iload hx hb dX7_sheet_54 (lv_at hl 0 rfl) ?_
          obtain ⟨v_9, S_10, hJ, h⟩ := z_bd2_some h
          have J_72 : ∀ (H : Heap) (locs : List Loc) (ls : Array Slot), g_P D cs A S_10 H → va_S A s.heap H locs → lv_has ls 5 [(0, .ref o)] → W p l e (z_rmA 2 78 2 42) s m args below meth c H locs (2) (42) Q (F0 m 72 ls [va_rf v_9, .int a0, .ref f_8]) := by
            intro H locs ls hP hS hl
            rcases v_9 with _ | a_13
            · replace h := z_mt_n h
              obtain ⟨S_14, eS_14, h⟩ := z_bd_some h
              refine g_aastN (t := 2) hc hP hS rfl eS_14 dX7_sheet_72 (fun H locs hP hS => ?_)
              refine lv_aload_n hx hb dX7_sheet_73 rfl (lv_at hl 0 rfl) ?_
              refine lv_iconst (v := 1) hx hb dX7_sheet_74 (by decide) ?_
              obtain ⟨ho_75, h⟩ := z_chk_some h
              obtain ⟨vs_, ho_75⟩ := Option.isSome_iff_exists.mp ho_75
              obtain ⟨r_16, S_15, e_75, h⟩ := z_bd2_some h
              refine g_callV (ci := 7) (As := [.int (1 : Int32)]) (rv := (some (.int r_16))) (n := 1) hc hP hS rfl ho_75 (mt_X7_done l D cs A S_14 o (1 : Int32) e_75) wM_X7_80 wI_X7_done wS_X7_done wZ_X7 wC_X7_done md_X7_done ⟨rfl, rfl, Nat.le_of_ble_eq_true rfl, Nat.le_of_ble_eq_true rfl⟩ rfl hl.1 rfl (Nat.le_of_ble_eq_true rfl) dX7_sheet_75 ⟨Nat.le_of_ble_eq_true rfl, Nat.le_of_ble_eq_true rfl⟩ (fun H locs hP hS => ?_)
              show W p l e (z_rmA 2 78 2 42) s m args below meth c H locs (2) (42) Q (F0 m 78 ls [.int r_16])
              cases h
              rw [hQ]
              exact g_reti hc hr hlocks hP hS dX7_sheet_78
            · replace h := z_mt_s h
              obtain ⟨ho_72, h⟩ := z_chk_some h
              obtain ⟨vs_, ho_72⟩ := Option.isSome_iff_exists.mp ho_72
              obtain ⟨S_17, eS_17, h⟩ := z_bd_some h
              refine g_aast (t := 2) (ci := 5) hc hP hS rfl rfl ho_72 eS_17 dX7_sheet_72 (fun H locs hP hS => ?_)
              refine lv_aload_n hx hb dX7_sheet_73 rfl (lv_at hl 0 rfl) ?_
              refine lv_iconst (v := 1) hx hb dX7_sheet_74 (by decide) ?_
              obtain ⟨ho_75, h⟩ := z_chk_some h
              obtain ⟨vs_, ho_75⟩ := Option.isSome_iff_exists.mp ho_75
              obtain ⟨r_19, S_18, e_75, h⟩ := z_bd2_some h
              refine g_callV (ci := 7) (As := [.int (1 : Int32)]) (rv := (some (.int r_19))) (n := 1) hc hP hS rfl ho_75 (mt_X7_done l D cs A S_17 o (1 : Int32) e_75) wM_X7_80 wI_X7_done wS_X7_done wZ_X7 wC_X7_done md_X7_done ⟨rfl, rfl, Nat.le_of_ble_eq_true rfl, Nat.le_of_ble_eq_true rfl⟩ rfl hl.1 rfl (Nat.le_of_ble_eq_true rfl) dX7_sheet_75 ⟨Nat.le_of_ble_eq_true rfl, Nat.le_of_ble_eq_true rfl⟩ (fun H locs hP hS => ?_)
              show W p l e (z_rmA 2 78 2 42) s m args below meth c H locs (2) (42) Q (F0 m 78 ls [.int r_19])
              cases h
              rw [hQ]
              exact g_reti hc hr hlocks hP hS dX7_sheet_78
          clear h
          have h := hJ
          clear hJ
          refine lv_if_eq (tgt := 71) hx hb dX7_sheet_56 (by decide) (fun c_56 => ?_) (fun c_56 => ?_)
          · replace h := z_ip_ c_56 h
            refine lv_null hx hb dX7_sheet_71 ?_
            cases h
            refine W.widen (k := 2) (n := 42) (Nat.le_of_ble_eq_true rfl) (Nat.le_of_ble_eq_true rfl) ?_
            exact J_72 H locs ls hP hS (lv_sub hl [1] rfl)
          · replace h := z_in_ c_56 h
            obtain ⟨S_11, eS_11, h⟩ := z_lt_some h
            refine g_new (ci := 5) tyX5 hc hP hS rfl z_inX5 tyX5_ok wK_X7_21 wN_X5 wZ_X5 gd_5 (Nat.le_of_ble_eq_true rfl) (Nat.le_of_ble_eq_true rfl) eS_11 dX7_sheet_59 (fun H hP hS => ?_)
            show W p l e (z_rmA 2 78 2 42) s m args below meth c H locs (1) (2) Q (F0 m 62 ls [.ref S.2, .int a0, .ref f_8])
            refine lv_dup hx hb dX7_sheet_62 rfl ?_
            refine lv_iload_n hx hb dX7_sheet_63 rfl (lv_at hl 3 rfl) ?_
            refine lv_iload_n hx hb dX7_sheet_64 rfl (lv_at hl 4 rfl) ?_
            obtain ⟨S_12, e_65, h⟩ := z_bd_some h
            refine g_callI (As := [.int a1, .int a2]) (rv := none) (n := 2) hc hP hS (mt_X5_init l D cs A S_11 S.2 a1 a2 e_65) wM_X7_283 wI_X5_init rfl wZ_X5 wC_X5_init md_X5_init ⟨rfl, rfl, Nat.le_of_ble_eq_true rfl, Nat.le_of_ble_eq_true rfl⟩ rfl hl.1 rfl (Nat.le_of_ble_eq_true rfl) dX7_sheet_65 ⟨Nat.le_of_ble_eq_true rfl, Nat.le_of_ble_eq_true rfl⟩ (fun H locs hP hS => ?_)
            show W p l e (z_rmA 2 78 2 42) s m args below meth c H locs (2) (42) Q (F0 m 68 ls [.ref S.2, .int a0, .ref f_8])
            refine lv_goto (tgt := 72) hx hb dX7_sheet_68 (by decide) ?_
            cases h
            exact J_72 H locs ls hP hS (lv_sub hl [1] rfl)
        · replace h := z_in_ c_30 h
          refine lv_iload_n hx hb dX7_sheet_33 rfl (lv_at hl 4 rfl) ?_
          refine lv_iconst (v := 0) hx hb dX7_sheet_34 (by decide) ?_
          refine lv_bipush (v := 40) hx hb dX7_sheet_35 (by decide) ?_
          obtain ⟨r_20, er_20, h⟩ := z_bd_some h
          refine s_calli (As := [.int a2, .int (0 : Int32), .int (40 : Int32)]) (r := r_20) (n := 3) hc.1 (mt_X7_isWithin l a2 (0 : Int32) (40 : Int32) er_20) wM_X7_101 wT_X7_isWithin wZ_X7 wC_X7_isWithin md_X7_isWithin ⟨rfl, rfl, Nat.le_of_ble_eq_true rfl, Nat.le_of_ble_eq_true rfl⟩ rfl hl.1 rfl (Nat.le_of_ble_eq_true rfl) dX7_sheet_37 ⟨Nat.le_of_ble_eq_true rfl, Nat.le_of_ble_eq_true rfl⟩ ?_
          refine lv_if_ne (tgt := 49) hx hb dX7_sheet_40 (by decide) (fun c_40 => ?_) (fun c_40 => ?_)
          · replace h := z_in_ c_40 h
            refine lv_aload_n hx hb dX7_sheet_49 rfl (lv_at hl 1 rfl) ?_
            obtain ⟨f_21, ef_21, h⟩ := z_bd_some h
            refine g_get (ci := 7) (k := 2) (v := .ref f_21) hc hP rfl z_inX7 (by decide) wF_X7_23 (g_r_v ef_21) dX7_sheet_50 ?_
            refine lv_iload_n hx hb dX7_sheet_53 rfl (lv_at hl 2 rfl) ?_
            refine lv_iload hx hb dX7_sheet_54 (lv_at hl 0 rfl) ?_
            obtain ⟨v_22, S_23, hJ, h⟩ := z_bd2_some h
            have J_72 : ∀ (H : Heap) (locs : List Loc) (ls : Array Slot), g_P D cs A S_23 H → va_S A s.heap H locs → lv_has ls 5 [(0, .ref o)] → W p l e (z_rmA 2 78 2 42) s m args below meth c H locs (2) (42) Q (F0 m 72 ls [va_rf v_22, .int a0, .ref f_21]) := by
              intro H locs ls hP hS hl
              rcases v_22 with _ | a_26
              · replace h := z_mt_n h
                obtain ⟨S_27, eS_27, h⟩ := z_bd_some h
                refine g_aastN (t := 2) hc hP hS rfl eS_27 dX7_sheet_72 (fun H locs hP hS => ?_)
                refine lv_aload_n hx hb dX7_sheet_73 rfl (lv_at hl 0 rfl) ?_
                refine lv_iconst (v := 1) hx hb dX7_sheet_74 (by decide) ?_
                obtain ⟨ho_75, h⟩ := z_chk_some h
                obtain ⟨vs_, ho_75⟩ := Option.isSome_iff_exists.mp ho_75
                obtain ⟨r_29, S_28, e_75, h⟩ := z_bd2_some h
                refine g_callV (ci := 7) (As := [.int (1 : Int32)]) (rv := (some (.int r_29))) (n := 1) hc hP hS rfl ho_75 (mt_X7_done l D cs A S_27 o (1 : Int32) e_75) wM_X7_80 wI_X7_done wS_X7_done wZ_X7 wC_X7_done md_X7_done ⟨rfl, rfl, Nat.le_of_ble_eq_true rfl, Nat.le_of_ble_eq_true rfl⟩ rfl hl.1 rfl (Nat.le_of_ble_eq_true rfl) dX7_sheet_75 ⟨Nat.le_of_ble_eq_true rfl, Nat.le_of_ble_eq_true rfl⟩ (fun H locs hP hS => ?_)
                show W p l e (z_rmA 2 78 2 42) s m args below meth c H locs (2) (42) Q (F0 m 78 ls [.int r_29])
                cases h
                rw [hQ]
                exact g_reti hc hr hlocks hP hS dX7_sheet_78
              · replace h := z_mt_s h
                obtain ⟨ho_72, h⟩ := z_chk_some h
                obtain ⟨vs_, ho_72⟩ := Option.isSome_iff_exists.mp ho_72
                obtain ⟨S_30, eS_30, h⟩ := z_bd_some h
                refine g_aast (t := 2) (ci := 5) hc hP hS rfl rfl ho_72 eS_30 dX7_sheet_72 (fun H locs hP hS => ?_)
                refine lv_aload_n hx hb dX7_sheet_73 rfl (lv_at hl 0 rfl) ?_
                refine lv_iconst (v := 1) hx hb dX7_sheet_74 (by decide) ?_
                obtain ⟨ho_75, h⟩ := z_chk_some h
                obtain ⟨vs_, ho_75⟩ := Option.isSome_iff_exists.mp ho_75
                obtain ⟨r_32, S_31, e_75, h⟩ := z_bd2_some h
                refine g_callV (ci := 7) (As := [.int (1 : Int32)]) (rv := (some (.int r_32))) (n := 1) hc hP hS rfl ho_75 (mt_X7_done l D cs A S_30 o (1 : Int32) e_75) wM_X7_80 wI_X7_done wS_X7_done wZ_X7 wC_X7_done md_X7_done ⟨rfl, rfl, Nat.le_of_ble_eq_true rfl, Nat.le_of_ble_eq_true rfl⟩ rfl hl.1 rfl (Nat.le_of_ble_eq_true rfl) dX7_sheet_75 ⟨Nat.le_of_ble_eq_true rfl, Nat.le_of_ble_eq_true rfl⟩ (fun H locs hP hS => ?_)
                show W p l e (z_rmA 2 78 2 42) s m args below meth c H locs (2) (42) Q (F0 m 78 ls [.int r_32])
                cases h
                rw [hQ]
                exact g_reti hc hr hlocks hP hS dX7_sheet_78
            clear h
            have h := hJ
            clear hJ
            refine lv_if_eq (tgt := 71) hx hb dX7_sheet_56 (by decide) (fun c_56 => ?_) (fun c_56 => ?_)
            · replace h := z_ip_ c_56 h
              refine lv_null hx hb dX7_sheet_71 ?_
              cases h
              refine W.widen (k := 2) (n := 42) (Nat.le_of_ble_eq_true rfl) (Nat.le_of_ble_eq_true rfl) ?_
              exact J_72 H locs ls hP hS (lv_sub hl [1] rfl)
            · replace h := z_in_ c_56 h
              obtain ⟨S_24, eS_24, h⟩ := z_lt_some h
              refine g_new (ci := 5) tyX5 hc hP hS rfl z_inX5 tyX5_ok wK_X7_21 wN_X5 wZ_X5 gd_5 (Nat.le_of_ble_eq_true rfl) (Nat.le_of_ble_eq_true rfl) eS_24 dX7_sheet_59 (fun H hP hS => ?_)
              show W p l e (z_rmA 2 78 2 42) s m args below meth c H locs (1) (2) Q (F0 m 62 ls [.ref S.2, .int a0, .ref f_21])
              refine lv_dup hx hb dX7_sheet_62 rfl ?_
              refine lv_iload_n hx hb dX7_sheet_63 rfl (lv_at hl 3 rfl) ?_
              refine lv_iload_n hx hb dX7_sheet_64 rfl (lv_at hl 4 rfl) ?_
              obtain ⟨S_25, e_65, h⟩ := z_bd_some h
              refine g_callI (As := [.int a1, .int a2]) (rv := none) (n := 2) hc hP hS (mt_X5_init l D cs A S_24 S.2 a1 a2 e_65) wM_X7_283 wI_X5_init rfl wZ_X5 wC_X5_init md_X5_init ⟨rfl, rfl, Nat.le_of_ble_eq_true rfl, Nat.le_of_ble_eq_true rfl⟩ rfl hl.1 rfl (Nat.le_of_ble_eq_true rfl) dX7_sheet_65 ⟨Nat.le_of_ble_eq_true rfl, Nat.le_of_ble_eq_true rfl⟩ (fun H locs hP hS => ?_)
              show W p l e (z_rmA 2 78 2 42) s m args below meth c H locs (2) (42) Q (F0 m 68 ls [.ref S.2, .int a0, .ref f_21])
              refine lv_goto (tgt := 72) hx hb dX7_sheet_68 (by decide) ?_
              cases h
              exact J_72 H locs ls hP hS (lv_sub hl [1] rfl)
          · replace h := z_ip_ c_40 h
            refine lv_aload_n hx hb dX7_sheet_43 rfl (lv_at hl 1 rfl) ?_
            refine lv_iconst (v := 1) hx hb dX7_sheet_44 (by decide) ?_
            obtain ⟨ho_45, h⟩ := z_chk_some h
            obtain ⟨vs_, ho_45⟩ := Option.isSome_iff_exists.mp ho_45
            obtain ⟨r_34, S_33, e_45, h⟩ := z_bd2_some h
            refine g_callV (ci := 7) (As := [.int (1 : Int32)]) (rv := (some (.int r_34))) (n := 1) hc hP hS rfl ho_45 (mt_X7_refuse l D cs A S o (1 : Int32) e_45) wM_X7_64 wI_X7_refuse wS_X7_refuse wZ_X7 wC_X7_refuse md_X7_refuse ⟨rfl, rfl, Nat.le_of_ble_eq_true rfl, Nat.le_of_ble_eq_true rfl⟩ rfl hl.1 rfl (Nat.le_of_ble_eq_true rfl) dX7_sheet_45 ⟨Nat.le_of_ble_eq_true rfl, Nat.le_of_ble_eq_true rfl⟩ (fun H locs hP hS => ?_)
            show W p l e (z_rmA 2 78 2 42) s m args below meth c H locs (0) (0) Q (F0 m 48 ls [.int r_34])
            cases h
            rw [hQ]
            refine W.widen (k := 2) (n := 42) (Nat.le_of_ble_eq_true rfl) (Nat.le_of_ble_eq_true rfl) ?_
            exact g_reti hc hr hlocks hP hS dX7_sheet_48
  clear h
  have h := hJ
  clear hJ
  refine lv_icmp_eq (tgt := 9) hx hb dX7_sheet_2 (by decide) (fun c_2 => ?_) (fun c_2 => ?_)
  · replace h := z_ip_ c_2 h
    refine lv_iconst (v := 0) hx hb dX7_sheet_9 (by decide) ?_
    cases h
    exact J_10 H locs ls hP hS (lv_sub hl [0, 1, 2, 3] rfl)
  · replace h := z_in_ c_2 h
    refine lv_iconst (v := 1) hx hb dX7_sheet_5 (by decide) ?_
    refine lv_goto (tgt := 10) hx hb dX7_sheet_6 (by decide) ?_
    cases h
    exact J_10 H locs ls hP hS (lv_sub hl [0, 1, 2, 3] rfl)
theorem md_X7_sheet : yX7_sheet.cls ≠ "java/lang/invoke/MethodHandle" ∧ yX7_sheet.cls ≠ "java/lang/invoke/VarHandle" ∧ (parseMethodDescriptor yX7_sheet.desc).map (fun d => d.parameters.length) = some 3 := by decide +kernel
noncomputable def f_X7_cell (S : GS) (o : Nat) (a0 : Int32) (a1 : Int32) (a2 : Int32) : Option ((Int32) × GS) :=
  z_bd (f_X7_isSheet a0) fun r_1 => if r_1 = 0 then z_chk (g_is S 7 o) (z_bd2 (f_X7_refuse S o (1 : Int32)) fun r_3 S_2 => some (r_3, S_2)) else z_bd (f_X7_isWithin a2 (-100 : Int32) (100 : Int32)) fun r_4 => if r_4 = 0 then z_chk (g_is S 7 o) (z_bd2 (f_X7_refuse S o (1 : Int32)) fun r_18 S_17 => some (r_18, S_17)) else z_bd (g_r S 7 2 o) fun f_5 => z_bd (g_rQ S 2 f_5 a0) fun q_6 => z_mt q_6 (z_chk (g_is S 7 o) (z_bd2 (f_X7_refuse S o (10 : Int32)) fun r_9 S_8 => some (r_9, S_8))) fun a_7 => z_chk (g_is S 5 a_7) (z_bd (f_X5_has S a_7 a1) fun r_10 => if r_10 = 0 then z_chk (g_is S 7 o) (z_bd2 (f_X7_refuse S o (12 : Int32)) fun r_16 S_15 => some (r_16, S_15)) else z_bd (g_r S 5 1 a_7) fun f_11 => z_bd (g_wI S f_11 a1 a2) fun S_12 => z_chk (g_is S_12 7 o) (z_bd2 (f_X7_done S_12 o (1 : Int32)) fun r_14 S_13 => some (r_14, S_13)))
set_option maxHeartbeats 4000000 in
set_option maxRecDepth 100000 in
theorem mt_X7_cell (l : Launch) (D : va_G) (cs : Nat → ClassId) (A : Nat → Prop) (S : GS) (o : Nat) (a0 : Int32) (a1 : Int32) (a2 : Int32) {r_ : Int32} {N_ : GS} (h : f_X7_cell S o a0 a1 a2 = some (r_, N_)) : Met l yX7_cell (z_wd yX7_cell cX7_cell 5 (some .int)) (z_rmA 1 38 0 0) (va_Pc [.ref o, .int a0, .int a1, .int a2] (g_C D cs A S)) (g_Q (some (.int r_)) N_ D cs A) 0 0 A := by
  refine Met.ofW (cc := cX7_cell) (maxL := 5) (ret := (some .int)) (by decide) rfl ?_
  intro p e s m args below meth c s₁ B hml hv
  obtain ⟨hav, hP0, hK, hN, hSt, hAn⟩ := hv
  have hx := B.exec
  have hb := B.bytes
  have hr := B.returns
  have hts := atoms_spec (ws := z_wd yX7_cell cX7_cell 5 (some .int)) B.pre
  have hown : s.vm.findClass RX7 = some m.cls := findClass_of_methodNamed B.named
  have hlocks := B.notSynchronized
  have hc : g_X p s m args c cX7_cell 5 RX7 D cs A := ⟨⟨hx, hb, hml, fun w hw => hts w (List.mem_cons_of_mem _ hw), hown⟩, hK, hN, hSt, hAn⟩
  have hl := lv_entry ([.ref o, .int a0, .int a1, .int a2]) (n := 5) (Nat.le_of_ble_eq_true rfl)
  have hE : entryFrame m args 5 = F0 m 0 ((lg_sl ([.ref o, .int a0, .int a1, .int a2]) ++ List.replicate (5 - (lg_sl ([.ref o, .int a0, .int a1, .int a2])).length) Slot.unset).toArray) [] := by rw [hav]; exact lg_entry_eq m _ _
  rw [hE]
  clear hE hav
  generalize (lg_sl ([.ref o, .int a0, .int a1, .int a2]) ++ List.replicate (5 - (lg_sl ([.ref o, .int a0, .int a1, .int a2])).length) Slot.unset).toArray = ls at hl ⊢
  have hl : lv_has ls 5 [(0, .ref o), (1, .int a0), (2, .int a1), (3, .int a2)] := hl
  obtain ⟨Q, hQ⟩ : ∃ Q, Q = MQ below (g_Q (some (.int r_)) N_ D cs A) args s 0 0 A := ⟨_, rfl⟩
  rw [← hQ]
  suffices hmain : ∀ (H : Heap) (locs : List Loc), g_P D cs A S H → va_S A s.heap H locs → W p l e (z_rmA 1 38 0 0) s m args below meth c H locs 0 0 Q (F0 m 0 ls []) from hmain s.heap [] hP0 va_S.rf
  clear hP0
  intro H locs hP hS
  unfold f_X7_cell at h
  refine lv_iload_n hx hb dX7_cell_0 rfl (lv_at hl 1 rfl) ?_
  obtain ⟨r_1, er_1, h⟩ := z_bd_some h
  refine s_calli (As := [.int a0]) (r := r_1) (n := 1) hc.1 (mt_X7_isSheet l a0 er_1) wM_X7_280 wT_X7_isSheet wZ_X7 wC_X7_isSheet md_X7_isSheet ⟨rfl, rfl, Nat.le_of_ble_eq_true rfl, Nat.le_of_ble_eq_true rfl⟩ rfl hl.1 rfl (Nat.le_of_ble_eq_true rfl) dX7_cell_1 ⟨Nat.le_of_ble_eq_true rfl, Nat.le_of_ble_eq_true rfl⟩ ?_
  refine lv_if_eq (tgt := 18) hx hb dX7_cell_4 (by decide) (fun c_4 => ?_) (fun c_4 => ?_)
  · replace h := z_ip_ c_4 h
    refine lv_aload_n hx hb dX7_cell_18 rfl (lv_at hl 0 rfl) ?_
    refine lv_iconst (v := 1) hx hb dX7_cell_19 (by decide) ?_
    obtain ⟨ho_20, h⟩ := z_chk_some h
    obtain ⟨vs_, ho_20⟩ := Option.isSome_iff_exists.mp ho_20
    obtain ⟨r_3, S_2, e_20, h⟩ := z_bd2_some h
    refine g_callV (ci := 7) (As := [.int (1 : Int32)]) (rv := (some (.int r_3))) (n := 1) hc hP hS rfl ho_20 (mt_X7_refuse l D cs A S o (1 : Int32) e_20) wM_X7_64 wI_X7_refuse wS_X7_refuse wZ_X7 wC_X7_refuse md_X7_refuse ⟨rfl, rfl, Nat.le_of_ble_eq_true rfl, Nat.le_of_ble_eq_true rfl⟩ rfl hl.1 rfl (Nat.le_of_ble_eq_true rfl) dX7_cell_20 ⟨Nat.le_of_ble_eq_true rfl, Nat.le_of_ble_eq_true rfl⟩ (fun H locs hP hS => ?_)
    show W p l e (z_rmA 1 38 0 0) s m args below meth c H locs (0) (0) Q (F0 m 23 ls [.int r_3])
    cases h
    rw [hQ]
    exact g_reti hc hr hlocks hP hS dX7_cell_23
  · replace h := z_in_ c_4 h
    refine lv_iload_n hx hb dX7_cell_7 rfl (lv_at hl 3 rfl) ?_
    refine lv_bipush (v := -100) hx hb dX7_cell_8 (by decide) ?_
    refine lv_bipush (v := 100) hx hb dX7_cell_10 (by decide) ?_
    obtain ⟨r_4, er_4, h⟩ := z_bd_some h
    refine s_calli (As := [.int a2, .int (-100 : Int32), .int (100 : Int32)]) (r := r_4) (n := 3) hc.1 (mt_X7_isWithin l a2 (-100 : Int32) (100 : Int32) er_4) wM_X7_101 wT_X7_isWithin wZ_X7 wC_X7_isWithin md_X7_isWithin ⟨rfl, rfl, Nat.le_of_ble_eq_true rfl, Nat.le_of_ble_eq_true rfl⟩ rfl hl.1 rfl (Nat.le_of_ble_eq_true rfl) dX7_cell_12 ⟨Nat.le_of_ble_eq_true rfl, Nat.le_of_ble_eq_true rfl⟩ ?_
    refine lv_if_ne (tgt := 24) hx hb dX7_cell_15 (by decide) (fun c_15 => ?_) (fun c_15 => ?_)
    · replace h := z_in_ c_15 h
      refine lv_aload_n hx hb dX7_cell_24 rfl (lv_at hl 0 rfl) ?_
      obtain ⟨f_5, ef_5, h⟩ := z_bd_some h
      refine g_get (ci := 7) (k := 2) (v := .ref f_5) hc hP rfl z_inX7 (by decide) wF_X7_23 (g_r_v ef_5) dX7_cell_25 ?_
      refine lv_iload_n hx hb dX7_cell_28 rfl (lv_at hl 1 rfl) ?_
      obtain ⟨q_6, eq_6, h⟩ := z_bd_some h
      refine g_aald (t := 2) hc hP rfl eq_6 dX7_cell_29 ?_
      refine q_astore (lv' := [(4, va_rf q_6), (0, .ref o), (1, .int a0), (2, .int a1), (3, .int a2)]) hx hb dX7_cell_30 hl (by decide) rfl (fun ls hl => ?_)
      refine q_aload hx hb dX7_cell_32 (lv_at hl 0 rfl) ?_
      rcases q_6 with _ | a_7
      · replace h := z_mt_n h
        refine lv_ifnonnullN hx hb dX7_cell_34 ?_
        refine lv_aload_n hx hb dX7_cell_37 rfl (lv_at hl 1 rfl) ?_
        refine lv_bipush (v := 10) hx hb dX7_cell_38 (by decide) ?_
        obtain ⟨ho_40, h⟩ := z_chk_some h
        obtain ⟨vs_, ho_40⟩ := Option.isSome_iff_exists.mp ho_40
        obtain ⟨r_9, S_8, e_40, h⟩ := z_bd2_some h
        refine g_callV (ci := 7) (As := [.int (10 : Int32)]) (rv := (some (.int r_9))) (n := 1) hc hP hS rfl ho_40 (mt_X7_refuse l D cs A S o (10 : Int32) e_40) wM_X7_64 wI_X7_refuse wS_X7_refuse wZ_X7 wC_X7_refuse md_X7_refuse ⟨rfl, rfl, Nat.le_of_ble_eq_true rfl, Nat.le_of_ble_eq_true rfl⟩ rfl hl.1 rfl (Nat.le_of_ble_eq_true rfl) dX7_cell_40 ⟨Nat.le_of_ble_eq_true rfl, Nat.le_of_ble_eq_true rfl⟩ (fun H locs hP hS => ?_)
        show W p l e (z_rmA 1 38 0 0) s m args below meth c H locs (0) (0) Q (F0 m 43 ls [.int r_9])
        cases h
        rw [hQ]
        exact g_reti hc hr hlocks hP hS dX7_cell_43
      · replace h := z_mt_s h
        refine lv_ifnonnull (tgt := 44) hx hb dX7_cell_34 (by decide) ?_
        refine lv_aload hx hb dX7_cell_44 (lv_at hl 0 rfl) ?_
        refine lv_iload_n hx hb dX7_cell_46 rfl (lv_at hl 3 rfl) ?_
        obtain ⟨ho_47, h⟩ := z_chk_some h
        obtain ⟨vs_, ho_47⟩ := Option.isSome_iff_exists.mp ho_47
        obtain ⟨r_10, e_47, h⟩ := z_bd_some h
        refine g_callV (ci := 5) (As := [.int a1]) (rv := (some (.int r_10))) (n := 1) hc hP hS rfl ho_47 (mt_X5_has l D cs A S a_7 a1 e_47) wM_X7_286 wI_X5_has wS_X5_has wZ_X5 wC_X5_has md_X5_has ⟨rfl, rfl, Nat.le_of_ble_eq_true rfl, Nat.le_of_ble_eq_true rfl⟩ rfl hl.1 rfl (Nat.le_of_ble_eq_true rfl) dX7_cell_47 ⟨Nat.le_of_ble_eq_true rfl, Nat.le_of_ble_eq_true rfl⟩ (fun H locs hP hS => ?_)
        show W p l e (z_rmA 1 38 0 0) s m args below meth c H locs (0) (0) Q (F0 m 50 ls [.int r_10])
        refine lv_if_ne (tgt := 60) hx hb dX7_cell_50 (by decide) (fun c_50 => ?_) (fun c_50 => ?_)
        · replace h := z_in_ c_50 h
          refine lv_aload hx hb dX7_cell_60 (lv_at hl 0 rfl) ?_
          obtain ⟨f_11, ef_11, h⟩ := z_bd_some h
          refine g_getN (ci := 5) (k := 1) (v := .ref f_11) hc hP rfl z_inX5 (by decide) wG_X7_287 (g_r_v ef_11) dX7_cell_62 ?_
          refine lv_iload_n hx hb dX7_cell_65 rfl (lv_at hl 3 rfl) ?_
          refine lv_iload_n hx hb dX7_cell_66 rfl (lv_at hl 4 rfl) ?_
          obtain ⟨S_12, eS_12, h⟩ := z_bd_some h
          refine g_iast hc hP hS eS_12 dX7_cell_67 (fun H locs hP hS => ?_)
          refine lv_aload_n hx hb dX7_cell_68 rfl (lv_at hl 1 rfl) ?_
          refine lv_iconst (v := 1) hx hb dX7_cell_69 (by decide) ?_
          obtain ⟨ho_70, h⟩ := z_chk_some h
          obtain ⟨vs_, ho_70⟩ := Option.isSome_iff_exists.mp ho_70
          obtain ⟨r_14, S_13, e_70, h⟩ := z_bd2_some h
          refine g_callV (ci := 7) (As := [.int (1 : Int32)]) (rv := (some (.int r_14))) (n := 1) hc hP hS rfl ho_70 (mt_X7_done l D cs A S_12 o (1 : Int32) e_70) wM_X7_80 wI_X7_done wS_X7_done wZ_X7 wC_X7_done md_X7_done ⟨rfl, rfl, Nat.le_of_ble_eq_true rfl, Nat.le_of_ble_eq_true rfl⟩ rfl hl.1 rfl (Nat.le_of_ble_eq_true rfl) dX7_cell_70 ⟨Nat.le_of_ble_eq_true rfl, Nat.le_of_ble_eq_true rfl⟩ (fun H locs hP hS => ?_)
          show W p l e (z_rmA 1 38 0 0) s m args below meth c H locs (0) (0) Q (F0 m 73 ls [.int r_14])
          cases h
          rw [hQ]
          exact g_reti hc hr hlocks hP hS dX7_cell_73
        · replace h := z_ip_ c_50 h
          refine lv_aload_n hx hb dX7_cell_53 rfl (lv_at hl 1 rfl) ?_
          refine lv_bipush (v := 12) hx hb dX7_cell_54 (by decide) ?_
          obtain ⟨ho_56, h⟩ := z_chk_some h
          obtain ⟨vs_, ho_56⟩ := Option.isSome_iff_exists.mp ho_56
          obtain ⟨r_16, S_15, e_56, h⟩ := z_bd2_some h
          refine g_callV (ci := 7) (As := [.int (12 : Int32)]) (rv := (some (.int r_16))) (n := 1) hc hP hS rfl ho_56 (mt_X7_refuse l D cs A S o (12 : Int32) e_56) wM_X7_64 wI_X7_refuse wS_X7_refuse wZ_X7 wC_X7_refuse md_X7_refuse ⟨rfl, rfl, Nat.le_of_ble_eq_true rfl, Nat.le_of_ble_eq_true rfl⟩ rfl hl.1 rfl (Nat.le_of_ble_eq_true rfl) dX7_cell_56 ⟨Nat.le_of_ble_eq_true rfl, Nat.le_of_ble_eq_true rfl⟩ (fun H locs hP hS => ?_)
          show W p l e (z_rmA 1 38 0 0) s m args below meth c H locs (0) (0) Q (F0 m 59 ls [.int r_16])
          cases h
          rw [hQ]
          exact g_reti hc hr hlocks hP hS dX7_cell_59
    · replace h := z_ip_ c_15 h
      refine lv_aload_n hx hb dX7_cell_18 rfl (lv_at hl 0 rfl) ?_
      refine lv_iconst (v := 1) hx hb dX7_cell_19 (by decide) ?_
      obtain ⟨ho_20, h⟩ := z_chk_some h
      obtain ⟨vs_, ho_20⟩ := Option.isSome_iff_exists.mp ho_20
      obtain ⟨r_18, S_17, e_20, h⟩ := z_bd2_some h
      refine g_callV (ci := 7) (As := [.int (1 : Int32)]) (rv := (some (.int r_18))) (n := 1) hc hP hS rfl ho_20 (mt_X7_refuse l D cs A S o (1 : Int32) e_20) wM_X7_64 wI_X7_refuse wS_X7_refuse wZ_X7 wC_X7_refuse md_X7_refuse ⟨rfl, rfl, Nat.le_of_ble_eq_true rfl, Nat.le_of_ble_eq_true rfl⟩ rfl hl.1 rfl (Nat.le_of_ble_eq_true rfl) dX7_cell_20 ⟨Nat.le_of_ble_eq_true rfl, Nat.le_of_ble_eq_true rfl⟩ (fun H locs hP hS => ?_)
      show W p l e (z_rmA 1 38 0 0) s m args below meth c H locs (0) (0) Q (F0 m 23 ls [.int r_18])
      cases h
      rw [hQ]
      exact g_reti hc hr hlocks hP hS dX7_cell_23
theorem md_X7_cell : yX7_cell.cls ≠ "java/lang/invoke/MethodHandle" ∧ yX7_cell.cls ≠ "java/lang/invoke/VarHandle" ∧ (parseMethodDescriptor yX7_cell.desc).map (fun d => d.parameters.length) = some 3 := by decide +kernel
