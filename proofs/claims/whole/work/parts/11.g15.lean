noncomputable def f_X7_lowestTerms (a0 : Int64) (a1 : Int64) (a2 : Int32) : Option (Int64) :=
  if a2 = 0 then z_bd (if a2 = 0 then some (a0) else some (a1)) fun v_1 => z_bd (f_X7_commonDivisor a0 a1) fun r_2 => if (lg_cmp r_2 (1 : Int64)) ≤ 0 then some v_1 else z_chk (¬ r_2 = 0) (some (v_1 / r_2)) else if a2 = (1 : Int32) then z_bd (if a2 = 0 then some (a0) else some (a1)) fun v_3 => z_bd (f_X7_commonDivisor a0 a1) fun r_4 => if (lg_cmp r_4 (1 : Int64)) ≤ 0 then some v_3 else z_chk (¬ r_4 = 0) (some (v_3 / r_4)) else some (-1000000000000 : Int64)
set_option maxHeartbeats 4000000 in
set_option maxRecDepth 100000 in
theorem mt_X7_lowestTerms (l : Launch) (a0 : Int64) (a1 : Int64) (a2 : Int32) {r_ : Int64} (h : f_X7_lowestTerms a0 a1 a2 = some r_) : Met l yX7_lowestTerms (z_wd yX7_lowestTerms cX7_lowestTerms 9 (some .long)) (z_rm 1 46) (va_Pc [.long a0, .long a1, .int a2] (fun _ => True)) (vp_Sl (fun r1 : Int64 => r1 = r_)) 0 0 (fun _ => False) := by
  refine Met.ofW (cc := cX7_lowestTerms) (maxL := 9) (ret := (some .long)) (by decide) rfl ?_
  intro p e s m args below meth c s₁ B hml hv
  obtain ⟨hav, -⟩ := hv
  have hx := B.exec
  have hb := B.bytes
  have hr := B.returns
  have hts := atoms_spec (ws := z_wd yX7_lowestTerms cX7_lowestTerms 9 (some .long)) B.pre
  have hown : s.vm.findClass RX7 = some m.cls := findClass_of_methodNamed B.named
  have hlocks := B.notSynchronized
  have hc : s_X p s m args c cX7_lowestTerms 9 RX7 := ⟨hx, hb, hml, fun w hw => hts w (List.mem_cons_of_mem _ hw), hown⟩
  have hl := lv_entry ([.long a0, .long a1, .int a2]) (n := 9) (Nat.le_of_ble_eq_true rfl)
  have hE : entryFrame m args 9 = F0 m 0 ((lg_sl ([.long a0, .long a1, .int a2]) ++ List.replicate (9 - (lg_sl ([.long a0, .long a1, .int a2])).length) Slot.unset).toArray) [] := by rw [hav]; exact lg_entry_eq m _ _
  rw [hE]
  clear hE hav
  generalize (lg_sl ([.long a0, .long a1, .int a2]) ++ List.replicate (9 - (lg_sl ([.long a0, .long a1, .int a2])).length) Slot.unset).toArray = ls at hl ⊢
  have hl : lv_has ls 9 [(0, .long a0), (2, .long a1), (4, .int a2)] := hl
  obtain ⟨Q, hQ⟩ : ∃ Q, Q = MQ below (vp_Sl (fun r1 : Int64 => r1 = r_)) args s 0 0 (fun _ => False) := ⟨_, rfl⟩
  rw [← hQ]
  show W p l e (z_rm 1 46) s m args below meth c s.heap [] 0 0 Q (F0 m 0 ls [])
  unfold f_X7_lowestTerms at h
  refine lv_iload hx hb dX7_lowestTerms_0 (lv_at hl 2 rfl) ?_
  refine lv_if_eq (tgt := 15) hx hb dX7_lowestTerms_2 (by decide) (fun c_2 => ?_) (fun c_2 => ?_)
  · replace h := z_ip_ c_2 h
    refine lv_iload hx hb dX7_lowestTerms_15 (lv_at hl 2 rfl) ?_
    obtain ⟨v_1, hJ, h⟩ := z_bd_some h
    have J_25 : ∀ (ls : Array Slot), lv_has ls 9 [(0, .long a0), (2, .long a1)] → W p l e (z_rm 1 46) s m args below meth c s.heap [] 0 0 Q (F0 m 25 ls [.long v_1]) := by
      intro ls hl
      refine lv_lstore (lv' := [(5, .long v_1), (0, .long a0), (2, .long a1)]) hx hb dX7_lowestTerms_25 hl (by decide) rfl (fun ls hl => ?_)
      refine lv_lload_n hx hb dX7_lowestTerms_27 rfl (lv_at hl 1 rfl) ?_
      refine lv_lload_n hx hb dX7_lowestTerms_28 rfl (lv_at hl 2 rfl) ?_
      obtain ⟨r_2, er_2, h⟩ := z_bd_some h
      refine s_calll (As := [.long a0, .long a1]) (r := r_2) (n := 2) hc (mt_X7_commonDivisor l a0 a1 er_2) wM_X7_322 wT_X7_commonDivisor wZ_X7 wC_X7_commonDivisor md_X7_commonDivisor ⟨rfl, rfl, Nat.le_of_ble_eq_true rfl, Nat.le_of_ble_eq_true rfl⟩ rfl hl.1 rfl (Nat.le_of_ble_eq_true rfl) dX7_lowestTerms_29 ⟨Nat.zero_le _, Nat.zero_le _⟩ ?_
      refine lv_lstore (lv' := [(7, .long r_2), (5, .long v_1), (0, .long a0), (2, .long a1)]) hx hb dX7_lowestTerms_32 hl (by decide) rfl (fun ls hl => ?_)
      refine lv_lload hx hb dX7_lowestTerms_34 (lv_at hl 0 rfl) ?_
      refine lv_lconst (v := 1) hx hb dX7_lowestTerms_36 (by decide) ?_
      refine W.lcmp hx hb dX7_lowestTerms_37 ?_
      refine lv_if_le (tgt := 49) hx hb dX7_lowestTerms_38 (by decide) (fun c_38 => ?_) (fun c_38 => ?_)
      · replace h := z_ip_ c_38 h
        refine lv_lload hx hb dX7_lowestTerms_49 (lv_at hl 1 rfl) ?_
        cases h
        rw [hQ]
        exact s_retl hc hr hlocks dX7_lowestTerms_51
      · replace h := z_in_ c_38 h
        refine lv_lload hx hb dX7_lowestTerms_41 (lv_at hl 1 rfl) ?_
        refine lv_lload hx hb dX7_lowestTerms_43 (lv_at hl 0 rfl) ?_
        obtain ⟨c_45, h⟩ := z_chk_some h
        refine lv_ldiv hx hb dX7_lowestTerms_45 c_45 ?_
        refine lv_goto (tgt := 51) hx hb dX7_lowestTerms_46 (by decide) ?_
        cases h
        rw [hQ]
        exact s_retl hc hr hlocks dX7_lowestTerms_51
    clear h
    have h := hJ
    clear hJ
    refine lv_if_ne (tgt := 24) hx hb dX7_lowestTerms_17 (by decide) (fun c_17 => ?_) (fun c_17 => ?_)
    · replace h := z_in_ c_17 h
      refine lv_lload_n hx hb dX7_lowestTerms_24 rfl (lv_at hl 1 rfl) ?_
      cases h
      exact J_25 ls (lv_sub hl [0, 1] rfl)
    · replace h := z_ip_ c_17 h
      refine lv_lload_n hx hb dX7_lowestTerms_20 rfl (lv_at hl 0 rfl) ?_
      refine lv_goto (tgt := 25) hx hb dX7_lowestTerms_21 (by decide) ?_
      cases h
      exact J_25 ls (lv_sub hl [0, 1] rfl)
  · replace h := z_in_ c_2 h
    refine lv_iload hx hb dX7_lowestTerms_5 (lv_at hl 2 rfl) ?_
    refine lv_iconst (v := 1) hx hb dX7_lowestTerms_7 (by decide) ?_
    refine lv_icmp_eq (tgt := 15) hx hb dX7_lowestTerms_8 (by decide) (fun c_8 => ?_) (fun c_8 => ?_)
    · replace h := z_ip_ c_8 h
      refine lv_iload hx hb dX7_lowestTerms_15 (lv_at hl 2 rfl) ?_
      obtain ⟨v_3, hJ, h⟩ := z_bd_some h
      have J_25 : ∀ (ls : Array Slot), lv_has ls 9 [(0, .long a0), (2, .long a1)] → W p l e (z_rm 1 46) s m args below meth c s.heap [] 0 0 Q (F0 m 25 ls [.long v_3]) := by
        intro ls hl
        refine lv_lstore (lv' := [(5, .long v_3), (0, .long a0), (2, .long a1)]) hx hb dX7_lowestTerms_25 hl (by decide) rfl (fun ls hl => ?_)
        refine lv_lload_n hx hb dX7_lowestTerms_27 rfl (lv_at hl 1 rfl) ?_
        refine lv_lload_n hx hb dX7_lowestTerms_28 rfl (lv_at hl 2 rfl) ?_
        obtain ⟨r_4, er_4, h⟩ := z_bd_some h
        refine s_calll (As := [.long a0, .long a1]) (r := r_4) (n := 2) hc (mt_X7_commonDivisor l a0 a1 er_4) wM_X7_322 wT_X7_commonDivisor wZ_X7 wC_X7_commonDivisor md_X7_commonDivisor ⟨rfl, rfl, Nat.le_of_ble_eq_true rfl, Nat.le_of_ble_eq_true rfl⟩ rfl hl.1 rfl (Nat.le_of_ble_eq_true rfl) dX7_lowestTerms_29 ⟨Nat.zero_le _, Nat.zero_le _⟩ ?_
        refine lv_lstore (lv' := [(7, .long r_4), (5, .long v_3), (0, .long a0), (2, .long a1)]) hx hb dX7_lowestTerms_32 hl (by decide) rfl (fun ls hl => ?_)
        refine lv_lload hx hb dX7_lowestTerms_34 (lv_at hl 0 rfl) ?_
        refine lv_lconst (v := 1) hx hb dX7_lowestTerms_36 (by decide) ?_
        refine W.lcmp hx hb dX7_lowestTerms_37 ?_
        refine lv_if_le (tgt := 49) hx hb dX7_lowestTerms_38 (by decide) (fun c_38 => ?_) (fun c_38 => ?_)
        · replace h := z_ip_ c_38 h
          refine lv_lload hx hb dX7_lowestTerms_49 (lv_at hl 1 rfl) ?_
          cases h
          rw [hQ]
          exact s_retl hc hr hlocks dX7_lowestTerms_51
        · replace h := z_in_ c_38 h
          refine lv_lload hx hb dX7_lowestTerms_41 (lv_at hl 1 rfl) ?_
          refine lv_lload hx hb dX7_lowestTerms_43 (lv_at hl 0 rfl) ?_
          obtain ⟨c_45, h⟩ := z_chk_some h
          refine lv_ldiv hx hb dX7_lowestTerms_45 c_45 ?_
          refine lv_goto (tgt := 51) hx hb dX7_lowestTerms_46 (by decide) ?_
          cases h
          rw [hQ]
          exact s_retl hc hr hlocks dX7_lowestTerms_51
      clear h
      have h := hJ
      clear hJ
      refine lv_if_ne (tgt := 24) hx hb dX7_lowestTerms_17 (by decide) (fun c_17 => ?_) (fun c_17 => ?_)
      · replace h := z_in_ c_17 h
        refine lv_lload_n hx hb dX7_lowestTerms_24 rfl (lv_at hl 1 rfl) ?_
        cases h
        exact J_25 ls (lv_sub hl [0, 1] rfl)
      · replace h := z_ip_ c_17 h
        refine lv_lload_n hx hb dX7_lowestTerms_20 rfl (lv_at hl 0 rfl) ?_
        refine lv_goto (tgt := 25) hx hb dX7_lowestTerms_21 (by decide) ?_
        cases h
        exact J_25 ls (lv_sub hl [0, 1] rfl)
    · replace h := z_in_ c_8 h
      refine lv_ldc2 (v := -1000000000000) hx hb hc.2.2.2.2 (hc.2.2.2.1 _ wL_X7_89) dX7_lowestTerms_11 ?_
      cases h
      rw [hQ]
      exact s_retl hc hr hlocks dX7_lowestTerms_14
theorem md_X7_lowestTerms : yX7_lowestTerms.cls ≠ "java/lang/invoke/MethodHandle" ∧ yX7_lowestTerms.cls ≠ "java/lang/invoke/VarHandle" ∧ (parseMethodDescriptor yX7_lowestTerms.desc).map (fun d => d.parameters.length) = some 3 := by decide +kernel
noncomputable def f_X7_number (S : GS) (o : Nat) (a0 : Int32) (a1 : Int32) (a2 : Int32) (a3 : Int32) : Option (Int64) :=
  z_chk (g_is S 7 o) (z_bd (f_X7_fitAt S o a0) fun q_1 => z_mt q_1 (some (-1000000000000 : Int64)) fun a_2 => z_bd (f_X7_isWithin a2 (0 : Int32) (2 : Int32)) fun r_3 => if r_3 = 0 then some (-1000000000000 : Int64) else z_bd (g_i S 1 1 a_2) fun f_4 => z_bd (if f_4 = (4 : Int32) then some (a1) else some ((0 : Int32))) fun v_5 => z_chk (g_is S 1 a_2) (z_bd (f_X1_hasPart S a_2 v_5) fun r_6 => if r_6 = 0 then some (-1000000000000 : Int64) else z_bd (g_r S 1 4 a_2) fun f_7 => z_bd (g_rQ S 3 f_7 v_5) fun q_8 => z_bd q_8 fun a_9 => z_chk (g_is S 4 a_9) (z_bd (f_X4_coefficient S a_9 a2) fun r_10 => z_bd (g_l S 4 3 a_9) fun f_11 => z_bd (f_X7_lowestTerms r_10 f_11 a3) fun r_12 => some r_12)))
set_option maxHeartbeats 4000000 in
set_option maxRecDepth 100000 in
theorem mt_X7_number (l : Launch) (D : va_G) (cs : Nat → ClassId) (A : Nat → Prop) (S : GS) (o : Nat) (a0 : Int32) (a1 : Int32) (a2 : Int32) (a3 : Int32) {r_ : Int64} (h : f_X7_number S o a0 a1 a2 a3 = some r_) : Met l yX7_number (z_wd yX7_number cX7_number 8 (some .long)) (z_rmA 2 90 0 0) (va_Pc [.ref o, .int a0, .int a1, .int a2, .int a3] (g_C D cs A S)) (g_Q (some (.long r_)) S D cs A) 0 0 A := by
  refine Met.ofW (cc := cX7_number) (maxL := 8) (ret := (some .long)) (by decide) rfl ?_
  intro p e s m args below meth c s₁ B hml hv
  obtain ⟨hav, hP0, hK, hN, hSt, hAn⟩ := hv
  have hx := B.exec
  have hb := B.bytes
  have hr := B.returns
  have hts := atoms_spec (ws := z_wd yX7_number cX7_number 8 (some .long)) B.pre
  have hown : s.vm.findClass RX7 = some m.cls := findClass_of_methodNamed B.named
  have hlocks := B.notSynchronized
  have hc : g_X p s m args c cX7_number 8 RX7 D cs A := ⟨⟨hx, hb, hml, fun w hw => hts w (List.mem_cons_of_mem _ hw), hown⟩, hK, hN, hSt, hAn⟩
  have hl := lv_entry ([.ref o, .int a0, .int a1, .int a2, .int a3]) (n := 8) (Nat.le_of_ble_eq_true rfl)
  have hE : entryFrame m args 8 = F0 m 0 ((lg_sl ([.ref o, .int a0, .int a1, .int a2, .int a3]) ++ List.replicate (8 - (lg_sl ([.ref o, .int a0, .int a1, .int a2, .int a3])).length) Slot.unset).toArray) [] := by rw [hav]; exact lg_entry_eq m _ _
  rw [hE]
  clear hE hav
  generalize (lg_sl ([.ref o, .int a0, .int a1, .int a2, .int a3]) ++ List.replicate (8 - (lg_sl ([.ref o, .int a0, .int a1, .int a2, .int a3])).length) Slot.unset).toArray = ls at hl ⊢
  have hl : lv_has ls 8 [(0, .ref o), (1, .int a0), (2, .int a1), (3, .int a2), (4, .int a3)] := hl
  obtain ⟨Q, hQ⟩ : ∃ Q, Q = MQ below (g_Q (some (.long r_)) S D cs A) args s 0 0 A := ⟨_, rfl⟩
  rw [← hQ]
  suffices hmain : ∀ (H : Heap) (locs : List Loc), g_P D cs A S H → va_S A s.heap H locs → W p l e (z_rmA 2 90 0 0) s m args below meth c H locs 0 0 Q (F0 m 0 ls []) from hmain s.heap [] hP0 va_S.rf
  clear hP0
  intro H locs hP hS
  unfold f_X7_number at h
  refine lv_aload_n hx hb dX7_number_0 rfl (lv_at hl 0 rfl) ?_
  refine lv_iload_n hx hb dX7_number_1 rfl (lv_at hl 1 rfl) ?_
  obtain ⟨ho_2, h⟩ := z_chk_some h
  obtain ⟨vs_, ho_2⟩ := Option.isSome_iff_exists.mp ho_2
  obtain ⟨q_1, e_2, h⟩ := z_bd_some h
  refine g_callV (ci := 7) (As := [.int a0]) (rv := (some (va_rf q_1))) (n := 1) hc hP hS rfl ho_2 (mt_X7_fitAt l D cs A S o a0 e_2) wM_X7_172 wI_X7_fitAt wS_X7_fitAt wZ_X7 wC_X7_fitAt md_X7_fitAt ⟨rfl, rfl, Nat.le_of_ble_eq_true rfl, Nat.le_of_ble_eq_true rfl⟩ rfl hl.1 rfl (Nat.le_of_ble_eq_true rfl) dX7_number_2 ⟨Nat.le_of_ble_eq_true rfl, Nat.le_of_ble_eq_true rfl⟩ (fun H locs hP hS => ?_)
  show W p l e (z_rmA 2 90 0 0) s m args below meth c H locs (0) (0) Q (F0 m 5 ls [va_rf q_1])
  refine q_astore (lv' := [(5, va_rf q_1), (0, .ref o), (1, .int a0), (2, .int a1), (3, .int a2), (4, .int a3)]) hx hb dX7_number_5 hl (by decide) rfl (fun ls hl => ?_)
  refine q_aload hx hb dX7_number_7 (lv_at hl 0 rfl) ?_
  rcases q_1 with _ | a_2
  · replace h := z_mt_n h
    refine lv_ifnullN (tgt := 21) hx hb dX7_number_9 (by decide) ?_
    refine lv_ldc2 (v := -1000000000000) hx hb hc.1.2.2.2.2 (hc.1.2.2.2.1 _ wL_X7_89) dX7_number_21 ?_
    cases h
    rw [hQ]
    exact g_retl hc hr hlocks hP hS dX7_number_24
  · replace h := z_mt_s h
    refine lv_ifnull hx hb dX7_number_9 ?_
    refine lv_iload_n hx hb dX7_number_12 rfl (lv_at hl 4 rfl) ?_
    refine lv_iconst (v := 0) hx hb dX7_number_13 (by decide) ?_
    refine lv_iconst (v := 2) hx hb dX7_number_14 (by decide) ?_
    obtain ⟨r_3, er_3, h⟩ := z_bd_some h
    refine s_calli (As := [.int a2, .int (0 : Int32), .int (2 : Int32)]) (r := r_3) (n := 3) hc.1 (mt_X7_isWithin l a2 (0 : Int32) (2 : Int32) er_3) wM_X7_101 wT_X7_isWithin wZ_X7 wC_X7_isWithin md_X7_isWithin ⟨rfl, rfl, Nat.le_of_ble_eq_true rfl, Nat.le_of_ble_eq_true rfl⟩ rfl hl.1 rfl (Nat.le_of_ble_eq_true rfl) dX7_number_15 ⟨Nat.le_of_ble_eq_true rfl, Nat.le_of_ble_eq_true rfl⟩ ?_
    refine lv_if_ne (tgt := 25) hx hb dX7_number_18 (by decide) (fun c_18 => ?_) (fun c_18 => ?_)
    · replace h := z_in_ c_18 h
      refine lv_aload hx hb dX7_number_25 (lv_at hl 0 rfl) ?_
      obtain ⟨f_4, ef_4, h⟩ := z_bd_some h
      refine g_getN (ci := 1) (k := 1) (v := .int f_4) hc hP rfl z_inX1 (by decide) wG_X7_176 (g_i_v ef_4) dX7_number_27 ?_
      refine lv_iconst (v := 4) hx hb dX7_number_30 (by decide) ?_
      obtain ⟨v_5, hJ, h⟩ := z_bd_some h
      have J_39 : ∀ (H : Heap) (locs : List Loc) (ls : Array Slot), g_P D cs A S H → va_S A s.heap H locs → lv_has ls 8 [(3, .int a2), (4, .int a3), (5, .ref a_2)] → W p l e (z_rmA 2 90 0 0) s m args below meth c H locs (0) (0) Q (F0 m 39 ls [.int v_5]) := by
        intro H locs ls hP hS hl
        refine lv_istore (lv' := [(6, .int v_5), (3, .int a2), (4, .int a3), (5, .ref a_2)]) hx hb dX7_number_39 hl (by decide) rfl (fun ls hl => ?_)
        refine lv_aload hx hb dX7_number_41 (lv_at hl 3 rfl) ?_
        refine lv_iload hx hb dX7_number_43 (lv_at hl 0 rfl) ?_
        obtain ⟨ho_45, h⟩ := z_chk_some h
        obtain ⟨vs_, ho_45⟩ := Option.isSome_iff_exists.mp ho_45
        obtain ⟨r_6, e_45, h⟩ := z_bd_some h
        refine g_callV (ci := 1) (As := [.int v_5]) (rv := (some (.int r_6))) (n := 1) hc hP hS rfl ho_45 (mt_X1_hasPart l D cs A S a_2 v_5 e_45) wM_X7_189 wI_X1_hasPart wS_X1_hasPart wZ_X1 wC_X1_hasPart md_X1_hasPart ⟨rfl, rfl, Nat.le_of_ble_eq_true rfl, Nat.le_of_ble_eq_true rfl⟩ rfl hl.1 rfl (Nat.le_of_ble_eq_true rfl) dX7_number_45 ⟨Nat.le_of_ble_eq_true rfl, Nat.le_of_ble_eq_true rfl⟩ (fun H locs hP hS => ?_)
        show W p l e (z_rmA 2 90 0 0) s m args below meth c H locs (0) (0) Q (F0 m 48 ls [.int r_6])
        refine lv_if_ne (tgt := 55) hx hb dX7_number_48 (by decide) (fun c_48 => ?_) (fun c_48 => ?_)
        · replace h := z_in_ c_48 h
          refine lv_aload hx hb dX7_number_55 (lv_at hl 3 rfl) ?_
          obtain ⟨f_7, ef_7, h⟩ := z_bd_some h
          refine g_getN (ci := 1) (k := 4) (v := .ref f_7) hc hP rfl z_inX1 (by decide) wG_X7_192 (g_r_v ef_7) dX7_number_57 ?_
          refine lv_iload hx hb dX7_number_60 (lv_at hl 0 rfl) ?_
          obtain ⟨q_8, eq_8, h⟩ := z_bd_some h
          refine g_aald (t := 3) hc hP rfl eq_8 dX7_number_62 ?_
          refine q_astore (lv' := [(7, va_rf q_8), (6, .int v_5), (3, .int a2), (4, .int a3), (5, .ref a_2)]) hx hb dX7_number_63 hl (by decide) rfl (fun ls hl => ?_)
          refine q_aload hx hb dX7_number_65 (lv_at hl 0 rfl) ?_
          refine lv_iload_n hx hb dX7_number_67 rfl (lv_at hl 2 rfl) ?_
          obtain ⟨a_9, ea_9, hu⟩ := z_bd_some h
          clear h
          subst ea_9
          have h := hu
          clear hu
          obtain ⟨ho_68, h⟩ := z_chk_some h
          obtain ⟨vs_, ho_68⟩ := Option.isSome_iff_exists.mp ho_68
          obtain ⟨r_10, e_68, h⟩ := z_bd_some h
          refine g_callV (ci := 4) (As := [.int a2]) (rv := (some (.long r_10))) (n := 1) hc hP hS rfl ho_68 (mt_X4_coefficient l D cs A S a_9 a2 e_68) wM_X7_196 wI_X4_coefficient wS_X4_coefficient wZ_X4 wC_X4_coefficient md_X4_coefficient ⟨rfl, rfl, Nat.le_of_ble_eq_true rfl, Nat.le_of_ble_eq_true rfl⟩ rfl hl.1 rfl (Nat.le_of_ble_eq_true rfl) dX7_number_68 ⟨Nat.le_of_ble_eq_true rfl, Nat.le_of_ble_eq_true rfl⟩ (fun H locs hP hS => ?_)
          show W p l e (z_rmA 2 90 0 0) s m args below meth c H locs (0) (0) Q (F0 m 71 ls [.long r_10])
          refine lv_aload hx hb dX7_number_71 (lv_at hl 0 rfl) ?_
          obtain ⟨f_11, ef_11, h⟩ := z_bd_some h
          refine g_getN (ci := 4) (k := 3) (v := .long f_11) hc hP rfl z_inX4 (by decide) wG_X7_200 (g_l_v ef_11) dX7_number_73 ?_
          refine lv_iload hx hb dX7_number_76 (lv_at hl 3 rfl) ?_
          obtain ⟨r_12, er_12, h⟩ := z_bd_some h
          refine s_calll (As := [.long r_10, .long f_11, .int a3]) (r := r_12) (n := 3) hc.1 (mt_X7_lowestTerms l r_10 f_11 a3 er_12) wM_X7_204 wT_X7_lowestTerms wZ_X7 wC_X7_lowestTerms md_X7_lowestTerms ⟨rfl, rfl, Nat.le_of_ble_eq_true rfl, Nat.le_of_ble_eq_true rfl⟩ rfl hl.1 rfl (Nat.le_of_ble_eq_true rfl) dX7_number_78 ⟨Nat.le_of_ble_eq_true rfl, Nat.le_of_ble_eq_true rfl⟩ ?_
          cases h
          rw [hQ]
          exact g_retl hc hr hlocks hP hS dX7_number_81
        · replace h := z_ip_ c_48 h
          refine lv_ldc2 (v := -1000000000000) hx hb hc.1.2.2.2.2 (hc.1.2.2.2.1 _ wL_X7_89) dX7_number_51 ?_
          cases h
          rw [hQ]
          exact g_retl hc hr hlocks hP hS dX7_number_54
      clear h
      have h := hJ
      clear hJ
      refine lv_icmp_ne (tgt := 38) hx hb dX7_number_31 (by decide) (fun c_31 => ?_) (fun c_31 => ?_)
      · replace h := z_in_ c_31 h
        refine lv_iconst (v := 0) hx hb dX7_number_38 (by decide) ?_
        cases h
        exact J_39 H locs ls hP hS (lv_sub hl [4, 5, 0] rfl)
      · replace h := z_ip_ c_31 h
        refine lv_iload_n hx hb dX7_number_34 rfl (lv_at hl 3 rfl) ?_
        refine lv_goto (tgt := 39) hx hb dX7_number_35 (by decide) ?_
        cases h
        exact J_39 H locs ls hP hS (lv_sub hl [4, 5, 0] rfl)
    · replace h := z_ip_ c_18 h
      refine lv_ldc2 (v := -1000000000000) hx hb hc.1.2.2.2.2 (hc.1.2.2.2.1 _ wL_X7_89) dX7_number_21 ?_
      cases h
      rw [hQ]
      exact g_retl hc hr hlocks hP hS dX7_number_24
theorem md_X7_number : yX7_number.cls ≠ "java/lang/invoke/MethodHandle" ∧ yX7_number.cls ≠ "java/lang/invoke/VarHandle" ∧ (parseMethodDescriptor yX7_number.desc).map (fun d => d.parameters.length) = some 4 := by decide +kernel
noncomputable def f_X7_value (S : GS) (o : Nat) (a0 : Int32) (a1 : Int32) (a2 : Int32) : Option (Int64) :=
  z_chk (g_is S 7 o) (z_bd (f_X7_fitAt S o a0) fun q_1 => z_mt q_1 (some (-1000000000000 : Int64)) fun a_2 => z_bd (f_X7_isWithin a1 (-100 : Int32) (100 : Int32)) fun r_3 => if r_3 = 0 then some (-1000000000000 : Int64) else z_chk (g_is S 1 a_2) (z_bd (f_X1_partFor S a_2 a1) fun q_4 => z_bd q_4 fun a_5 => z_chk (g_is S 4 a_5) (z_bd (f_X4_aboveAt S a_5 a1.toInt64) fun r_6 => z_bd (g_l S 4 3 a_5) fun f_7 => z_bd (f_X7_lowestTerms r_6 f_7 a2) fun r_8 => some r_8)))
set_option maxHeartbeats 4000000 in
set_option maxRecDepth 100000 in
theorem mt_X7_value (l : Launch) (D : va_G) (cs : Nat → ClassId) (A : Nat → Prop) (S : GS) (o : Nat) (a0 : Int32) (a1 : Int32) (a2 : Int32) {r_ : Int64} (h : f_X7_value S o a0 a1 a2 = some r_) : Met l yX7_value (z_wd yX7_value cX7_value 6 (some .long)) (z_rmA 2 90 0 0) (va_Pc [.ref o, .int a0, .int a1, .int a2] (g_C D cs A S)) (g_Q (some (.long r_)) S D cs A) 0 0 A := by
  refine Met.ofW (cc := cX7_value) (maxL := 6) (ret := (some .long)) (by decide) rfl ?_
  intro p e s m args below meth c s₁ B hml hv
  obtain ⟨hav, hP0, hK, hN, hSt, hAn⟩ := hv
  have hx := B.exec
  have hb := B.bytes
  have hr := B.returns
  have hts := atoms_spec (ws := z_wd yX7_value cX7_value 6 (some .long)) B.pre
  have hown : s.vm.findClass RX7 = some m.cls := findClass_of_methodNamed B.named
  have hlocks := B.notSynchronized
  have hc : g_X p s m args c cX7_value 6 RX7 D cs A := ⟨⟨hx, hb, hml, fun w hw => hts w (List.mem_cons_of_mem _ hw), hown⟩, hK, hN, hSt, hAn⟩
  have hl := lv_entry ([.ref o, .int a0, .int a1, .int a2]) (n := 6) (Nat.le_of_ble_eq_true rfl)
  have hE : entryFrame m args 6 = F0 m 0 ((lg_sl ([.ref o, .int a0, .int a1, .int a2]) ++ List.replicate (6 - (lg_sl ([.ref o, .int a0, .int a1, .int a2])).length) Slot.unset).toArray) [] := by rw [hav]; exact lg_entry_eq m _ _
  rw [hE]
  clear hE hav
  generalize (lg_sl ([.ref o, .int a0, .int a1, .int a2]) ++ List.replicate (6 - (lg_sl ([.ref o, .int a0, .int a1, .int a2])).length) Slot.unset).toArray = ls at hl ⊢
  have hl : lv_has ls 6 [(0, .ref o), (1, .int a0), (2, .int a1), (3, .int a2)] := hl
  obtain ⟨Q, hQ⟩ : ∃ Q, Q = MQ below (g_Q (some (.long r_)) S D cs A) args s 0 0 A := ⟨_, rfl⟩
  rw [← hQ]
  suffices hmain : ∀ (H : Heap) (locs : List Loc), g_P D cs A S H → va_S A s.heap H locs → W p l e (z_rmA 2 90 0 0) s m args below meth c H locs 0 0 Q (F0 m 0 ls []) from hmain s.heap [] hP0 va_S.rf
  clear hP0
  intro H locs hP hS
  unfold f_X7_value at h
  refine lv_aload_n hx hb dX7_value_0 rfl (lv_at hl 0 rfl) ?_
  refine lv_iload_n hx hb dX7_value_1 rfl (lv_at hl 1 rfl) ?_
  obtain ⟨ho_2, h⟩ := z_chk_some h
  obtain ⟨vs_, ho_2⟩ := Option.isSome_iff_exists.mp ho_2
  obtain ⟨q_1, e_2, h⟩ := z_bd_some h
  refine g_callV (ci := 7) (As := [.int a0]) (rv := (some (va_rf q_1))) (n := 1) hc hP hS rfl ho_2 (mt_X7_fitAt l D cs A S o a0 e_2) wM_X7_172 wI_X7_fitAt wS_X7_fitAt wZ_X7 wC_X7_fitAt md_X7_fitAt ⟨rfl, rfl, Nat.le_of_ble_eq_true rfl, Nat.le_of_ble_eq_true rfl⟩ rfl hl.1 rfl (Nat.le_of_ble_eq_true rfl) dX7_value_2 ⟨Nat.le_of_ble_eq_true rfl, Nat.le_of_ble_eq_true rfl⟩ (fun H locs hP hS => ?_)
  show W p l e (z_rmA 2 90 0 0) s m args below meth c H locs (0) (0) Q (F0 m 5 ls [va_rf q_1])
  refine q_astore (lv' := [(4, va_rf q_1), (0, .ref o), (1, .int a0), (2, .int a1), (3, .int a2)]) hx hb dX7_value_5 hl (by decide) rfl (fun ls hl => ?_)
  refine q_aload hx hb dX7_value_7 (lv_at hl 0 rfl) ?_
  rcases q_1 with _ | a_2
  · replace h := z_mt_n h
    refine lv_ifnullN (tgt := 23) hx hb dX7_value_9 (by decide) ?_
    refine lv_ldc2 (v := -1000000000000) hx hb hc.1.2.2.2.2 (hc.1.2.2.2.1 _ wL_X7_89) dX7_value_23 ?_
    cases h
    rw [hQ]
    exact g_retl hc hr hlocks hP hS dX7_value_26
  · replace h := z_mt_s h
    refine lv_ifnull hx hb dX7_value_9 ?_
    refine lv_iload_n hx hb dX7_value_12 rfl (lv_at hl 3 rfl) ?_
    refine lv_bipush (v := -100) hx hb dX7_value_13 (by decide) ?_
    refine lv_bipush (v := 100) hx hb dX7_value_15 (by decide) ?_
    obtain ⟨r_3, er_3, h⟩ := z_bd_some h
    refine s_calli (As := [.int a1, .int (-100 : Int32), .int (100 : Int32)]) (r := r_3) (n := 3) hc.1 (mt_X7_isWithin l a1 (-100 : Int32) (100 : Int32) er_3) wM_X7_101 wT_X7_isWithin wZ_X7 wC_X7_isWithin md_X7_isWithin ⟨rfl, rfl, Nat.le_of_ble_eq_true rfl, Nat.le_of_ble_eq_true rfl⟩ rfl hl.1 rfl (Nat.le_of_ble_eq_true rfl) dX7_value_17 ⟨Nat.le_of_ble_eq_true rfl, Nat.le_of_ble_eq_true rfl⟩ ?_
    refine lv_if_ne (tgt := 27) hx hb dX7_value_20 (by decide) (fun c_20 => ?_) (fun c_20 => ?_)
    · replace h := z_in_ c_20 h
      refine lv_aload hx hb dX7_value_27 (lv_at hl 0 rfl) ?_
      refine lv_iload_n hx hb dX7_value_29 rfl (lv_at hl 3 rfl) ?_
      obtain ⟨ho_30, h⟩ := z_chk_some h
      obtain ⟨vs_, ho_30⟩ := Option.isSome_iff_exists.mp ho_30
      obtain ⟨q_4, e_30, h⟩ := z_bd_some h
      refine g_callV (ci := 1) (As := [.int a1]) (rv := (some (va_rf q_4))) (n := 1) hc hP hS rfl ho_30 (mt_X1_partFor l D cs A S a_2 a1 e_30) wM_X7_208 wI_X1_partFor wS_X1_partFor wZ_X1 wC_X1_partFor md_X1_partFor ⟨rfl, rfl, Nat.le_of_ble_eq_true rfl, Nat.le_of_ble_eq_true rfl⟩ rfl hl.1 rfl (Nat.le_of_ble_eq_true rfl) dX7_value_30 ⟨Nat.le_of_ble_eq_true rfl, Nat.le_of_ble_eq_true rfl⟩ (fun H locs hP hS => ?_)
      show W p l e (z_rmA 2 90 0 0) s m args below meth c H locs (0) (0) Q (F0 m 33 ls [va_rf q_4])
      refine q_astore (lv' := [(5, va_rf q_4), (4, .ref a_2), (0, .ref o), (1, .int a0), (2, .int a1), (3, .int a2)]) hx hb dX7_value_33 hl (by decide) rfl (fun ls hl => ?_)
      refine q_aload hx hb dX7_value_35 (lv_at hl 0 rfl) ?_
      refine lv_iload_n hx hb dX7_value_37 rfl (lv_at hl 4 rfl) ?_
      refine lv_i2l (v := a1.toInt64) hx hb dX7_value_38 rfl ?_
      obtain ⟨a_5, ea_5, hu⟩ := z_bd_some h
      clear h
      subst ea_5
      have h := hu
      clear hu
      obtain ⟨ho_39, h⟩ := z_chk_some h
      obtain ⟨vs_, ho_39⟩ := Option.isSome_iff_exists.mp ho_39
      obtain ⟨r_6, e_39, h⟩ := z_bd_some h
      refine g_callV (ci := 4) (As := [.long a1.toInt64]) (rv := (some (.long r_6))) (n := 1) hc hP hS rfl ho_39 (mt_X4_aboveAt l D cs A S a_5 a1.toInt64 e_39) wM_X7_211 wI_X4_aboveAt wS_X4_aboveAt wZ_X4 wC_X4_aboveAt md_X4_aboveAt ⟨rfl, rfl, Nat.le_of_ble_eq_true rfl, Nat.le_of_ble_eq_true rfl⟩ rfl hl.1 rfl (Nat.le_of_ble_eq_true rfl) dX7_value_39 ⟨Nat.le_of_ble_eq_true rfl, Nat.le_of_ble_eq_true rfl⟩ (fun H locs hP hS => ?_)
      show W p l e (z_rmA 2 90 0 0) s m args below meth c H locs (0) (0) Q (F0 m 42 ls [.long r_6])
      refine lv_aload hx hb dX7_value_42 (lv_at hl 0 rfl) ?_
      obtain ⟨f_7, ef_7, h⟩ := z_bd_some h
      refine g_getN (ci := 4) (k := 3) (v := .long f_7) hc hP rfl z_inX4 (by decide) wG_X7_200 (g_l_v ef_7) dX7_value_44 ?_
      refine lv_iload_n hx hb dX7_value_47 rfl (lv_at hl 5 rfl) ?_
      obtain ⟨r_8, er_8, h⟩ := z_bd_some h
      refine s_calll (As := [.long r_6, .long f_7, .int a2]) (r := r_8) (n := 3) hc.1 (mt_X7_lowestTerms l r_6 f_7 a2 er_8) wM_X7_204 wT_X7_lowestTerms wZ_X7 wC_X7_lowestTerms md_X7_lowestTerms ⟨rfl, rfl, Nat.le_of_ble_eq_true rfl, Nat.le_of_ble_eq_true rfl⟩ rfl hl.1 rfl (Nat.le_of_ble_eq_true rfl) dX7_value_48 ⟨Nat.le_of_ble_eq_true rfl, Nat.le_of_ble_eq_true rfl⟩ ?_
      cases h
      rw [hQ]
      exact g_retl hc hr hlocks hP hS dX7_value_51
    · replace h := z_ip_ c_20 h
      refine lv_ldc2 (v := -1000000000000) hx hb hc.1.2.2.2.2 (hc.1.2.2.2.1 _ wL_X7_89) dX7_value_23 ?_
      cases h
      rw [hQ]
      exact g_retl hc hr hlocks hP hS dX7_value_26
theorem md_X7_value : yX7_value.cls ≠ "java/lang/invoke/MethodHandle" ∧ yX7_value.cls ≠ "java/lang/invoke/VarHandle" ∧ (parseMethodDescriptor yX7_value.desc).map (fun d => d.parameters.length) = some 3 := by decide +kernel
noncomputable def f_X7_miss (S : GS) (o : Nat) (a0 : Int32) (a1 : Int32) (a2 : Int32) : Option (Int64) :=
  z_chk (g_is S 7 o) (z_bd (f_X7_fitAt S o a0) fun q_1 => z_mt q_1 (some (-1000000000000 : Int64)) fun a_2 => z_bd (g_r S 1 3 a_2) fun f_3 => z_chk (g_is S 3 f_3) (z_bd (f_X3_has S f_3 a1) fun r_4 => if r_4 = 0 then some (-1000000000000 : Int64) else z_chk (g_is S 1 a_2) (z_bd (f_X1_missAbove S a_2 a1) fun r_5 => z_chk (g_is S 1 a_2) (z_bd (f_X1_missBelow S a_2 a1) fun r_6 => z_bd (f_X7_lowestTerms r_5 r_6 a2) fun r_7 => some r_7))))
set_option maxHeartbeats 4000000 in
set_option maxRecDepth 100000 in
theorem mt_X7_miss (l : Launch) (D : va_G) (cs : Nat → ClassId) (A : Nat → Prop) (S : GS) (o : Nat) (a0 : Int32) (a1 : Int32) (a2 : Int32) {r_ : Int64} (h : f_X7_miss S o a0 a1 a2 = some r_) : Met l yX7_miss (z_wd yX7_miss cX7_miss 5 (some .long)) (z_rmA 2 90 0 0) (va_Pc [.ref o, .int a0, .int a1, .int a2] (g_C D cs A S)) (g_Q (some (.long r_)) S D cs A) 0 0 A := by
  refine Met.ofW (cc := cX7_miss) (maxL := 5) (ret := (some .long)) (by decide) rfl ?_
  intro p e s m args below meth c s₁ B hml hv
  obtain ⟨hav, hP0, hK, hN, hSt, hAn⟩ := hv
  have hx := B.exec
  have hb := B.bytes
  have hr := B.returns
  have hts := atoms_spec (ws := z_wd yX7_miss cX7_miss 5 (some .long)) B.pre
  have hown : s.vm.findClass RX7 = some m.cls := findClass_of_methodNamed B.named
  have hlocks := B.notSynchronized
  have hc : g_X p s m args c cX7_miss 5 RX7 D cs A := ⟨⟨hx, hb, hml, fun w hw => hts w (List.mem_cons_of_mem _ hw), hown⟩, hK, hN, hSt, hAn⟩
  have hl := lv_entry ([.ref o, .int a0, .int a1, .int a2]) (n := 5) (Nat.le_of_ble_eq_true rfl)
  have hE : entryFrame m args 5 = F0 m 0 ((lg_sl ([.ref o, .int a0, .int a1, .int a2]) ++ List.replicate (5 - (lg_sl ([.ref o, .int a0, .int a1, .int a2])).length) Slot.unset).toArray) [] := by rw [hav]; exact lg_entry_eq m _ _
  rw [hE]
  clear hE hav
  generalize (lg_sl ([.ref o, .int a0, .int a1, .int a2]) ++ List.replicate (5 - (lg_sl ([.ref o, .int a0, .int a1, .int a2])).length) Slot.unset).toArray = ls at hl ⊢
  have hl : lv_has ls 5 [(0, .ref o), (1, .int a0), (2, .int a1), (3, .int a2)] := hl
  obtain ⟨Q, hQ⟩ : ∃ Q, Q = MQ below (g_Q (some (.long r_)) S D cs A) args s 0 0 A := ⟨_, rfl⟩
  rw [← hQ]
  suffices hmain : ∀ (H : Heap) (locs : List Loc), g_P D cs A S H → va_S A s.heap H locs → W p l e (z_rmA 2 90 0 0) s m args below meth c H locs 0 0 Q (F0 m 0 ls []) from hmain s.heap [] hP0 va_S.rf
  clear hP0
  intro H locs hP hS
  unfold f_X7_miss at h
  refine lv_aload_n hx hb dX7_miss_0 rfl (lv_at hl 0 rfl) ?_
  refine lv_iload_n hx hb dX7_miss_1 rfl (lv_at hl 1 rfl) ?_
  obtain ⟨ho_2, h⟩ := z_chk_some h
  obtain ⟨vs_, ho_2⟩ := Option.isSome_iff_exists.mp ho_2
  obtain ⟨q_1, e_2, h⟩ := z_bd_some h
  refine g_callV (ci := 7) (As := [.int a0]) (rv := (some (va_rf q_1))) (n := 1) hc hP hS rfl ho_2 (mt_X7_fitAt l D cs A S o a0 e_2) wM_X7_172 wI_X7_fitAt wS_X7_fitAt wZ_X7 wC_X7_fitAt md_X7_fitAt ⟨rfl, rfl, Nat.le_of_ble_eq_true rfl, Nat.le_of_ble_eq_true rfl⟩ rfl hl.1 rfl (Nat.le_of_ble_eq_true rfl) dX7_miss_2 ⟨Nat.le_of_ble_eq_true rfl, Nat.le_of_ble_eq_true rfl⟩ (fun H locs hP hS => ?_)
  show W p l e (z_rmA 2 90 0 0) s m args below meth c H locs (0) (0) Q (F0 m 5 ls [va_rf q_1])
  refine q_astore (lv' := [(4, va_rf q_1), (0, .ref o), (1, .int a0), (2, .int a1), (3, .int a2)]) hx hb dX7_miss_5 hl (by decide) rfl (fun ls hl => ?_)
  refine q_aload hx hb dX7_miss_7 (lv_at hl 0 rfl) ?_
  rcases q_1 with _ | a_2
  · replace h := z_mt_n h
    refine lv_ifnullN (tgt := 24) hx hb dX7_miss_9 (by decide) ?_
    refine lv_ldc2 (v := -1000000000000) hx hb hc.1.2.2.2.2 (hc.1.2.2.2.1 _ wL_X7_89) dX7_miss_24 ?_
    cases h
    rw [hQ]
    exact g_retl hc hr hlocks hP hS dX7_miss_27
  · replace h := z_mt_s h
    refine lv_ifnull hx hb dX7_miss_9 ?_
    refine lv_aload hx hb dX7_miss_12 (lv_at hl 0 rfl) ?_
    obtain ⟨f_3, ef_3, h⟩ := z_bd_some h
    refine g_getN (ci := 1) (k := 3) (v := .ref f_3) hc hP rfl z_inX1 (by decide) wG_X7_132 (g_r_v ef_3) dX7_miss_14 ?_
    refine lv_iload_n hx hb dX7_miss_17 rfl (lv_at hl 3 rfl) ?_
    obtain ⟨ho_18, h⟩ := z_chk_some h
    obtain ⟨vs_, ho_18⟩ := Option.isSome_iff_exists.mp ho_18
    obtain ⟨r_4, e_18, h⟩ := z_bd_some h
    refine g_callV (ci := 3) (As := [.int a1]) (rv := (some (.int r_4))) (n := 1) hc hP hS rfl ho_18 (mt_X3_has l D cs A S f_3 a1 e_18) wM_X7_83 wI_X3_has wS_X3_has wZ_X3 wC_X3_has md_X3_has ⟨rfl, rfl, Nat.le_of_ble_eq_true rfl, Nat.le_of_ble_eq_true rfl⟩ rfl hl.1 rfl (Nat.le_of_ble_eq_true rfl) dX7_miss_18 ⟨Nat.le_of_ble_eq_true rfl, Nat.le_of_ble_eq_true rfl⟩ (fun H locs hP hS => ?_)
    show W p l e (z_rmA 2 90 0 0) s m args below meth c H locs (0) (0) Q (F0 m 21 ls [.int r_4])
    refine lv_if_ne (tgt := 28) hx hb dX7_miss_21 (by decide) (fun c_21 => ?_) (fun c_21 => ?_)
    · replace h := z_in_ c_21 h
      refine lv_aload hx hb dX7_miss_28 (lv_at hl 0 rfl) ?_
      refine lv_iload_n hx hb dX7_miss_30 rfl (lv_at hl 3 rfl) ?_
      obtain ⟨ho_31, h⟩ := z_chk_some h
      obtain ⟨vs_, ho_31⟩ := Option.isSome_iff_exists.mp ho_31
      obtain ⟨r_5, e_31, h⟩ := z_bd_some h
      refine g_callV (ci := 1) (As := [.int a1]) (rv := (some (.long r_5))) (n := 1) hc hP hS rfl ho_31 (mt_X1_missAbove l D cs A S a_2 a1 e_31) wM_X7_215 wI_X1_missAbove wS_X1_missAbove wZ_X1 wC_X1_missAbove md_X1_missAbove ⟨rfl, rfl, Nat.le_of_ble_eq_true rfl, Nat.le_of_ble_eq_true rfl⟩ rfl hl.1 rfl (Nat.le_of_ble_eq_true rfl) dX7_miss_31 ⟨Nat.le_of_ble_eq_true rfl, Nat.le_of_ble_eq_true rfl⟩ (fun H locs hP hS => ?_)
      show W p l e (z_rmA 2 90 0 0) s m args below meth c H locs (0) (0) Q (F0 m 34 ls [.long r_5])
      refine lv_aload hx hb dX7_miss_34 (lv_at hl 0 rfl) ?_
      refine lv_iload_n hx hb dX7_miss_36 rfl (lv_at hl 3 rfl) ?_
      obtain ⟨ho_37, h⟩ := z_chk_some h
      obtain ⟨vs_, ho_37⟩ := Option.isSome_iff_exists.mp ho_37
      obtain ⟨r_6, e_37, h⟩ := z_bd_some h
      refine g_callV (ci := 1) (As := [.int a1]) (rv := (some (.long r_6))) (n := 1) hc hP hS rfl ho_37 (mt_X1_missBelow l D cs A S a_2 a1 e_37) wM_X7_218 wI_X1_missBelow wS_X1_missBelow wZ_X1 wC_X1_missBelow md_X1_missBelow ⟨rfl, rfl, Nat.le_of_ble_eq_true rfl, Nat.le_of_ble_eq_true rfl⟩ rfl hl.1 rfl (Nat.le_of_ble_eq_true rfl) dX7_miss_37 ⟨Nat.le_of_ble_eq_true rfl, Nat.le_of_ble_eq_true rfl⟩ (fun H locs hP hS => ?_)
      show W p l e (z_rmA 2 90 0 0) s m args below meth c H locs (0) (0) Q (F0 m 40 ls [.long r_6, .long r_5])
      refine lv_iload_n hx hb dX7_miss_40 rfl (lv_at hl 4 rfl) ?_
      obtain ⟨r_7, er_7, h⟩ := z_bd_some h
      refine s_calll (As := [.long r_5, .long r_6, .int a2]) (r := r_7) (n := 3) hc.1 (mt_X7_lowestTerms l r_5 r_6 a2 er_7) wM_X7_204 wT_X7_lowestTerms wZ_X7 wC_X7_lowestTerms md_X7_lowestTerms ⟨rfl, rfl, Nat.le_of_ble_eq_true rfl, Nat.le_of_ble_eq_true rfl⟩ rfl hl.1 rfl (Nat.le_of_ble_eq_true rfl) dX7_miss_41 ⟨Nat.le_of_ble_eq_true rfl, Nat.le_of_ble_eq_true rfl⟩ ?_
      cases h
      rw [hQ]
      exact g_retl hc hr hlocks hP hS dX7_miss_44
    · replace h := z_ip_ c_21 h
      refine lv_ldc2 (v := -1000000000000) hx hb hc.1.2.2.2.2 (hc.1.2.2.2.1 _ wL_X7_89) dX7_miss_24 ?_
      cases h
      rw [hQ]
      exact g_retl hc hr hlocks hP hS dX7_miss_27
theorem md_X7_miss : yX7_miss.cls ≠ "java/lang/invoke/MethodHandle" ∧ yX7_miss.cls ≠ "java/lang/invoke/VarHandle" ∧ (parseMethodDescriptor yX7_miss.desc).map (fun d => d.parameters.length) = some 3 := by decide +kernel
noncomputable def f_X7_level (S : GS) (o : Nat) (a0 : Int32) (a1 : Int32) : Option (Int64) :=
  z_chk (g_is S 7 o) (z_bd (f_X7_fitAt S o a0) fun q_1 => z_mt q_1 (some (-1000000000000 : Int64)) fun a_2 => z_chk (g_is S 1 a_2) (z_bd (f_X1_farthest S a_2 ) fun r_3 => z_chk (g_is S 1 a_2) (z_bd (f_X1_missSize S a_2 r_3) fun r_4 => z_chk (g_is S 1 a_2) (z_bd (f_X1_missBelow S a_2 r_3) fun r_5 => z_bd (f_X7_lowestTerms r_4 r_5 a1) fun r_6 => some r_6))))
set_option maxHeartbeats 4000000 in
set_option maxRecDepth 100000 in
theorem mt_X7_level (l : Launch) (D : va_G) (cs : Nat → ClassId) (A : Nat → Prop) (S : GS) (o : Nat) (a0 : Int32) (a1 : Int32) {r_ : Int64} (h : f_X7_level S o a0 a1 = some r_) : Met l yX7_level (z_wd yX7_level cX7_level 5 (some .long)) (z_rmA 5 191 0 0) (va_Pc [.ref o, .int a0, .int a1] (g_C D cs A S)) (g_Q (some (.long r_)) S D cs A) 0 0 A := by
  refine Met.ofW (cc := cX7_level) (maxL := 5) (ret := (some .long)) (by decide) rfl ?_
  intro p e s m args below meth c s₁ B hml hv
  obtain ⟨hav, hP0, hK, hN, hSt, hAn⟩ := hv
  have hx := B.exec
  have hb := B.bytes
  have hr := B.returns
  have hts := atoms_spec (ws := z_wd yX7_level cX7_level 5 (some .long)) B.pre
  have hown : s.vm.findClass RX7 = some m.cls := findClass_of_methodNamed B.named
  have hlocks := B.notSynchronized
  have hc : g_X p s m args c cX7_level 5 RX7 D cs A := ⟨⟨hx, hb, hml, fun w hw => hts w (List.mem_cons_of_mem _ hw), hown⟩, hK, hN, hSt, hAn⟩
  have hl := lv_entry ([.ref o, .int a0, .int a1]) (n := 5) (Nat.le_of_ble_eq_true rfl)
  have hE : entryFrame m args 5 = F0 m 0 ((lg_sl ([.ref o, .int a0, .int a1]) ++ List.replicate (5 - (lg_sl ([.ref o, .int a0, .int a1])).length) Slot.unset).toArray) [] := by rw [hav]; exact lg_entry_eq m _ _
  rw [hE]
  clear hE hav
  generalize (lg_sl ([.ref o, .int a0, .int a1]) ++ List.replicate (5 - (lg_sl ([.ref o, .int a0, .int a1])).length) Slot.unset).toArray = ls at hl ⊢
  have hl : lv_has ls 5 [(0, .ref o), (1, .int a0), (2, .int a1)] := hl
  obtain ⟨Q, hQ⟩ : ∃ Q, Q = MQ below (g_Q (some (.long r_)) S D cs A) args s 0 0 A := ⟨_, rfl⟩
  rw [← hQ]
  suffices hmain : ∀ (H : Heap) (locs : List Loc), g_P D cs A S H → va_S A s.heap H locs → W p l e (z_rmA 5 191 0 0) s m args below meth c H locs 0 0 Q (F0 m 0 ls []) from hmain s.heap [] hP0 va_S.rf
  clear hP0
  intro H locs hP hS
  unfold f_X7_level at h
  refine lv_aload_n hx hb dX7_level_0 rfl (lv_at hl 0 rfl) ?_
  refine lv_iload_n hx hb dX7_level_1 rfl (lv_at hl 1 rfl) ?_
  obtain ⟨ho_2, h⟩ := z_chk_some h
  obtain ⟨vs_, ho_2⟩ := Option.isSome_iff_exists.mp ho_2
  obtain ⟨q_1, e_2, h⟩ := z_bd_some h
  refine g_callV (ci := 7) (As := [.int a0]) (rv := (some (va_rf q_1))) (n := 1) hc hP hS rfl ho_2 (mt_X7_fitAt l D cs A S o a0 e_2) wM_X7_172 wI_X7_fitAt wS_X7_fitAt wZ_X7 wC_X7_fitAt md_X7_fitAt ⟨rfl, rfl, Nat.le_of_ble_eq_true rfl, Nat.le_of_ble_eq_true rfl⟩ rfl hl.1 rfl (Nat.le_of_ble_eq_true rfl) dX7_level_2 ⟨Nat.le_of_ble_eq_true rfl, Nat.le_of_ble_eq_true rfl⟩ (fun H locs hP hS => ?_)
  show W p l e (z_rmA 5 191 0 0) s m args below meth c H locs (0) (0) Q (F0 m 5 ls [va_rf q_1])
  refine q_astore_n (lv' := [(3, va_rf q_1), (0, .ref o), (1, .int a0), (2, .int a1)]) hx hb dX7_level_5 rfl hl (by decide) rfl (fun ls hl => ?_)
  refine q_aload_n hx hb dX7_level_6 rfl (lv_at hl 0 rfl) ?_
  rcases q_1 with _ | a_2
  · replace h := z_mt_n h
    refine lv_ifnonnullN hx hb dX7_level_7 ?_
    refine lv_ldc2 (v := -1000000000000) hx hb hc.1.2.2.2.2 (hc.1.2.2.2.1 _ wL_X7_89) dX7_level_10 ?_
    cases h
    rw [hQ]
    exact g_retl hc hr hlocks hP hS dX7_level_13
  · replace h := z_mt_s h
    refine lv_ifnonnull (tgt := 14) hx hb dX7_level_7 (by decide) ?_
    refine lv_aload_n hx hb dX7_level_14 rfl (lv_at hl 0 rfl) ?_
    obtain ⟨ho_15, h⟩ := z_chk_some h
    obtain ⟨vs_, ho_15⟩ := Option.isSome_iff_exists.mp ho_15
    obtain ⟨r_3, e_15, h⟩ := z_bd_some h
    refine g_callV (ci := 1) (As := []) (rv := (some (.int r_3))) (n := 0) hc hP hS rfl ho_15 (mt_X1_farthest l D cs A S a_2  e_15) wM_X7_221 wI_X1_farthest wS_X1_farthest wZ_X1 wC_X1_farthest md_X1_farthest ⟨rfl, rfl, Nat.le_of_ble_eq_true rfl, Nat.le_of_ble_eq_true rfl⟩ rfl hl.1 rfl (Nat.le_of_ble_eq_true rfl) dX7_level_15 ⟨Nat.le_of_ble_eq_true rfl, Nat.le_of_ble_eq_true rfl⟩ (fun H locs hP hS => ?_)
    show W p l e (z_rmA 5 191 0 0) s m args below meth c H locs (0) (0) Q (F0 m 18 ls [.int r_3])
    refine lv_istore (lv' := [(4, .int r_3), (3, .ref a_2), (0, .ref o), (1, .int a0), (2, .int a1)]) hx hb dX7_level_18 hl (by decide) rfl (fun ls hl => ?_)
    refine lv_aload_n hx hb dX7_level_20 rfl (lv_at hl 1 rfl) ?_
    refine lv_iload hx hb dX7_level_21 (lv_at hl 0 rfl) ?_
    obtain ⟨ho_23, h⟩ := z_chk_some h
    obtain ⟨vs_, ho_23⟩ := Option.isSome_iff_exists.mp ho_23
    obtain ⟨r_4, e_23, h⟩ := z_bd_some h
    refine g_callV (ci := 1) (As := [.int r_3]) (rv := (some (.long r_4))) (n := 1) hc hP hS rfl ho_23 (mt_X1_missSize l D cs A S a_2 r_3 e_23) wM_X7_224 wI_X1_missSize wS_X1_missSize wZ_X1 wC_X1_missSize md_X1_missSize ⟨rfl, rfl, Nat.le_of_ble_eq_true rfl, Nat.le_of_ble_eq_true rfl⟩ rfl hl.1 rfl (Nat.le_of_ble_eq_true rfl) dX7_level_23 ⟨Nat.le_of_ble_eq_true rfl, Nat.le_of_ble_eq_true rfl⟩ (fun H locs hP hS => ?_)
    show W p l e (z_rmA 5 191 0 0) s m args below meth c H locs (0) (0) Q (F0 m 26 ls [.long r_4])
    refine lv_aload_n hx hb dX7_level_26 rfl (lv_at hl 1 rfl) ?_
    refine lv_iload hx hb dX7_level_27 (lv_at hl 0 rfl) ?_
    obtain ⟨ho_29, h⟩ := z_chk_some h
    obtain ⟨vs_, ho_29⟩ := Option.isSome_iff_exists.mp ho_29
    obtain ⟨r_5, e_29, h⟩ := z_bd_some h
    refine g_callV (ci := 1) (As := [.int r_3]) (rv := (some (.long r_5))) (n := 1) hc hP hS rfl ho_29 (mt_X1_missBelow l D cs A S a_2 r_3 e_29) wM_X7_218 wI_X1_missBelow wS_X1_missBelow wZ_X1 wC_X1_missBelow md_X1_missBelow ⟨rfl, rfl, Nat.le_of_ble_eq_true rfl, Nat.le_of_ble_eq_true rfl⟩ rfl hl.1 rfl (Nat.le_of_ble_eq_true rfl) dX7_level_29 ⟨Nat.le_of_ble_eq_true rfl, Nat.le_of_ble_eq_true rfl⟩ (fun H locs hP hS => ?_)
    show W p l e (z_rmA 5 191 0 0) s m args below meth c H locs (0) (0) Q (F0 m 32 ls [.long r_5, .long r_4])
    refine lv_iload_n hx hb dX7_level_32 rfl (lv_at hl 4 rfl) ?_
    obtain ⟨r_6, er_6, h⟩ := z_bd_some h
    refine s_calll (As := [.long r_4, .long r_5, .int a1]) (r := r_6) (n := 3) hc.1 (mt_X7_lowestTerms l r_4 r_5 a1 er_6) wM_X7_204 wT_X7_lowestTerms wZ_X7 wC_X7_lowestTerms md_X7_lowestTerms ⟨rfl, rfl, Nat.le_of_ble_eq_true rfl, Nat.le_of_ble_eq_true rfl⟩ rfl hl.1 rfl (Nat.le_of_ble_eq_true rfl) dX7_level_33 ⟨Nat.le_of_ble_eq_true rfl, Nat.le_of_ble_eq_true rfl⟩ ?_
    cases h
    rw [hQ]
    exact g_retl hc hr hlocks hP hS dX7_level_36
theorem md_X7_level : yX7_level.cls ≠ "java/lang/invoke/MethodHandle" ∧ yX7_level.cls ≠ "java/lang/invoke/VarHandle" ∧ (parseMethodDescriptor yX7_level.desc).map (fun d => d.parameters.length) = some 2 := by decide +kernel
noncomputable def f_X7_far (S : GS) (o : Nat) (a0 : Int32) (a1 : Int32) : Option (Int32) :=
  z_chk (g_is S 7 o) (z_bd (f_X7_fitAt S o a0) fun q_1 => z_mt q_1 (some (-1 : Int32)) fun a_2 => z_chk (g_is S 1 a_2) (z_bd (f_X1_farPoint S a_2 a1) fun r_3 => some r_3))
set_option maxHeartbeats 4000000 in
set_option maxRecDepth 100000 in
theorem mt_X7_far (l : Launch) (D : va_G) (cs : Nat → ClassId) (A : Nat → Prop) (S : GS) (o : Nat) (a0 : Int32) (a1 : Int32) {r_ : Int32} (h : f_X7_far S o a0 a1 = some r_) : Met l yX7_far (z_wd yX7_far cX7_far 4 (some .int)) (z_rmA 6 231 0 0) (va_Pc [.ref o, .int a0, .int a1] (g_C D cs A S)) (g_Q (some (.int r_)) S D cs A) 0 0 A := by
  refine Met.ofW (cc := cX7_far) (maxL := 4) (ret := (some .int)) (by decide) rfl ?_
  intro p e s m args below meth c s₁ B hml hv
  obtain ⟨hav, hP0, hK, hN, hSt, hAn⟩ := hv
  have hx := B.exec
  have hb := B.bytes
  have hr := B.returns
  have hts := atoms_spec (ws := z_wd yX7_far cX7_far 4 (some .int)) B.pre
  have hown : s.vm.findClass RX7 = some m.cls := findClass_of_methodNamed B.named
  have hlocks := B.notSynchronized
  have hc : g_X p s m args c cX7_far 4 RX7 D cs A := ⟨⟨hx, hb, hml, fun w hw => hts w (List.mem_cons_of_mem _ hw), hown⟩, hK, hN, hSt, hAn⟩
  have hl := lv_entry ([.ref o, .int a0, .int a1]) (n := 4) (Nat.le_of_ble_eq_true rfl)
  have hE : entryFrame m args 4 = F0 m 0 ((lg_sl ([.ref o, .int a0, .int a1]) ++ List.replicate (4 - (lg_sl ([.ref o, .int a0, .int a1])).length) Slot.unset).toArray) [] := by rw [hav]; exact lg_entry_eq m _ _
  rw [hE]
  clear hE hav
  generalize (lg_sl ([.ref o, .int a0, .int a1]) ++ List.replicate (4 - (lg_sl ([.ref o, .int a0, .int a1])).length) Slot.unset).toArray = ls at hl ⊢
  have hl : lv_has ls 4 [(0, .ref o), (1, .int a0), (2, .int a1)] := hl
  obtain ⟨Q, hQ⟩ : ∃ Q, Q = MQ below (g_Q (some (.int r_)) S D cs A) args s 0 0 A := ⟨_, rfl⟩
  rw [← hQ]
  suffices hmain : ∀ (H : Heap) (locs : List Loc), g_P D cs A S H → va_S A s.heap H locs → W p l e (z_rmA 6 231 0 0) s m args below meth c H locs 0 0 Q (F0 m 0 ls []) from hmain s.heap [] hP0 va_S.rf
  clear hP0
  intro H locs hP hS
  unfold f_X7_far at h
  refine lv_aload_n hx hb dX7_far_0 rfl (lv_at hl 0 rfl) ?_
  refine lv_iload_n hx hb dX7_far_1 rfl (lv_at hl 1 rfl) ?_
  obtain ⟨ho_2, h⟩ := z_chk_some h
  obtain ⟨vs_, ho_2⟩ := Option.isSome_iff_exists.mp ho_2
  obtain ⟨q_1, e_2, h⟩ := z_bd_some h
  refine g_callV (ci := 7) (As := [.int a0]) (rv := (some (va_rf q_1))) (n := 1) hc hP hS rfl ho_2 (mt_X7_fitAt l D cs A S o a0 e_2) wM_X7_172 wI_X7_fitAt wS_X7_fitAt wZ_X7 wC_X7_fitAt md_X7_fitAt ⟨rfl, rfl, Nat.le_of_ble_eq_true rfl, Nat.le_of_ble_eq_true rfl⟩ rfl hl.1 rfl (Nat.le_of_ble_eq_true rfl) dX7_far_2 ⟨Nat.le_of_ble_eq_true rfl, Nat.le_of_ble_eq_true rfl⟩ (fun H locs hP hS => ?_)
  show W p l e (z_rmA 6 231 0 0) s m args below meth c H locs (0) (0) Q (F0 m 5 ls [va_rf q_1])
  refine q_astore_n (lv' := [(3, va_rf q_1), (0, .ref o), (1, .int a0), (2, .int a1)]) hx hb dX7_far_5 rfl hl (by decide) rfl (fun ls hl => ?_)
  refine q_aload_n hx hb dX7_far_6 rfl (lv_at hl 0 rfl) ?_
  rcases q_1 with _ | a_2
  · replace h := z_mt_n h
    refine lv_ifnonnullN hx hb dX7_far_7 ?_
    refine lv_iconst (v := -1) hx hb dX7_far_10 (by decide) ?_
    refine lv_goto (tgt := 19) hx hb dX7_far_11 (by decide) ?_
    cases h
    rw [hQ]
    exact g_reti hc hr hlocks hP hS dX7_far_19
  · replace h := z_mt_s h
    refine lv_ifnonnull (tgt := 14) hx hb dX7_far_7 (by decide) ?_
    refine lv_aload_n hx hb dX7_far_14 rfl (lv_at hl 0 rfl) ?_
    refine lv_iload_n hx hb dX7_far_15 rfl (lv_at hl 3 rfl) ?_
    obtain ⟨ho_16, h⟩ := z_chk_some h
    obtain ⟨vs_, ho_16⟩ := Option.isSome_iff_exists.mp ho_16
    obtain ⟨r_3, e_16, h⟩ := z_bd_some h
    refine g_callV (ci := 1) (As := [.int a1]) (rv := (some (.int r_3))) (n := 1) hc hP hS rfl ho_16 (mt_X1_farPoint l D cs A S a_2 a1 e_16) wM_X7_227 wI_X1_farPoint wS_X1_farPoint wZ_X1 wC_X1_farPoint md_X1_farPoint ⟨rfl, rfl, Nat.le_of_ble_eq_true rfl, Nat.le_of_ble_eq_true rfl⟩ rfl hl.1 rfl (Nat.le_of_ble_eq_true rfl) dX7_far_16 ⟨Nat.le_of_ble_eq_true rfl, Nat.le_of_ble_eq_true rfl⟩ (fun H locs hP hS => ?_)
    show W p l e (z_rmA 6 231 0 0) s m args below meth c H locs (0) (0) Q (F0 m 19 ls [.int r_3])
    cases h
    rw [hQ]
    exact g_reti hc hr hlocks hP hS dX7_far_19
theorem md_X7_far : yX7_far.cls ≠ "java/lang/invoke/MethodHandle" ∧ yX7_far.cls ≠ "java/lang/invoke/VarHandle" ∧ (parseMethodDescriptor yX7_far.desc).map (fun d => d.parameters.length) = some 2 := by decide +kernel
