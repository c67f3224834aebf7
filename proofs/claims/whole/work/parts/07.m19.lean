noncomputable def f_X8_missOfTurns (M : MS) (a0 : Int32) (a1 : Int32) : Option (MS) :=
  z_chk (z_in (((12 : Int32) * a0) + a1) 120) (z_bd (f_X8_valueOf M (M.2 28 (0 : Int32).toNatClampNeg) (M.2 29 (0 : Int32).toNatClampNeg) (M.2 28 (1 : Int32).toNatClampNeg) (M.2 29 (1 : Int32).toNatClampNeg) (M.2 28 (2 : Int32).toNatClampNeg) (M.2 29 (2 : Int32).toNatClampNeg) (M.1 8 (((12 : Int32) * a0) + a1).toNatClampNeg)) fun M_1 => z_chk (z_in (((12 : Int32) * a0) + a1) 120) (z_bd (f_X8_plus M_1 (M_1.1 9 (((12 : Int32) * a0) + a1).toNatClampNeg).toInt64 (1 : Int64) (-(M_1.2 21 0)) (M_1.2 22 0)) fun M_2 => z_chk (z_in (((12 : Int32) * a0) + a1) 120) (z_bd (f_X8_times M_2 (M_2.2 21 0) (M_2.2 22 0) (M_2.1 10 (((12 : Int32) * a0) + a1).toNatClampNeg).toInt64 (1 : Int64)) fun M_3 => some M_3)))
set_option maxHeartbeats 4000000 in
set_option maxRecDepth 100000 in
theorem mt_X8_missOfTurns (l : Launch) (D : va_G) (cI cJ : ClassId) (o sz : Nat) (M : MS) (a0 : Int32) (a1 : Int32) {N_ : MS} (h : f_X8_missOfTurns M a0 a1 = some N_) : Met l yX8_missOfTurns (z_wd yX8_missOfTurns cX8_missOfTurns 4 none) (z_rm 4 184) (va_Pc [.ref o, .int a0, .int a1] (m_C D cI cJ o sz M)) (va_Qv (fun (M1 : MS) => M1 = N_) (m_C D cI cJ o sz) (m_A o)) 0 0 (m_A o) := by
  refine Met.ofW (cc := cX8_missOfTurns) (maxL := 4) (ret := none) (by decide) rfl ?_
  intro p e s m args below meth c s₁ B hml hv
  obtain ⟨hav, hz, hP0, hK⟩ := hv
  have hx := B.exec
  have hb := B.bytes
  have hr := B.returns
  have hts := atoms_spec (ws := z_wd yX8_missOfTurns cX8_missOfTurns 4 none) B.pre
  have hown : s.vm.findClass RX8 = some m.cls := findClass_of_methodNamed B.named
  have hlocks := B.notSynchronized
  have hc : m_X p s m args c cX8_missOfTurns 4 D cI cJ := ⟨hx, hb, hml, fun w hw => hts w (List.mem_cons_of_mem _ hw), hown, hK⟩
  have hl := lv_entry ([.ref o, .int a0, .int a1]) (n := 4) (Nat.le_of_ble_eq_true rfl)
  have hE : entryFrame m args 4 = F0 m 0 ((lg_sl ([.ref o, .int a0, .int a1]) ++ List.replicate (4 - (lg_sl ([.ref o, .int a0, .int a1])).length) Slot.unset).toArray) [] := by rw [hav]; exact lg_entry_eq m _ _
  rw [hE]
  clear hE hav
  generalize (lg_sl ([.ref o, .int a0, .int a1]) ++ List.replicate (4 - (lg_sl ([.ref o, .int a0, .int a1])).length) Slot.unset).toArray = ls at hl ⊢
  have hl : lv_has ls 4 [(0, .ref o), (1, .int a0), (2, .int a1)] := hl
  obtain ⟨Q, hQ⟩ : ∃ Q, Q = MQ below (va_Qv (fun (M1 : MS) => M1 = N_) (m_C D cI cJ o sz) (m_A o)) args s 0 0 (m_A o) := ⟨_, rfl⟩
  rw [← hQ]
  suffices hmain : ∀ (H : Heap) (locs : List Loc), va_P D z_cls (m_W cI cJ o M) H → va_S (m_A o) s.heap H locs → W p l e (z_rm 4 184) s m args below meth c H locs 0 0 Q (F0 m 0 ls []) from hmain s.heap [] hP0 va_S.rf
  clear hP0
  intro H locs hP hS
  unfold f_X8_missOfTurns at h
  refine lv_bipush (v := 12) hx hb dX8_missOfTurns_0 (by decide) ?_
  refine lv_iload_n hx hb dX8_missOfTurns_2 rfl (lv_at hl 1 rfl) ?_
  refine lv_imul hx hb dX8_missOfTurns_3 ?_
  refine lv_iload_n hx hb dX8_missOfTurns_4 rfl (lv_at hl 2 rfl) ?_
  refine lv_iadd hx hb dX8_missOfTurns_5 ?_
  refine lv_istore_n (lv' := [(3, .int (((12 : Int32) * a0) + a1)), (0, .ref o), (1, .int a0), (2, .int a1)]) hx hb dX8_missOfTurns_6 rfl hl (by decide) rfl (fun ls hl => ?_)
  refine lv_aload_n hx hb dX8_missOfTurns_7 rfl (lv_at hl 1 rfl) ?_
  refine lv_aload_n hx hb dX8_missOfTurns_8 rfl (lv_at hl 1 rfl) ?_
  refine m_get (k := 28) (v := .ref (o + 22)) hc hP (by decide) wF_X8_78 rfl dX8_missOfTurns_9 ?_
  refine lv_iconst (v := 0) hx hb dX8_missOfTurns_12 (by decide) ?_
  refine m_lald (k := 28) (j := 22) hc hP (ma_28 ..) (show z_in (0 : Int32) 3 by decide) dX8_missOfTurns_13 ?_
  refine lv_aload_n hx hb dX8_missOfTurns_14 rfl (lv_at hl 1 rfl) ?_
  refine m_get (k := 29) (v := .ref (o + 23)) hc hP (by decide) wF_X8_81 rfl dX8_missOfTurns_15 ?_
  refine lv_iconst (v := 0) hx hb dX8_missOfTurns_18 (by decide) ?_
  refine m_lald (k := 29) (j := 23) hc hP (ma_29 ..) (show z_in (0 : Int32) 3 by decide) dX8_missOfTurns_19 ?_
  refine lv_aload_n hx hb dX8_missOfTurns_20 rfl (lv_at hl 1 rfl) ?_
  refine m_get (k := 28) (v := .ref (o + 22)) hc hP (by decide) wF_X8_78 rfl dX8_missOfTurns_21 ?_
  refine lv_iconst (v := 1) hx hb dX8_missOfTurns_24 (by decide) ?_
  refine m_lald (k := 28) (j := 22) hc hP (ma_28 ..) (show z_in (1 : Int32) 3 by decide) dX8_missOfTurns_25 ?_
  refine lv_aload_n hx hb dX8_missOfTurns_26 rfl (lv_at hl 1 rfl) ?_
  refine m_get (k := 29) (v := .ref (o + 23)) hc hP (by decide) wF_X8_81 rfl dX8_missOfTurns_27 ?_
  refine lv_iconst (v := 1) hx hb dX8_missOfTurns_30 (by decide) ?_
  refine m_lald (k := 29) (j := 23) hc hP (ma_29 ..) (show z_in (1 : Int32) 3 by decide) dX8_missOfTurns_31 ?_
  refine lv_aload_n hx hb dX8_missOfTurns_32 rfl (lv_at hl 1 rfl) ?_
  refine m_get (k := 28) (v := .ref (o + 22)) hc hP (by decide) wF_X8_78 rfl dX8_missOfTurns_33 ?_
  refine lv_iconst (v := 2) hx hb dX8_missOfTurns_36 (by decide) ?_
  refine m_lald (k := 28) (j := 22) hc hP (ma_28 ..) (show z_in (2 : Int32) 3 by decide) dX8_missOfTurns_37 ?_
  refine lv_aload_n hx hb dX8_missOfTurns_38 rfl (lv_at hl 1 rfl) ?_
  refine m_get (k := 29) (v := .ref (o + 23)) hc hP (by decide) wF_X8_81 rfl dX8_missOfTurns_39 ?_
  refine lv_iconst (v := 2) hx hb dX8_missOfTurns_42 (by decide) ?_
  refine m_lald (k := 29) (j := 23) hc hP (ma_29 ..) (show z_in (2 : Int32) 3 by decide) dX8_missOfTurns_43 ?_
  refine lv_aload_n hx hb dX8_missOfTurns_44 rfl (lv_at hl 1 rfl) ?_
  refine m_get (k := 8) (v := .ref (o + 8)) hc hP (by decide) wF_X8_31 rfl dX8_missOfTurns_45 ?_
  refine lv_iload_n hx hb dX8_missOfTurns_48 rfl (lv_at hl 0 rfl) ?_
  obtain ⟨c_49, h⟩ := z_chk_some h
  refine m_iald (k := 8) (j := 8) hc hP (ma_8 ..) c_49 dX8_missOfTurns_49 ?_
  obtain ⟨M_1, eM_1, h⟩ := z_bd_some h
  refine m_callv (As := [.long (M.2 28 (0 : Int32).toNatClampNeg), .long (M.2 29 (0 : Int32).toNatClampNeg), .long (M.2 28 (1 : Int32).toNatClampNeg), .long (M.2 29 (1 : Int32).toNatClampNeg), .long (M.2 28 (2 : Int32).toNatClampNeg), .long (M.2 29 (2 : Int32).toNatClampNeg), .int (M.1 8 (((12 : Int32) * a0) + a1).toNatClampNeg)]) (M' := M_1) (n := 7) hc hP hS (mt_X8_valueOf l D cI cJ o H.size M (M.2 28 (0 : Int32).toNatClampNeg) (M.2 29 (0 : Int32).toNatClampNeg) (M.2 28 (1 : Int32).toNatClampNeg) (M.2 29 (1 : Int32).toNatClampNeg) (M.2 28 (2 : Int32).toNatClampNeg) (M.2 29 (2 : Int32).toNatClampNeg) (M.1 8 (((12 : Int32) * a0) + a1).toNatClampNeg) eM_1) wM_X8_225 wI_X8_valueOf wS_X8_valueOf wZ_X8 wC_X8_valueOf md_X8_valueOf ⟨rfl, rfl, Nat.le_of_ble_eq_true rfl, Nat.le_of_ble_eq_true rfl⟩ rfl hl.1 rfl (Nat.le_of_ble_eq_true rfl) dX8_missOfTurns_50 ⟨Nat.zero_le _, Nat.zero_le _⟩ (fun H locs hP hS => ?_)
  refine lv_aload_n hx hb dX8_missOfTurns_53 rfl (lv_at hl 1 rfl) ?_
  refine lv_aload_n hx hb dX8_missOfTurns_54 rfl (lv_at hl 1 rfl) ?_
  refine m_get (k := 9) (v := .ref (o + 9)) hc hP (by decide) wF_X8_34 rfl dX8_missOfTurns_55 ?_
  refine lv_iload_n hx hb dX8_missOfTurns_58 rfl (lv_at hl 0 rfl) ?_
  obtain ⟨c_59, h⟩ := z_chk_some h
  refine m_iald (k := 9) (j := 9) hc hP (ma_9 ..) c_59 dX8_missOfTurns_59 ?_
  refine lv_i2l (v := (M_1.1 9 (((12 : Int32) * a0) + a1).toNatClampNeg).toInt64) hx hb dX8_missOfTurns_60 rfl ?_
  refine lv_lconst (v := 1) hx hb dX8_missOfTurns_61 (by decide) ?_
  refine lv_aload_n hx hb dX8_missOfTurns_62 rfl (lv_at hl 1 rfl) ?_
  refine m_get (k := 21) (v := .long (M_1.2 21 0)) hc hP (by decide) wF_X8_108 rfl dX8_missOfTurns_63 ?_
  refine lv_lneg hx hb dX8_missOfTurns_66 ?_
  refine lv_aload_n hx hb dX8_missOfTurns_67 rfl (lv_at hl 1 rfl) ?_
  refine m_get (k := 22) (v := .long (M_1.2 22 0)) hc hP (by decide) wF_X8_65 rfl dX8_missOfTurns_68 ?_
  obtain ⟨M_2, eM_2, h⟩ := z_bd_some h
  refine m_callv (As := [.long (M_1.1 9 (((12 : Int32) * a0) + a1).toNatClampNeg).toInt64, .long (1 : Int64), .long (-(M_1.2 21 0)), .long (M_1.2 22 0)]) (M' := M_2) (n := 4) hc hP hS (mt_X8_plus l D cI cJ o H.size M_1 (M_1.1 9 (((12 : Int32) * a0) + a1).toNatClampNeg).toInt64 (1 : Int64) (-(M_1.2 21 0)) (M_1.2 22 0) eM_2) wM_X8_164 wI_X8_plus wS_X8_plus wZ_X8 wC_X8_plus md_X8_plus ⟨rfl, rfl, Nat.le_of_ble_eq_true rfl, Nat.le_of_ble_eq_true rfl⟩ rfl hl.1 rfl (Nat.le_of_ble_eq_true rfl) dX8_missOfTurns_71 ⟨Nat.zero_le _, Nat.zero_le _⟩ (fun H locs hP hS => ?_)
  refine lv_aload_n hx hb dX8_missOfTurns_74 rfl (lv_at hl 1 rfl) ?_
  refine lv_aload_n hx hb dX8_missOfTurns_75 rfl (lv_at hl 1 rfl) ?_
  refine m_get (k := 21) (v := .long (M_2.2 21 0)) hc hP (by decide) wF_X8_108 rfl dX8_missOfTurns_76 ?_
  refine lv_aload_n hx hb dX8_missOfTurns_79 rfl (lv_at hl 1 rfl) ?_
  refine m_get (k := 22) (v := .long (M_2.2 22 0)) hc hP (by decide) wF_X8_65 rfl dX8_missOfTurns_80 ?_
  refine lv_aload_n hx hb dX8_missOfTurns_83 rfl (lv_at hl 1 rfl) ?_
  refine m_get (k := 10) (v := .ref (o + 10)) hc hP (by decide) wF_X8_37 rfl dX8_missOfTurns_84 ?_
  refine lv_iload_n hx hb dX8_missOfTurns_87 rfl (lv_at hl 0 rfl) ?_
  obtain ⟨c_88, h⟩ := z_chk_some h
  refine m_iald (k := 10) (j := 10) hc hP (ma_10 ..) c_88 dX8_missOfTurns_88 ?_
  refine lv_i2l (v := (M_2.1 10 (((12 : Int32) * a0) + a1).toNatClampNeg).toInt64) hx hb dX8_missOfTurns_89 rfl ?_
  refine lv_lconst (v := 1) hx hb dX8_missOfTurns_90 (by decide) ?_
  obtain ⟨M_3, eM_3, h⟩ := z_bd_some h
  refine m_callv (As := [.long (M_2.2 21 0), .long (M_2.2 22 0), .long (M_2.1 10 (((12 : Int32) * a0) + a1).toNatClampNeg).toInt64, .long (1 : Int64)]) (M' := M_3) (n := 4) hc hP hS (mt_X8_times l D cI cJ o H.size M_2 (M_2.2 21 0) (M_2.2 22 0) (M_2.1 10 (((12 : Int32) * a0) + a1).toNatClampNeg).toInt64 (1 : Int64) eM_3) wM_X8_168 wI_X8_times wS_X8_times wZ_X8 wC_X8_times md_X8_times ⟨rfl, rfl, Nat.le_of_ble_eq_true rfl, Nat.le_of_ble_eq_true rfl⟩ rfl hl.1 rfl (Nat.le_of_ble_eq_true rfl) dX8_missOfTurns_91 ⟨Nat.zero_le _, Nat.zero_le _⟩ (fun H locs hP hS => ?_)
  cases h
  rw [hQ]
  exact m_retv hc hr hlocks hP hS hz dX8_missOfTurns_94
theorem md_X8_missOfTurns : yX8_missOfTurns.cls ≠ "java/lang/invoke/MethodHandle" ∧ yX8_missOfTurns.cls ≠ "java/lang/invoke/VarHandle" ∧ (parseMethodDescriptor yX8_missOfTurns.desc).map (fun d => d.parameters.length) = some 2 := by decide +kernel
noncomputable def f_X8_isUp (M : MS) (a0 : Int32) : Option (Int32) :=
  z_bd (if (lg_cmp (M.2 26 0) (0 : Int64)) < 0 then some ((0 : Int32)) else some ((1 : Int32))) fun v_1 => z_bd (if (a0 - a0 / (2 : Int32) * (2 : Int32)) = 0 then some ((1 : Int32)) else some ((0 : Int32))) fun v_2 => if v_1 = v_2 then some (1 : Int32) else some (0 : Int32)
set_option maxHeartbeats 4000000 in
set_option maxRecDepth 100000 in
theorem mt_X8_isUp (l : Launch) (D : va_G) (cI cJ : ClassId) (o sz : Nat) (M : MS) (a0 : Int32) {r_ : Int32} (h : f_X8_isUp M a0 = some r_) : Met l yX8_isUp (z_wd yX8_isUp cX8_isUp 2 (some .boolean)) (z_rm 0 0) (va_Pc [.ref o, .int a0] (m_C D cI cJ o sz M)) (va_Qi (fun (r1 : Int32) (M1 : MS) => r1 = r_ ∧ M1 = M) (m_C D cI cJ o sz) (m_A o)) 0 0 (m_A o) := by
  refine Met.ofW (cc := cX8_isUp) (maxL := 2) (ret := (some .boolean)) (by decide) rfl ?_
  intro p e s m args below meth c s₁ B hml hv
  obtain ⟨hav, hz, hP0, hK⟩ := hv
  have hx := B.exec
  have hb := B.bytes
  have hr := B.returns
  have hts := atoms_spec (ws := z_wd yX8_isUp cX8_isUp 2 (some .boolean)) B.pre
  have hown : s.vm.findClass RX8 = some m.cls := findClass_of_methodNamed B.named
  have hlocks := B.notSynchronized
  have hc : m_X p s m args c cX8_isUp 2 D cI cJ := ⟨hx, hb, hml, fun w hw => hts w (List.mem_cons_of_mem _ hw), hown, hK⟩
  have hl := lv_entry ([.ref o, .int a0]) (n := 2) (Nat.le_of_ble_eq_true rfl)
  have hE : entryFrame m args 2 = F0 m 0 ((lg_sl ([.ref o, .int a0]) ++ List.replicate (2 - (lg_sl ([.ref o, .int a0])).length) Slot.unset).toArray) [] := by rw [hav]; exact lg_entry_eq m _ _
  rw [hE]
  clear hE hav
  generalize (lg_sl ([.ref o, .int a0]) ++ List.replicate (2 - (lg_sl ([.ref o, .int a0])).length) Slot.unset).toArray = ls at hl ⊢
  have hl : lv_has ls 2 [(0, .ref o), (1, .int a0)] := hl
  obtain ⟨Q, hQ⟩ : ∃ Q, Q = MQ below (va_Qi (fun (r1 : Int32) (M1 : MS) => r1 = r_ ∧ M1 = M) (m_C D cI cJ o sz) (m_A o)) args s 0 0 (m_A o) := ⟨_, rfl⟩
  rw [← hQ]
  suffices hmain : ∀ (H : Heap) (locs : List Loc), va_P D z_cls (m_W cI cJ o M) H → va_S (m_A o) s.heap H locs → W p l e (z_rm 0 0) s m args below meth c H locs 0 0 Q (F0 m 0 ls []) from hmain s.heap [] hP0 va_S.rf
  clear hP0
  intro H locs hP hS
  unfold f_X8_isUp at h
  refine lv_aload_n hx hb dX8_isUp_0 rfl (lv_at hl 0 rfl) ?_
  refine m_get (k := 26) (v := .long (M.2 26 0)) hc hP (by decide) wF_X8_154 rfl dX8_isUp_1 ?_
  refine lv_lconst (v := 0) hx hb dX8_isUp_4 (by decide) ?_
  refine W.lcmp hx hb dX8_isUp_5 ?_
  obtain ⟨v_1, hJ, h⟩ := z_bd_some h
  have J_14 : ∀ (H : Heap) (locs : List Loc) (ls : Array Slot), va_P D z_cls (m_W cI cJ o M) H → va_S (m_A o) s.heap H locs → lv_has ls 2 [(1, .int a0)] → W p l e (z_rm 0 0) s m args below meth c H locs 0 0 Q (F0 m 14 ls [.int v_1]) := by
    intro H locs ls hP hS hl
    refine lv_iload_n hx hb dX8_isUp_14 rfl (lv_at hl 0 rfl) ?_
    refine lv_iconst (v := 2) hx hb dX8_isUp_15 (by decide) ?_
    refine lv_irem hx hb dX8_isUp_16 (by decide) ?_
    obtain ⟨v_2, hJ, h⟩ := z_bd_some h
    have J_25 : ∀ (H : Heap) (locs : List Loc) (ls : Array Slot), va_P D z_cls (m_W cI cJ o M) H → va_S (m_A o) s.heap H locs → lv_has ls 2 [] → W p l e (z_rm 0 0) s m args below meth c H locs 0 0 Q (F0 m 25 ls [.int v_2, .int v_1]) := by
      intro H locs ls hP hS hl
      refine lv_icmp_ne (tgt := 32) hx hb dX8_isUp_25 (by decide) (fun c_25 => ?_) (fun c_25 => ?_)
      · replace h := z_in_ c_25 h
        refine lv_iconst (v := 0) hx hb dX8_isUp_32 (by decide) ?_
        cases h
        rw [hQ]
        exact m_retz hc hr hlocks (by decide) hP hS hz dX8_isUp_33
      · replace h := z_ip_ c_25 h
        refine lv_iconst (v := 1) hx hb dX8_isUp_28 (by decide) ?_
        refine lv_goto (tgt := 33) hx hb dX8_isUp_29 (by decide) ?_
        cases h
        rw [hQ]
        exact m_retz hc hr hlocks (by decide) hP hS hz dX8_isUp_33
    clear h
    have h := hJ
    clear hJ
    refine lv_if_ne (tgt := 24) hx hb dX8_isUp_17 (by decide) (fun c_17 => ?_) (fun c_17 => ?_)
    · replace h := z_in_ c_17 h
      refine lv_iconst (v := 0) hx hb dX8_isUp_24 (by decide) ?_
      cases h
      exact J_25 H locs ls hP hS (lv_sub hl [] rfl)
    · replace h := z_ip_ c_17 h
      refine lv_iconst (v := 1) hx hb dX8_isUp_20 (by decide) ?_
      refine lv_goto (tgt := 25) hx hb dX8_isUp_21 (by decide) ?_
      cases h
      exact J_25 H locs ls hP hS (lv_sub hl [] rfl)
  clear h
  have h := hJ
  clear hJ
  refine lv_if_lt (tgt := 13) hx hb dX8_isUp_6 (by decide) (fun c_6 => ?_) (fun c_6 => ?_)
  · replace h := z_ip_ c_6 h
    refine lv_iconst (v := 0) hx hb dX8_isUp_13 (by decide) ?_
    cases h
    exact J_14 H locs ls hP hS (lv_sub hl [1] rfl)
  · replace h := z_in_ c_6 h
    refine lv_iconst (v := 1) hx hb dX8_isUp_9 (by decide) ?_
    refine lv_goto (tgt := 14) hx hb dX8_isUp_10 (by decide) ?_
    cases h
    exact J_14 H locs ls hP hS (lv_sub hl [1] rfl)
theorem md_X8_isUp : yX8_isUp.cls ≠ "java/lang/invoke/MethodHandle" ∧ yX8_isUp.cls ≠ "java/lang/invoke/VarHandle" ∧ (parseMethodDescriptor yX8_isUp.desc).map (fun d => d.parameters.length) = some 1 := by decide +kernel
noncomputable def f_X8_swapped_L49 (a0 : Int32) (x4_4 : Int64) (x6_5 : Int64) (x8_6 : Int32) (x9_7 : Int32) (x10_8 : Int32) (M_9 : MS) : Option ((Int32 × Int32 × MS) ⊕ (Int64 × Int64 × Int32 × Int32 × Int32 × MS)) :=
  z_chk (z_in a0 10) (if (M_9.1 7 a0.toNatClampNeg) ≤ x10_8 then some (.inl (x8_6, x9_7, M_9)) else z_bd (f_X8_missOfTurns M_9 a0 x10_8) fun M_13 => z_bd (if 0 ≤ (lg_cmp (M_13.2 21 0) (0 : Int64)) then some ((M_13.2 21 0)) else some ((-(M_13.2 21 0)))) fun v_14 => z_bd (f_X8_compare v_14 (M_13.2 22 0) x4_4 x6_5) fun r_15 => if r_15 ≤ 0 then some (.inr (x4_4, x6_5, x8_6, x9_7, (x10_8 + 1), M_13)) else if (lg_cmp (M_13.2 21 0) (0 : Int64)) ≤ 0 then some (.inr (v_14, (M_13.2 22 0), x10_8, (0 : Int32), (x10_8 + 1), M_13)) else some (.inr (v_14, (M_13.2 22 0), x10_8, (1 : Int32), (x10_8 + 1), M_13)))
noncomputable def f_X8_swapped_L153 (M_12 : MS) (r_2 : Int32) (y8_10 : Int32) (x10_16 : Int32) : Option ((Int32) ⊕ (Int32)) :=
  if r_2 ≤ x10_16 then some (.inl (x10_16)) else z_chk (z_in x10_16 12) (if y8_10 ≤ (M_12.1 23 x10_16.toNatClampNeg) then some (.inl (x10_16)) else some (.inr ((x10_16 + 1))))
noncomputable def f_X8_swapped (M : MS) (a0 : Int32) (a1 : Int32) : Option (Int32 × MS) :=
  z_bd (f_X8_study M a0 a1) fun M_1 => z_bd (f_X8_ones a1) fun r_2 => z_bd (if 0 ≤ (lg_cmp (M_1.2 26 0) (0 : Int64)) then some ((M_1.2 26 0)) else some ((-(M_1.2 26 0)))) fun v_3 => z_bd3 (z_lp (fun x => f_X8_swapped_L49 a0 x.1 x.2.1 x.2.2.1 x.2.2.2.1 x.2.2.2.2.1 x.2.2.2.2.2) (v_3, (M_1.2 27 0), (-1 : Int32), (0 : Int32), (0 : Int32), M_1)) fun y8_10 y9_11 M_12 => if y8_10 = (-1 : Int32) then some (a1, M_12) else z_bd (z_lp (fun x => f_X8_swapped_L153 M_12 r_2 y8_10 x) ((0 : Int32))) fun y10_17 => z_bd (if y10_17 = 0 then z_bd (f_X8_isUp M_12 (0 : Int32)) fun r_21 => if r_21 = y9_11 then some ((0 : Int32)) else some ((r_2 - (1 : Int32))) else if y10_17 = r_2 then z_bd (f_X8_isUp M_12 (r_2 - (1 : Int32))) fun r_20 => if r_20 = y9_11 then some ((r_2 - (1 : Int32))) else some ((0 : Int32)) else z_bd (f_X8_isUp M_12 y10_17) fun r_19 => if r_19 = y9_11 then some (y10_17) else some ((y10_17 - (1 : Int32)))) fun x11_18 => z_chk (z_in x11_18 12) (some (((a1 &&& (((1 : Int32) <<< ((M_12.1 23 x11_18.toNatClampNeg) &&& 31)) ^^^ (-1 : Int32))) ||| ((1 : Int32) <<< (y8_10 &&& 31))), M_12))
set_option maxHeartbeats 4000000 in
set_option maxRecDepth 100000 in
theorem mt_X8_swapped (l : Launch) (D : va_G) (cI cJ : ClassId) (o sz : Nat) (M : MS) (a0 : Int32) (a1 : Int32) {r_ : Int32} {N_ : MS} (h : f_X8_swapped M a0 a1 = some (r_, N_)) : Met l yX8_swapped (z_wd yX8_swapped cX8_swapped 13 (some .int)) (z_rm 6 261) (va_Pc [.ref o, .int a0, .int a1] (m_C D cI cJ o sz M)) (va_Qi (fun (r1 : Int32) (M1 : MS) => r1 = r_ ∧ M1 = N_) (m_C D cI cJ o sz) (m_A o)) 0 0 (m_A o) := by
  refine Met.ofW (cc := cX8_swapped) (maxL := 13) (ret := (some .int)) (by decide) rfl ?_
  intro p e s m args below meth c s₁ B hml hv
  obtain ⟨hav, hz, hP0, hK⟩ := hv
  have hx := B.exec
  have hb := B.bytes
  have hr := B.returns
  have hts := atoms_spec (ws := z_wd yX8_swapped cX8_swapped 13 (some .int)) B.pre
  have hown : s.vm.findClass RX8 = some m.cls := findClass_of_methodNamed B.named
  have hlocks := B.notSynchronized
  have hc : m_X p s m args c cX8_swapped 13 D cI cJ := ⟨hx, hb, hml, fun w hw => hts w (List.mem_cons_of_mem _ hw), hown, hK⟩
  have hl := lv_entry ([.ref o, .int a0, .int a1]) (n := 13) (Nat.le_of_ble_eq_true rfl)
  have hE : entryFrame m args 13 = F0 m 0 ((lg_sl ([.ref o, .int a0, .int a1]) ++ List.replicate (13 - (lg_sl ([.ref o, .int a0, .int a1])).length) Slot.unset).toArray) [] := by rw [hav]; exact lg_entry_eq m _ _
  rw [hE]
  clear hE hav
  generalize (lg_sl ([.ref o, .int a0, .int a1]) ++ List.replicate (13 - (lg_sl ([.ref o, .int a0, .int a1])).length) Slot.unset).toArray = ls at hl ⊢
  have hl : lv_has ls 13 [(0, .ref o), (1, .int a0), (2, .int a1)] := hl
  obtain ⟨Q, hQ⟩ : ∃ Q, Q = MQ below (va_Qi (fun (r1 : Int32) (M1 : MS) => r1 = r_ ∧ M1 = N_) (m_C D cI cJ o sz) (m_A o)) args s 0 0 (m_A o) := ⟨_, rfl⟩
  rw [← hQ]
  suffices hmain : ∀ (H : Heap) (locs : List Loc), va_P D z_cls (m_W cI cJ o M) H → va_S (m_A o) s.heap H locs → W p l e (z_rm 6 261) s m args below meth c H locs 0 0 Q (F0 m 0 ls []) from hmain s.heap [] hP0 va_S.rf
  clear hP0
  intro H locs hP hS
  unfold f_X8_swapped at h
  refine lv_aload_n hx hb dX8_swapped_0 rfl (lv_at hl 0 rfl) ?_
  refine lv_iload_n hx hb dX8_swapped_1 rfl (lv_at hl 1 rfl) ?_
  refine lv_iload_n hx hb dX8_swapped_2 rfl (lv_at hl 2 rfl) ?_
  obtain ⟨M_1, eM_1, h⟩ := z_bd_some h
  refine m_callv (As := [.int a0, .int a1]) (M' := M_1) (n := 2) hc hP hS (mt_X8_study l D cI cJ o H.size M a0 a1 eM_1) wM_X8_198 wI_X8_study wS_X8_study wZ_X8 wC_X8_study md_X8_study ⟨rfl, rfl, Nat.le_of_ble_eq_true rfl, Nat.le_of_ble_eq_true rfl⟩ rfl hl.1 rfl (Nat.le_of_ble_eq_true rfl) dX8_swapped_3 ⟨Nat.zero_le _, Nat.zero_le _⟩ (fun H locs hP hS => ?_)
  refine lv_iload_n hx hb dX8_swapped_6 rfl (lv_at hl 2 rfl) ?_
  obtain ⟨r_2, er_2, h⟩ := z_bd_some h
  refine s_calli (As := [.int a1]) (r := r_2) (n := 1) hc.s (mt_X8_ones l a1 er_2) wM_X8_189 wT_X8_ones wZ_X8 wC_X8_ones md_X8_ones ⟨rfl, rfl, Nat.le_of_ble_eq_true rfl, Nat.le_of_ble_eq_true rfl⟩ rfl hl.1 rfl (Nat.le_of_ble_eq_true rfl) dX8_swapped_7 ⟨Nat.zero_le _, Nat.zero_le _⟩ ?_
  refine lv_istore_n (lv' := [(3, .int r_2), (0, .ref o), (1, .int a0), (2, .int a1)]) hx hb dX8_swapped_10 rfl hl (by decide) rfl (fun ls hl => ?_)
  refine lv_aload_n hx hb dX8_swapped_11 rfl (lv_at hl 1 rfl) ?_
  refine m_get (k := 26) (v := .long (M_1.2 26 0)) hc hP (by decide) wF_X8_154 rfl dX8_swapped_12 ?_
  refine lv_lconst (v := 0) hx hb dX8_swapped_15 (by decide) ?_
  refine W.lcmp hx hb dX8_swapped_16 ?_
  obtain ⟨v_3, hJ, h⟩ := z_bd_some h
  have J_32 : ∀ (H : Heap) (locs : List Loc) (ls : Array Slot), va_P D z_cls (m_W cI cJ o M_1) H → va_S (m_A o) s.heap H locs → lv_has ls 13 [(0, .ref o), (1, .int a0), (2, .int a1), (3, .int r_2)] → W p l e (z_rm 6 261) s m args below meth c H locs 0 0 Q (F0 m 32 ls [.long v_3]) := by
    intro H locs ls hP hS hl
    refine lv_lstore (lv' := [(4, .long v_3), (0, .ref o), (1, .int a0), (2, .int a1), (3, .int r_2)]) hx hb dX8_swapped_32 hl (by decide) rfl (fun ls hl => ?_)
    refine lv_aload_n hx hb dX8_swapped_34 rfl (lv_at hl 1 rfl) ?_
    refine m_get (k := 27) (v := .long (M_1.2 27 0)) hc hP (by decide) wF_X8_157 rfl dX8_swapped_35 ?_
    refine lv_lstore (lv' := [(6, .long (M_1.2 27 0)), (4, .long v_3), (0, .ref o), (1, .int a0), (2, .int a1), (3, .int r_2)]) hx hb dX8_swapped_38 hl (by decide) rfl (fun ls hl => ?_)
    refine lv_iconst (v := -1) hx hb dX8_swapped_40 (by decide) ?_
    refine lv_istore (lv' := [(8, .int (-1 : Int32)), (6, .long (M_1.2 27 0)), (4, .long v_3), (0, .ref o), (1, .int a0), (2, .int a1), (3, .int r_2)]) hx hb dX8_swapped_41 hl (by decide) rfl (fun ls hl => ?_)
    refine lv_iconst (v := 0) hx hb dX8_swapped_43 (by decide) ?_
    refine lv_istore (lv' := [(9, .int (0 : Int32)), (8, .int (-1 : Int32)), (6, .long (M_1.2 27 0)), (4, .long v_3), (0, .ref o), (1, .int a0), (2, .int a1), (3, .int r_2)]) hx hb dX8_swapped_44 hl (by decide) rfl (fun ls hl => ?_)
    refine lv_iconst (v := 0) hx hb dX8_swapped_46 (by decide) ?_
    refine lv_istore (lv' := [(10, .int (0 : Int32)), (9, .int (0 : Int32)), (8, .int (-1 : Int32)), (6, .long (M_1.2 27 0)), (4, .long v_3), (0, .ref o), (1, .int a0), (2, .int a1), (3, .int r_2)]) hx hb dX8_swapped_47 hl (by decide) rfl (fun ls hl => ?_)
    obtain ⟨y8_10, y9_11, M_12, hlp, h⟩ := z_bd3_some h
    refine z_lp_ind (P := fun x => ∀ (H : Heap) (locs : List Loc) (ls : Array Slot), va_P D z_cls (m_W cI cJ o x.2.2.2.2.2) H → va_S (m_A o) s.heap H locs → lv_has ls 13 [(0, .ref o), (1, .int a0), (2, .int a1), (3, .int r_2), (4, .long x.1), (6, .long x.2.1), (8, .int x.2.2.1), (9, .int x.2.2.2.1), (10, .int x.2.2.2.2.1)] → W p l e (z_rm 6 261) s m args below meth c H locs 0 0 Q (F0 m 49 ls [])) (Qe := fun y => ∀ (H : Heap) (locs : List Loc) (ls : Array Slot), va_P D z_cls (m_W cI cJ o y.2.2) H → va_S (m_A o) s.heap H locs → lv_has ls 13 [(0, .ref o), (2, .int a1), (3, .int r_2), (8, .int y.1), (9, .int y.2.1)] → W p l e (z_rm 6 261) s m args below meth c H locs 0 0 Q (F0 m 142 ls [])) ?_ hlp ?_ H locs ls hP hS (lv_sub hl [5, 6, 7, 8, 4, 3, 2, 1, 0] rfl)
    · clear h hlp hP hS hl
      rintro ⟨x4_4, x6_5, x8_6, x9_7, x10_8, M_9⟩ oo h K_49 H locs ls hP hS hl
      have hP : va_P D z_cls (m_W cI cJ o M_9) H := hP
      have hl : lv_has ls 13 [(0, .ref o), (1, .int a0), (2, .int a1), (3, .int r_2), (4, .long x4_4), (6, .long x6_5), (8, .int x8_6), (9, .int x9_7), (10, .int x10_8)] := hl
      have h : f_X8_swapped_L49 a0 x4_4 x6_5 x8_6 x9_7 x10_8 M_9 = some oo := h
      unfold f_X8_swapped_L49 at h
      refine lv_iload hx hb dX8_swapped_49 (lv_at hl 8 rfl) ?_
      refine lv_aload_n hx hb dX8_swapped_51 rfl (lv_at hl 0 rfl) ?_
      refine m_get (k := 7) (v := .ref (o + 7)) hc hP (by decide) wF_X8_28 rfl dX8_swapped_52 ?_
      refine lv_iload_n hx hb dX8_swapped_55 rfl (lv_at hl 1 rfl) ?_
      obtain ⟨c_56, h⟩ := z_chk_some h
      refine m_iald (k := 7) (j := 7) hc hP (ma_7 ..) c_56 dX8_swapped_56 ?_
      refine lv_icmp_ge (tgt := 142) hx hb dX8_swapped_57 (by decide) (fun c_57 => ?_) (fun c_57 => ?_)
      · replace h := z_ip_ c_57 h
        cases h
        exact K_49 H locs ls hP hS (lv_sub hl [0, 2, 3, 6, 7] rfl)
      · replace h := z_in_ c_57 h
        refine lv_aload_n hx hb dX8_swapped_60 rfl (lv_at hl 0 rfl) ?_
        refine lv_iload_n hx hb dX8_swapped_61 rfl (lv_at hl 1 rfl) ?_
        refine lv_iload hx hb dX8_swapped_62 (lv_at hl 8 rfl) ?_
        obtain ⟨M_13, eM_13, h⟩ := z_bd_some h
        refine m_callv (As := [.int a0, .int x10_8]) (M' := M_13) (n := 2) hc hP hS (mt_X8_missOfTurns l D cI cJ o H.size M_9 a0 x10_8 eM_13) wM_X8_254 wI_X8_missOfTurns wS_X8_missOfTurns wZ_X8 wC_X8_missOfTurns md_X8_missOfTurns ⟨rfl, rfl, Nat.le_of_ble_eq_true rfl, Nat.le_of_ble_eq_true rfl⟩ rfl hl.1 rfl (Nat.le_of_ble_eq_true rfl) dX8_swapped_64 ⟨Nat.zero_le _, Nat.zero_le _⟩ (fun H locs hP hS => ?_)
        refine lv_aload_n hx hb dX8_swapped_67 rfl (lv_at hl 0 rfl) ?_
        refine m_get (k := 21) (v := .long (M_13.2 21 0)) hc hP (by decide) wF_X8_108 rfl dX8_swapped_68 ?_
        refine lv_lconst (v := 0) hx hb dX8_swapped_71 (by decide) ?_
        refine W.lcmp hx hb dX8_swapped_72 ?_
        obtain ⟨v_14, hJ, h⟩ := z_bd_some h
        have J_88 : ∀ (H : Heap) (locs : List Loc) (ls : Array Slot), va_P D z_cls (m_W cI cJ o M_13) H → va_S (m_A o) s.heap H locs → lv_has ls 13 [(0, .ref o), (1, .int a0), (2, .int a1), (3, .int r_2), (4, .long x4_4), (6, .long x6_5), (8, .int x8_6), (9, .int x9_7), (10, .int x10_8)] → W p l e (z_rm 6 261) s m args below meth c H locs 0 0 Q (F0 m 88 ls [.long v_14]) := by
          intro H locs ls hP hS hl
          refine lv_lstore (lv' := [(11, .long v_14), (0, .ref o), (1, .int a0), (2, .int a1), (3, .int r_2), (4, .long x4_4), (6, .long x6_5), (8, .int x8_6), (9, .int x9_7), (10, .int x10_8)]) hx hb dX8_swapped_88 hl (by decide) rfl (fun ls hl => ?_)
          refine lv_lload hx hb dX8_swapped_90 (lv_at hl 0 rfl) ?_
          refine lv_aload_n hx hb dX8_swapped_92 rfl (lv_at hl 1 rfl) ?_
          refine m_get (k := 22) (v := .long (M_13.2 22 0)) hc hP (by decide) wF_X8_65 rfl dX8_swapped_93 ?_
          refine lv_lload hx hb dX8_swapped_96 (lv_at hl 5 rfl) ?_
          refine lv_lload hx hb dX8_swapped_98 (lv_at hl 6 rfl) ?_
          obtain ⟨r_15, er_15, h⟩ := z_bd_some h
          refine s_calli (As := [.long v_14, .long (M_13.2 22 0), .long x4_4, .long x6_5]) (r := r_15) (n := 4) hc.s (mt_X8_compare l v_14 (M_13.2 22 0) x4_4 x6_5 er_15) wM_X8_201 wT_X8_compare wZ_X8 wC_X8_compare md_X8_compare ⟨rfl, rfl, Nat.le_of_ble_eq_true rfl, Nat.le_of_ble_eq_true rfl⟩ rfl hl.1 rfl (Nat.le_of_ble_eq_true rfl) dX8_swapped_100 ⟨Nat.zero_le _, Nat.zero_le _⟩ ?_
          refine lv_if_le (tgt := 136) hx hb dX8_swapped_103 (by decide) (fun c_103 => ?_) (fun c_103 => ?_)
          · replace h := z_ip_ c_103 h
            refine lv_iinc (v := (x10_8 + 1)) (lv' := [(10, .int (x10_8 + 1)), (11, .long v_14), (0, .ref o), (1, .int a0), (2, .int a1), (3, .int r_2), (4, .long x4_4), (6, .long x6_5), (8, .int x8_6), (9, .int x9_7)]) hx hb dX8_swapped_136 hl (k := 9) rfl rfl (by decide) rfl (fun ls hl => ?_)
            refine lv_goto (tgt := 49) hx hb dX8_swapped_139 (by decide) ?_
            cases h
            exact K_49 H locs ls hP hS (lv_sub hl [2, 3, 4, 5, 6, 7, 8, 9, 0] rfl)
          · replace h := z_in_ c_103 h
            refine lv_lload hx hb dX8_swapped_106 (lv_at hl 0 rfl) ?_
            refine lv_lstore (lv' := [(4, .long v_14), (11, .long v_14), (0, .ref o), (1, .int a0), (2, .int a1), (3, .int r_2), (6, .long x6_5), (8, .int x8_6), (9, .int x9_7), (10, .int x10_8)]) hx hb dX8_swapped_108 hl (by decide) rfl (fun ls hl => ?_)
            refine lv_aload_n hx hb dX8_swapped_110 rfl (lv_at hl 2 rfl) ?_
            refine m_get (k := 22) (v := .long (M_13.2 22 0)) hc hP (by decide) wF_X8_65 rfl dX8_swapped_111 ?_
            refine lv_lstore (lv' := [(6, .long (M_13.2 22 0)), (4, .long v_14), (11, .long v_14), (0, .ref o), (1, .int a0), (2, .int a1), (3, .int r_2), (8, .int x8_6), (9, .int x9_7), (10, .int x10_8)]) hx hb dX8_swapped_114 hl (by decide) rfl (fun ls hl => ?_)
            refine lv_iload hx hb dX8_swapped_116 (lv_at hl 9 rfl) ?_
            refine lv_istore (lv' := [(8, .int x10_8), (6, .long (M_13.2 22 0)), (4, .long v_14), (11, .long v_14), (0, .ref o), (1, .int a0), (2, .int a1), (3, .int r_2), (9, .int x9_7), (10, .int x10_8)]) hx hb dX8_swapped_118 hl (by decide) rfl (fun ls hl => ?_)
            refine lv_aload_n hx hb dX8_swapped_120 rfl (lv_at hl 4 rfl) ?_
            refine m_get (k := 21) (v := .long (M_13.2 21 0)) hc hP (by decide) wF_X8_108 rfl dX8_swapped_121 ?_
            refine lv_lconst (v := 0) hx hb dX8_swapped_124 (by decide) ?_
            refine W.lcmp hx hb dX8_swapped_125 ?_
            refine lv_if_le (tgt := 133) hx hb dX8_swapped_126 (by decide) (fun c_126 => ?_) (fun c_126 => ?_)
            · replace h := z_ip_ c_126 h
              refine lv_iconst (v := 0) hx hb dX8_swapped_133 (by decide) ?_
              refine lv_istore (lv' := [(9, .int (0 : Int32)), (8, .int x10_8), (6, .long (M_13.2 22 0)), (4, .long v_14), (11, .long v_14), (0, .ref o), (1, .int a0), (2, .int a1), (3, .int r_2), (10, .int x10_8)]) hx hb dX8_swapped_134 hl (by decide) rfl (fun ls hl => ?_)
              refine lv_iinc (v := (x10_8 + 1)) (lv' := [(10, .int (x10_8 + 1)), (9, .int (0 : Int32)), (8, .int x10_8), (6, .long (M_13.2 22 0)), (4, .long v_14), (11, .long v_14), (0, .ref o), (1, .int a0), (2, .int a1), (3, .int r_2)]) hx hb dX8_swapped_136 hl (k := 9) rfl rfl (by decide) rfl (fun ls hl => ?_)
              refine lv_goto (tgt := 49) hx hb dX8_swapped_139 (by decide) ?_
              cases h
              exact K_49 H locs ls hP hS (lv_sub hl [6, 7, 8, 9, 4, 3, 2, 1, 0] rfl)
            · replace h := z_in_ c_126 h
              refine lv_iconst (v := 1) hx hb dX8_swapped_129 (by decide) ?_
              refine lv_goto (tgt := 134) hx hb dX8_swapped_130 (by decide) ?_
              refine lv_istore (lv' := [(9, .int (1 : Int32)), (8, .int x10_8), (6, .long (M_13.2 22 0)), (4, .long v_14), (11, .long v_14), (0, .ref o), (1, .int a0), (2, .int a1), (3, .int r_2), (10, .int x10_8)]) hx hb dX8_swapped_134 hl (by decide) rfl (fun ls hl => ?_)
              refine lv_iinc (v := (x10_8 + 1)) (lv' := [(10, .int (x10_8 + 1)), (9, .int (1 : Int32)), (8, .int x10_8), (6, .long (M_13.2 22 0)), (4, .long v_14), (11, .long v_14), (0, .ref o), (1, .int a0), (2, .int a1), (3, .int r_2)]) hx hb dX8_swapped_136 hl (k := 9) rfl rfl (by decide) rfl (fun ls hl => ?_)
              refine lv_goto (tgt := 49) hx hb dX8_swapped_139 (by decide) ?_
              cases h
              exact K_49 H locs ls hP hS (lv_sub hl [6, 7, 8, 9, 4, 3, 2, 1, 0] rfl)
        clear h
        have h := hJ
        clear hJ
        refine lv_if_ge (tgt := 84) hx hb dX8_swapped_73 (by decide) (fun c_73 => ?_) (fun c_73 => ?_)
        · replace h := z_ip_ c_73 h
          refine lv_aload_n hx hb dX8_swapped_84 rfl (lv_at hl 0 rfl) ?_
          refine m_get (k := 21) (v := .long (M_13.2 21 0)) hc hP (by decide) wF_X8_108 rfl dX8_swapped_85 ?_
          cases h
          exact J_88 H locs ls hP hS (lv_sub hl [0, 1, 2, 3, 4, 5, 6, 7, 8] rfl)
        · replace h := z_in_ c_73 h
          refine lv_aload_n hx hb dX8_swapped_76 rfl (lv_at hl 0 rfl) ?_
          refine m_get (k := 21) (v := .long (M_13.2 21 0)) hc hP (by decide) wF_X8_108 rfl dX8_swapped_77 ?_
          refine lv_lneg hx hb dX8_swapped_80 ?_
          refine lv_goto (tgt := 88) hx hb dX8_swapped_81 (by decide) ?_
          cases h
          exact J_88 H locs ls hP hS (lv_sub hl [0, 1, 2, 3, 4, 5, 6, 7, 8] rfl)
    · clear hlp hP hS hl
      intro H locs ls hP hS hl
      have hP : va_P D z_cls (m_W cI cJ o M_12) H := hP
      have hl : lv_has ls 13 [(0, .ref o), (2, .int a1), (3, .int r_2), (8, .int y8_10), (9, .int y9_11)] := hl
      refine lv_iload hx hb dX8_swapped_142 (lv_at hl 3 rfl) ?_
      refine lv_iconst (v := -1) hx hb dX8_swapped_144 (by decide) ?_
      refine lv_icmp_ne (tgt := 150) hx hb dX8_swapped_145 (by decide) (fun c_145 => ?_) (fun c_145 => ?_)
      · replace h := z_in_ c_145 h
        refine lv_iconst (v := 0) hx hb dX8_swapped_150 (by decide) ?_
        refine lv_istore (lv' := [(10, .int (0 : Int32)), (0, .ref o), (2, .int a1), (3, .int r_2), (8, .int y8_10), (9, .int y9_11)]) hx hb dX8_swapped_151 hl (by decide) rfl (fun ls hl => ?_)
        obtain ⟨y10_17, hlp, h⟩ := z_bd_some h
        refine z_lp_ind (P := fun x => ∀ (H : Heap) (locs : List Loc) (ls : Array Slot), va_P D z_cls (m_W cI cJ o M_12) H → va_S (m_A o) s.heap H locs → lv_has ls 13 [(0, .ref o), (2, .int a1), (3, .int r_2), (8, .int y8_10), (9, .int y9_11), (10, .int x)] → W p l e (z_rm 6 261) s m args below meth c H locs 0 0 Q (F0 m 153 ls [])) (Qe := fun y => ∀ (H : Heap) (locs : List Loc) (ls : Array Slot), va_P D z_cls (m_W cI cJ o M_12) H → va_S (m_A o) s.heap H locs → lv_has ls 13 [(0, .ref o), (2, .int a1), (3, .int r_2), (8, .int y8_10), (9, .int y9_11), (10, .int y)] → W p l e (z_rm 6 261) s m args below meth c H locs 0 0 Q (F0 m 177 ls [])) ?_ hlp ?_ H locs ls hP hS (lv_sub hl [1, 2, 3, 4, 5, 0] rfl)
        · clear h hlp hP hS hl
          rintro x10_16 oo h K_153 H locs ls hP hS hl
          have hP : va_P D z_cls (m_W cI cJ o M_12) H := hP
          have hl : lv_has ls 13 [(0, .ref o), (2, .int a1), (3, .int r_2), (8, .int y8_10), (9, .int y9_11), (10, .int x10_16)] := hl
          have h : f_X8_swapped_L153 M_12 r_2 y8_10 x10_16 = some oo := h
          unfold f_X8_swapped_L153 at h
          refine lv_iload hx hb dX8_swapped_153 (lv_at hl 5 rfl) ?_
          refine lv_iload_n hx hb dX8_swapped_155 rfl (lv_at hl 2 rfl) ?_
          refine lv_icmp_ge (tgt := 177) hx hb dX8_swapped_156 (by decide) (fun c_156 => ?_) (fun c_156 => ?_)
          · replace h := z_ip_ c_156 h
            cases h
            exact K_153 H locs ls hP hS (lv_sub hl [0, 1, 2, 3, 4, 5] rfl)
          · replace h := z_in_ c_156 h
            refine lv_aload_n hx hb dX8_swapped_159 rfl (lv_at hl 0 rfl) ?_
            refine m_get (k := 23) (v := .ref (o + 19)) hc hP (by decide) wF_X8_69 rfl dX8_swapped_160 ?_
            refine lv_iload hx hb dX8_swapped_163 (lv_at hl 5 rfl) ?_
            obtain ⟨c_165, h⟩ := z_chk_some h
            refine m_iald (k := 23) (j := 19) hc hP (ma_23 ..) c_165 dX8_swapped_165 ?_
            refine lv_iload hx hb dX8_swapped_166 (lv_at hl 3 rfl) ?_
            refine lv_icmp_ge (tgt := 177) hx hb dX8_swapped_168 (by decide) (fun c_168 => ?_) (fun c_168 => ?_)
            · replace h := z_ip_ c_168 h
              cases h
              exact K_153 H locs ls hP hS (lv_sub hl [0, 1, 2, 3, 4, 5] rfl)
            · replace h := z_in_ c_168 h
              refine lv_iinc (v := (x10_16 + 1)) (lv' := [(10, .int (x10_16 + 1)), (0, .ref o), (2, .int a1), (3, .int r_2), (8, .int y8_10), (9, .int y9_11)]) hx hb dX8_swapped_171 hl (k := 5) rfl rfl (by decide) rfl (fun ls hl => ?_)
              refine lv_goto (tgt := 153) hx hb dX8_swapped_174 (by decide) ?_
              cases h
              exact K_153 H locs ls hP hS (lv_sub hl [1, 2, 3, 4, 5, 0] rfl)
        · clear hlp hP hS hl
          intro H locs ls hP hS hl
          have hP : va_P D z_cls (m_W cI cJ o M_12) H := hP
          have hl : lv_has ls 13 [(0, .ref o), (2, .int a1), (3, .int r_2), (8, .int y8_10), (9, .int y9_11), (10, .int y10_17)] := hl
          refine lv_iload hx hb dX8_swapped_177 (lv_at hl 5 rfl) ?_
          obtain ⟨x11_18, hJ, h⟩ := z_bd_some h
          have J_256 : ∀ (H : Heap) (locs : List Loc) (ls : Array Slot), va_P D z_cls (m_W cI cJ o M_12) H → va_S (m_A o) s.heap H locs → lv_has ls 13 [(0, .ref o), (2, .int a1), (8, .int y8_10), (11, .int x11_18)] → W p l e (z_rm 6 261) s m args below meth c H locs 0 0 Q (F0 m 256 ls []) := by
            intro H locs ls hP hS hl
            refine lv_iload_n hx hb dX8_swapped_256 rfl (lv_at hl 1 rfl) ?_
            refine lv_iconst (v := 1) hx hb dX8_swapped_257 (by decide) ?_
            refine lv_aload_n hx hb dX8_swapped_258 rfl (lv_at hl 0 rfl) ?_
            refine m_get (k := 23) (v := .ref (o + 19)) hc hP (by decide) wF_X8_69 rfl dX8_swapped_259 ?_
            refine lv_iload hx hb dX8_swapped_262 (lv_at hl 3 rfl) ?_
            obtain ⟨c_264, h⟩ := z_chk_some h
            refine m_iald (k := 23) (j := 19) hc hP (ma_23 ..) c_264 dX8_swapped_264 ?_
            refine lv_ishl hx hb dX8_swapped_265 ?_
            refine lv_iconst (v := -1) hx hb dX8_swapped_266 (by decide) ?_
            refine lv_ixor hx hb dX8_swapped_267 ?_
            refine lv_iand hx hb dX8_swapped_268 ?_
            refine lv_iconst (v := 1) hx hb dX8_swapped_269 (by decide) ?_
            refine lv_iload hx hb dX8_swapped_270 (lv_at hl 2 rfl) ?_
            refine lv_ishl hx hb dX8_swapped_272 ?_
            refine lv_ior hx hb dX8_swapped_273 ?_
            cases h
            rw [hQ]
            exact m_reti hc hr hlocks hP hS hz dX8_swapped_274
          clear h
          have h := hJ
          clear hJ
          refine lv_if_ne (tgt := 204) hx hb dX8_swapped_179 (by decide) (fun c_179 => ?_) (fun c_179 => ?_)
          · replace h := z_in_ c_179 h
            refine lv_iload hx hb dX8_swapped_204 (lv_at hl 5 rfl) ?_
            refine lv_iload_n hx hb dX8_swapped_206 rfl (lv_at hl 2 rfl) ?_
            refine lv_icmp_ne (tgt := 234) hx hb dX8_swapped_207 (by decide) (fun c_207 => ?_) (fun c_207 => ?_)
            · replace h := z_in_ c_207 h
              refine lv_aload_n hx hb dX8_swapped_234 rfl (lv_at hl 0 rfl) ?_
              refine lv_iload hx hb dX8_swapped_235 (lv_at hl 5 rfl) ?_
              obtain ⟨r_19, er_19, h⟩ := z_bd_some h
              refine m_calli (As := [.int y10_17]) (r := r_19) (M' := M_12) (n := 1) hc hP hS (mt_X8_isUp l D cI cJ o H.size M_12 y10_17 er_19) wM_X8_257 wI_X8_isUp wS_X8_isUp wZ_X8 wC_X8_isUp md_X8_isUp ⟨rfl, rfl, Nat.le_of_ble_eq_true rfl, Nat.le_of_ble_eq_true rfl⟩ rfl hl.1 rfl (Nat.le_of_ble_eq_true rfl) dX8_swapped_237 ⟨Nat.zero_le _, Nat.zero_le _⟩ (fun H locs hP hS => ?_)
              refine lv_iload hx hb dX8_swapped_240 (lv_at hl 4 rfl) ?_
              refine lv_icmp_ne (tgt := 250) hx hb dX8_swapped_242 (by decide) (fun c_242 => ?_) (fun c_242 => ?_)
              · replace h := z_in_ c_242 h
                refine lv_iload hx hb dX8_swapped_250 (lv_at hl 5 rfl) ?_
                refine lv_iconst (v := 1) hx hb dX8_swapped_252 (by decide) ?_
                refine lv_isub hx hb dX8_swapped_253 ?_
                refine lv_istore (lv' := [(11, .int (y10_17 - (1 : Int32))), (0, .ref o), (2, .int a1), (3, .int r_2), (8, .int y8_10), (9, .int y9_11), (10, .int y10_17)]) hx hb dX8_swapped_254 hl (by decide) rfl (fun ls hl => ?_)
                cases h
                exact J_256 H locs ls hP hS (lv_sub hl [1, 2, 4, 0] rfl)
              · replace h := z_ip_ c_242 h
                refine lv_iload hx hb dX8_swapped_245 (lv_at hl 5 rfl) ?_
                refine lv_goto (tgt := 254) hx hb dX8_swapped_247 (by decide) ?_
                refine lv_istore (lv' := [(11, .int y10_17), (0, .ref o), (2, .int a1), (3, .int r_2), (8, .int y8_10), (9, .int y9_11), (10, .int y10_17)]) hx hb dX8_swapped_254 hl (by decide) rfl (fun ls hl => ?_)
                cases h
                exact J_256 H locs ls hP hS (lv_sub hl [1, 2, 4, 0] rfl)
            · replace h := z_ip_ c_207 h
              refine lv_aload_n hx hb dX8_swapped_210 rfl (lv_at hl 0 rfl) ?_
              refine lv_iload_n hx hb dX8_swapped_211 rfl (lv_at hl 2 rfl) ?_
              refine lv_iconst (v := 1) hx hb dX8_swapped_212 (by decide) ?_
              refine lv_isub hx hb dX8_swapped_213 ?_
              obtain ⟨r_20, er_20, h⟩ := z_bd_some h
              refine m_calli (As := [.int (r_2 - (1 : Int32))]) (r := r_20) (M' := M_12) (n := 1) hc hP hS (mt_X8_isUp l D cI cJ o H.size M_12 (r_2 - (1 : Int32)) er_20) wM_X8_257 wI_X8_isUp wS_X8_isUp wZ_X8 wC_X8_isUp md_X8_isUp ⟨rfl, rfl, Nat.le_of_ble_eq_true rfl, Nat.le_of_ble_eq_true rfl⟩ rfl hl.1 rfl (Nat.le_of_ble_eq_true rfl) dX8_swapped_214 ⟨Nat.zero_le _, Nat.zero_le _⟩ (fun H locs hP hS => ?_)
              refine lv_iload hx hb dX8_swapped_217 (lv_at hl 4 rfl) ?_
              refine lv_icmp_ne (tgt := 228) hx hb dX8_swapped_219 (by decide) (fun c_219 => ?_) (fun c_219 => ?_)
              · replace h := z_in_ c_219 h
                refine lv_iconst (v := 0) hx hb dX8_swapped_228 (by decide) ?_
                refine lv_istore (lv' := [(11, .int (0 : Int32)), (0, .ref o), (2, .int a1), (3, .int r_2), (8, .int y8_10), (9, .int y9_11), (10, .int y10_17)]) hx hb dX8_swapped_229 hl (by decide) rfl (fun ls hl => ?_)
                refine lv_goto (tgt := 256) hx hb dX8_swapped_231 (by decide) ?_
                cases h
                exact J_256 H locs ls hP hS (lv_sub hl [1, 2, 4, 0] rfl)
              · replace h := z_ip_ c_219 h
                refine lv_iload_n hx hb dX8_swapped_222 rfl (lv_at hl 2 rfl) ?_
                refine lv_iconst (v := 1) hx hb dX8_swapped_223 (by decide) ?_
                refine lv_isub hx hb dX8_swapped_224 ?_
                refine lv_goto (tgt := 229) hx hb dX8_swapped_225 (by decide) ?_
                refine lv_istore (lv' := [(11, .int (r_2 - (1 : Int32))), (0, .ref o), (2, .int a1), (3, .int r_2), (8, .int y8_10), (9, .int y9_11), (10, .int y10_17)]) hx hb dX8_swapped_229 hl (by decide) rfl (fun ls hl => ?_)
                refine lv_goto (tgt := 256) hx hb dX8_swapped_231 (by decide) ?_
                cases h
                exact J_256 H locs ls hP hS (lv_sub hl [1, 2, 4, 0] rfl)
          · replace h := z_ip_ c_179 h
            refine lv_aload_n hx hb dX8_swapped_182 rfl (lv_at hl 0 rfl) ?_
            refine lv_iconst (v := 0) hx hb dX8_swapped_183 (by decide) ?_
            obtain ⟨r_21, er_21, h⟩ := z_bd_some h
            refine m_calli (As := [.int (0 : Int32)]) (r := r_21) (M' := M_12) (n := 1) hc hP hS (mt_X8_isUp l D cI cJ o H.size M_12 (0 : Int32) er_21) wM_X8_257 wI_X8_isUp wS_X8_isUp wZ_X8 wC_X8_isUp md_X8_isUp ⟨rfl, rfl, Nat.le_of_ble_eq_true rfl, Nat.le_of_ble_eq_true rfl⟩ rfl hl.1 rfl (Nat.le_of_ble_eq_true rfl) dX8_swapped_184 ⟨Nat.zero_le _, Nat.zero_le _⟩ (fun H locs hP hS => ?_)
            refine lv_iload hx hb dX8_swapped_187 (lv_at hl 4 rfl) ?_
            refine lv_icmp_ne (tgt := 196) hx hb dX8_swapped_189 (by decide) (fun c_189 => ?_) (fun c_189 => ?_)
            · replace h := z_in_ c_189 h
              refine lv_iload_n hx hb dX8_swapped_196 rfl (lv_at hl 2 rfl) ?_
              refine lv_iconst (v := 1) hx hb dX8_swapped_197 (by decide) ?_
              refine lv_isub hx hb dX8_swapped_198 ?_
              refine lv_istore (lv' := [(11, .int (r_2 - (1 : Int32))), (0, .ref o), (2, .int a1), (3, .int r_2), (8, .int y8_10), (9, .int y9_11), (10, .int y10_17)]) hx hb dX8_swapped_199 hl (by decide) rfl (fun ls hl => ?_)
              refine lv_goto (tgt := 256) hx hb dX8_swapped_201 (by decide) ?_
              cases h
              exact J_256 H locs ls hP hS (lv_sub hl [1, 2, 4, 0] rfl)
            · replace h := z_ip_ c_189 h
              refine lv_iconst (v := 0) hx hb dX8_swapped_192 (by decide) ?_
              refine lv_goto (tgt := 199) hx hb dX8_swapped_193 (by decide) ?_
              refine lv_istore (lv' := [(11, .int (0 : Int32)), (0, .ref o), (2, .int a1), (3, .int r_2), (8, .int y8_10), (9, .int y9_11), (10, .int y10_17)]) hx hb dX8_swapped_199 hl (by decide) rfl (fun ls hl => ?_)
              refine lv_goto (tgt := 256) hx hb dX8_swapped_201 (by decide) ?_
              cases h
              exact J_256 H locs ls hP hS (lv_sub hl [1, 2, 4, 0] rfl)
      · replace h := z_ip_ c_145 h
        refine lv_iload_n hx hb dX8_swapped_148 rfl (lv_at hl 1 rfl) ?_
        cases h
        rw [hQ]
        exact m_reti hc hr hlocks hP hS hz dX8_swapped_149
  clear h
  have h := hJ
  clear hJ
  refine lv_if_ge (tgt := 28) hx hb dX8_swapped_17 (by decide) (fun c_17 => ?_) (fun c_17 => ?_)
  · replace h := z_ip_ c_17 h
    refine lv_aload_n hx hb dX8_swapped_28 rfl (lv_at hl 1 rfl) ?_
    refine m_get (k := 26) (v := .long (M_1.2 26 0)) hc hP (by decide) wF_X8_154 rfl dX8_swapped_29 ?_
    cases h
    exact J_32 H locs ls hP hS (lv_sub hl [1, 2, 3, 0] rfl)
  · replace h := z_in_ c_17 h
    refine lv_aload_n hx hb dX8_swapped_20 rfl (lv_at hl 1 rfl) ?_
    refine m_get (k := 26) (v := .long (M_1.2 26 0)) hc hP (by decide) wF_X8_154 rfl dX8_swapped_21 ?_
    refine lv_lneg hx hb dX8_swapped_24 ?_
    refine lv_goto (tgt := 32) hx hb dX8_swapped_25 (by decide) ?_
    cases h
    exact J_32 H locs ls hP hS (lv_sub hl [1, 2, 3, 0] rfl)
theorem md_X8_swapped : yX8_swapped.cls ≠ "java/lang/invoke/MethodHandle" ∧ yX8_swapped.cls ≠ "java/lang/invoke/VarHandle" ∧ (parseMethodDescriptor yX8_swapped.desc).map (fun d => d.parameters.length) = some 2 := by decide +kernel
