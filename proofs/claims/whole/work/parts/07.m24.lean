noncomputable def f_X8_tell0 (M : MS) (a0 : Int32) (a1 : Int32) : Option (Int32 × MS) :=
  z_chk (z_in a0 10) (if (M.1 5 a0.toNatClampNeg) = (2 : Int32) then z_bd (f_X8_ran M (31 : Int32)) fun M_3 => z_bd2 (f_X8_bend0 M_3 a0 a1) fun r_5 M_4 => z_bd2 (f_X8_plainTell M_4 a0 a1) fun r_7 M_6 => some ((r_5 + r_7), M_6) else z_bd2 (f_X8_plainTell M a0 a1) fun r_2 M_1 => some (r_2, M_1))
set_option maxHeartbeats 4000000 in
set_option maxRecDepth 100000 in
theorem mt_X8_tell0 (l : Launch) (D : va_G) (cI cJ : ClassId) (o sz : Nat) (M : MS) (a0 : Int32) (a1 : Int32) {r_ : Int32} {N_ : MS} (h : f_X8_tell0 M a0 a1 = some (r_, N_)) : Met l yX8_tell0 (z_wd yX8_tell0 cX8_tell0 4 (some .int)) (z_rm 6 229) (va_Pc [.ref o, .int a0, .int a1] (m_C D cI cJ o sz M)) (va_Qi (fun (r1 : Int32) (M1 : MS) => r1 = r_ ∧ M1 = N_) (m_C D cI cJ o sz) (m_A o)) 0 0 (m_A o) := by
  refine Met.ofW (cc := cX8_tell0) (maxL := 4) (ret := (some .int)) (by decide) rfl ?_
  intro p e s m args below meth c s₁ B hml hv
  obtain ⟨hav, hz, hP0, hK⟩ := hv
  have hx := B.exec
  have hb := B.bytes
  have hr := B.returns
  have hts := atoms_spec (ws := z_wd yX8_tell0 cX8_tell0 4 (some .int)) B.pre
  have hown : s.vm.findClass RX8 = some m.cls := findClass_of_methodNamed B.named
  have hlocks := B.notSynchronized
  have hc : m_X p s m args c cX8_tell0 4 D cI cJ := ⟨hx, hb, hml, fun w hw => hts w (List.mem_cons_of_mem _ hw), hown, hK⟩
  have hl := lv_entry ([.ref o, .int a0, .int a1]) (n := 4) (Nat.le_of_ble_eq_true rfl)
  have hE : entryFrame m args 4 = F0 m 0 ((lg_sl ([.ref o, .int a0, .int a1]) ++ List.replicate (4 - (lg_sl ([.ref o, .int a0, .int a1])).length) Slot.unset).toArray) [] := by rw [hav]; exact lg_entry_eq m _ _
  rw [hE]
  clear hE hav
  generalize (lg_sl ([.ref o, .int a0, .int a1]) ++ List.replicate (4 - (lg_sl ([.ref o, .int a0, .int a1])).length) Slot.unset).toArray = ls at hl ⊢
  have hl : lv_has ls 4 [(0, .ref o), (1, .int a0), (2, .int a1)] := hl
  obtain ⟨Q, hQ⟩ : ∃ Q, Q = MQ below (va_Qi (fun (r1 : Int32) (M1 : MS) => r1 = r_ ∧ M1 = N_) (m_C D cI cJ o sz) (m_A o)) args s 0 0 (m_A o) := ⟨_, rfl⟩
  rw [← hQ]
  suffices hmain : ∀ (H : Heap) (locs : List Loc), va_P D z_cls (m_W cI cJ o M) H → va_S (m_A o) s.heap H locs → W p l e (z_rm 6 229) s m args below meth c H locs 0 0 Q (F0 m 0 ls []) from hmain s.heap [] hP0 va_S.rf
  clear hP0
  intro H locs hP hS
  unfold f_X8_tell0 at h
  refine lv_aload_n hx hb dX8_tell0_0 rfl (lv_at hl 0 rfl) ?_
  refine m_get (k := 5) (v := .ref (o + 5)) hc hP (by decide) wF_X8_22 rfl dX8_tell0_1 ?_
  refine lv_iload_n hx hb dX8_tell0_4 rfl (lv_at hl 1 rfl) ?_
  obtain ⟨c_5, h⟩ := z_chk_some h
  refine m_iald (k := 5) (j := 5) hc hP (ma_5 ..) c_5 dX8_tell0_5 ?_
  refine lv_iconst (v := 2) hx hb dX8_tell0_6 (by decide) ?_
  refine lv_icmp_ne (tgt := 32) hx hb dX8_tell0_7 (by decide) (fun c_7 => ?_) (fun c_7 => ?_)
  · replace h := z_in_ c_7 h
    refine lv_aload_n hx hb dX8_tell0_32 rfl (lv_at hl 0 rfl) ?_
    refine lv_iload_n hx hb dX8_tell0_33 rfl (lv_at hl 1 rfl) ?_
    refine lv_iload_n hx hb dX8_tell0_34 rfl (lv_at hl 2 rfl) ?_
    obtain ⟨r_2, M_1, er_2, h⟩ := z_bd2_some h
    refine m_calli (As := [.int a0, .int a1]) (r := r_2) (M' := M_1) (n := 2) hc hP hS (mt_X8_plainTell l D cI cJ o H.size M a0 a1 er_2) wM_X8_285 wI_X8_plainTell wS_X8_plainTell wZ_X8 wC_X8_plainTell md_X8_plainTell ⟨rfl, rfl, Nat.le_of_ble_eq_true rfl, Nat.le_of_ble_eq_true rfl⟩ rfl hl.1 rfl (Nat.le_of_ble_eq_true rfl) dX8_tell0_35 ⟨Nat.zero_le _, Nat.zero_le _⟩ (fun H locs hP hS => ?_)
    cases h
    rw [hQ]
    exact m_reti hc hr hlocks hP hS hz dX8_tell0_38
  · replace h := z_ip_ c_7 h
    refine lv_aload_n hx hb dX8_tell0_10 rfl (lv_at hl 0 rfl) ?_
    refine lv_bipush (v := 31) hx hb dX8_tell0_11 (by decide) ?_
    obtain ⟨M_3, eM_3, h⟩ := z_bd_some h
    refine m_callv (As := [.int (31 : Int32)]) (M' := M_3) (n := 1) hc hP hS (mt_X8_ran l D cI cJ o H.size M (31 : Int32) eM_3) wM_X8_264 wI_X8_ran wS_X8_ran wZ_X8 wC_X8_ran md_X8_ran ⟨rfl, rfl, Nat.le_of_ble_eq_true rfl, Nat.le_of_ble_eq_true rfl⟩ rfl hl.1 rfl (Nat.le_of_ble_eq_true rfl) dX8_tell0_13 ⟨Nat.zero_le _, Nat.zero_le _⟩ (fun H locs hP hS => ?_)
    refine lv_aload_n hx hb dX8_tell0_16 rfl (lv_at hl 0 rfl) ?_
    refine lv_iload_n hx hb dX8_tell0_17 rfl (lv_at hl 1 rfl) ?_
    refine lv_iload_n hx hb dX8_tell0_18 rfl (lv_at hl 2 rfl) ?_
    obtain ⟨r_5, M_4, er_5, h⟩ := z_bd2_some h
    refine m_calli (As := [.int a0, .int a1]) (r := r_5) (M' := M_4) (n := 2) hc hP hS (mt_X8_bend0 l D cI cJ o H.size M_3 a0 a1 er_5) wM_X8_282 wI_X8_bend0 wS_X8_bend0 wZ_X8 wC_X8_bend0 md_X8_bend0 ⟨rfl, rfl, Nat.le_of_ble_eq_true rfl, Nat.le_of_ble_eq_true rfl⟩ rfl hl.1 rfl (Nat.le_of_ble_eq_true rfl) dX8_tell0_19 ⟨Nat.zero_le _, Nat.zero_le _⟩ (fun H locs hP hS => ?_)
    refine lv_istore_n (lv' := [(3, .int r_5), (0, .ref o), (1, .int a0), (2, .int a1)]) hx hb dX8_tell0_22 rfl hl (by decide) rfl (fun ls hl => ?_)
    refine lv_iload_n hx hb dX8_tell0_23 rfl (lv_at hl 0 rfl) ?_
    refine lv_aload_n hx hb dX8_tell0_24 rfl (lv_at hl 1 rfl) ?_
    refine lv_iload_n hx hb dX8_tell0_25 rfl (lv_at hl 2 rfl) ?_
    refine lv_iload_n hx hb dX8_tell0_26 rfl (lv_at hl 3 rfl) ?_
    obtain ⟨r_7, M_6, er_7, h⟩ := z_bd2_some h
    refine m_calli (As := [.int a0, .int a1]) (r := r_7) (M' := M_6) (n := 2) hc hP hS (mt_X8_plainTell l D cI cJ o H.size M_4 a0 a1 er_7) wM_X8_285 wI_X8_plainTell wS_X8_plainTell wZ_X8 wC_X8_plainTell md_X8_plainTell ⟨rfl, rfl, Nat.le_of_ble_eq_true rfl, Nat.le_of_ble_eq_true rfl⟩ rfl hl.1 rfl (Nat.le_of_ble_eq_true rfl) dX8_tell0_27 ⟨Nat.zero_le _, Nat.zero_le _⟩ (fun H locs hP hS => ?_)
    refine lv_iadd hx hb dX8_tell0_30 ?_
    cases h
    rw [hQ]
    exact m_reti hc hr hlocks hP hS hz dX8_tell0_31
theorem md_X8_tell0 : yX8_tell0.cls ≠ "java/lang/invoke/MethodHandle" ∧ yX8_tell0.cls ≠ "java/lang/invoke/VarHandle" ∧ (parseMethodDescriptor yX8_tell0.desc).map (fun d => d.parameters.length) = some 2 := by decide +kernel
noncomputable def f_X8_act (M : MS) (a0 : Int32) (a1 : Int32) (a2 : Int32) : Option (Int32 × MS) :=
  z_bd (f_X8_isFit M a0) fun r_1 => if r_1 = 0 then z_bd2 (f_X8_refused M (1 : Int32)) fun r_3 M_2 => some (r_3, M_2) else z_bd (f_X8_in a1 (0 : Int32) (3 : Int32)) fun r_4 => if r_4 = 0 then z_bd2 (f_X8_refused M (1 : Int32)) fun r_19 M_18 => some (r_19, M_18) else z_lt (sI M 20 0 (0 : Int32)) fun M_5 => z_bd2 (if a1 = 0 then z_bd2 (f_X8_fit0 M_5 a0 a2) fun r_15 M_14 => some (r_15, M_14) else if a1 = (1 : Int32) then z_bd2 (f_X8_miss0 M_5 a0 a2) fun r_13 M_12 => some (r_13, M_12) else if a1 = (2 : Int32) then z_bd2 (f_X8_bend0 M_5 a0 a2) fun r_11 M_10 => some (r_11, M_10) else z_bd2 (f_X8_tell0 M_5 a0 a2) fun r_9 M_8 => some (r_9, M_8)) fun v_6 M_7 => z_bd2 (f_X8_done M_7 v_6) fun r_17 M_16 => some (r_17, M_16)
set_option maxHeartbeats 4000000 in
set_option maxRecDepth 100000 in
theorem mt_X8_act (l : Launch) (D : va_G) (cI cJ : ClassId) (o sz : Nat) (M : MS) (a0 : Int32) (a1 : Int32) (a2 : Int32) {r_ : Int32} {N_ : MS} (h : f_X8_act M a0 a1 a2 = some (r_, N_)) : Met l yX8_act (z_wd yX8_act cX8_act 4 (some .int)) (z_rm 7 268) (va_Pc [.ref o, .int a0, .int a1, .int a2] (m_C D cI cJ o sz M)) (va_Qi (fun (r1 : Int32) (M1 : MS) => r1 = r_ ∧ M1 = N_) (m_C D cI cJ o sz) (m_A o)) 0 0 (m_A o) := by
  refine Met.ofW (cc := cX8_act) (maxL := 4) (ret := (some .int)) (by decide) rfl ?_
  intro p e s m args below meth c s₁ B hml hv
  obtain ⟨hav, hz, hP0, hK⟩ := hv
  have hx := B.exec
  have hb := B.bytes
  have hr := B.returns
  have hts := atoms_spec (ws := z_wd yX8_act cX8_act 4 (some .int)) B.pre
  have hown : s.vm.findClass RX8 = some m.cls := findClass_of_methodNamed B.named
  have hlocks := B.notSynchronized
  have hc : m_X p s m args c cX8_act 4 D cI cJ := ⟨hx, hb, hml, fun w hw => hts w (List.mem_cons_of_mem _ hw), hown, hK⟩
  have hl := lv_entry ([.ref o, .int a0, .int a1, .int a2]) (n := 4) (Nat.le_of_ble_eq_true rfl)
  have hE : entryFrame m args 4 = F0 m 0 ((lg_sl ([.ref o, .int a0, .int a1, .int a2]) ++ List.replicate (4 - (lg_sl ([.ref o, .int a0, .int a1, .int a2])).length) Slot.unset).toArray) [] := by rw [hav]; exact lg_entry_eq m _ _
  rw [hE]
  clear hE hav
  generalize (lg_sl ([.ref o, .int a0, .int a1, .int a2]) ++ List.replicate (4 - (lg_sl ([.ref o, .int a0, .int a1, .int a2])).length) Slot.unset).toArray = ls at hl ⊢
  have hl : lv_has ls 4 [(0, .ref o), (1, .int a0), (2, .int a1), (3, .int a2)] := hl
  obtain ⟨Q, hQ⟩ : ∃ Q, Q = MQ below (va_Qi (fun (r1 : Int32) (M1 : MS) => r1 = r_ ∧ M1 = N_) (m_C D cI cJ o sz) (m_A o)) args s 0 0 (m_A o) := ⟨_, rfl⟩
  rw [← hQ]
  suffices hmain : ∀ (H : Heap) (locs : List Loc), va_P D z_cls (m_W cI cJ o M) H → va_S (m_A o) s.heap H locs → W p l e (z_rm 7 268) s m args below meth c H locs 0 0 Q (F0 m 0 ls []) from hmain s.heap [] hP0 va_S.rf
  clear hP0
  intro H locs hP hS
  unfold f_X8_act at h
  refine lv_aload_n hx hb dX8_act_0 rfl (lv_at hl 0 rfl) ?_
  refine lv_iload_n hx hb dX8_act_1 rfl (lv_at hl 1 rfl) ?_
  obtain ⟨r_1, er_1, h⟩ := z_bd_some h
  refine m_calli (As := [.int a0]) (r := r_1) (M' := M) (n := 1) hc hP hS (mt_X8_isFit l D cI cJ o H.size M a0 er_1) wM_X8_185 wI_X8_isFit wS_X8_isFit wZ_X8 wC_X8_isFit md_X8_isFit ⟨rfl, rfl, Nat.le_of_ble_eq_true rfl, Nat.le_of_ble_eq_true rfl⟩ rfl hl.1 rfl (Nat.le_of_ble_eq_true rfl) dX8_act_2 ⟨Nat.zero_le _, Nat.zero_le _⟩ (fun H locs hP hS => ?_)
  refine lv_if_eq (tgt := 17) hx hb dX8_act_5 (by decide) (fun c_5 => ?_) (fun c_5 => ?_)
  · replace h := z_ip_ c_5 h
    refine lv_aload_n hx hb dX8_act_17 rfl (lv_at hl 0 rfl) ?_
    refine lv_iconst (v := 1) hx hb dX8_act_18 (by decide) ?_
    obtain ⟨r_3, M_2, er_3, h⟩ := z_bd2_some h
    refine m_calli (As := [.int (1 : Int32)]) (r := r_3) (M' := M_2) (n := 1) hc hP hS (mt_X8_refused l D cI cJ o H.size M (1 : Int32) er_3) wM_X8_118 wI_X8_refused wS_X8_refused wZ_X8 wC_X8_refused md_X8_refused ⟨rfl, rfl, Nat.le_of_ble_eq_true rfl, Nat.le_of_ble_eq_true rfl⟩ rfl hl.1 rfl (Nat.le_of_ble_eq_true rfl) dX8_act_19 ⟨Nat.zero_le _, Nat.zero_le _⟩ (fun H locs hP hS => ?_)
    cases h
    rw [hQ]
    exact m_reti hc hr hlocks hP hS hz dX8_act_22
  · replace h := z_in_ c_5 h
    refine lv_iload_n hx hb dX8_act_8 rfl (lv_at hl 2 rfl) ?_
    refine lv_iconst (v := 0) hx hb dX8_act_9 (by decide) ?_
    refine lv_iconst (v := 3) hx hb dX8_act_10 (by decide) ?_
    obtain ⟨r_4, er_4, h⟩ := z_bd_some h
    refine s_calli (As := [.int a1, .int (0 : Int32), .int (3 : Int32)]) (r := r_4) (n := 3) hc.s (mt_X8_in l a1 (0 : Int32) (3 : Int32) er_4) wM_X8_100 wT_X8_in wZ_X8 wC_X8_in md_X8_in ⟨rfl, rfl, Nat.le_of_ble_eq_true rfl, Nat.le_of_ble_eq_true rfl⟩ rfl hl.1 rfl (Nat.le_of_ble_eq_true rfl) dX8_act_11 ⟨Nat.zero_le _, Nat.zero_le _⟩ ?_
    refine lv_if_ne (tgt := 23) hx hb dX8_act_14 (by decide) (fun c_14 => ?_) (fun c_14 => ?_)
    · replace h := z_in_ c_14 h
      refine lv_aload_n hx hb dX8_act_23 rfl (lv_at hl 0 rfl) ?_
      refine lv_iconst (v := 0) hx hb dX8_act_24 (by decide) ?_
      obtain ⟨M_5, eM_5, h⟩ := z_lt_some h
      refine m_put (k := 20) (M' := M_5) (ty := .int) hc hP hS (by decide) wF_X8_222 rfl (by decide +kernel) rfl rfl (by rw [eM_5]; exact mp_20 ..) dX8_act_25 (fun H locs hP hS => ?_)
      refine lv_aload_n hx hb dX8_act_28 rfl (lv_at hl 0 rfl) ?_
      refine lv_iload_n hx hb dX8_act_29 rfl (lv_at hl 2 rfl) ?_
      obtain ⟨v_6, M_7, hJ, h⟩ := z_bd2_some h
      have J_76 : ∀ (H : Heap) (locs : List Loc) (ls : Array Slot), va_P D z_cls (m_W cI cJ o M_7) H → va_S (m_A o) s.heap H locs → lv_has ls 4 [] → W p l e (z_rm 7 268) s m args below meth c H locs 0 0 Q (F0 m 76 ls [.int v_6, .ref o]) := by
        intro H locs ls hP hS hl
        obtain ⟨r_17, M_16, er_17, h⟩ := z_bd2_some h
        refine m_calli (As := [.int v_6]) (r := r_17) (M' := M_16) (n := 1) hc hP hS (mt_X8_done l D cI cJ o H.size M_7 v_6 er_17) wM_X8_130 wI_X8_done wS_X8_done wZ_X8 wC_X8_done md_X8_done ⟨rfl, rfl, Nat.le_of_ble_eq_true rfl, Nat.le_of_ble_eq_true rfl⟩ rfl hl.1 rfl (Nat.le_of_ble_eq_true rfl) dX8_act_76 ⟨Nat.zero_le _, Nat.zero_le _⟩ (fun H locs hP hS => ?_)
        cases h
        rw [hQ]
        exact m_reti hc hr hlocks hP hS hz dX8_act_79
      clear h
      have h := hJ
      clear hJ
      refine lv_if_ne (tgt := 42) hx hb dX8_act_30 (by decide) (fun c_30 => ?_) (fun c_30 => ?_)
      · replace h := z_in_ c_30 h
        refine lv_iload_n hx hb dX8_act_42 rfl (lv_at hl 2 rfl) ?_
        refine lv_iconst (v := 1) hx hb dX8_act_43 (by decide) ?_
        refine lv_icmp_ne (tgt := 56) hx hb dX8_act_44 (by decide) (fun c_44 => ?_) (fun c_44 => ?_)
        · replace h := z_in_ c_44 h
          refine lv_iload_n hx hb dX8_act_56 rfl (lv_at hl 2 rfl) ?_
          refine lv_iconst (v := 2) hx hb dX8_act_57 (by decide) ?_
          refine lv_icmp_ne (tgt := 70) hx hb dX8_act_58 (by decide) (fun c_58 => ?_) (fun c_58 => ?_)
          · replace h := z_in_ c_58 h
            refine lv_aload_n hx hb dX8_act_70 rfl (lv_at hl 0 rfl) ?_
            refine lv_iload_n hx hb dX8_act_71 rfl (lv_at hl 1 rfl) ?_
            refine lv_iload_n hx hb dX8_act_72 rfl (lv_at hl 3 rfl) ?_
            obtain ⟨r_9, M_8, er_9, h⟩ := z_bd2_some h
            refine m_calli (As := [.int a0, .int a2]) (r := r_9) (M' := M_8) (n := 2) hc hP hS (mt_X8_tell0 l D cI cJ o H.size M_5 a0 a2 er_9) wM_X8_288 wI_X8_tell0 wS_X8_tell0 wZ_X8 wC_X8_tell0 md_X8_tell0 ⟨rfl, rfl, Nat.le_of_ble_eq_true rfl, Nat.le_of_ble_eq_true rfl⟩ rfl hl.1 rfl (Nat.le_of_ble_eq_true rfl) dX8_act_73 ⟨Nat.zero_le _, Nat.zero_le _⟩ (fun H locs hP hS => ?_)
            cases h
            exact J_76 H locs ls hP hS (lv_sub hl [] rfl)
          · replace h := z_ip_ c_58 h
            refine lv_aload_n hx hb dX8_act_61 rfl (lv_at hl 0 rfl) ?_
            refine lv_iload_n hx hb dX8_act_62 rfl (lv_at hl 1 rfl) ?_
            refine lv_iload_n hx hb dX8_act_63 rfl (lv_at hl 3 rfl) ?_
            obtain ⟨r_11, M_10, er_11, h⟩ := z_bd2_some h
            refine m_calli (As := [.int a0, .int a2]) (r := r_11) (M' := M_10) (n := 2) hc hP hS (mt_X8_bend0 l D cI cJ o H.size M_5 a0 a2 er_11) wM_X8_282 wI_X8_bend0 wS_X8_bend0 wZ_X8 wC_X8_bend0 md_X8_bend0 ⟨rfl, rfl, Nat.le_of_ble_eq_true rfl, Nat.le_of_ble_eq_true rfl⟩ rfl hl.1 rfl (Nat.le_of_ble_eq_true rfl) dX8_act_64 ⟨Nat.zero_le _, Nat.zero_le _⟩ (fun H locs hP hS => ?_)
            refine lv_goto (tgt := 76) hx hb dX8_act_67 (by decide) ?_
            cases h
            exact J_76 H locs ls hP hS (lv_sub hl [] rfl)
        · replace h := z_ip_ c_44 h
          refine lv_aload_n hx hb dX8_act_47 rfl (lv_at hl 0 rfl) ?_
          refine lv_iload_n hx hb dX8_act_48 rfl (lv_at hl 1 rfl) ?_
          refine lv_iload_n hx hb dX8_act_49 rfl (lv_at hl 3 rfl) ?_
          obtain ⟨r_13, M_12, er_13, h⟩ := z_bd2_some h
          refine m_calli (As := [.int a0, .int a2]) (r := r_13) (M' := M_12) (n := 2) hc hP hS (mt_X8_miss0 l D cI cJ o H.size M_5 a0 a2 er_13) wM_X8_279 wI_X8_miss0 wS_X8_miss0 wZ_X8 wC_X8_miss0 md_X8_miss0 ⟨rfl, rfl, Nat.le_of_ble_eq_true rfl, Nat.le_of_ble_eq_true rfl⟩ rfl hl.1 rfl (Nat.le_of_ble_eq_true rfl) dX8_act_50 ⟨Nat.zero_le _, Nat.zero_le _⟩ (fun H locs hP hS => ?_)
          refine lv_goto (tgt := 76) hx hb dX8_act_53 (by decide) ?_
          cases h
          exact J_76 H locs ls hP hS (lv_sub hl [] rfl)
      · replace h := z_ip_ c_30 h
        refine lv_aload_n hx hb dX8_act_33 rfl (lv_at hl 0 rfl) ?_
        refine lv_iload_n hx hb dX8_act_34 rfl (lv_at hl 1 rfl) ?_
        refine lv_iload_n hx hb dX8_act_35 rfl (lv_at hl 3 rfl) ?_
        obtain ⟨r_15, M_14, er_15, h⟩ := z_bd2_some h
        refine m_calli (As := [.int a0, .int a2]) (r := r_15) (M' := M_14) (n := 2) hc hP hS (mt_X8_fit0 l D cI cJ o H.size M_5 a0 a2 er_15) wM_X8_273 wI_X8_fit0 wS_X8_fit0 wZ_X8 wC_X8_fit0 md_X8_fit0 ⟨rfl, rfl, Nat.le_of_ble_eq_true rfl, Nat.le_of_ble_eq_true rfl⟩ rfl hl.1 rfl (Nat.le_of_ble_eq_true rfl) dX8_act_36 ⟨Nat.zero_le _, Nat.zero_le _⟩ (fun H locs hP hS => ?_)
        refine lv_goto (tgt := 76) hx hb dX8_act_39 (by decide) ?_
        cases h
        exact J_76 H locs ls hP hS (lv_sub hl [] rfl)
    · replace h := z_ip_ c_14 h
      refine lv_aload_n hx hb dX8_act_17 rfl (lv_at hl 0 rfl) ?_
      refine lv_iconst (v := 1) hx hb dX8_act_18 (by decide) ?_
      obtain ⟨r_19, M_18, er_19, h⟩ := z_bd2_some h
      refine m_calli (As := [.int (1 : Int32)]) (r := r_19) (M' := M_18) (n := 1) hc hP hS (mt_X8_refused l D cI cJ o H.size M (1 : Int32) er_19) wM_X8_118 wI_X8_refused wS_X8_refused wZ_X8 wC_X8_refused md_X8_refused ⟨rfl, rfl, Nat.le_of_ble_eq_true rfl, Nat.le_of_ble_eq_true rfl⟩ rfl hl.1 rfl (Nat.le_of_ble_eq_true rfl) dX8_act_19 ⟨Nat.zero_le _, Nat.zero_le _⟩ (fun H locs hP hS => ?_)
      cases h
      rw [hQ]
      exact m_reti hc hr hlocks hP hS hz dX8_act_22
theorem md_X8_act : yX8_act.cls ≠ "java/lang/invoke/MethodHandle" ∧ yX8_act.cls ≠ "java/lang/invoke/VarHandle" ∧ (parseMethodDescriptor yX8_act.desc).map (fun d => d.parameters.length) = some 3 := by decide +kernel
noncomputable def f_X8_trace (M : MS) (a0 : Int32) : Option (Int32) :=
  z_bd (if (50 : Int32) ≤ (M.1 20 0) then some ((50 : Int32)) else some ((M.1 20 0))) fun v_1 => z_bd (f_X8_in a0 (0 : Int32) (v_1 - (1 : Int32))) fun r_2 => if r_2 = 0 then some (-1 : Int32) else z_chk (z_in a0 50) (some (M.1 19 a0.toNatClampNeg))
set_option maxHeartbeats 4000000 in
set_option maxRecDepth 100000 in
theorem mt_X8_trace (l : Launch) (D : va_G) (cI cJ : ClassId) (o sz : Nat) (M : MS) (a0 : Int32) {r_ : Int32} (h : f_X8_trace M a0 = some r_) : Met l yX8_trace (z_wd yX8_trace cX8_trace 2 (some .int)) (z_rm 1 38) (va_Pc [.ref o, .int a0] (m_C D cI cJ o sz M)) (va_Qi (fun (r1 : Int32) (M1 : MS) => r1 = r_ ∧ M1 = M) (m_C D cI cJ o sz) (m_A o)) 0 0 (m_A o) := by
  refine Met.ofW (cc := cX8_trace) (maxL := 2) (ret := (some .int)) (by decide) rfl ?_
  intro p e s m args below meth c s₁ B hml hv
  obtain ⟨hav, hz, hP0, hK⟩ := hv
  have hx := B.exec
  have hb := B.bytes
  have hr := B.returns
  have hts := atoms_spec (ws := z_wd yX8_trace cX8_trace 2 (some .int)) B.pre
  have hown : s.vm.findClass RX8 = some m.cls := findClass_of_methodNamed B.named
  have hlocks := B.notSynchronized
  have hc : m_X p s m args c cX8_trace 2 D cI cJ := ⟨hx, hb, hml, fun w hw => hts w (List.mem_cons_of_mem _ hw), hown, hK⟩
  have hl := lv_entry ([.ref o, .int a0]) (n := 2) (Nat.le_of_ble_eq_true rfl)
  have hE : entryFrame m args 2 = F0 m 0 ((lg_sl ([.ref o, .int a0]) ++ List.replicate (2 - (lg_sl ([.ref o, .int a0])).length) Slot.unset).toArray) [] := by rw [hav]; exact lg_entry_eq m _ _
  rw [hE]
  clear hE hav
  generalize (lg_sl ([.ref o, .int a0]) ++ List.replicate (2 - (lg_sl ([.ref o, .int a0])).length) Slot.unset).toArray = ls at hl ⊢
  have hl : lv_has ls 2 [(0, .ref o), (1, .int a0)] := hl
  obtain ⟨Q, hQ⟩ : ∃ Q, Q = MQ below (va_Qi (fun (r1 : Int32) (M1 : MS) => r1 = r_ ∧ M1 = M) (m_C D cI cJ o sz) (m_A o)) args s 0 0 (m_A o) := ⟨_, rfl⟩
  rw [← hQ]
  suffices hmain : ∀ (H : Heap) (locs : List Loc), va_P D z_cls (m_W cI cJ o M) H → va_S (m_A o) s.heap H locs → W p l e (z_rm 1 38) s m args below meth c H locs 0 0 Q (F0 m 0 ls []) from hmain s.heap [] hP0 va_S.rf
  clear hP0
  intro H locs hP hS
  unfold f_X8_trace at h
  refine lv_iload_n hx hb dX8_trace_0 rfl (lv_at hl 1 rfl) ?_
  refine lv_iconst (v := 0) hx hb dX8_trace_1 (by decide) ?_
  refine lv_aload_n hx hb dX8_trace_2 rfl (lv_at hl 0 rfl) ?_
  refine m_get (k := 20) (v := .int (M.1 20 0)) hc hP (by decide) wF_X8_222 rfl dX8_trace_3 ?_
  refine lv_bipush (v := 50) hx hb dX8_trace_6 (by decide) ?_
  obtain ⟨v_1, hJ, h⟩ := z_bd_some h
  have J_20 : ∀ (H : Heap) (locs : List Loc) (ls : Array Slot), va_P D z_cls (m_W cI cJ o M) H → va_S (m_A o) s.heap H locs → lv_has ls 2 [(0, .ref o), (1, .int a0)] → W p l e (z_rm 1 38) s m args below meth c H locs 0 0 Q (F0 m 20 ls [.int v_1, .int (0 : Int32), .int a0]) := by
    intro H locs ls hP hS hl
    refine lv_iconst (v := 1) hx hb dX8_trace_20 (by decide) ?_
    refine lv_isub hx hb dX8_trace_21 ?_
    obtain ⟨r_2, er_2, h⟩ := z_bd_some h
    refine s_calli (As := [.int a0, .int (0 : Int32), .int (v_1 - (1 : Int32))]) (r := r_2) (n := 3) hc.s (mt_X8_in l a0 (0 : Int32) (v_1 - (1 : Int32)) er_2) wM_X8_100 wT_X8_in wZ_X8 wC_X8_in md_X8_in ⟨rfl, rfl, Nat.le_of_ble_eq_true rfl, Nat.le_of_ble_eq_true rfl⟩ rfl hl.1 rfl (Nat.le_of_ble_eq_true rfl) dX8_trace_22 ⟨Nat.zero_le _, Nat.zero_le _⟩ ?_
    refine lv_if_eq (tgt := 37) hx hb dX8_trace_25 (by decide) (fun c_25 => ?_) (fun c_25 => ?_)
    · replace h := z_ip_ c_25 h
      refine lv_iconst (v := -1) hx hb dX8_trace_37 (by decide) ?_
      cases h
      rw [hQ]
      exact m_reti hc hr hlocks hP hS hz dX8_trace_38
    · replace h := z_in_ c_25 h
      refine lv_aload_n hx hb dX8_trace_28 rfl (lv_at hl 0 rfl) ?_
      refine m_get (k := 19) (v := .ref (o + 18)) hc hP (by decide) wF_X8_62 rfl dX8_trace_29 ?_
      refine lv_iload_n hx hb dX8_trace_32 rfl (lv_at hl 1 rfl) ?_
      obtain ⟨c_33, h⟩ := z_chk_some h
      refine m_iald (k := 19) (j := 18) hc hP (ma_19 ..) c_33 dX8_trace_33 ?_
      refine lv_goto (tgt := 38) hx hb dX8_trace_34 (by decide) ?_
      cases h
      rw [hQ]
      exact m_reti hc hr hlocks hP hS hz dX8_trace_38
  clear h
  have h := hJ
  clear hJ
  refine lv_icmp_ge (tgt := 18) hx hb dX8_trace_8 (by decide) (fun c_8 => ?_) (fun c_8 => ?_)
  · replace h := z_ip_ c_8 h
    refine lv_bipush (v := 50) hx hb dX8_trace_18 (by decide) ?_
    cases h
    exact J_20 H locs ls hP hS (lv_sub hl [0, 1] rfl)
  · replace h := z_in_ c_8 h
    refine lv_aload_n hx hb dX8_trace_11 rfl (lv_at hl 0 rfl) ?_
    refine m_get (k := 20) (v := .int (M.1 20 0)) hc hP (by decide) wF_X8_222 rfl dX8_trace_12 ?_
    refine lv_goto (tgt := 20) hx hb dX8_trace_15 (by decide) ?_
    cases h
    exact J_20 H locs ls hP hS (lv_sub hl [0, 1] rfl)
theorem md_X8_trace : yX8_trace.cls ≠ "java/lang/invoke/MethodHandle" ∧ yX8_trace.cls ≠ "java/lang/invoke/VarHandle" ∧ (parseMethodDescriptor yX8_trace.desc).map (fun d => d.parameters.length) = some 1 := by decide +kernel
