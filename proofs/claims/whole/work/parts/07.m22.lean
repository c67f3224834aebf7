noncomputable def f_X8_plainFit (M : MS) (a0 : Int32) (a1 : Int32) : Option (Int32 × MS) :=
  z_bd (f_X8_ran M (10 : Int32)) fun M_1 => z_chk (z_in a0 10) (some ((a1 + (M_1.1 7 a0.toNatClampNeg)), M_1))
set_option maxHeartbeats 4000000 in
set_option maxRecDepth 100000 in
theorem mt_X8_plainFit (l : Launch) (D : va_G) (cI cJ : ClassId) (o sz : Nat) (M : MS) (a0 : Int32) (a1 : Int32) {r_ : Int32} {N_ : MS} (h : f_X8_plainFit M a0 a1 = some (r_, N_)) : Met l yX8_plainFit (z_wd yX8_plainFit cX8_plainFit 3 (some .int)) (z_rm 1 37) (va_Pc [.ref o, .int a0, .int a1] (m_C D cI cJ o sz M)) (va_Qi (fun (r1 : Int32) (M1 : MS) => r1 = r_ ∧ M1 = N_) (m_C D cI cJ o sz) (m_A o)) 0 0 (m_A o) := by
  refine Met.ofW (cc := cX8_plainFit) (maxL := 3) (ret := (some .int)) (by decide) rfl ?_
  intro p e s m args below meth c s₁ B hml hv
  obtain ⟨hav, hz, hP0, hK⟩ := hv
  have hx := B.exec
  have hb := B.bytes
  have hr := B.returns
  have hts := atoms_spec (ws := z_wd yX8_plainFit cX8_plainFit 3 (some .int)) B.pre
  have hown : s.vm.findClass RX8 = some m.cls := findClass_of_methodNamed B.named
  have hlocks := B.notSynchronized
  have hc : m_X p s m args c cX8_plainFit 3 D cI cJ := ⟨hx, hb, hml, fun w hw => hts w (List.mem_cons_of_mem _ hw), hown, hK⟩
  have hl := lv_entry ([.ref o, .int a0, .int a1]) (n := 3) (Nat.le_of_ble_eq_true rfl)
  have hE : entryFrame m args 3 = F0 m 0 ((lg_sl ([.ref o, .int a0, .int a1]) ++ List.replicate (3 - (lg_sl ([.ref o, .int a0, .int a1])).length) Slot.unset).toArray) [] := by rw [hav]; exact lg_entry_eq m _ _
  rw [hE]
  clear hE hav
  generalize (lg_sl ([.ref o, .int a0, .int a1]) ++ List.replicate (3 - (lg_sl ([.ref o, .int a0, .int a1])).length) Slot.unset).toArray = ls at hl ⊢
  have hl : lv_has ls 3 [(0, .ref o), (1, .int a0), (2, .int a1)] := hl
  obtain ⟨Q, hQ⟩ : ∃ Q, Q = MQ below (va_Qi (fun (r1 : Int32) (M1 : MS) => r1 = r_ ∧ M1 = N_) (m_C D cI cJ o sz) (m_A o)) args s 0 0 (m_A o) := ⟨_, rfl⟩
  rw [← hQ]
  suffices hmain : ∀ (H : Heap) (locs : List Loc), va_P D z_cls (m_W cI cJ o M) H → va_S (m_A o) s.heap H locs → W p l e (z_rm 1 37) s m args below meth c H locs 0 0 Q (F0 m 0 ls []) from hmain s.heap [] hP0 va_S.rf
  clear hP0
  intro H locs hP hS
  unfold f_X8_plainFit at h
  refine lv_aload_n hx hb dX8_plainFit_0 rfl (lv_at hl 0 rfl) ?_
  refine lv_bipush (v := 10) hx hb dX8_plainFit_1 (by decide) ?_
  obtain ⟨M_1, eM_1, h⟩ := z_bd_some h
  refine m_callv (As := [.int (10 : Int32)]) (M' := M_1) (n := 1) hc hP hS (mt_X8_ran l D cI cJ o H.size M (10 : Int32) eM_1) wM_X8_264 wI_X8_ran wS_X8_ran wZ_X8 wC_X8_ran md_X8_ran ⟨rfl, rfl, Nat.le_of_ble_eq_true rfl, Nat.le_of_ble_eq_true rfl⟩ rfl hl.1 rfl (Nat.le_of_ble_eq_true rfl) dX8_plainFit_3 ⟨Nat.zero_le _, Nat.zero_le _⟩ (fun H locs hP hS => ?_)
  refine lv_iload_n hx hb dX8_plainFit_6 rfl (lv_at hl 2 rfl) ?_
  refine lv_aload_n hx hb dX8_plainFit_7 rfl (lv_at hl 0 rfl) ?_
  refine m_get (k := 7) (v := .ref (o + 7)) hc hP (by decide) wF_X8_28 rfl dX8_plainFit_8 ?_
  refine lv_iload_n hx hb dX8_plainFit_11 rfl (lv_at hl 1 rfl) ?_
  obtain ⟨c_12, h⟩ := z_chk_some h
  refine m_iald (k := 7) (j := 7) hc hP (ma_7 ..) c_12 dX8_plainFit_12 ?_
  refine lv_iadd hx hb dX8_plainFit_13 ?_
  cases h
  rw [hQ]
  exact m_reti hc hr hlocks hP hS hz dX8_plainFit_14
theorem md_X8_plainFit : yX8_plainFit.cls ≠ "java/lang/invoke/MethodHandle" ∧ yX8_plainFit.cls ≠ "java/lang/invoke/VarHandle" ∧ (parseMethodDescriptor yX8_plainFit.desc).map (fun d => d.parameters.length) = some 2 := by decide +kernel
noncomputable def f_X8_fit0 (M : MS) (a0 : Int32) (a1 : Int32) : Option (Int32 × MS) :=
  z_bd (f_X8_isLine M a0) fun r_1 => if r_1 = 0 then z_bd2 (f_X8_plainFit M a0 a1) fun r_9 M_8 => some (r_9, M_8) else z_chk (z_in a0 10) (z_bd (if (M.1 5 a0.toNatClampNeg) = (4 : Int32) then z_bd (f_X8_ran M (50 : Int32)) fun M_3 => some (M_3) else some (M)) fun M_2 => z_bd (f_X8_ran M_2 (20 : Int32)) fun M_4 => z_chk (z_in a0 10) (z_bd (if (M_4.1 5 a0.toNatClampNeg) = (4 : Int32) then some ((a1 * (2 : Int32))) else some (a1)) fun v_5 => z_bd2 (f_X8_plainFit M_4 a0 v_5) fun r_7 M_6 => some ((r_7 + (1 : Int32)), M_6)))
set_option maxHeartbeats 4000000 in
set_option maxRecDepth 100000 in
theorem mt_X8_fit0 (l : Launch) (D : va_G) (cI cJ : ClassId) (o sz : Nat) (M : MS) (a0 : Int32) (a1 : Int32) {r_ : Int32} {N_ : MS} (h : f_X8_fit0 M a0 a1 = some (r_, N_)) : Met l yX8_fit0 (z_wd yX8_fit0 cX8_fit0 3 (some .int)) (z_rm 2 75) (va_Pc [.ref o, .int a0, .int a1] (m_C D cI cJ o sz M)) (va_Qi (fun (r1 : Int32) (M1 : MS) => r1 = r_ ∧ M1 = N_) (m_C D cI cJ o sz) (m_A o)) 0 0 (m_A o) := by
  refine Met.ofW (cc := cX8_fit0) (maxL := 3) (ret := (some .int)) (by decide) rfl ?_
  intro p e s m args below meth c s₁ B hml hv
  obtain ⟨hav, hz, hP0, hK⟩ := hv
  have hx := B.exec
  have hb := B.bytes
  have hr := B.returns
  have hts := atoms_spec (ws := z_wd yX8_fit0 cX8_fit0 3 (some .int)) B.pre
  have hown : s.vm.findClass RX8 = some m.cls := findClass_of_methodNamed B.named
  have hlocks := B.notSynchronized
  have hc : m_X p s m args c cX8_fit0 3 D cI cJ := ⟨hx, hb, hml, fun w hw => hts w (List.mem_cons_of_mem _ hw), hown, hK⟩
  have hl := lv_entry ([.ref o, .int a0, .int a1]) (n := 3) (Nat.le_of_ble_eq_true rfl)
  have hE : entryFrame m args 3 = F0 m 0 ((lg_sl ([.ref o, .int a0, .int a1]) ++ List.replicate (3 - (lg_sl ([.ref o, .int a0, .int a1])).length) Slot.unset).toArray) [] := by rw [hav]; exact lg_entry_eq m _ _
  rw [hE]
  clear hE hav
  generalize (lg_sl ([.ref o, .int a0, .int a1]) ++ List.replicate (3 - (lg_sl ([.ref o, .int a0, .int a1])).length) Slot.unset).toArray = ls at hl ⊢
  have hl : lv_has ls 3 [(0, .ref o), (1, .int a0), (2, .int a1)] := hl
  obtain ⟨Q, hQ⟩ : ∃ Q, Q = MQ below (va_Qi (fun (r1 : Int32) (M1 : MS) => r1 = r_ ∧ M1 = N_) (m_C D cI cJ o sz) (m_A o)) args s 0 0 (m_A o) := ⟨_, rfl⟩
  rw [← hQ]
  suffices hmain : ∀ (H : Heap) (locs : List Loc), va_P D z_cls (m_W cI cJ o M) H → va_S (m_A o) s.heap H locs → W p l e (z_rm 2 75) s m args below meth c H locs 0 0 Q (F0 m 0 ls []) from hmain s.heap [] hP0 va_S.rf
  clear hP0
  intro H locs hP hS
  unfold f_X8_fit0 at h
  refine lv_aload_n hx hb dX8_fit0_0 rfl (lv_at hl 0 rfl) ?_
  refine lv_iload_n hx hb dX8_fit0_1 rfl (lv_at hl 1 rfl) ?_
  obtain ⟨r_1, er_1, h⟩ := z_bd_some h
  refine m_calli (As := [.int a0]) (r := r_1) (M' := M) (n := 1) hc hP hS (mt_X8_isLine l D cI cJ o H.size M a0 er_1) wM_X8_267 wI_X8_isLine wS_X8_isLine wZ_X8 wC_X8_isLine md_X8_isLine ⟨rfl, rfl, Nat.le_of_ble_eq_true rfl, Nat.le_of_ble_eq_true rfl⟩ rfl hl.1 rfl (Nat.le_of_ble_eq_true rfl) dX8_fit0_2 ⟨Nat.zero_le _, Nat.zero_le _⟩ (fun H locs hP hS => ?_)
  refine lv_if_ne (tgt := 15) hx hb dX8_fit0_5 (by decide) (fun c_5 => ?_) (fun c_5 => ?_)
  · replace h := z_in_ c_5 h
    refine lv_aload_n hx hb dX8_fit0_15 rfl (lv_at hl 0 rfl) ?_
    refine m_get (k := 5) (v := .ref (o + 5)) hc hP (by decide) wF_X8_22 rfl dX8_fit0_16 ?_
    refine lv_iload_n hx hb dX8_fit0_19 rfl (lv_at hl 1 rfl) ?_
    obtain ⟨c_20, h⟩ := z_chk_some h
    refine m_iald (k := 5) (j := 5) hc hP (ma_5 ..) c_20 dX8_fit0_20 ?_
    refine lv_iconst (v := 4) hx hb dX8_fit0_21 (by decide) ?_
    obtain ⟨M_2, hJ, h⟩ := z_bd_some h
    have J_31 : ∀ (H : Heap) (locs : List Loc) (ls : Array Slot), va_P D z_cls (m_W cI cJ o M_2) H → va_S (m_A o) s.heap H locs → lv_has ls 3 [(0, .ref o), (1, .int a0), (2, .int a1)] → W p l e (z_rm 2 75) s m args below meth c H locs 0 0 Q (F0 m 31 ls []) := by
      intro H locs ls hP hS hl
      refine lv_aload_n hx hb dX8_fit0_31 rfl (lv_at hl 0 rfl) ?_
      refine lv_bipush (v := 20) hx hb dX8_fit0_32 (by decide) ?_
      obtain ⟨M_4, eM_4, h⟩ := z_bd_some h
      refine m_callv (As := [.int (20 : Int32)]) (M' := M_4) (n := 1) hc hP hS (mt_X8_ran l D cI cJ o H.size M_2 (20 : Int32) eM_4) wM_X8_264 wI_X8_ran wS_X8_ran wZ_X8 wC_X8_ran md_X8_ran ⟨rfl, rfl, Nat.le_of_ble_eq_true rfl, Nat.le_of_ble_eq_true rfl⟩ rfl hl.1 rfl (Nat.le_of_ble_eq_true rfl) dX8_fit0_34 ⟨Nat.zero_le _, Nat.zero_le _⟩ (fun H locs hP hS => ?_)
      refine lv_aload_n hx hb dX8_fit0_37 rfl (lv_at hl 0 rfl) ?_
      refine lv_iload_n hx hb dX8_fit0_38 rfl (lv_at hl 1 rfl) ?_
      refine lv_aload_n hx hb dX8_fit0_39 rfl (lv_at hl 0 rfl) ?_
      refine m_get (k := 5) (v := .ref (o + 5)) hc hP (by decide) wF_X8_22 rfl dX8_fit0_40 ?_
      refine lv_iload_n hx hb dX8_fit0_43 rfl (lv_at hl 1 rfl) ?_
      obtain ⟨c_44, h⟩ := z_chk_some h
      refine m_iald (k := 5) (j := 5) hc hP (ma_5 ..) c_44 dX8_fit0_44 ?_
      refine lv_iconst (v := 4) hx hb dX8_fit0_45 (by decide) ?_
      obtain ⟨v_5, hJ, h⟩ := z_bd_some h
      have J_56 : ∀ (H : Heap) (locs : List Loc) (ls : Array Slot), va_P D z_cls (m_W cI cJ o M_4) H → va_S (m_A o) s.heap H locs → lv_has ls 3 [] → W p l e (z_rm 2 75) s m args below meth c H locs 0 0 Q (F0 m 56 ls [.int v_5, .int a0, .ref o]) := by
        intro H locs ls hP hS hl
        obtain ⟨r_7, M_6, er_7, h⟩ := z_bd2_some h
        refine m_calli (As := [.int a0, .int v_5]) (r := r_7) (M' := M_6) (n := 2) hc hP hS (mt_X8_plainFit l D cI cJ o H.size M_4 a0 v_5 er_7) wM_X8_270 wI_X8_plainFit wS_X8_plainFit wZ_X8 wC_X8_plainFit md_X8_plainFit ⟨rfl, rfl, Nat.le_of_ble_eq_true rfl, Nat.le_of_ble_eq_true rfl⟩ rfl hl.1 rfl (Nat.le_of_ble_eq_true rfl) dX8_fit0_56 ⟨Nat.zero_le _, Nat.zero_le _⟩ (fun H locs hP hS => ?_)
        refine lv_iconst (v := 1) hx hb dX8_fit0_59 (by decide) ?_
        refine lv_iadd hx hb dX8_fit0_60 ?_
        cases h
        rw [hQ]
        exact m_reti hc hr hlocks hP hS hz dX8_fit0_61
      clear h
      have h := hJ
      clear hJ
      refine lv_icmp_ne (tgt := 55) hx hb dX8_fit0_46 (by decide) (fun c_46 => ?_) (fun c_46 => ?_)
      · replace h := z_in_ c_46 h
        refine lv_iload_n hx hb dX8_fit0_55 rfl (lv_at hl 2 rfl) ?_
        cases h
        exact J_56 H locs ls hP hS (lv_sub hl [] rfl)
      · replace h := z_ip_ c_46 h
        refine lv_iload_n hx hb dX8_fit0_49 rfl (lv_at hl 2 rfl) ?_
        refine lv_iconst (v := 2) hx hb dX8_fit0_50 (by decide) ?_
        refine lv_imul hx hb dX8_fit0_51 ?_
        refine lv_goto (tgt := 56) hx hb dX8_fit0_52 (by decide) ?_
        cases h
        exact J_56 H locs ls hP hS (lv_sub hl [] rfl)
    clear h
    have h := hJ
    clear hJ
    refine lv_icmp_ne (tgt := 31) hx hb dX8_fit0_22 (by decide) (fun c_22 => ?_) (fun c_22 => ?_)
    · replace h := z_in_ c_22 h
      cases h
      exact J_31 H locs ls hP hS (lv_sub hl [0, 1, 2] rfl)
    · replace h := z_ip_ c_22 h
      refine lv_aload_n hx hb dX8_fit0_25 rfl (lv_at hl 0 rfl) ?_
      refine lv_bipush (v := 50) hx hb dX8_fit0_26 (by decide) ?_
      obtain ⟨M_3, eM_3, h⟩ := z_bd_some h
      refine m_callv (As := [.int (50 : Int32)]) (M' := M_3) (n := 1) hc hP hS (mt_X8_ran l D cI cJ o H.size M (50 : Int32) eM_3) wM_X8_264 wI_X8_ran wS_X8_ran wZ_X8 wC_X8_ran md_X8_ran ⟨rfl, rfl, Nat.le_of_ble_eq_true rfl, Nat.le_of_ble_eq_true rfl⟩ rfl hl.1 rfl (Nat.le_of_ble_eq_true rfl) dX8_fit0_28 ⟨Nat.zero_le _, Nat.zero_le _⟩ (fun H locs hP hS => ?_)
      cases h
      exact J_31 H locs ls hP hS (lv_sub hl [0, 1, 2] rfl)
  · replace h := z_ip_ c_5 h
    refine lv_aload_n hx hb dX8_fit0_8 rfl (lv_at hl 0 rfl) ?_
    refine lv_iload_n hx hb dX8_fit0_9 rfl (lv_at hl 1 rfl) ?_
    refine lv_iload_n hx hb dX8_fit0_10 rfl (lv_at hl 2 rfl) ?_
    obtain ⟨r_9, M_8, er_9, h⟩ := z_bd2_some h
    refine m_calli (As := [.int a0, .int a1]) (r := r_9) (M' := M_8) (n := 2) hc hP hS (mt_X8_plainFit l D cI cJ o H.size M a0 a1 er_9) wM_X8_270 wI_X8_plainFit wS_X8_plainFit wZ_X8 wC_X8_plainFit md_X8_plainFit ⟨rfl, rfl, Nat.le_of_ble_eq_true rfl, Nat.le_of_ble_eq_true rfl⟩ rfl hl.1 rfl (Nat.le_of_ble_eq_true rfl) dX8_fit0_11 ⟨Nat.zero_le _, Nat.zero_le _⟩ (fun H locs hP hS => ?_)
    cases h
    rw [hQ]
    exact m_reti hc hr hlocks hP hS hz dX8_fit0_14
theorem md_X8_fit0 : yX8_fit0.cls ≠ "java/lang/invoke/MethodHandle" ∧ yX8_fit0.cls ≠ "java/lang/invoke/VarHandle" ∧ (parseMethodDescriptor yX8_fit0.desc).map (fun d => d.parameters.length) = some 2 := by decide +kernel
noncomputable def f_X8_plainMiss (M : MS) (a0 : Int32) (a1 : Int32) : Option (Int32 × MS) :=
  z_bd (f_X8_ran M (11 : Int32)) fun M_1 => z_bd2 (f_X8_fit0 M_1 a0 a1) fun r_3 M_2 => some ((r_3 * (2 : Int32)), M_2)
set_option maxHeartbeats 4000000 in
set_option maxRecDepth 100000 in
theorem mt_X8_plainMiss (l : Launch) (D : va_G) (cI cJ : ClassId) (o sz : Nat) (M : MS) (a0 : Int32) (a1 : Int32) {r_ : Int32} {N_ : MS} (h : f_X8_plainMiss M a0 a1 = some (r_, N_)) : Met l yX8_plainMiss (z_wd yX8_plainMiss cX8_plainMiss 3 (some .int)) (z_rm 3 113) (va_Pc [.ref o, .int a0, .int a1] (m_C D cI cJ o sz M)) (va_Qi (fun (r1 : Int32) (M1 : MS) => r1 = r_ ∧ M1 = N_) (m_C D cI cJ o sz) (m_A o)) 0 0 (m_A o) := by
  refine Met.ofW (cc := cX8_plainMiss) (maxL := 3) (ret := (some .int)) (by decide) rfl ?_
  intro p e s m args below meth c s₁ B hml hv
  obtain ⟨hav, hz, hP0, hK⟩ := hv
  have hx := B.exec
  have hb := B.bytes
  have hr := B.returns
  have hts := atoms_spec (ws := z_wd yX8_plainMiss cX8_plainMiss 3 (some .int)) B.pre
  have hown : s.vm.findClass RX8 = some m.cls := findClass_of_methodNamed B.named
  have hlocks := B.notSynchronized
  have hc : m_X p s m args c cX8_plainMiss 3 D cI cJ := ⟨hx, hb, hml, fun w hw => hts w (List.mem_cons_of_mem _ hw), hown, hK⟩
  have hl := lv_entry ([.ref o, .int a0, .int a1]) (n := 3) (Nat.le_of_ble_eq_true rfl)
  have hE : entryFrame m args 3 = F0 m 0 ((lg_sl ([.ref o, .int a0, .int a1]) ++ List.replicate (3 - (lg_sl ([.ref o, .int a0, .int a1])).length) Slot.unset).toArray) [] := by rw [hav]; exact lg_entry_eq m _ _
  rw [hE]
  clear hE hav
  generalize (lg_sl ([.ref o, .int a0, .int a1]) ++ List.replicate (3 - (lg_sl ([.ref o, .int a0, .int a1])).length) Slot.unset).toArray = ls at hl ⊢
  have hl : lv_has ls 3 [(0, .ref o), (1, .int a0), (2, .int a1)] := hl
  obtain ⟨Q, hQ⟩ : ∃ Q, Q = MQ below (va_Qi (fun (r1 : Int32) (M1 : MS) => r1 = r_ ∧ M1 = N_) (m_C D cI cJ o sz) (m_A o)) args s 0 0 (m_A o) := ⟨_, rfl⟩
  rw [← hQ]
  suffices hmain : ∀ (H : Heap) (locs : List Loc), va_P D z_cls (m_W cI cJ o M) H → va_S (m_A o) s.heap H locs → W p l e (z_rm 3 113) s m args below meth c H locs 0 0 Q (F0 m 0 ls []) from hmain s.heap [] hP0 va_S.rf
  clear hP0
  intro H locs hP hS
  unfold f_X8_plainMiss at h
  refine lv_aload_n hx hb dX8_plainMiss_0 rfl (lv_at hl 0 rfl) ?_
  refine lv_bipush (v := 11) hx hb dX8_plainMiss_1 (by decide) ?_
  obtain ⟨M_1, eM_1, h⟩ := z_bd_some h
  refine m_callv (As := [.int (11 : Int32)]) (M' := M_1) (n := 1) hc hP hS (mt_X8_ran l D cI cJ o H.size M (11 : Int32) eM_1) wM_X8_264 wI_X8_ran wS_X8_ran wZ_X8 wC_X8_ran md_X8_ran ⟨rfl, rfl, Nat.le_of_ble_eq_true rfl, Nat.le_of_ble_eq_true rfl⟩ rfl hl.1 rfl (Nat.le_of_ble_eq_true rfl) dX8_plainMiss_3 ⟨Nat.zero_le _, Nat.zero_le _⟩ (fun H locs hP hS => ?_)
  refine lv_aload_n hx hb dX8_plainMiss_6 rfl (lv_at hl 0 rfl) ?_
  refine lv_iload_n hx hb dX8_plainMiss_7 rfl (lv_at hl 1 rfl) ?_
  refine lv_iload_n hx hb dX8_plainMiss_8 rfl (lv_at hl 2 rfl) ?_
  obtain ⟨r_3, M_2, er_3, h⟩ := z_bd2_some h
  refine m_calli (As := [.int a0, .int a1]) (r := r_3) (M' := M_2) (n := 2) hc hP hS (mt_X8_fit0 l D cI cJ o H.size M_1 a0 a1 er_3) wM_X8_273 wI_X8_fit0 wS_X8_fit0 wZ_X8 wC_X8_fit0 md_X8_fit0 ⟨rfl, rfl, Nat.le_of_ble_eq_true rfl, Nat.le_of_ble_eq_true rfl⟩ rfl hl.1 rfl (Nat.le_of_ble_eq_true rfl) dX8_plainMiss_9 ⟨Nat.zero_le _, Nat.zero_le _⟩ (fun H locs hP hS => ?_)
  refine lv_iconst (v := 2) hx hb dX8_plainMiss_12 (by decide) ?_
  refine lv_imul hx hb dX8_plainMiss_13 ?_
  cases h
  rw [hQ]
  exact m_reti hc hr hlocks hP hS hz dX8_plainMiss_14
theorem md_X8_plainMiss : yX8_plainMiss.cls ≠ "java/lang/invoke/MethodHandle" ∧ yX8_plainMiss.cls ≠ "java/lang/invoke/VarHandle" ∧ (parseMethodDescriptor yX8_plainMiss.desc).map (fun d => d.parameters.length) = some 2 := by decide +kernel
