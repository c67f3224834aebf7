noncomputable def f_X8_modulo (a0 : Int32) (a1 : Int32) : Option (Int32) :=
  z_chk (¬ a1 = 0) (z_chk (¬ a1 = 0) (some (((a0 - a0 / a1 * a1) + a1) - ((a0 - a0 / a1 * a1) + a1) / a1 * a1)))
set_option maxHeartbeats 4000000 in
set_option maxRecDepth 100000 in
theorem mt_X8_modulo (l : Launch) (a0 : Int32) (a1 : Int32) {r_ : Int32} (h : f_X8_modulo a0 a1 = some r_) : Met l yX8_modulo (z_wd yX8_modulo cX8_modulo 2 (some .int)) (z_rm 0 0) (va_Pc [.int a0, .int a1] (fun _ => True)) (vp_Si (fun r1 : Int32 => r1 = r_)) 0 0 (fun _ => False) := by
  refine Met.ofW (cc := cX8_modulo) (maxL := 2) (ret := (some .int)) (by decide) rfl ?_
  intro p e s m args below meth c s₁ B hml hv
  obtain ⟨hav, -⟩ := hv
  have hx := B.exec
  have hb := B.bytes
  have hr := B.returns
  have hts := atoms_spec (ws := z_wd yX8_modulo cX8_modulo 2 (some .int)) B.pre
  have hown : s.vm.findClass RX8 = some m.cls := findClass_of_methodNamed B.named
  have hlocks := B.notSynchronized
  have hc : s_X p s m args c cX8_modulo 2 RX8 := ⟨hx, hb, hml, fun w hw => hts w (List.mem_cons_of_mem _ hw), hown⟩
  have hl := lv_entry ([.int a0, .int a1]) (n := 2) (Nat.le_of_ble_eq_true rfl)
  have hE : entryFrame m args 2 = F0 m 0 ((lg_sl ([.int a0, .int a1]) ++ List.replicate (2 - (lg_sl ([.int a0, .int a1])).length) Slot.unset).toArray) [] := by rw [hav]; exact lg_entry_eq m _ _
  rw [hE]
  clear hE hav
  generalize (lg_sl ([.int a0, .int a1]) ++ List.replicate (2 - (lg_sl ([.int a0, .int a1])).length) Slot.unset).toArray = ls at hl ⊢
  have hl : lv_has ls 2 [(0, .int a0), (1, .int a1)] := hl
  obtain ⟨Q, hQ⟩ : ∃ Q, Q = MQ below (vp_Si (fun r1 : Int32 => r1 = r_)) args s 0 0 (fun _ => False) := ⟨_, rfl⟩
  rw [← hQ]
  show W p l e (z_rm 0 0) s m args below meth c s.heap [] 0 0 Q (F0 m 0 ls [])
  unfold f_X8_modulo at h
  refine lv_iload_n hx hb dX8_modulo_0 rfl (lv_at hl 0 rfl) ?_
  refine lv_iload_n hx hb dX8_modulo_1 rfl (lv_at hl 1 rfl) ?_
  obtain ⟨c_2, h⟩ := z_chk_some h
  refine lv_irem hx hb dX8_modulo_2 c_2 ?_
  refine lv_iload_n hx hb dX8_modulo_3 rfl (lv_at hl 1 rfl) ?_
  refine lv_iadd hx hb dX8_modulo_4 ?_
  refine lv_iload_n hx hb dX8_modulo_5 rfl (lv_at hl 1 rfl) ?_
  obtain ⟨c_6, h⟩ := z_chk_some h
  refine lv_irem hx hb dX8_modulo_6 c_6 ?_
  cases h
  rw [hQ]
  exact s_reti hc hr hlocks dX8_modulo_7
theorem md_X8_modulo : yX8_modulo.cls ≠ "java/lang/invoke/MethodHandle" ∧ yX8_modulo.cls ≠ "java/lang/invoke/VarHandle" ∧ (parseMethodDescriptor yX8_modulo.desc).map (fun d => d.parameters.length) = some 2 := by decide +kernel
noncomputable def f_X8_fitTaken (M : MS) (a0 : Int32) (a1 : Int32) : Option (Int32 × MS) :=
  z_bd (f_X8_isFit M a0) fun r_1 => if r_1 = 0 then z_bd2 (f_X8_refused M (10 : Int32)) fun r_14 M_13 => some (r_14, M_13) else if a1 = 0 then z_chk (z_in a0 10) (z_bd2 (f_X8_done M (M.1 5 a0.toNatClampNeg)) fun r_3 M_2 => some (r_3, M_2)) else z_chk (z_in a0 10) (if a1 = (M.1 5 a0.toNatClampNeg) then z_chk (z_in a0 10) (z_bd2 (f_X8_done M (M.1 5 a0.toNatClampNeg)) fun r_5 M_4 => some (r_5, M_4)) else if a1 = (1 : Int32) then z_bd (f_X8_isLine M a0) fun r_8 => if r_8 = 0 then z_bd2 (f_X8_refused M (11 : Int32)) fun r_10 M_9 => some (r_10, M_9) else z_chk (z_in a0 10) (z_bd2 (f_X8_done M (M.1 5 a0.toNatClampNeg)) fun r_12 M_11 => some (r_12, M_11)) else z_bd2 (f_X8_refused M (11 : Int32)) fun r_7 M_6 => some (r_7, M_6))
set_option maxHeartbeats 4000000 in
set_option maxRecDepth 100000 in
theorem mt_X8_fitTaken (l : Launch) (D : va_G) (cI cJ : ClassId) (o sz : Nat) (M : MS) (a0 : Int32) (a1 : Int32) {r_ : Int32} {N_ : MS} (h : f_X8_fitTaken M a0 a1 = some (r_, N_)) : Met l yX8_fitTaken (z_wd yX8_fitTaken cX8_fitTaken 3 (some .int)) (z_rm 2 75) (va_Pc [.ref o, .int a0, .int a1] (m_C D cI cJ o sz M)) (va_Qi (fun (r1 : Int32) (M1 : MS) => r1 = r_ ∧ M1 = N_) (m_C D cI cJ o sz) (m_A o)) 0 0 (m_A o) := by
  refine Met.ofW (cc := cX8_fitTaken) (maxL := 3) (ret := (some .int)) (by decide) rfl ?_
  intro p e s m args below meth c s₁ B hml hv
  obtain ⟨hav, hz, hP0, hK⟩ := hv
  have hx := B.exec
  have hb := B.bytes
  have hr := B.returns
  have hts := atoms_spec (ws := z_wd yX8_fitTaken cX8_fitTaken 3 (some .int)) B.pre
  have hown : s.vm.findClass RX8 = some m.cls := findClass_of_methodNamed B.named
  have hlocks := B.notSynchronized
  have hc : m_X p s m args c cX8_fitTaken 3 D cI cJ := ⟨hx, hb, hml, fun w hw => hts w (List.mem_cons_of_mem _ hw), hown, hK⟩
  have hl := lv_entry ([.ref o, .int a0, .int a1]) (n := 3) (Nat.le_of_ble_eq_true rfl)
  have hE : entryFrame m args 3 = F0 m 0 ((lg_sl ([.ref o, .int a0, .int a1]) ++ List.replicate (3 - (lg_sl ([.ref o, .int a0, .int a1])).length) Slot.unset).toArray) [] := by rw [hav]; exact lg_entry_eq m _ _
  rw [hE]
  clear hE hav
  generalize (lg_sl ([.ref o, .int a0, .int a1]) ++ List.replicate (3 - (lg_sl ([.ref o, .int a0, .int a1])).length) Slot.unset).toArray = ls at hl ⊢
  have hl : lv_has ls 3 [(0, .ref o), (1, .int a0), (2, .int a1)] := hl
  obtain ⟨Q, hQ⟩ : ∃ Q, Q = MQ below (va_Qi (fun (r1 : Int32) (M1 : MS) => r1 = r_ ∧ M1 = N_) (m_C D cI cJ o sz) (m_A o)) args s 0 0 (m_A o) := ⟨_, rfl⟩
  rw [← hQ]
  suffices hmain : ∀ (H : Heap) (locs : List Loc), va_P D z_cls (m_W cI cJ o M) H → va_S (m_A o) s.heap H locs → W p l e (z_rm 2 75) s m args below meth c H locs 0 0 Q (F0 m 0 ls []) from hmain s.heap [] hP0 va_S.rf
  clear hP0
  intro H locs hP hS
  unfold f_X8_fitTaken at h
  refine lv_aload_n hx hb dX8_fitTaken_0 rfl (lv_at hl 0 rfl) ?_
  refine lv_iload_n hx hb dX8_fitTaken_1 rfl (lv_at hl 1 rfl) ?_
  obtain ⟨r_1, er_1, h⟩ := z_bd_some h
  refine m_calli (As := [.int a0]) (r := r_1) (M' := M) (n := 1) hc hP hS (mt_X8_isFit l D cI cJ o H.size M a0 er_1) wM_X8_185 wI_X8_isFit wS_X8_isFit wZ_X8 wC_X8_isFit md_X8_isFit ⟨rfl, rfl, Nat.le_of_ble_eq_true rfl, Nat.le_of_ble_eq_true rfl⟩ rfl hl.1 rfl (Nat.le_of_ble_eq_true rfl) dX8_fitTaken_2 ⟨Nat.zero_le _, Nat.zero_le _⟩ (fun H locs hP hS => ?_)
  refine lv_if_ne (tgt := 15) hx hb dX8_fitTaken_5 (by decide) (fun c_5 => ?_) (fun c_5 => ?_)
  · replace h := z_in_ c_5 h
    refine lv_iload_n hx hb dX8_fitTaken_15 rfl (lv_at hl 2 rfl) ?_
    refine lv_if_eq (tgt := 42) hx hb dX8_fitTaken_16 (by decide) (fun c_16 => ?_) (fun c_16 => ?_)
    · replace h := z_ip_ c_16 h
      refine lv_aload_n hx hb dX8_fitTaken_42 rfl (lv_at hl 0 rfl) ?_
      refine lv_aload_n hx hb dX8_fitTaken_43 rfl (lv_at hl 0 rfl) ?_
      refine m_get (k := 5) (v := .ref (o + 5)) hc hP (by decide) wF_X8_22 rfl dX8_fitTaken_44 ?_
      refine lv_iload_n hx hb dX8_fitTaken_47 rfl (lv_at hl 1 rfl) ?_
      obtain ⟨c_48, h⟩ := z_chk_some h
      refine m_iald (k := 5) (j := 5) hc hP (ma_5 ..) c_48 dX8_fitTaken_48 ?_
      obtain ⟨r_3, M_2, er_3, h⟩ := z_bd2_some h
      refine m_calli (As := [.int (M.1 5 a0.toNatClampNeg)]) (r := r_3) (M' := M_2) (n := 1) hc hP hS (mt_X8_done l D cI cJ o H.size M (M.1 5 a0.toNatClampNeg) er_3) wM_X8_130 wI_X8_done wS_X8_done wZ_X8 wC_X8_done md_X8_done ⟨rfl, rfl, Nat.le_of_ble_eq_true rfl, Nat.le_of_ble_eq_true rfl⟩ rfl hl.1 rfl (Nat.le_of_ble_eq_true rfl) dX8_fitTaken_49 ⟨Nat.zero_le _, Nat.zero_le _⟩ (fun H locs hP hS => ?_)
      refine lv_goto (tgt := 61) hx hb dX8_fitTaken_52 (by decide) ?_
      cases h
      rw [hQ]
      exact m_reti hc hr hlocks hP hS hz dX8_fitTaken_61
    · replace h := z_in_ c_16 h
      refine lv_iload_n hx hb dX8_fitTaken_19 rfl (lv_at hl 2 rfl) ?_
      refine lv_aload_n hx hb dX8_fitTaken_20 rfl (lv_at hl 0 rfl) ?_
      refine m_get (k := 5) (v := .ref (o + 5)) hc hP (by decide) wF_X8_22 rfl dX8_fitTaken_21 ?_
      refine lv_iload_n hx hb dX8_fitTaken_24 rfl (lv_at hl 1 rfl) ?_
      obtain ⟨c_25, h⟩ := z_chk_some h
      refine m_iald (k := 5) (j := 5) hc hP (ma_5 ..) c_25 dX8_fitTaken_25 ?_
      refine lv_icmp_eq (tgt := 42) hx hb dX8_fitTaken_26 (by decide) (fun c_26 => ?_) (fun c_26 => ?_)
      · replace h := z_ip_ c_26 h
        refine lv_aload_n hx hb dX8_fitTaken_42 rfl (lv_at hl 0 rfl) ?_
        refine lv_aload_n hx hb dX8_fitTaken_43 rfl (lv_at hl 0 rfl) ?_
        refine m_get (k := 5) (v := .ref (o + 5)) hc hP (by decide) wF_X8_22 rfl dX8_fitTaken_44 ?_
        refine lv_iload_n hx hb dX8_fitTaken_47 rfl (lv_at hl 1 rfl) ?_
        obtain ⟨c_48, h⟩ := z_chk_some h
        refine m_iald (k := 5) (j := 5) hc hP (ma_5 ..) c_48 dX8_fitTaken_48 ?_
        obtain ⟨r_5, M_4, er_5, h⟩ := z_bd2_some h
        refine m_calli (As := [.int (M.1 5 a0.toNatClampNeg)]) (r := r_5) (M' := M_4) (n := 1) hc hP hS (mt_X8_done l D cI cJ o H.size M (M.1 5 a0.toNatClampNeg) er_5) wM_X8_130 wI_X8_done wS_X8_done wZ_X8 wC_X8_done md_X8_done ⟨rfl, rfl, Nat.le_of_ble_eq_true rfl, Nat.le_of_ble_eq_true rfl⟩ rfl hl.1 rfl (Nat.le_of_ble_eq_true rfl) dX8_fitTaken_49 ⟨Nat.zero_le _, Nat.zero_le _⟩ (fun H locs hP hS => ?_)
        refine lv_goto (tgt := 61) hx hb dX8_fitTaken_52 (by decide) ?_
        cases h
        rw [hQ]
        exact m_reti hc hr hlocks hP hS hz dX8_fitTaken_61
      · replace h := z_in_ c_26 h
        refine lv_iload_n hx hb dX8_fitTaken_29 rfl (lv_at hl 2 rfl) ?_
        refine lv_iconst (v := 1) hx hb dX8_fitTaken_30 (by decide) ?_
        refine lv_icmp_ne (tgt := 55) hx hb dX8_fitTaken_31 (by decide) (fun c_31 => ?_) (fun c_31 => ?_)
        · replace h := z_in_ c_31 h
          refine lv_aload_n hx hb dX8_fitTaken_55 rfl (lv_at hl 0 rfl) ?_
          refine lv_bipush (v := 11) hx hb dX8_fitTaken_56 (by decide) ?_
          obtain ⟨r_7, M_6, er_7, h⟩ := z_bd2_some h
          refine m_calli (As := [.int (11 : Int32)]) (r := r_7) (M' := M_6) (n := 1) hc hP hS (mt_X8_refused l D cI cJ o H.size M (11 : Int32) er_7) wM_X8_118 wI_X8_refused wS_X8_refused wZ_X8 wC_X8_refused md_X8_refused ⟨rfl, rfl, Nat.le_of_ble_eq_true rfl, Nat.le_of_ble_eq_true rfl⟩ rfl hl.1 rfl (Nat.le_of_ble_eq_true rfl) dX8_fitTaken_58 ⟨Nat.zero_le _, Nat.zero_le _⟩ (fun H locs hP hS => ?_)
          cases h
          rw [hQ]
          exact m_reti hc hr hlocks hP hS hz dX8_fitTaken_61
        · replace h := z_ip_ c_31 h
          refine lv_aload_n hx hb dX8_fitTaken_34 rfl (lv_at hl 0 rfl) ?_
          refine lv_iload_n hx hb dX8_fitTaken_35 rfl (lv_at hl 1 rfl) ?_
          obtain ⟨r_8, er_8, h⟩ := z_bd_some h
          refine m_calli (As := [.int a0]) (r := r_8) (M' := M) (n := 1) hc hP hS (mt_X8_isLine l D cI cJ o H.size M a0 er_8) wM_X8_267 wI_X8_isLine wS_X8_isLine wZ_X8 wC_X8_isLine md_X8_isLine ⟨rfl, rfl, Nat.le_of_ble_eq_true rfl, Nat.le_of_ble_eq_true rfl⟩ rfl hl.1 rfl (Nat.le_of_ble_eq_true rfl) dX8_fitTaken_36 ⟨Nat.zero_le _, Nat.zero_le _⟩ (fun H locs hP hS => ?_)
          refine lv_if_eq (tgt := 55) hx hb dX8_fitTaken_39 (by decide) (fun c_39 => ?_) (fun c_39 => ?_)
          · replace h := z_ip_ c_39 h
            refine lv_aload_n hx hb dX8_fitTaken_55 rfl (lv_at hl 0 rfl) ?_
            refine lv_bipush (v := 11) hx hb dX8_fitTaken_56 (by decide) ?_
            obtain ⟨r_10, M_9, er_10, h⟩ := z_bd2_some h
            refine m_calli (As := [.int (11 : Int32)]) (r := r_10) (M' := M_9) (n := 1) hc hP hS (mt_X8_refused l D cI cJ o H.size M (11 : Int32) er_10) wM_X8_118 wI_X8_refused wS_X8_refused wZ_X8 wC_X8_refused md_X8_refused ⟨rfl, rfl, Nat.le_of_ble_eq_true rfl, Nat.le_of_ble_eq_true rfl⟩ rfl hl.1 rfl (Nat.le_of_ble_eq_true rfl) dX8_fitTaken_58 ⟨Nat.zero_le _, Nat.zero_le _⟩ (fun H locs hP hS => ?_)
            cases h
            rw [hQ]
            exact m_reti hc hr hlocks hP hS hz dX8_fitTaken_61
          · replace h := z_in_ c_39 h
            refine lv_aload_n hx hb dX8_fitTaken_42 rfl (lv_at hl 0 rfl) ?_
            refine lv_aload_n hx hb dX8_fitTaken_43 rfl (lv_at hl 0 rfl) ?_
            refine m_get (k := 5) (v := .ref (o + 5)) hc hP (by decide) wF_X8_22 rfl dX8_fitTaken_44 ?_
            refine lv_iload_n hx hb dX8_fitTaken_47 rfl (lv_at hl 1 rfl) ?_
            obtain ⟨c_48, h⟩ := z_chk_some h
            refine m_iald (k := 5) (j := 5) hc hP (ma_5 ..) c_48 dX8_fitTaken_48 ?_
            obtain ⟨r_12, M_11, er_12, h⟩ := z_bd2_some h
            refine m_calli (As := [.int (M.1 5 a0.toNatClampNeg)]) (r := r_12) (M' := M_11) (n := 1) hc hP hS (mt_X8_done l D cI cJ o H.size M (M.1 5 a0.toNatClampNeg) er_12) wM_X8_130 wI_X8_done wS_X8_done wZ_X8 wC_X8_done md_X8_done ⟨rfl, rfl, Nat.le_of_ble_eq_true rfl, Nat.le_of_ble_eq_true rfl⟩ rfl hl.1 rfl (Nat.le_of_ble_eq_true rfl) dX8_fitTaken_49 ⟨Nat.zero_le _, Nat.zero_le _⟩ (fun H locs hP hS => ?_)
            refine lv_goto (tgt := 61) hx hb dX8_fitTaken_52 (by decide) ?_
            cases h
            rw [hQ]
            exact m_reti hc hr hlocks hP hS hz dX8_fitTaken_61
  · replace h := z_ip_ c_5 h
    refine lv_aload_n hx hb dX8_fitTaken_8 rfl (lv_at hl 0 rfl) ?_
    refine lv_bipush (v := 10) hx hb dX8_fitTaken_9 (by decide) ?_
    obtain ⟨r_14, M_13, er_14, h⟩ := z_bd2_some h
    refine m_calli (As := [.int (10 : Int32)]) (r := r_14) (M' := M_13) (n := 1) hc hP hS (mt_X8_refused l D cI cJ o H.size M (10 : Int32) er_14) wM_X8_118 wI_X8_refused wS_X8_refused wZ_X8 wC_X8_refused md_X8_refused ⟨rfl, rfl, Nat.le_of_ble_eq_true rfl, Nat.le_of_ble_eq_true rfl⟩ rfl hl.1 rfl (Nat.le_of_ble_eq_true rfl) dX8_fitTaken_11 ⟨Nat.zero_le _, Nat.zero_le _⟩ (fun H locs hP hS => ?_)
    cases h
    rw [hQ]
    exact m_reti hc hr hlocks hP hS hz dX8_fitTaken_14
theorem md_X8_fitTaken : yX8_fitTaken.cls ≠ "java/lang/invoke/MethodHandle" ∧ yX8_fitTaken.cls ≠ "java/lang/invoke/VarHandle" ∧ (parseMethodDescriptor yX8_fitTaken.desc).map (fun d => d.parameters.length) = some 2 := by decide +kernel
noncomputable def f_X8_copied_L5 (M : MS) (a0 : Int32) (a1 : Int32) (x3_1 : Int32) (x4_2 : Int32) : Option ((Int32) ⊕ (Int32 × Int32)) :=
  if a1 < x4_2 then some (.inl (x3_1)) else z_chk (z_in (((40 : Int32) * a0) + x4_2) 160) (some (.inr ((x3_1 + (M.1 17 (((40 : Int32) * a0) + x4_2).toNatClampNeg)), (x4_2 + 1))))
noncomputable def f_X8_copied (M : MS) (a0 : Int32) (a1 : Int32) : Option (Int32) :=
  z_bd (z_lp (fun x => f_X8_copied_L5 M a0 a1 x.1 x.2) ((0 : Int32), (1 : Int32))) fun y3_3 => some y3_3
set_option maxHeartbeats 4000000 in
set_option maxRecDepth 100000 in
theorem mt_X8_copied (l : Launch) (D : va_G) (cI cJ : ClassId) (o sz : Nat) (M : MS) (a0 : Int32) (a1 : Int32) {r_ : Int32} (h : f_X8_copied M a0 a1 = some r_) : Met l yX8_copied (z_wd yX8_copied cX8_copied 5 (some .int)) (z_rm 0 0) (va_Pc [.ref o, .int a0, .int a1] (m_C D cI cJ o sz M)) (va_Qi (fun (r1 : Int32) (M1 : MS) => r1 = r_ ∧ M1 = M) (m_C D cI cJ o sz) (m_A o)) 0 0 (m_A o) := by
  refine Met.ofW (cc := cX8_copied) (maxL := 5) (ret := (some .int)) (by decide) rfl ?_
  intro p e s m args below meth c s₁ B hml hv
  obtain ⟨hav, hz, hP0, hK⟩ := hv
  have hx := B.exec
  have hb := B.bytes
  have hr := B.returns
  have hts := atoms_spec (ws := z_wd yX8_copied cX8_copied 5 (some .int)) B.pre
  have hown : s.vm.findClass RX8 = some m.cls := findClass_of_methodNamed B.named
  have hlocks := B.notSynchronized
  have hc : m_X p s m args c cX8_copied 5 D cI cJ := ⟨hx, hb, hml, fun w hw => hts w (List.mem_cons_of_mem _ hw), hown, hK⟩
  have hl := lv_entry ([.ref o, .int a0, .int a1]) (n := 5) (Nat.le_of_ble_eq_true rfl)
  have hE : entryFrame m args 5 = F0 m 0 ((lg_sl ([.ref o, .int a0, .int a1]) ++ List.replicate (5 - (lg_sl ([.ref o, .int a0, .int a1])).length) Slot.unset).toArray) [] := by rw [hav]; exact lg_entry_eq m _ _
  rw [hE]
  clear hE hav
  generalize (lg_sl ([.ref o, .int a0, .int a1]) ++ List.replicate (5 - (lg_sl ([.ref o, .int a0, .int a1])).length) Slot.unset).toArray = ls at hl ⊢
  have hl : lv_has ls 5 [(0, .ref o), (1, .int a0), (2, .int a1)] := hl
  obtain ⟨Q, hQ⟩ : ∃ Q, Q = MQ below (va_Qi (fun (r1 : Int32) (M1 : MS) => r1 = r_ ∧ M1 = M) (m_C D cI cJ o sz) (m_A o)) args s 0 0 (m_A o) := ⟨_, rfl⟩
  rw [← hQ]
  suffices hmain : ∀ (H : Heap) (locs : List Loc), va_P D z_cls (m_W cI cJ o M) H → va_S (m_A o) s.heap H locs → W p l e (z_rm 0 0) s m args below meth c H locs 0 0 Q (F0 m 0 ls []) from hmain s.heap [] hP0 va_S.rf
  clear hP0
  intro H locs hP hS
  unfold f_X8_copied at h
  refine lv_iconst (v := 0) hx hb dX8_copied_0 (by decide) ?_
  refine lv_istore_n (lv' := [(3, .int (0 : Int32)), (0, .ref o), (1, .int a0), (2, .int a1)]) hx hb dX8_copied_1 rfl hl (by decide) rfl (fun ls hl => ?_)
  refine lv_iconst (v := 1) hx hb dX8_copied_2 (by decide) ?_
  refine lv_istore (lv' := [(4, .int (1 : Int32)), (3, .int (0 : Int32)), (0, .ref o), (1, .int a0), (2, .int a1)]) hx hb dX8_copied_3 hl (by decide) rfl (fun ls hl => ?_)
  obtain ⟨y3_3, hlp, h⟩ := z_bd_some h
  refine z_lp_ind (P := fun x => ∀ (H : Heap) (locs : List Loc) (ls : Array Slot), va_P D z_cls (m_W cI cJ o M) H → va_S (m_A o) s.heap H locs → lv_has ls 5 [(0, .ref o), (1, .int a0), (2, .int a1), (3, .int x.1), (4, .int x.2)] → W p l e (z_rm 0 0) s m args below meth c H locs 0 0 Q (F0 m 5 ls [])) (Qe := fun y => ∀ (H : Heap) (locs : List Loc) (ls : Array Slot), va_P D z_cls (m_W cI cJ o M) H → va_S (m_A o) s.heap H locs → lv_has ls 5 [(3, .int y)] → W p l e (z_rm 0 0) s m args below meth c H locs 0 0 Q (F0 m 32 ls [])) ?_ hlp ?_ H locs ls hP hS (lv_sub hl [2, 3, 4, 1, 0] rfl)
  · clear h hlp hP hS hl
    rintro ⟨x3_1, x4_2⟩ oo h K_5 H locs ls hP hS hl
    have hP : va_P D z_cls (m_W cI cJ o M) H := hP
    have hl : lv_has ls 5 [(0, .ref o), (1, .int a0), (2, .int a1), (3, .int x3_1), (4, .int x4_2)] := hl
    have h : f_X8_copied_L5 M a0 a1 x3_1 x4_2 = some oo := h
    unfold f_X8_copied_L5 at h
    refine lv_iload hx hb dX8_copied_5 (lv_at hl 4 rfl) ?_
    refine lv_iload_n hx hb dX8_copied_7 rfl (lv_at hl 2 rfl) ?_
    refine lv_icmp_gt (tgt := 32) hx hb dX8_copied_8 (by decide) (fun c_8 => ?_) (fun c_8 => ?_)
    · replace h := z_ip_ c_8 h
      cases h
      exact K_5 H locs ls hP hS (lv_sub hl [3] rfl)
    · replace h := z_in_ c_8 h
      refine lv_iload_n hx hb dX8_copied_11 rfl (lv_at hl 3 rfl) ?_
      refine lv_aload_n hx hb dX8_copied_12 rfl (lv_at hl 0 rfl) ?_
      refine m_get (k := 17) (v := .ref (o + 17)) hc hP (by decide) wF_X8_59 rfl dX8_copied_13 ?_
      refine lv_bipush (v := 40) hx hb dX8_copied_16 (by decide) ?_
      refine lv_iload_n hx hb dX8_copied_18 rfl (lv_at hl 1 rfl) ?_
      refine lv_imul hx hb dX8_copied_19 ?_
      refine lv_iload hx hb dX8_copied_20 (lv_at hl 4 rfl) ?_
      refine lv_iadd hx hb dX8_copied_22 ?_
      obtain ⟨c_23, h⟩ := z_chk_some h
      refine m_iald (k := 17) (j := 17) hc hP (ma_17 ..) c_23 dX8_copied_23 ?_
      refine lv_iadd hx hb dX8_copied_24 ?_
      refine lv_istore_n (lv' := [(3, .int (x3_1 + (M.1 17 (((40 : Int32) * a0) + x4_2).toNatClampNeg))), (0, .ref o), (1, .int a0), (2, .int a1), (4, .int x4_2)]) hx hb dX8_copied_25 rfl hl (by decide) rfl (fun ls hl => ?_)
      refine lv_iinc (v := (x4_2 + 1)) (lv' := [(4, .int (x4_2 + 1)), (3, .int (x3_1 + (M.1 17 (((40 : Int32) * a0) + x4_2).toNatClampNeg))), (0, .ref o), (1, .int a0), (2, .int a1)]) hx hb dX8_copied_26 hl (k := 4) rfl rfl (by decide) rfl (fun ls hl => ?_)
      refine lv_goto (tgt := 5) hx hb dX8_copied_29 (by decide) ?_
      cases h
      exact K_5 H locs ls hP hS (lv_sub hl [2, 3, 4, 1, 0] rfl)
  · clear hlp hP hS hl
    intro H locs ls hP hS hl
    have hP : va_P D z_cls (m_W cI cJ o M) H := hP
    have hl : lv_has ls 5 [(3, .int y3_3)] := hl
    refine lv_iload_n hx hb dX8_copied_32 rfl (lv_at hl 0 rfl) ?_
    cases h
    rw [hQ]
    exact m_reti hc hr hlocks hP hS hz dX8_copied_33
theorem md_X8_copied : yX8_copied.cls ≠ "java/lang/invoke/MethodHandle" ∧ yX8_copied.cls ≠ "java/lang/invoke/VarHandle" ∧ (parseMethodDescriptor yX8_copied.desc).map (fun d => d.parameters.length) = some 2 := by decide +kernel
