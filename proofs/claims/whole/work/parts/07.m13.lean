noncomputable def f_X8_pointTold (M : MS) (a0 : Int32) (a1 : Int32) (a2 : Int32) : Option (Int64) :=
  z_bd (f_X8_in a0 (0 : Int32) (5 : Int32)) fun r_1 => if r_1 = 0 then some (-1000000000000 : Int64) else z_chk (z_in a0 6) (z_bd (f_X8_in a1 (0 : Int32) ((M.1 0 a0.toNatClampNeg) - (1 : Int32))) fun r_2 => if r_2 = 0 then some (-1000000000000 : Int64) else z_bd (f_X8_in a2 (0 : Int32) (2 : Int32)) fun r_3 => if r_3 = 0 then some (-1000000000000 : Int64) else if a2 = 0 then z_chk (z_in (((12 : Int32) * a0) + a1) 72) (some (M.1 1 (((12 : Int32) * a0) + a1).toNatClampNeg).toInt64) else if a2 = (1 : Int32) then z_chk (z_in (((12 : Int32) * a0) + a1) 72) (some (M.1 2 (((12 : Int32) * a0) + a1).toNatClampNeg).toInt64) else z_chk (z_in (((12 : Int32) * a0) + a1) 72) (some (M.1 3 (((12 : Int32) * a0) + a1).toNatClampNeg).toInt64))
set_option maxHeartbeats 4000000 in
set_option maxRecDepth 100000 in
theorem mt_X8_pointTold (l : Launch) (D : va_G) (cI cJ : ClassId) (o sz : Nat) (M : MS) (a0 : Int32) (a1 : Int32) (a2 : Int32) {r_ : Int64} (h : f_X8_pointTold M a0 a1 a2 = some r_) : Met l yX8_pointTold (z_wd yX8_pointTold cX8_pointTold 5 (some .long)) (z_rm 1 38) (va_Pc [.ref o, .int a0, .int a1, .int a2] (m_C D cI cJ o sz M)) (va_Ql (fun (r1 : Int64) (M1 : MS) => r1 = r_ ∧ M1 = M) (m_C D cI cJ o sz) (m_A o)) 0 0 (m_A o) := by
  refine Met.ofW (cc := cX8_pointTold) (maxL := 5) (ret := (some .long)) (by decide) rfl ?_
  intro p e s m args below meth c s₁ B hml hv
  obtain ⟨hav, hz, hP0, hK⟩ := hv
  have hx := B.exec
  have hb := B.bytes
  have hr := B.returns
  have hts := atoms_spec (ws := z_wd yX8_pointTold cX8_pointTold 5 (some .long)) B.pre
  have hown : s.vm.findClass RX8 = some m.cls := findClass_of_methodNamed B.named
  have hlocks := B.notSynchronized
  have hc : m_X p s m args c cX8_pointTold 5 D cI cJ := ⟨hx, hb, hml, fun w hw => hts w (List.mem_cons_of_mem _ hw), hown, hK⟩
  have hl := lv_entry ([.ref o, .int a0, .int a1, .int a2]) (n := 5) (Nat.le_of_ble_eq_true rfl)
  have hE : entryFrame m args 5 = F0 m 0 ((lg_sl ([.ref o, .int a0, .int a1, .int a2]) ++ List.replicate (5 - (lg_sl ([.ref o, .int a0, .int a1, .int a2])).length) Slot.unset).toArray) [] := by rw [hav]; exact lg_entry_eq m _ _
  rw [hE]
  clear hE hav
  generalize (lg_sl ([.ref o, .int a0, .int a1, .int a2]) ++ List.replicate (5 - (lg_sl ([.ref o, .int a0, .int a1, .int a2])).length) Slot.unset).toArray = ls at hl ⊢
  have hl : lv_has ls 5 [(0, .ref o), (1, .int a0), (2, .int a1), (3, .int a2)] := hl
  obtain ⟨Q, hQ⟩ : ∃ Q, Q = MQ below (va_Ql (fun (r1 : Int64) (M1 : MS) => r1 = r_ ∧ M1 = M) (m_C D cI cJ o sz) (m_A o)) args s 0 0 (m_A o) := ⟨_, rfl⟩
  rw [← hQ]
  suffices hmain : ∀ (H : Heap) (locs : List Loc), va_P D z_cls (m_W cI cJ o M) H → va_S (m_A o) s.heap H locs → W p l e (z_rm 1 38) s m args below meth c H locs 0 0 Q (F0 m 0 ls []) from hmain s.heap [] hP0 va_S.rf
  clear hP0
  intro H locs hP hS
  unfold f_X8_pointTold at h
  refine lv_iload_n hx hb dX8_pointTold_0 rfl (lv_at hl 1 rfl) ?_
  refine lv_iconst (v := 0) hx hb dX8_pointTold_1 (by decide) ?_
  refine lv_iconst (v := 5) hx hb dX8_pointTold_2 (by decide) ?_
  obtain ⟨r_1, er_1, h⟩ := z_bd_some h
  refine s_calli (As := [.int a0, .int (0 : Int32), .int (5 : Int32)]) (r := r_1) (n := 3) hc.s (mt_X8_in l a0 (0 : Int32) (5 : Int32) er_1) wM_X8_100 wT_X8_in wZ_X8 wC_X8_in md_X8_in ⟨rfl, rfl, Nat.le_of_ble_eq_true rfl, Nat.le_of_ble_eq_true rfl⟩ rfl hl.1 rfl (Nat.le_of_ble_eq_true rfl) dX8_pointTold_3 ⟨Nat.zero_le _, Nat.zero_le _⟩ ?_
  refine lv_if_eq (tgt := 34) hx hb dX8_pointTold_6 (by decide) (fun c_6 => ?_) (fun c_6 => ?_)
  · replace h := z_ip_ c_6 h
    refine lv_ldc2 (v := -1000000000000) hx hb hc.s.2.2.2.2 (hc.s.2.2.2.1 _ wL_X8_220) dX8_pointTold_34 ?_
    cases h
    rw [hQ]
    exact m_retl hc hr hlocks hP hS hz dX8_pointTold_37
  · replace h := z_in_ c_6 h
    refine lv_iload_n hx hb dX8_pointTold_9 rfl (lv_at hl 2 rfl) ?_
    refine lv_iconst (v := 0) hx hb dX8_pointTold_10 (by decide) ?_
    refine lv_aload_n hx hb dX8_pointTold_11 rfl (lv_at hl 0 rfl) ?_
    refine m_get (k := 0) (v := .ref (o + 1)) hc hP (by decide) wF_X8_7 rfl dX8_pointTold_12 ?_
    refine lv_iload_n hx hb dX8_pointTold_15 rfl (lv_at hl 1 rfl) ?_
    obtain ⟨c_16, h⟩ := z_chk_some h
    refine m_iald (k := 0) (j := 1) hc hP (ma_0 ..) c_16 dX8_pointTold_16 ?_
    refine lv_iconst (v := 1) hx hb dX8_pointTold_17 (by decide) ?_
    refine lv_isub hx hb dX8_pointTold_18 ?_
    obtain ⟨r_2, er_2, h⟩ := z_bd_some h
    refine s_calli (As := [.int a1, .int (0 : Int32), .int ((M.1 0 a0.toNatClampNeg) - (1 : Int32))]) (r := r_2) (n := 3) hc.s (mt_X8_in l a1 (0 : Int32) ((M.1 0 a0.toNatClampNeg) - (1 : Int32)) er_2) wM_X8_100 wT_X8_in wZ_X8 wC_X8_in md_X8_in ⟨rfl, rfl, Nat.le_of_ble_eq_true rfl, Nat.le_of_ble_eq_true rfl⟩ rfl hl.1 rfl (Nat.le_of_ble_eq_true rfl) dX8_pointTold_19 ⟨Nat.zero_le _, Nat.zero_le _⟩ ?_
    refine lv_if_eq (tgt := 34) hx hb dX8_pointTold_22 (by decide) (fun c_22 => ?_) (fun c_22 => ?_)
    · replace h := z_ip_ c_22 h
      refine lv_ldc2 (v := -1000000000000) hx hb hc.s.2.2.2.2 (hc.s.2.2.2.1 _ wL_X8_220) dX8_pointTold_34 ?_
      cases h
      rw [hQ]
      exact m_retl hc hr hlocks hP hS hz dX8_pointTold_37
    · replace h := z_in_ c_22 h
      refine lv_iload_n hx hb dX8_pointTold_25 rfl (lv_at hl 3 rfl) ?_
      refine lv_iconst (v := 0) hx hb dX8_pointTold_26 (by decide) ?_
      refine lv_iconst (v := 2) hx hb dX8_pointTold_27 (by decide) ?_
      obtain ⟨r_3, er_3, h⟩ := z_bd_some h
      refine s_calli (As := [.int a2, .int (0 : Int32), .int (2 : Int32)]) (r := r_3) (n := 3) hc.s (mt_X8_in l a2 (0 : Int32) (2 : Int32) er_3) wM_X8_100 wT_X8_in wZ_X8 wC_X8_in md_X8_in ⟨rfl, rfl, Nat.le_of_ble_eq_true rfl, Nat.le_of_ble_eq_true rfl⟩ rfl hl.1 rfl (Nat.le_of_ble_eq_true rfl) dX8_pointTold_28 ⟨Nat.zero_le _, Nat.zero_le _⟩ ?_
      refine lv_if_ne (tgt := 38) hx hb dX8_pointTold_31 (by decide) (fun c_31 => ?_) (fun c_31 => ?_)
      · replace h := z_in_ c_31 h
        refine lv_bipush (v := 12) hx hb dX8_pointTold_38 (by decide) ?_
        refine lv_iload_n hx hb dX8_pointTold_40 rfl (lv_at hl 1 rfl) ?_
        refine lv_imul hx hb dX8_pointTold_41 ?_
        refine lv_iload_n hx hb dX8_pointTold_42 rfl (lv_at hl 2 rfl) ?_
        refine lv_iadd hx hb dX8_pointTold_43 ?_
        refine lv_istore (lv' := [(4, .int (((12 : Int32) * a0) + a1)), (0, .ref o), (1, .int a0), (2, .int a1), (3, .int a2)]) hx hb dX8_pointTold_44 hl (by decide) rfl (fun ls hl => ?_)
        refine lv_iload_n hx hb dX8_pointTold_46 rfl (lv_at hl 4 rfl) ?_
        refine lv_if_ne (tgt := 61) hx hb dX8_pointTold_47 (by decide) (fun c_47 => ?_) (fun c_47 => ?_)
        · replace h := z_in_ c_47 h
          refine lv_iload_n hx hb dX8_pointTold_61 rfl (lv_at hl 4 rfl) ?_
          refine lv_iconst (v := 1) hx hb dX8_pointTold_62 (by decide) ?_
          refine lv_icmp_ne (tgt := 77) hx hb dX8_pointTold_63 (by decide) (fun c_63 => ?_) (fun c_63 => ?_)
          · replace h := z_in_ c_63 h
            refine lv_aload_n hx hb dX8_pointTold_77 rfl (lv_at hl 1 rfl) ?_
            refine m_get (k := 3) (v := .ref (o + 4)) hc hP (by decide) wF_X8_19 rfl dX8_pointTold_78 ?_
            refine lv_iload hx hb dX8_pointTold_81 (lv_at hl 0 rfl) ?_
            obtain ⟨c_83, h⟩ := z_chk_some h
            refine m_iald (k := 3) (j := 4) hc hP (ma_3 ..) c_83 dX8_pointTold_83 ?_
            refine lv_i2l (v := (M.1 3 (((12 : Int32) * a0) + a1).toNatClampNeg).toInt64) hx hb dX8_pointTold_84 rfl ?_
            cases h
            rw [hQ]
            exact m_retl hc hr hlocks hP hS hz dX8_pointTold_85
          · replace h := z_ip_ c_63 h
            refine lv_aload_n hx hb dX8_pointTold_66 rfl (lv_at hl 1 rfl) ?_
            refine m_get (k := 2) (v := .ref (o + 3)) hc hP (by decide) wF_X8_16 rfl dX8_pointTold_67 ?_
            refine lv_iload hx hb dX8_pointTold_70 (lv_at hl 0 rfl) ?_
            obtain ⟨c_72, h⟩ := z_chk_some h
            refine m_iald (k := 2) (j := 3) hc hP (ma_2 ..) c_72 dX8_pointTold_72 ?_
            refine lv_i2l (v := (M.1 2 (((12 : Int32) * a0) + a1).toNatClampNeg).toInt64) hx hb dX8_pointTold_73 rfl ?_
            refine lv_goto (tgt := 85) hx hb dX8_pointTold_74 (by decide) ?_
            cases h
            rw [hQ]
            exact m_retl hc hr hlocks hP hS hz dX8_pointTold_85
        · replace h := z_ip_ c_47 h
          refine lv_aload_n hx hb dX8_pointTold_50 rfl (lv_at hl 1 rfl) ?_
          refine m_get (k := 1) (v := .ref (o + 2)) hc hP (by decide) wF_X8_13 rfl dX8_pointTold_51 ?_
          refine lv_iload hx hb dX8_pointTold_54 (lv_at hl 0 rfl) ?_
          obtain ⟨c_56, h⟩ := z_chk_some h
          refine m_iald (k := 1) (j := 2) hc hP (ma_1 ..) c_56 dX8_pointTold_56 ?_
          refine lv_i2l (v := (M.1 1 (((12 : Int32) * a0) + a1).toNatClampNeg).toInt64) hx hb dX8_pointTold_57 rfl ?_
          refine lv_goto (tgt := 85) hx hb dX8_pointTold_58 (by decide) ?_
          cases h
          rw [hQ]
          exact m_retl hc hr hlocks hP hS hz dX8_pointTold_85
      · replace h := z_ip_ c_31 h
        refine lv_ldc2 (v := -1000000000000) hx hb hc.s.2.2.2.2 (hc.s.2.2.2.1 _ wL_X8_220) dX8_pointTold_34 ?_
        cases h
        rw [hQ]
        exact m_retl hc hr hlocks hP hS hz dX8_pointTold_37
theorem md_X8_pointTold : yX8_pointTold.cls ≠ "java/lang/invoke/MethodHandle" ∧ yX8_pointTold.cls ≠ "java/lang/invoke/VarHandle" ∧ (parseMethodDescriptor yX8_pointTold.desc).map (fun d => d.parameters.length) = some 3 := by decide +kernel
noncomputable def f_X8_count (M : MS) (a0 : Int32) : Option (Int32) :=
  if a0 = 0 then some (M.1 4 0) else if a0 = (1 : Int32) then some (M.1 20 0) else z_bd (f_X8_in a0 (2 : Int32) (7 : Int32)) fun r_1 => if r_1 = 0 then some (-1 : Int32) else z_chk (z_in (a0 - (2 : Int32)) 6) (some (M.1 0 (a0 - (2 : Int32)).toNatClampNeg))
set_option maxHeartbeats 4000000 in
set_option maxRecDepth 100000 in
theorem mt_X8_count (l : Launch) (D : va_G) (cI cJ : ClassId) (o sz : Nat) (M : MS) (a0 : Int32) {r_ : Int32} (h : f_X8_count M a0 = some r_) : Met l yX8_count (z_wd yX8_count cX8_count 2 (some .int)) (z_rm 1 38) (va_Pc [.ref o, .int a0] (m_C D cI cJ o sz M)) (va_Qi (fun (r1 : Int32) (M1 : MS) => r1 = r_ ∧ M1 = M) (m_C D cI cJ o sz) (m_A o)) 0 0 (m_A o) := by
  refine Met.ofW (cc := cX8_count) (maxL := 2) (ret := (some .int)) (by decide) rfl ?_
  intro p e s m args below meth c s₁ B hml hv
  obtain ⟨hav, hz, hP0, hK⟩ := hv
  have hx := B.exec
  have hb := B.bytes
  have hr := B.returns
  have hts := atoms_spec (ws := z_wd yX8_count cX8_count 2 (some .int)) B.pre
  have hown : s.vm.findClass RX8 = some m.cls := findClass_of_methodNamed B.named
  have hlocks := B.notSynchronized
  have hc : m_X p s m args c cX8_count 2 D cI cJ := ⟨hx, hb, hml, fun w hw => hts w (List.mem_cons_of_mem _ hw), hown, hK⟩
  have hl := lv_entry ([.ref o, .int a0]) (n := 2) (Nat.le_of_ble_eq_true rfl)
  have hE : entryFrame m args 2 = F0 m 0 ((lg_sl ([.ref o, .int a0]) ++ List.replicate (2 - (lg_sl ([.ref o, .int a0])).length) Slot.unset).toArray) [] := by rw [hav]; exact lg_entry_eq m _ _
  rw [hE]
  clear hE hav
  generalize (lg_sl ([.ref o, .int a0]) ++ List.replicate (2 - (lg_sl ([.ref o, .int a0])).length) Slot.unset).toArray = ls at hl ⊢
  have hl : lv_has ls 2 [(0, .ref o), (1, .int a0)] := hl
  obtain ⟨Q, hQ⟩ : ∃ Q, Q = MQ below (va_Qi (fun (r1 : Int32) (M1 : MS) => r1 = r_ ∧ M1 = M) (m_C D cI cJ o sz) (m_A o)) args s 0 0 (m_A o) := ⟨_, rfl⟩
  rw [← hQ]
  suffices hmain : ∀ (H : Heap) (locs : List Loc), va_P D z_cls (m_W cI cJ o M) H → va_S (m_A o) s.heap H locs → W p l e (z_rm 1 38) s m args below meth c H locs 0 0 Q (F0 m 0 ls []) from hmain s.heap [] hP0 va_S.rf
  clear hP0
  intro H locs hP hS
  unfold f_X8_count at h
  refine lv_iload_n hx hb dX8_count_0 rfl (lv_at hl 1 rfl) ?_
  refine lv_if_ne (tgt := 11) hx hb dX8_count_1 (by decide) (fun c_1 => ?_) (fun c_1 => ?_)
  · replace h := z_in_ c_1 h
    refine lv_iload_n hx hb dX8_count_11 rfl (lv_at hl 1 rfl) ?_
    refine lv_iconst (v := 1) hx hb dX8_count_12 (by decide) ?_
    refine lv_icmp_ne (tgt := 23) hx hb dX8_count_13 (by decide) (fun c_13 => ?_) (fun c_13 => ?_)
    · replace h := z_in_ c_13 h
      refine lv_iload_n hx hb dX8_count_23 rfl (lv_at hl 1 rfl) ?_
      refine lv_iconst (v := 2) hx hb dX8_count_24 (by decide) ?_
      refine lv_bipush (v := 7) hx hb dX8_count_25 (by decide) ?_
      obtain ⟨r_1, er_1, h⟩ := z_bd_some h
      refine s_calli (As := [.int a0, .int (2 : Int32), .int (7 : Int32)]) (r := r_1) (n := 3) hc.s (mt_X8_in l a0 (2 : Int32) (7 : Int32) er_1) wM_X8_100 wT_X8_in wZ_X8 wC_X8_in md_X8_in ⟨rfl, rfl, Nat.le_of_ble_eq_true rfl, Nat.le_of_ble_eq_true rfl⟩ rfl hl.1 rfl (Nat.le_of_ble_eq_true rfl) dX8_count_27 ⟨Nat.zero_le _, Nat.zero_le _⟩ ?_
      refine lv_if_eq (tgt := 44) hx hb dX8_count_30 (by decide) (fun c_30 => ?_) (fun c_30 => ?_)
      · replace h := z_ip_ c_30 h
        refine lv_iconst (v := -1) hx hb dX8_count_44 (by decide) ?_
        cases h
        rw [hQ]
        exact m_reti hc hr hlocks hP hS hz dX8_count_45
      · replace h := z_in_ c_30 h
        refine lv_aload_n hx hb dX8_count_33 rfl (lv_at hl 0 rfl) ?_
        refine m_get (k := 0) (v := .ref (o + 1)) hc hP (by decide) wF_X8_7 rfl dX8_count_34 ?_
        refine lv_iload_n hx hb dX8_count_37 rfl (lv_at hl 1 rfl) ?_
        refine lv_iconst (v := 2) hx hb dX8_count_38 (by decide) ?_
        refine lv_isub hx hb dX8_count_39 ?_
        obtain ⟨c_40, h⟩ := z_chk_some h
        refine m_iald (k := 0) (j := 1) hc hP (ma_0 ..) c_40 dX8_count_40 ?_
        refine lv_goto (tgt := 45) hx hb dX8_count_41 (by decide) ?_
        cases h
        rw [hQ]
        exact m_reti hc hr hlocks hP hS hz dX8_count_45
    · replace h := z_ip_ c_13 h
      refine lv_aload_n hx hb dX8_count_16 rfl (lv_at hl 0 rfl) ?_
      refine m_get (k := 20) (v := .int (M.1 20 0)) hc hP (by decide) wF_X8_222 rfl dX8_count_17 ?_
      refine lv_goto (tgt := 45) hx hb dX8_count_20 (by decide) ?_
      cases h
      rw [hQ]
      exact m_reti hc hr hlocks hP hS hz dX8_count_45
  · replace h := z_ip_ c_1 h
    refine lv_aload_n hx hb dX8_count_4 rfl (lv_at hl 0 rfl) ?_
    refine m_get (k := 4) (v := .int (M.1 4 0)) hc hP (by decide) wF_X8_97 rfl dX8_count_5 ?_
    refine lv_goto (tgt := 45) hx hb dX8_count_8 (by decide) ?_
    cases h
    rw [hQ]
    exact m_reti hc hr hlocks hP hS hz dX8_count_45
theorem md_X8_count : yX8_count.cls ≠ "java/lang/invoke/MethodHandle" ∧ yX8_count.cls ≠ "java/lang/invoke/VarHandle" ∧ (parseMethodDescriptor yX8_count.desc).map (fun d => d.parameters.length) = some 1 := by decide +kernel
noncomputable def f_X8_valueOf (M : MS) (a0 : Int64) (a1 : Int64) (a2 : Int64) (a3 : Int64) (a4 : Int64) (a5 : Int64) (a6 : Int32) : Option (MS) :=
  z_bd (f_X8_times M a4 a5 a6.toInt64 (1 : Int64)) fun M_1 => z_bd (f_X8_plus M_1 (M_1.2 21 0) (M_1.2 22 0) a2 a3) fun M_2 => z_bd (f_X8_times M_2 (M_2.2 21 0) (M_2.2 22 0) a6.toInt64 (1 : Int64)) fun M_3 => z_bd (f_X8_plus M_3 (M_3.2 21 0) (M_3.2 22 0) a0 a1) fun M_4 => some M_4
set_option maxHeartbeats 4000000 in
set_option maxRecDepth 100000 in
theorem mt_X8_valueOf (l : Launch) (D : va_G) (cI cJ : ClassId) (o sz : Nat) (M : MS) (a0 : Int64) (a1 : Int64) (a2 : Int64) (a3 : Int64) (a4 : Int64) (a5 : Int64) (a6 : Int32) {N_ : MS} (h : f_X8_valueOf M a0 a1 a2 a3 a4 a5 a6 = some N_) : Met l yX8_valueOf (z_wd yX8_valueOf cX8_valueOf 14 none) (z_rm 3 135) (va_Pc [.ref o, .long a0, .long a1, .long a2, .long a3, .long a4, .long a5, .int a6] (m_C D cI cJ o sz M)) (va_Qv (fun (M1 : MS) => M1 = N_) (m_C D cI cJ o sz) (m_A o)) 0 0 (m_A o) := by
  refine Met.ofW (cc := cX8_valueOf) (maxL := 14) (ret := none) (by decide) rfl ?_
  intro p e s m args below meth c s₁ B hml hv
  obtain ⟨hav, hz, hP0, hK⟩ := hv
  have hx := B.exec
  have hb := B.bytes
  have hr := B.returns
  have hts := atoms_spec (ws := z_wd yX8_valueOf cX8_valueOf 14 none) B.pre
  have hown : s.vm.findClass RX8 = some m.cls := findClass_of_methodNamed B.named
  have hlocks := B.notSynchronized
  have hc : m_X p s m args c cX8_valueOf 14 D cI cJ := ⟨hx, hb, hml, fun w hw => hts w (List.mem_cons_of_mem _ hw), hown, hK⟩
  have hl := lv_entry ([.ref o, .long a0, .long a1, .long a2, .long a3, .long a4, .long a5, .int a6]) (n := 14) (Nat.le_of_ble_eq_true rfl)
  have hE : entryFrame m args 14 = F0 m 0 ((lg_sl ([.ref o, .long a0, .long a1, .long a2, .long a3, .long a4, .long a5, .int a6]) ++ List.replicate (14 - (lg_sl ([.ref o, .long a0, .long a1, .long a2, .long a3, .long a4, .long a5, .int a6])).length) Slot.unset).toArray) [] := by rw [hav]; exact lg_entry_eq m _ _
  rw [hE]
  clear hE hav
  generalize (lg_sl ([.ref o, .long a0, .long a1, .long a2, .long a3, .long a4, .long a5, .int a6]) ++ List.replicate (14 - (lg_sl ([.ref o, .long a0, .long a1, .long a2, .long a3, .long a4, .long a5, .int a6])).length) Slot.unset).toArray = ls at hl ⊢
  have hl : lv_has ls 14 [(0, .ref o), (1, .long a0), (3, .long a1), (5, .long a2), (7, .long a3), (9, .long a4), (11, .long a5), (13, .int a6)] := hl
  obtain ⟨Q, hQ⟩ : ∃ Q, Q = MQ below (va_Qv (fun (M1 : MS) => M1 = N_) (m_C D cI cJ o sz) (m_A o)) args s 0 0 (m_A o) := ⟨_, rfl⟩
  rw [← hQ]
  suffices hmain : ∀ (H : Heap) (locs : List Loc), va_P D z_cls (m_W cI cJ o M) H → va_S (m_A o) s.heap H locs → W p l e (z_rm 3 135) s m args below meth c H locs 0 0 Q (F0 m 0 ls []) from hmain s.heap [] hP0 va_S.rf
  clear hP0
  intro H locs hP hS
  unfold f_X8_valueOf at h
  refine lv_aload_n hx hb dX8_valueOf_0 rfl (lv_at hl 0 rfl) ?_
  refine lv_lload hx hb dX8_valueOf_1 (lv_at hl 5 rfl) ?_
  refine lv_lload hx hb dX8_valueOf_3 (lv_at hl 6 rfl) ?_
  refine lv_iload hx hb dX8_valueOf_5 (lv_at hl 7 rfl) ?_
  refine lv_i2l (v := a6.toInt64) hx hb dX8_valueOf_7 rfl ?_
  refine lv_lconst (v := 1) hx hb dX8_valueOf_8 (by decide) ?_
  obtain ⟨M_1, eM_1, h⟩ := z_bd_some h
  refine m_callv (As := [.long a4, .long a5, .long a6.toInt64, .long (1 : Int64)]) (M' := M_1) (n := 4) hc hP hS (mt_X8_times l D cI cJ o H.size M a4 a5 a6.toInt64 (1 : Int64) eM_1) wM_X8_168 wI_X8_times wS_X8_times wZ_X8 wC_X8_times md_X8_times ⟨rfl, rfl, Nat.le_of_ble_eq_true rfl, Nat.le_of_ble_eq_true rfl⟩ rfl hl.1 rfl (Nat.le_of_ble_eq_true rfl) dX8_valueOf_9 ⟨Nat.zero_le _, Nat.zero_le _⟩ (fun H locs hP hS => ?_)
  refine lv_aload_n hx hb dX8_valueOf_12 rfl (lv_at hl 0 rfl) ?_
  refine lv_aload_n hx hb dX8_valueOf_13 rfl (lv_at hl 0 rfl) ?_
  refine m_get (k := 21) (v := .long (M_1.2 21 0)) hc hP (by decide) wF_X8_108 rfl dX8_valueOf_14 ?_
  refine lv_aload_n hx hb dX8_valueOf_17 rfl (lv_at hl 0 rfl) ?_
  refine m_get (k := 22) (v := .long (M_1.2 22 0)) hc hP (by decide) wF_X8_65 rfl dX8_valueOf_18 ?_
  refine lv_lload hx hb dX8_valueOf_21 (lv_at hl 3 rfl) ?_
  refine lv_lload hx hb dX8_valueOf_23 (lv_at hl 4 rfl) ?_
  obtain ⟨M_2, eM_2, h⟩ := z_bd_some h
  refine m_callv (As := [.long (M_1.2 21 0), .long (M_1.2 22 0), .long a2, .long a3]) (M' := M_2) (n := 4) hc hP hS (mt_X8_plus l D cI cJ o H.size M_1 (M_1.2 21 0) (M_1.2 22 0) a2 a3 eM_2) wM_X8_164 wI_X8_plus wS_X8_plus wZ_X8 wC_X8_plus md_X8_plus ⟨rfl, rfl, Nat.le_of_ble_eq_true rfl, Nat.le_of_ble_eq_true rfl⟩ rfl hl.1 rfl (Nat.le_of_ble_eq_true rfl) dX8_valueOf_25 ⟨Nat.zero_le _, Nat.zero_le _⟩ (fun H locs hP hS => ?_)
  refine lv_aload_n hx hb dX8_valueOf_28 rfl (lv_at hl 0 rfl) ?_
  refine lv_aload_n hx hb dX8_valueOf_29 rfl (lv_at hl 0 rfl) ?_
  refine m_get (k := 21) (v := .long (M_2.2 21 0)) hc hP (by decide) wF_X8_108 rfl dX8_valueOf_30 ?_
  refine lv_aload_n hx hb dX8_valueOf_33 rfl (lv_at hl 0 rfl) ?_
  refine m_get (k := 22) (v := .long (M_2.2 22 0)) hc hP (by decide) wF_X8_65 rfl dX8_valueOf_34 ?_
  refine lv_iload hx hb dX8_valueOf_37 (lv_at hl 7 rfl) ?_
  refine lv_i2l (v := a6.toInt64) hx hb dX8_valueOf_39 rfl ?_
  refine lv_lconst (v := 1) hx hb dX8_valueOf_40 (by decide) ?_
  obtain ⟨M_3, eM_3, h⟩ := z_bd_some h
  refine m_callv (As := [.long (M_2.2 21 0), .long (M_2.2 22 0), .long a6.toInt64, .long (1 : Int64)]) (M' := M_3) (n := 4) hc hP hS (mt_X8_times l D cI cJ o H.size M_2 (M_2.2 21 0) (M_2.2 22 0) a6.toInt64 (1 : Int64) eM_3) wM_X8_168 wI_X8_times wS_X8_times wZ_X8 wC_X8_times md_X8_times ⟨rfl, rfl, Nat.le_of_ble_eq_true rfl, Nat.le_of_ble_eq_true rfl⟩ rfl hl.1 rfl (Nat.le_of_ble_eq_true rfl) dX8_valueOf_41 ⟨Nat.zero_le _, Nat.zero_le _⟩ (fun H locs hP hS => ?_)
  refine lv_aload_n hx hb dX8_valueOf_44 rfl (lv_at hl 0 rfl) ?_
  refine lv_aload_n hx hb dX8_valueOf_45 rfl (lv_at hl 0 rfl) ?_
  refine m_get (k := 21) (v := .long (M_3.2 21 0)) hc hP (by decide) wF_X8_108 rfl dX8_valueOf_46 ?_
  refine lv_aload_n hx hb dX8_valueOf_49 rfl (lv_at hl 0 rfl) ?_
  refine m_get (k := 22) (v := .long (M_3.2 22 0)) hc hP (by decide) wF_X8_65 rfl dX8_valueOf_50 ?_
  refine lv_lload_n hx hb dX8_valueOf_53 rfl (lv_at hl 1 rfl) ?_
  refine lv_lload_n hx hb dX8_valueOf_54 rfl (lv_at hl 2 rfl) ?_
  obtain ⟨M_4, eM_4, h⟩ := z_bd_some h
  refine m_callv (As := [.long (M_3.2 21 0), .long (M_3.2 22 0), .long a0, .long a1]) (M' := M_4) (n := 4) hc hP hS (mt_X8_plus l D cI cJ o H.size M_3 (M_3.2 21 0) (M_3.2 22 0) a0 a1 eM_4) wM_X8_164 wI_X8_plus wS_X8_plus wZ_X8 wC_X8_plus md_X8_plus ⟨rfl, rfl, Nat.le_of_ble_eq_true rfl, Nat.le_of_ble_eq_true rfl⟩ rfl hl.1 rfl (Nat.le_of_ble_eq_true rfl) dX8_valueOf_55 ⟨Nat.zero_le _, Nat.zero_le _⟩ (fun H locs hP hS => ?_)
  cases h
  rw [hQ]
  exact m_retv hc hr hlocks hP hS hz dX8_valueOf_58
theorem md_X8_valueOf : yX8_valueOf.cls ≠ "java/lang/invoke/MethodHandle" ∧ yX8_valueOf.cls ≠ "java/lang/invoke/VarHandle" ∧ (parseMethodDescriptor yX8_valueOf.desc).map (fun d => d.parameters.length) = some 7 := by decide +kernel
