noncomputable def f_X8_miss0 (M : MS) (a0 : Int32) (a1 : Int32) : Option (Int32 × MS) :=
  z_chk (z_in a0 10) (if (M.1 5 a0.toNatClampNeg) = (2 : Int32) then z_bd (f_X8_ran M (30 : Int32)) fun M_8 => z_chk (z_in a0 10) (z_bd2 (f_X8_plainMiss M_8 a0 (a1 - (M_8.1 7 a0.toNatClampNeg))) fun r_10 M_9 => some (r_10, M_9)) else z_chk (z_in a0 10) (if (M.1 5 a0.toNatClampNeg) = (4 : Int32) then z_bd (f_X8_ran M (51 : Int32)) fun M_3 => z_bd2 (f_X8_plainMiss M_3 a0 a1) fun r_5 M_4 => z_bd2 (f_X8_fit0 M_4 a0 a1) fun r_7 M_6 => some ((r_5 - r_7), M_6) else z_bd2 (f_X8_plainMiss M a0 a1) fun r_2 M_1 => some (r_2, M_1)))
set_option maxHeartbeats 4000000 in
set_option maxRecDepth 100000 in
theorem mt_X8_miss0 (l : Launch) (D : va_G) (cI cJ : ClassId) (o sz : Nat) (M : MS) (a0 : Int32) (a1 : Int32) {r_ : Int32} {N_ : MS} (h : f_X8_miss0 M a0 a1 = some (r_, N_)) : Met l yX8_miss0 (z_wd yX8_miss0 cX8_miss0 4 (some .int)) (z_rm 4 151) (va_Pc [.ref o, .int a0, .int a1] (m_C D cI cJ o sz M)) (va_Qi (fun (r1 : Int32) (M1 : MS) => r1 = r_ ∧ M1 = N_) (m_C D cI cJ o sz) (m_A o)) 0 0 (m_A o) := by
  refine Met.ofW (cc := cX8_miss0) (maxL := 4) (ret := (some .int)) (by decide) rfl ?_
  intro p e s m args below meth c s₁ B hml hv
  obtain ⟨hav, hz, hP0, hK⟩ := hv
  have hx := B.exec
  have hb := B.bytes
  have hr := B.returns
  have hts := atoms_spec (ws := z_wd yX8_miss0 cX8_miss0 4 (some .int)) B.pre
  have hown : s.vm.findClass RX8 = some m.cls := findClass_of_methodNamed B.named
  have hlocks := B.notSynchronized
  have hc : m_X p s m args c cX8_miss0 4 D cI cJ := ⟨hx, hb, hml, fun w hw => hts w (List.mem_cons_of_mem _ hw), hown, hK⟩
  have hl := lv_entry ([.ref o, .int a0, .int a1]) (n := 4) (Nat.le_of_ble_eq_true rfl)
  have hE : entryFrame m args 4 = F0 m 0 ((lg_sl ([.ref o, .int a0, .int a1]) ++ List.replicate (4 - (lg_sl ([.ref o, .int a0, .int a1])).length) Slot.unset).toArray) [] := by rw [hav]; exact lg_entry_eq m _ _
  rw [hE]
  clear hE hav
  generalize (lg_sl ([.ref o, .int a0, .int a1]) ++ List.replicate (4 - (lg_sl ([.ref o, .int a0, .int a1])).length) Slot.unset).toArray = ls at hl ⊢
  have hl : lv_has ls 4 [(0, .ref o), (1, .int a0), (2, .int a1)] := hl
  obtain ⟨Q, hQ⟩ : ∃ Q, Q = MQ below (va_Qi (fun (r1 : Int32) (M1 : MS) => r1 = r_ ∧ M1 = N_) (m_C D cI cJ o sz) (m_A o)) args s 0 0 (m_A o) := ⟨_, rfl⟩
  rw [← hQ]
  suffices hmain : ∀ (H : Heap) (locs : List Loc), va_P D z_cls (m_W cI cJ o M) H → va_S (m_A o) s.heap H locs → W p l e (z_rm 4 151) s m args below meth c H locs 0 0 Q (F0 m 0 ls []) from hmain s.heap [] hP0 va_S.rf
  clear hP0
  intro H locs hP hS
  unfold f_X8_miss0 at h
  refine lv_aload_n hx hb dX8_miss0_0 rfl (lv_at hl 0 rfl) ?_
  refine m_get (k := 5) (v := .ref (o + 5)) hc hP (by decide) wF_X8_22 rfl dX8_miss0_1 ?_
  refine lv_iload_n hx hb dX8_miss0_4 rfl (lv_at hl 1 rfl) ?_
  obtain ⟨c_5, h⟩ := z_chk_some h
  refine m_iald (k := 5) (j := 5) hc hP (ma_5 ..) c_5 dX8_miss0_5 ?_
  refine lv_iconst (v := 2) hx hb dX8_miss0_6 (by decide) ?_
  refine lv_icmp_ne (tgt := 30) hx hb dX8_miss0_7 (by decide) (fun c_7 => ?_) (fun c_7 => ?_)
  · replace h := z_in_ c_7 h
    refine lv_aload_n hx hb dX8_miss0_30 rfl (lv_at hl 0 rfl) ?_
    refine m_get (k := 5) (v := .ref (o + 5)) hc hP (by decide) wF_X8_22 rfl dX8_miss0_31 ?_
    refine lv_iload_n hx hb dX8_miss0_34 rfl (lv_at hl 1 rfl) ?_
    obtain ⟨c_35, h⟩ := z_chk_some h
    refine m_iald (k := 5) (j := 5) hc hP (ma_5 ..) c_35 dX8_miss0_35 ?_
    refine lv_iconst (v := 4) hx hb dX8_miss0_36 (by decide) ?_
    refine lv_icmp_ne (tgt := 62) hx hb dX8_miss0_37 (by decide) (fun c_37 => ?_) (fun c_37 => ?_)
    · replace h := z_in_ c_37 h
      refine lv_aload_n hx hb dX8_miss0_62 rfl (lv_at hl 0 rfl) ?_
      refine lv_iload_n hx hb dX8_miss0_63 rfl (lv_at hl 1 rfl) ?_
      refine lv_iload_n hx hb dX8_miss0_64 rfl (lv_at hl 2 rfl) ?_
      obtain ⟨r_2, M_1, er_2, h⟩ := z_bd2_some h
      refine m_calli (As := [.int a0, .int a1]) (r := r_2) (M' := M_1) (n := 2) hc hP hS (mt_X8_plainMiss l D cI cJ o H.size M a0 a1 er_2) wM_X8_276 wI_X8_plainMiss wS_X8_plainMiss wZ_X8 wC_X8_plainMiss md_X8_plainMiss ⟨rfl, rfl, Nat.le_of_ble_eq_true rfl, Nat.le_of_ble_eq_true rfl⟩ rfl hl.1 rfl (Nat.le_of_ble_eq_true rfl) dX8_miss0_65 ⟨Nat.zero_le _, Nat.zero_le _⟩ (fun H locs hP hS => ?_)
      cases h
      rw [hQ]
      exact m_reti hc hr hlocks hP hS hz dX8_miss0_68
    · replace h := z_ip_ c_37 h
      refine lv_aload_n hx hb dX8_miss0_40 rfl (lv_at hl 0 rfl) ?_
      refine lv_bipush (v := 51) hx hb dX8_miss0_41 (by decide) ?_
      obtain ⟨M_3, eM_3, h⟩ := z_bd_some h
      refine m_callv (As := [.int (51 : Int32)]) (M' := M_3) (n := 1) hc hP hS (mt_X8_ran l D cI cJ o H.size M (51 : Int32) eM_3) wM_X8_264 wI_X8_ran wS_X8_ran wZ_X8 wC_X8_ran md_X8_ran ⟨rfl, rfl, Nat.le_of_ble_eq_true rfl, Nat.le_of_ble_eq_true rfl⟩ rfl hl.1 rfl (Nat.le_of_ble_eq_true rfl) dX8_miss0_43 ⟨Nat.zero_le _, Nat.zero_le _⟩ (fun H locs hP hS => ?_)
      refine lv_aload_n hx hb dX8_miss0_46 rfl (lv_at hl 0 rfl) ?_
      refine lv_iload_n hx hb dX8_miss0_47 rfl (lv_at hl 1 rfl) ?_
      refine lv_iload_n hx hb dX8_miss0_48 rfl (lv_at hl 2 rfl) ?_
      obtain ⟨r_5, M_4, er_5, h⟩ := z_bd2_some h
      refine m_calli (As := [.int a0, .int a1]) (r := r_5) (M' := M_4) (n := 2) hc hP hS (mt_X8_plainMiss l D cI cJ o H.size M_3 a0 a1 er_5) wM_X8_276 wI_X8_plainMiss wS_X8_plainMiss wZ_X8 wC_X8_plainMiss md_X8_plainMiss ⟨rfl, rfl, Nat.le_of_ble_eq_true rfl, Nat.le_of_ble_eq_true rfl⟩ rfl hl.1 rfl (Nat.le_of_ble_eq_true rfl) dX8_miss0_49 ⟨Nat.zero_le _, Nat.zero_le _⟩ (fun H locs hP hS => ?_)
      refine lv_istore_n (lv' := [(3, .int r_5), (0, .ref o), (1, .int a0), (2, .int a1)]) hx hb dX8_miss0_52 rfl hl (by decide) rfl (fun ls hl => ?_)
      refine lv_iload_n hx hb dX8_miss0_53 rfl (lv_at hl 0 rfl) ?_
      refine lv_aload_n hx hb dX8_miss0_54 rfl (lv_at hl 1 rfl) ?_
      refine lv_iload_n hx hb dX8_miss0_55 rfl (lv_at hl 2 rfl) ?_
      refine lv_iload_n hx hb dX8_miss0_56 rfl (lv_at hl 3 rfl) ?_
      obtain ⟨r_7, M_6, er_7, h⟩ := z_bd2_some h
      refine m_calli (As := [.int a0, .int a1]) (r := r_7) (M' := M_6) (n := 2) hc hP hS (mt_X8_fit0 l D cI cJ o H.size M_4 a0 a1 er_7) wM_X8_273 wI_X8_fit0 wS_X8_fit0 wZ_X8 wC_X8_fit0 md_X8_fit0 ⟨rfl, rfl, Nat.le_of_ble_eq_true rfl, Nat.le_of_ble_eq_true rfl⟩ rfl hl.1 rfl (Nat.le_of_ble_eq_true rfl) dX8_miss0_57 ⟨Nat.zero_le _, Nat.zero_le _⟩ (fun H locs hP hS => ?_)
      refine lv_isub hx hb dX8_miss0_60 ?_
      cases h
      rw [hQ]
      exact m_reti hc hr hlocks hP hS hz dX8_miss0_61
  · replace h := z_ip_ c_7 h
    refine lv_aload_n hx hb dX8_miss0_10 rfl (lv_at hl 0 rfl) ?_
    refine lv_bipush (v := 30) hx hb dX8_miss0_11 (by decide) ?_
    obtain ⟨M_8, eM_8, h⟩ := z_bd_some h
    refine m_callv (As := [.int (30 : Int32)]) (M' := M_8) (n := 1) hc hP hS (mt_X8_ran l D cI cJ o H.size M (30 : Int32) eM_8) wM_X8_264 wI_X8_ran wS_X8_ran wZ_X8 wC_X8_ran md_X8_ran ⟨rfl, rfl, Nat.le_of_ble_eq_true rfl, Nat.le_of_ble_eq_true rfl⟩ rfl hl.1 rfl (Nat.le_of_ble_eq_true rfl) dX8_miss0_13 ⟨Nat.zero_le _, Nat.zero_le _⟩ (fun H locs hP hS => ?_)
    refine lv_aload_n hx hb dX8_miss0_16 rfl (lv_at hl 0 rfl) ?_
    refine lv_iload_n hx hb dX8_miss0_17 rfl (lv_at hl 1 rfl) ?_
    refine lv_iload_n hx hb dX8_miss0_18 rfl (lv_at hl 2 rfl) ?_
    refine lv_aload_n hx hb dX8_miss0_19 rfl (lv_at hl 0 rfl) ?_
    refine m_get (k := 7) (v := .ref (o + 7)) hc hP (by decide) wF_X8_28 rfl dX8_miss0_20 ?_
    refine lv_iload_n hx hb dX8_miss0_23 rfl (lv_at hl 1 rfl) ?_
    obtain ⟨c_24, h⟩ := z_chk_some h
    refine m_iald (k := 7) (j := 7) hc hP (ma_7 ..) c_24 dX8_miss0_24 ?_
    refine lv_isub hx hb dX8_miss0_25 ?_
    obtain ⟨r_10, M_9, er_10, h⟩ := z_bd2_some h
    refine m_calli (As := [.int a0, .int (a1 - (M_8.1 7 a0.toNatClampNeg))]) (r := r_10) (M' := M_9) (n := 2) hc hP hS (mt_X8_plainMiss l D cI cJ o H.size M_8 a0 (a1 - (M_8.1 7 a0.toNatClampNeg)) er_10) wM_X8_276 wI_X8_plainMiss wS_X8_plainMiss wZ_X8 wC_X8_plainMiss md_X8_plainMiss ⟨rfl, rfl, Nat.le_of_ble_eq_true rfl, Nat.le_of_ble_eq_true rfl⟩ rfl hl.1 rfl (Nat.le_of_ble_eq_true rfl) dX8_miss0_26 ⟨Nat.zero_le _, Nat.zero_le _⟩ (fun H locs hP hS => ?_)
    cases h
    rw [hQ]
    exact m_reti hc hr hlocks hP hS hz dX8_miss0_29
theorem md_X8_miss0 : yX8_miss0.cls ≠ "java/lang/invoke/MethodHandle" ∧ yX8_miss0.cls ≠ "java/lang/invoke/VarHandle" ∧ (parseMethodDescriptor yX8_miss0.desc).map (fun d => d.parameters.length) = some 2 := by decide +kernel
noncomputable def f_X8_bend0 (M : MS) (a0 : Int32) (a1 : Int32) : Option (Int32 × MS) :=
  z_chk (z_in a0 10) (if (M.1 5 a0.toNatClampNeg) = (3 : Int32) then z_bd (f_X8_ran M (40 : Int32)) fun M_6 => z_bd (f_X8_ran M_6 (12 : Int32)) fun M_7 => z_bd2 (f_X8_plainFit M_7 a0 a1) fun r_9 M_8 => some (((a1 - a0) + r_9), M_8) else z_bd (f_X8_isLine M a0) fun r_1 => z_bd (if r_1 = 0 then some (M) else z_bd (f_X8_ran M (21 : Int32)) fun M_3 => some (M_3)) fun M_2 => z_bd (f_X8_ran M_2 (12 : Int32)) fun M_4 => z_bd (f_X8_isLine M_4 a0) fun r_5 => if r_5 = 0 then some ((a1 - a0), M_4) else some (((a1 - a0) * (3 : Int32)), M_4))
set_option maxHeartbeats 4000000 in
set_option maxRecDepth 100000 in
theorem mt_X8_bend0 (l : Launch) (D : va_G) (cI cJ : ClassId) (o sz : Nat) (M : MS) (a0 : Int32) (a1 : Int32) {r_ : Int32} {N_ : MS} (h : f_X8_bend0 M a0 a1 = some (r_, N_)) : Met l yX8_bend0 (z_wd yX8_bend0 cX8_bend0 3 (some .int)) (z_rm 2 75) (va_Pc [.ref o, .int a0, .int a1] (m_C D cI cJ o sz M)) (va_Qi (fun (r1 : Int32) (M1 : MS) => r1 = r_ ∧ M1 = N_) (m_C D cI cJ o sz) (m_A o)) 0 0 (m_A o) := by
  refine Met.ofW (cc := cX8_bend0) (maxL := 3) (ret := (some .int)) (by decide) rfl ?_
  intro p e s m args below meth c s₁ B hml hv
  obtain ⟨hav, hz, hP0, hK⟩ := hv
  have hx := B.exec
  have hb := B.bytes
  have hr := B.returns
  have hts := atoms_spec (ws := z_wd yX8_bend0 cX8_bend0 3 (some .int)) B.pre
  have hown : s.vm.findClass RX8 = some m.cls := findClass_of_methodNamed B.named
  have hlocks := B.notSynchronized
  have hc : m_X p s m args c cX8_bend0 3 D cI cJ := ⟨hx, hb, hml, fun w hw => hts w (List.mem_cons_of_mem _ hw), hown, hK⟩
  have hl := lv_entry ([.ref o, .int a0, .int a1]) (n := 3) (Nat.le_of_ble_eq_true rfl)
  have hE : entryFrame m args 3 = F0 m 0 ((lg_sl ([.ref o, .int a0, .int a1]) ++ List.replicate (3 - (lg_sl ([.ref o, .int a0, .int a1])).length) Slot.unset).toArray) [] := by rw [hav]; exact lg_entry_eq m _ _
  rw [hE]
  clear hE hav
  generalize (lg_sl ([.ref o, .int a0, .int a1]) ++ List.replicate (3 - (lg_sl ([.ref o, .int a0, .int a1])).length) Slot.unset).toArray = ls at hl ⊢
  have hl : lv_has ls 3 [(0, .ref o), (1, .int a0), (2, .int a1)] := hl
  obtain ⟨Q, hQ⟩ : ∃ Q, Q = MQ below (va_Qi (fun (r1 : Int32) (M1 : MS) => r1 = r_ ∧ M1 = N_) (m_C D cI cJ o sz) (m_A o)) args s 0 0 (m_A o) := ⟨_, rfl⟩
  rw [← hQ]
  suffices hmain : ∀ (H : Heap) (locs : List Loc), va_P D z_cls (m_W cI cJ o M) H → va_S (m_A o) s.heap H locs → W p l e (z_rm 2 75) s m args below meth c H locs 0 0 Q (F0 m 0 ls []) from hmain s.heap [] hP0 va_S.rf
  clear hP0
  intro H locs hP hS
  unfold f_X8_bend0 at h
  refine lv_aload_n hx hb dX8_bend0_0 rfl (lv_at hl 0 rfl) ?_
  refine m_get (k := 5) (v := .ref (o + 5)) hc hP (by decide) wF_X8_22 rfl dX8_bend0_1 ?_
  refine lv_iload_n hx hb dX8_bend0_4 rfl (lv_at hl 1 rfl) ?_
  obtain ⟨c_5, h⟩ := z_chk_some h
  refine m_iald (k := 5) (j := 5) hc hP (ma_5 ..) c_5 dX8_bend0_5 ?_
  refine lv_iconst (v := 3) hx hb dX8_bend0_6 (by decide) ?_
  refine lv_icmp_ne (tgt := 33) hx hb dX8_bend0_7 (by decide) (fun c_7 => ?_) (fun c_7 => ?_)
  · replace h := z_in_ c_7 h
    refine lv_aload_n hx hb dX8_bend0_33 rfl (lv_at hl 0 rfl) ?_
    refine lv_iload_n hx hb dX8_bend0_34 rfl (lv_at hl 1 rfl) ?_
    obtain ⟨r_1, er_1, h⟩ := z_bd_some h
    refine m_calli (As := [.int a0]) (r := r_1) (M' := M) (n := 1) hc hP hS (mt_X8_isLine l D cI cJ o H.size M a0 er_1) wM_X8_267 wI_X8_isLine wS_X8_isLine wZ_X8 wC_X8_isLine md_X8_isLine ⟨rfl, rfl, Nat.le_of_ble_eq_true rfl, Nat.le_of_ble_eq_true rfl⟩ rfl hl.1 rfl (Nat.le_of_ble_eq_true rfl) dX8_bend0_35 ⟨Nat.zero_le _, Nat.zero_le _⟩ (fun H locs hP hS => ?_)
    obtain ⟨M_2, hJ, h⟩ := z_bd_some h
    have J_47 : ∀ (H : Heap) (locs : List Loc) (ls : Array Slot), va_P D z_cls (m_W cI cJ o M_2) H → va_S (m_A o) s.heap H locs → lv_has ls 3 [(0, .ref o), (1, .int a0), (2, .int a1)] → W p l e (z_rm 2 75) s m args below meth c H locs 0 0 Q (F0 m 47 ls []) := by
      intro H locs ls hP hS hl
      refine lv_aload_n hx hb dX8_bend0_47 rfl (lv_at hl 0 rfl) ?_
      refine lv_bipush (v := 12) hx hb dX8_bend0_48 (by decide) ?_
      obtain ⟨M_4, eM_4, h⟩ := z_bd_some h
      refine m_callv (As := [.int (12 : Int32)]) (M' := M_4) (n := 1) hc hP hS (mt_X8_ran l D cI cJ o H.size M_2 (12 : Int32) eM_4) wM_X8_264 wI_X8_ran wS_X8_ran wZ_X8 wC_X8_ran md_X8_ran ⟨rfl, rfl, Nat.le_of_ble_eq_true rfl, Nat.le_of_ble_eq_true rfl⟩ rfl hl.1 rfl (Nat.le_of_ble_eq_true rfl) dX8_bend0_50 ⟨Nat.zero_le _, Nat.zero_le _⟩ (fun H locs hP hS => ?_)
      refine lv_aload_n hx hb dX8_bend0_53 rfl (lv_at hl 0 rfl) ?_
      refine lv_iload_n hx hb dX8_bend0_54 rfl (lv_at hl 1 rfl) ?_
      obtain ⟨r_5, er_5, h⟩ := z_bd_some h
      refine m_calli (As := [.int a0]) (r := r_5) (M' := M_4) (n := 1) hc hP hS (mt_X8_isLine l D cI cJ o H.size M_4 a0 er_5) wM_X8_267 wI_X8_isLine wS_X8_isLine wZ_X8 wC_X8_isLine md_X8_isLine ⟨rfl, rfl, Nat.le_of_ble_eq_true rfl, Nat.le_of_ble_eq_true rfl⟩ rfl hl.1 rfl (Nat.le_of_ble_eq_true rfl) dX8_bend0_55 ⟨Nat.zero_le _, Nat.zero_le _⟩ (fun H locs hP hS => ?_)
      refine lv_if_eq (tgt := 69) hx hb dX8_bend0_58 (by decide) (fun c_58 => ?_) (fun c_58 => ?_)
      · replace h := z_ip_ c_58 h
        refine lv_iload_n hx hb dX8_bend0_69 rfl (lv_at hl 2 rfl) ?_
        refine lv_iload_n hx hb dX8_bend0_70 rfl (lv_at hl 1 rfl) ?_
        refine lv_isub hx hb dX8_bend0_71 ?_
        cases h
        rw [hQ]
        exact m_reti hc hr hlocks hP hS hz dX8_bend0_72
      · replace h := z_in_ c_58 h
        refine lv_iload_n hx hb dX8_bend0_61 rfl (lv_at hl 2 rfl) ?_
        refine lv_iload_n hx hb dX8_bend0_62 rfl (lv_at hl 1 rfl) ?_
        refine lv_isub hx hb dX8_bend0_63 ?_
        refine lv_iconst (v := 3) hx hb dX8_bend0_64 (by decide) ?_
        refine lv_imul hx hb dX8_bend0_65 ?_
        refine lv_goto (tgt := 72) hx hb dX8_bend0_66 (by decide) ?_
        cases h
        rw [hQ]
        exact m_reti hc hr hlocks hP hS hz dX8_bend0_72
    clear h
    have h := hJ
    clear hJ
    refine lv_if_eq (tgt := 47) hx hb dX8_bend0_38 (by decide) (fun c_38 => ?_) (fun c_38 => ?_)
    · replace h := z_ip_ c_38 h
      cases h
      exact J_47 H locs ls hP hS (lv_sub hl [0, 1, 2] rfl)
    · replace h := z_in_ c_38 h
      refine lv_aload_n hx hb dX8_bend0_41 rfl (lv_at hl 0 rfl) ?_
      refine lv_bipush (v := 21) hx hb dX8_bend0_42 (by decide) ?_
      obtain ⟨M_3, eM_3, h⟩ := z_bd_some h
      refine m_callv (As := [.int (21 : Int32)]) (M' := M_3) (n := 1) hc hP hS (mt_X8_ran l D cI cJ o H.size M (21 : Int32) eM_3) wM_X8_264 wI_X8_ran wS_X8_ran wZ_X8 wC_X8_ran md_X8_ran ⟨rfl, rfl, Nat.le_of_ble_eq_true rfl, Nat.le_of_ble_eq_true rfl⟩ rfl hl.1 rfl (Nat.le_of_ble_eq_true rfl) dX8_bend0_44 ⟨Nat.zero_le _, Nat.zero_le _⟩ (fun H locs hP hS => ?_)
      cases h
      exact J_47 H locs ls hP hS (lv_sub hl [0, 1, 2] rfl)
  · replace h := z_ip_ c_7 h
    refine lv_aload_n hx hb dX8_bend0_10 rfl (lv_at hl 0 rfl) ?_
    refine lv_bipush (v := 40) hx hb dX8_bend0_11 (by decide) ?_
    obtain ⟨M_6, eM_6, h⟩ := z_bd_some h
    refine m_callv (As := [.int (40 : Int32)]) (M' := M_6) (n := 1) hc hP hS (mt_X8_ran l D cI cJ o H.size M (40 : Int32) eM_6) wM_X8_264 wI_X8_ran wS_X8_ran wZ_X8 wC_X8_ran md_X8_ran ⟨rfl, rfl, Nat.le_of_ble_eq_true rfl, Nat.le_of_ble_eq_true rfl⟩ rfl hl.1 rfl (Nat.le_of_ble_eq_true rfl) dX8_bend0_13 ⟨Nat.zero_le _, Nat.zero_le _⟩ (fun H locs hP hS => ?_)
    refine lv_aload_n hx hb dX8_bend0_16 rfl (lv_at hl 0 rfl) ?_
    refine lv_bipush (v := 12) hx hb dX8_bend0_17 (by decide) ?_
    obtain ⟨M_7, eM_7, h⟩ := z_bd_some h
    refine m_callv (As := [.int (12 : Int32)]) (M' := M_7) (n := 1) hc hP hS (mt_X8_ran l D cI cJ o H.size M_6 (12 : Int32) eM_7) wM_X8_264 wI_X8_ran wS_X8_ran wZ_X8 wC_X8_ran md_X8_ran ⟨rfl, rfl, Nat.le_of_ble_eq_true rfl, Nat.le_of_ble_eq_true rfl⟩ rfl hl.1 rfl (Nat.le_of_ble_eq_true rfl) dX8_bend0_19 ⟨Nat.zero_le _, Nat.zero_le _⟩ (fun H locs hP hS => ?_)
    refine lv_iload_n hx hb dX8_bend0_22 rfl (lv_at hl 2 rfl) ?_
    refine lv_iload_n hx hb dX8_bend0_23 rfl (lv_at hl 1 rfl) ?_
    refine lv_isub hx hb dX8_bend0_24 ?_
    refine lv_aload_n hx hb dX8_bend0_25 rfl (lv_at hl 0 rfl) ?_
    refine lv_iload_n hx hb dX8_bend0_26 rfl (lv_at hl 1 rfl) ?_
    refine lv_iload_n hx hb dX8_bend0_27 rfl (lv_at hl 2 rfl) ?_
    obtain ⟨r_9, M_8, er_9, h⟩ := z_bd2_some h
    refine m_calli (As := [.int a0, .int a1]) (r := r_9) (M' := M_8) (n := 2) hc hP hS (mt_X8_plainFit l D cI cJ o H.size M_7 a0 a1 er_9) wM_X8_270 wI_X8_plainFit wS_X8_plainFit wZ_X8 wC_X8_plainFit md_X8_plainFit ⟨rfl, rfl, Nat.le_of_ble_eq_true rfl, Nat.le_of_ble_eq_true rfl⟩ rfl hl.1 rfl (Nat.le_of_ble_eq_true rfl) dX8_bend0_28 ⟨Nat.zero_le _, Nat.zero_le _⟩ (fun H locs hP hS => ?_)
    refine lv_iadd hx hb dX8_bend0_31 ?_
    cases h
    rw [hQ]
    exact m_reti hc hr hlocks hP hS hz dX8_bend0_32
theorem md_X8_bend0 : yX8_bend0.cls ≠ "java/lang/invoke/MethodHandle" ∧ yX8_bend0.cls ≠ "java/lang/invoke/VarHandle" ∧ (parseMethodDescriptor yX8_bend0.desc).map (fun d => d.parameters.length) = some 2 := by decide +kernel
noncomputable def f_X8_plainTell (M : MS) (a0 : Int32) (a1 : Int32) : Option (Int32 × MS) :=
  z_bd (f_X8_ran M (13 : Int32)) fun M_1 => z_bd2 (f_X8_miss0 M_1 a0 a1) fun r_3 M_2 => z_bd2 (f_X8_bend0 M_2 a0 a1) fun r_5 M_4 => some ((r_3 ^^^ r_5), M_4)
set_option maxHeartbeats 4000000 in
set_option maxRecDepth 100000 in
theorem mt_X8_plainTell (l : Launch) (D : va_G) (cI cJ : ClassId) (o sz : Nat) (M : MS) (a0 : Int32) (a1 : Int32) {r_ : Int32} {N_ : MS} (h : f_X8_plainTell M a0 a1 = some (r_, N_)) : Met l yX8_plainTell (z_wd yX8_plainTell cX8_plainTell 4 (some .int)) (z_rm 5 190) (va_Pc [.ref o, .int a0, .int a1] (m_C D cI cJ o sz M)) (va_Qi (fun (r1 : Int32) (M1 : MS) => r1 = r_ ∧ M1 = N_) (m_C D cI cJ o sz) (m_A o)) 0 0 (m_A o) := by
  refine Met.ofW (cc := cX8_plainTell) (maxL := 4) (ret := (some .int)) (by decide) rfl ?_
  intro p e s m args below meth c s₁ B hml hv
  obtain ⟨hav, hz, hP0, hK⟩ := hv
  have hx := B.exec
  have hb := B.bytes
  have hr := B.returns
  have hts := atoms_spec (ws := z_wd yX8_plainTell cX8_plainTell 4 (some .int)) B.pre
  have hown : s.vm.findClass RX8 = some m.cls := findClass_of_methodNamed B.named
  have hlocks := B.notSynchronized
  have hc : m_X p s m args c cX8_plainTell 4 D cI cJ := ⟨hx, hb, hml, fun w hw => hts w (List.mem_cons_of_mem _ hw), hown, hK⟩
  have hl := lv_entry ([.ref o, .int a0, .int a1]) (n := 4) (Nat.le_of_ble_eq_true rfl)
  have hE : entryFrame m args 4 = F0 m 0 ((lg_sl ([.ref o, .int a0, .int a1]) ++ List.replicate (4 - (lg_sl ([.ref o, .int a0, .int a1])).length) Slot.unset).toArray) [] := by rw [hav]; exact lg_entry_eq m _ _
  rw [hE]
  clear hE hav
  generalize (lg_sl ([.ref o, .int a0, .int a1]) ++ List.replicate (4 - (lg_sl ([.ref o, .int a0, .int a1])).length) Slot.unset).toArray = ls at hl ⊢
  have hl : lv_has ls 4 [(0, .ref o), (1, .int a0), (2, .int a1)] := hl
  obtain ⟨Q, hQ⟩ : ∃ Q, Q = MQ below (va_Qi (fun (r1 : Int32) (M1 : MS) => r1 = r_ ∧ M1 = N_) (m_C D cI cJ o sz) (m_A o)) args s 0 0 (m_A o) := ⟨_, rfl⟩
  rw [← hQ]
  suffices hmain : ∀ (H : Heap) (locs : List Loc), va_P D z_cls (m_W cI cJ o M) H → va_S (m_A o) s.heap H locs → W p l e (z_rm 5 190) s m args below meth c H locs 0 0 Q (F0 m 0 ls []) from hmain s.heap [] hP0 va_S.rf
  clear hP0
  intro H locs hP hS
  unfold f_X8_plainTell at h
  refine lv_aload_n hx hb dX8_plainTell_0 rfl (lv_at hl 0 rfl) ?_
  refine lv_bipush (v := 13) hx hb dX8_plainTell_1 (by decide) ?_
  obtain ⟨M_1, eM_1, h⟩ := z_bd_some h
  refine m_callv (As := [.int (13 : Int32)]) (M' := M_1) (n := 1) hc hP hS (mt_X8_ran l D cI cJ o H.size M (13 : Int32) eM_1) wM_X8_264 wI_X8_ran wS_X8_ran wZ_X8 wC_X8_ran md_X8_ran ⟨rfl, rfl, Nat.le_of_ble_eq_true rfl, Nat.le_of_ble_eq_true rfl⟩ rfl hl.1 rfl (Nat.le_of_ble_eq_true rfl) dX8_plainTell_3 ⟨Nat.zero_le _, Nat.zero_le _⟩ (fun H locs hP hS => ?_)
  refine lv_aload_n hx hb dX8_plainTell_6 rfl (lv_at hl 0 rfl) ?_
  refine lv_iload_n hx hb dX8_plainTell_7 rfl (lv_at hl 1 rfl) ?_
  refine lv_iload_n hx hb dX8_plainTell_8 rfl (lv_at hl 2 rfl) ?_
  obtain ⟨r_3, M_2, er_3, h⟩ := z_bd2_some h
  refine m_calli (As := [.int a0, .int a1]) (r := r_3) (M' := M_2) (n := 2) hc hP hS (mt_X8_miss0 l D cI cJ o H.size M_1 a0 a1 er_3) wM_X8_279 wI_X8_miss0 wS_X8_miss0 wZ_X8 wC_X8_miss0 md_X8_miss0 ⟨rfl, rfl, Nat.le_of_ble_eq_true rfl, Nat.le_of_ble_eq_true rfl⟩ rfl hl.1 rfl (Nat.le_of_ble_eq_true rfl) dX8_plainTell_9 ⟨Nat.zero_le _, Nat.zero_le _⟩ (fun H locs hP hS => ?_)
  refine lv_istore_n (lv' := [(3, .int r_3), (0, .ref o), (1, .int a0), (2, .int a1)]) hx hb dX8_plainTell_12 rfl hl (by decide) rfl (fun ls hl => ?_)
  refine lv_iload_n hx hb dX8_plainTell_13 rfl (lv_at hl 0 rfl) ?_
  refine lv_aload_n hx hb dX8_plainTell_14 rfl (lv_at hl 1 rfl) ?_
  refine lv_iload_n hx hb dX8_plainTell_15 rfl (lv_at hl 2 rfl) ?_
  refine lv_iload_n hx hb dX8_plainTell_16 rfl (lv_at hl 3 rfl) ?_
  obtain ⟨r_5, M_4, er_5, h⟩ := z_bd2_some h
  refine m_calli (As := [.int a0, .int a1]) (r := r_5) (M' := M_4) (n := 2) hc hP hS (mt_X8_bend0 l D cI cJ o H.size M_2 a0 a1 er_5) wM_X8_282 wI_X8_bend0 wS_X8_bend0 wZ_X8 wC_X8_bend0 md_X8_bend0 ⟨rfl, rfl, Nat.le_of_ble_eq_true rfl, Nat.le_of_ble_eq_true rfl⟩ rfl hl.1 rfl (Nat.le_of_ble_eq_true rfl) dX8_plainTell_17 ⟨Nat.zero_le _, Nat.zero_le _⟩ (fun H locs hP hS => ?_)
  refine lv_ixor hx hb dX8_plainTell_20 ?_
  cases h
  rw [hQ]
  exact m_reti hc hr hlocks hP hS hz dX8_plainTell_21
theorem md_X8_plainTell : yX8_plainTell.cls ≠ "java/lang/invoke/MethodHandle" ∧ yX8_plainTell.cls ≠ "java/lang/invoke/VarHandle" ∧ (parseMethodDescriptor yX8_plainTell.desc).map (fun d => d.parameters.length) = some 2 := by decide +kernel
