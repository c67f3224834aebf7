noncomputable def f_X8_whyNot (M : MS) (a0 : Int32) (a1 : Int32) : Option (Int32) :=
  z_bd (f_X8_in a0 (0 : Int32) (5 : Int32)) fun r_1 => if r_1 = 0 then some (1 : Int32) else if a1 = 0 then some (1 : Int32) else if (M.1 4 0) = (10 : Int32) then some (2 : Int32) else some (0 : Int32)
set_option maxHeartbeats 4000000 in
set_option maxRecDepth 100000 in
theorem mt_X8_whyNot (l : Launch) (D : va_G) (cI cJ : ClassId) (o sz : Nat) (M : MS) (a0 : Int32) (a1 : Int32) {r_ : Int32} (h : f_X8_whyNot M a0 a1 = some r_) : Met l yX8_whyNot (z_wd yX8_whyNot cX8_whyNot 3 (some .int)) (z_rm 1 38) (va_Pc [.ref o, .int a0, .int a1] (m_C D cI cJ o sz M)) (va_Qi (fun (r1 : Int32) (M1 : MS) => r1 = r_ ∧ M1 = M) (m_C D cI cJ o sz) (m_A o)) 0 0 (m_A o) := by
  refine Met.ofW (cc := cX8_whyNot) (maxL := 3) (ret := (some .int)) (by decide) rfl ?_
  intro p e s m args below meth c s₁ B hml hv
  obtain ⟨hav, hz, hP0, hK⟩ := hv
  have hx := B.exec
  have hb := B.bytes
  have hr := B.returns
  have hts := atoms_spec (ws := z_wd yX8_whyNot cX8_whyNot 3 (some .int)) B.pre
  have hown : s.vm.findClass RX8 = some m.cls := findClass_of_methodNamed B.named
  have hlocks := B.notSynchronized
  have hc : m_X p s m args c cX8_whyNot 3 D cI cJ := ⟨hx, hb, hml, fun w hw => hts w (List.mem_cons_of_mem _ hw), hown, hK⟩
  have hl := lv_entry ([.ref o, .int a0, .int a1]) (n := 3) (Nat.le_of_ble_eq_true rfl)
  have hE : entryFrame m args 3 = F0 m 0 ((lg_sl ([.ref o, .int a0, .int a1]) ++ List.replicate (3 - (lg_sl ([.ref o, .int a0, .int a1])).length) Slot.unset).toArray) [] := by rw [hav]; exact lg_entry_eq m _ _
  rw [hE]
  clear hE hav
  generalize (lg_sl ([.ref o, .int a0, .int a1]) ++ List.replicate (3 - (lg_sl ([.ref o, .int a0, .int a1])).length) Slot.unset).toArray = ls at hl ⊢
  have hl : lv_has ls 3 [(0, .ref o), (1, .int a0), (2, .int a1)] := hl
  obtain ⟨Q, hQ⟩ : ∃ Q, Q = MQ below (va_Qi (fun (r1 : Int32) (M1 : MS) => r1 = r_ ∧ M1 = M) (m_C D cI cJ o sz) (m_A o)) args s 0 0 (m_A o) := ⟨_, rfl⟩
  rw [← hQ]
  suffices hmain : ∀ (H : Heap) (locs : List Loc), va_P D z_cls (m_W cI cJ o M) H → va_S (m_A o) s.heap H locs → W p l e (z_rm 1 38) s m args below meth c H locs 0 0 Q (F0 m 0 ls []) from hmain s.heap [] hP0 va_S.rf
  clear hP0
  intro H locs hP hS
  unfold f_X8_whyNot at h
  refine lv_iload_n hx hb dX8_whyNot_0 rfl (lv_at hl 1 rfl) ?_
  refine lv_iconst (v := 0) hx hb dX8_whyNot_1 (by decide) ?_
  refine lv_iconst (v := 5) hx hb dX8_whyNot_2 (by decide) ?_
  obtain ⟨r_1, er_1, h⟩ := z_bd_some h
  refine s_calli (As := [.int a0, .int (0 : Int32), .int (5 : Int32)]) (r := r_1) (n := 3) hc.s (mt_X8_in l a0 (0 : Int32) (5 : Int32) er_1) wM_X8_100 wT_X8_in wZ_X8 wC_X8_in md_X8_in ⟨rfl, rfl, Nat.le_of_ble_eq_true rfl, Nat.le_of_ble_eq_true rfl⟩ rfl hl.1 rfl (Nat.le_of_ble_eq_true rfl) dX8_whyNot_3 ⟨Nat.zero_le _, Nat.zero_le _⟩ ?_
  refine lv_if_eq (tgt := 13) hx hb dX8_whyNot_6 (by decide) (fun c_6 => ?_) (fun c_6 => ?_)
  · replace h := z_ip_ c_6 h
    refine lv_iconst (v := 1) hx hb dX8_whyNot_13 (by decide) ?_
    refine lv_goto (tgt := 31) hx hb dX8_whyNot_14 (by decide) ?_
    cases h
    rw [hQ]
    exact m_reti hc hr hlocks hP hS hz dX8_whyNot_31
  · replace h := z_in_ c_6 h
    refine lv_iload_n hx hb dX8_whyNot_9 rfl (lv_at hl 2 rfl) ?_
    refine lv_if_ne (tgt := 17) hx hb dX8_whyNot_10 (by decide) (fun c_10 => ?_) (fun c_10 => ?_)
    · replace h := z_in_ c_10 h
      refine lv_aload_n hx hb dX8_whyNot_17 rfl (lv_at hl 0 rfl) ?_
      refine m_get (k := 4) (v := .int (M.1 4 0)) hc hP (by decide) wF_X8_97 rfl dX8_whyNot_18 ?_
      refine lv_bipush (v := 10) hx hb dX8_whyNot_21 (by decide) ?_
      refine lv_icmp_ne (tgt := 30) hx hb dX8_whyNot_23 (by decide) (fun c_23 => ?_) (fun c_23 => ?_)
      · replace h := z_in_ c_23 h
        refine lv_iconst (v := 0) hx hb dX8_whyNot_30 (by decide) ?_
        cases h
        rw [hQ]
        exact m_reti hc hr hlocks hP hS hz dX8_whyNot_31
      · replace h := z_ip_ c_23 h
        refine lv_iconst (v := 2) hx hb dX8_whyNot_26 (by decide) ?_
        refine lv_goto (tgt := 31) hx hb dX8_whyNot_27 (by decide) ?_
        cases h
        rw [hQ]
        exact m_reti hc hr hlocks hP hS hz dX8_whyNot_31
    · replace h := z_ip_ c_10 h
      refine lv_iconst (v := 1) hx hb dX8_whyNot_13 (by decide) ?_
      refine lv_goto (tgt := 31) hx hb dX8_whyNot_14 (by decide) ?_
      cases h
      rw [hQ]
      exact m_reti hc hr hlocks hP hS hz dX8_whyNot_31
theorem md_X8_whyNot : yX8_whyNot.cls ≠ "java/lang/invoke/MethodHandle" ∧ yX8_whyNot.cls ≠ "java/lang/invoke/VarHandle" ∧ (parseMethodDescriptor yX8_whyNot.desc).map (fun d => d.parameters.length) = some 2 := by decide +kernel
noncomputable def f_X8_fit (M : MS) (a0 : Int32) (a1 : Int32) (a2 : Int32) (a3 : Int32) (a4 : Int32) : Option (Int32 × MS) :=
  z_bd (f_X8_in a1 (-1000 : Int32) (1000 : Int32)) fun r_1 => z_bd (if r_1 = 0 then some ((0 : Int32)) else z_bd (f_X8_in a2 (-1000 : Int32) (1000 : Int32)) fun r_3 => if r_3 = 0 then some ((0 : Int32)) else z_bd (f_X8_in a3 (-1000 : Int32) (1000 : Int32)) fun r_4 => if r_4 = 0 then some ((0 : Int32)) else z_bd (f_X8_in a4 (1 : Int32) (60 : Int32)) fun r_5 => if r_5 = 0 then some ((0 : Int32)) else some ((1 : Int32))) fun v_2 => z_bd (f_X8_whyNot M a0 v_2) fun r_6 => if r_6 = 0 then z_bd2 (f_X8_newFit M a0 (0 : Int32) (2 : Int32)) fun r_8 M_7 => z_bd (f_X8_is M_7 a1.toInt64 a4.toInt64) fun M_9 => z_bd (f_X8_number M_9 r_8 (0 : Int32) (0 : Int32) (M_9.2 21 0) (M_9.2 22 0)) fun M_10 => z_bd (f_X8_is M_10 a2.toInt64 a4.toInt64) fun M_11 => z_bd (f_X8_number M_11 r_8 (0 : Int32) (1 : Int32) (M_11.2 21 0) (M_11.2 22 0)) fun M_12 => z_bd (f_X8_is M_12 a3.toInt64 a4.toInt64) fun M_13 => z_bd (f_X8_number M_13 r_8 (0 : Int32) (2 : Int32) (M_13.2 21 0) (M_13.2 22 0)) fun M_14 => z_bd2 (f_X8_done M_14 r_8) fun r_16 M_15 => some (r_16, M_15) else z_bd2 (f_X8_refused M r_6) fun r_18 M_17 => some (r_18, M_17)
set_option maxHeartbeats 4000000 in
set_option maxRecDepth 100000 in
theorem mt_X8_fit (l : Launch) (D : va_G) (cI cJ : ClassId) (o sz : Nat) (M : MS) (a0 : Int32) (a1 : Int32) (a2 : Int32) (a3 : Int32) (a4 : Int32) {r_ : Int32} {N_ : MS} (h : f_X8_fit M a0 a1 a2 a3 a4 = some (r_, N_)) : Met l yX8_fit (z_wd yX8_fit cX8_fit 9 (some .int)) (z_rm 2 87) (va_Pc [.ref o, .int a0, .int a1, .int a2, .int a3, .int a4] (m_C D cI cJ o sz M)) (va_Qi (fun (r1 : Int32) (M1 : MS) => r1 = r_ ∧ M1 = N_) (m_C D cI cJ o sz) (m_A o)) 0 0 (m_A o) := by
  refine Met.ofW (cc := cX8_fit) (maxL := 9) (ret := (some .int)) (by decide) rfl ?_
  intro p e s m args below meth c s₁ B hml hv
  obtain ⟨hav, hz, hP0, hK⟩ := hv
  have hx := B.exec
  have hb := B.bytes
  have hr := B.returns
  have hts := atoms_spec (ws := z_wd yX8_fit cX8_fit 9 (some .int)) B.pre
  have hown : s.vm.findClass RX8 = some m.cls := findClass_of_methodNamed B.named
  have hlocks := B.notSynchronized
  have hc : m_X p s m args c cX8_fit 9 D cI cJ := ⟨hx, hb, hml, fun w hw => hts w (List.mem_cons_of_mem _ hw), hown, hK⟩
  have hl := lv_entry ([.ref o, .int a0, .int a1, .int a2, .int a3, .int a4]) (n := 9) (Nat.le_of_ble_eq_true rfl)
  have hE : entryFrame m args 9 = F0 m 0 ((lg_sl ([.ref o, .int a0, .int a1, .int a2, .int a3, .int a4]) ++ List.replicate (9 - (lg_sl ([.ref o, .int a0, .int a1, .int a2, .int a3, .int a4])).length) Slot.unset).toArray) [] := by rw [hav]; exact lg_entry_eq m _ _
  rw [hE]
  clear hE hav
  generalize (lg_sl ([.ref o, .int a0, .int a1, .int a2, .int a3, .int a4]) ++ List.replicate (9 - (lg_sl ([.ref o, .int a0, .int a1, .int a2, .int a3, .int a4])).length) Slot.unset).toArray = ls at hl ⊢
  have hl : lv_has ls 9 [(0, .ref o), (1, .int a0), (2, .int a1), (3, .int a2), (4, .int a3), (5, .int a4)] := hl
  obtain ⟨Q, hQ⟩ : ∃ Q, Q = MQ below (va_Qi (fun (r1 : Int32) (M1 : MS) => r1 = r_ ∧ M1 = N_) (m_C D cI cJ o sz) (m_A o)) args s 0 0 (m_A o) := ⟨_, rfl⟩
  rw [← hQ]
  suffices hmain : ∀ (H : Heap) (locs : List Loc), va_P D z_cls (m_W cI cJ o M) H → va_S (m_A o) s.heap H locs → W p l e (z_rm 2 87) s m args below meth c H locs 0 0 Q (F0 m 0 ls []) from hmain s.heap [] hP0 va_S.rf
  clear hP0
  intro H locs hP hS
  unfold f_X8_fit at h
  refine lv_iload_n hx hb dX8_fit_0 rfl (lv_at hl 2 rfl) ?_
  refine lv_sipush (v := -1000) hx hb dX8_fit_1 (by decide) ?_
  refine lv_sipush (v := 1000) hx hb dX8_fit_4 (by decide) ?_
  obtain ⟨r_1, er_1, h⟩ := z_bd_some h
  refine s_calli (As := [.int a1, .int (-1000 : Int32), .int (1000 : Int32)]) (r := r_1) (n := 3) hc.s (mt_X8_in l a1 (-1000 : Int32) (1000 : Int32) er_1) wM_X8_100 wT_X8_in wZ_X8 wC_X8_in md_X8_in ⟨rfl, rfl, Nat.le_of_ble_eq_true rfl, Nat.le_of_ble_eq_true rfl⟩ rfl hl.1 rfl (Nat.le_of_ble_eq_true rfl) dX8_fit_7 ⟨Nat.zero_le _, Nat.zero_le _⟩ ?_
  obtain ⟨v_2, hJ, h⟩ := z_bd_some h
  have J_56 : ∀ (H : Heap) (locs : List Loc) (ls : Array Slot), va_P D z_cls (m_W cI cJ o M) H → va_S (m_A o) s.heap H locs → lv_has ls 9 [(0, .ref o), (1, .int a0), (2, .int a1), (3, .int a2), (4, .int a3), (5, .int a4)] → W p l e (z_rm 2 87) s m args below meth c H locs 0 0 Q (F0 m 56 ls [.int v_2]) := by
    intro H locs ls hP hS hl
    refine lv_istore (lv' := [(6, .int v_2), (0, .ref o), (1, .int a0), (2, .int a1), (3, .int a2), (4, .int a3), (5, .int a4)]) hx hb dX8_fit_56 hl (by decide) rfl (fun ls hl => ?_)
    refine lv_aload_n hx hb dX8_fit_58 rfl (lv_at hl 1 rfl) ?_
    refine lv_iload_n hx hb dX8_fit_59 rfl (lv_at hl 2 rfl) ?_
    refine lv_iload hx hb dX8_fit_60 (lv_at hl 0 rfl) ?_
    obtain ⟨r_6, er_6, h⟩ := z_bd_some h
    refine m_calli (As := [.int a0, .int v_2]) (r := r_6) (M' := M) (n := 2) hc hP hS (mt_X8_whyNot l D cI cJ o H.size M a0 v_2 er_6) wM_X8_137 wI_X8_whyNot wS_X8_whyNot wZ_X8 wC_X8_whyNot md_X8_whyNot ⟨rfl, rfl, Nat.le_of_ble_eq_true rfl, Nat.le_of_ble_eq_true rfl⟩ rfl hl.1 rfl (Nat.le_of_ble_eq_true rfl) dX8_fit_62 ⟨Nat.zero_le _, Nat.zero_le _⟩ (fun H locs hP hS => ?_)
    refine lv_istore (lv' := [(7, .int r_6), (6, .int v_2), (0, .ref o), (1, .int a0), (2, .int a1), (3, .int a2), (4, .int a3), (5, .int a4)]) hx hb dX8_fit_65 hl (by decide) rfl (fun ls hl => ?_)
    refine lv_iload hx hb dX8_fit_67 (lv_at hl 0 rfl) ?_
    refine lv_if_eq (tgt := 79) hx hb dX8_fit_69 (by decide) (fun c_69 => ?_) (fun c_69 => ?_)
    · replace h := z_ip_ c_69 h
      refine lv_aload_n hx hb dX8_fit_79 rfl (lv_at hl 2 rfl) ?_
      refine lv_iload_n hx hb dX8_fit_80 rfl (lv_at hl 3 rfl) ?_
      refine lv_iconst (v := 0) hx hb dX8_fit_81 (by decide) ?_
      refine lv_iconst (v := 2) hx hb dX8_fit_82 (by decide) ?_
      obtain ⟨r_8, M_7, er_8, h⟩ := z_bd2_some h
      refine m_calli (As := [.int a0, .int (0 : Int32), .int (2 : Int32)]) (r := r_8) (M' := M_7) (n := 3) hc hP hS (mt_X8_newFit l D cI cJ o H.size M a0 (0 : Int32) (2 : Int32) er_8) wM_X8_141 wI_X8_newFit wS_X8_newFit wZ_X8 wC_X8_newFit md_X8_newFit ⟨rfl, rfl, Nat.le_of_ble_eq_true rfl, Nat.le_of_ble_eq_true rfl⟩ rfl hl.1 rfl (Nat.le_of_ble_eq_true rfl) dX8_fit_83 ⟨Nat.zero_le _, Nat.zero_le _⟩ (fun H locs hP hS => ?_)
      refine lv_istore (lv' := [(8, .int r_8), (7, .int r_6), (6, .int v_2), (0, .ref o), (1, .int a0), (2, .int a1), (3, .int a2), (4, .int a3), (5, .int a4)]) hx hb dX8_fit_86 hl (by decide) rfl (fun ls hl => ?_)
      refine lv_aload_n hx hb dX8_fit_88 rfl (lv_at hl 3 rfl) ?_
      refine lv_iload_n hx hb dX8_fit_89 rfl (lv_at hl 5 rfl) ?_
      refine lv_i2l (v := a1.toInt64) hx hb dX8_fit_90 rfl ?_
      refine lv_iload hx hb dX8_fit_91 (lv_at hl 8 rfl) ?_
      refine lv_i2l (v := a4.toInt64) hx hb dX8_fit_93 rfl ?_
      obtain ⟨M_9, eM_9, h⟩ := z_bd_some h
      refine m_callv (As := [.long a1.toInt64, .long a4.toInt64]) (M' := M_9) (n := 2) hc hP hS (mt_X8_is l D cI cJ o H.size M_7 a1.toInt64 a4.toInt64 eM_9) wM_X8_111 wI_X8_is wS_X8_is wZ_X8 wC_X8_is md_X8_is ⟨rfl, rfl, Nat.le_of_ble_eq_true rfl, Nat.le_of_ble_eq_true rfl⟩ rfl hl.1 rfl (Nat.le_of_ble_eq_true rfl) dX8_fit_94 ⟨Nat.zero_le _, Nat.zero_le _⟩ (fun H locs hP hS => ?_)
      refine lv_aload_n hx hb dX8_fit_97 rfl (lv_at hl 3 rfl) ?_
      refine lv_iload hx hb dX8_fit_98 (lv_at hl 0 rfl) ?_
      refine lv_iconst (v := 0) hx hb dX8_fit_100 (by decide) ?_
      refine lv_iconst (v := 0) hx hb dX8_fit_101 (by decide) ?_
      refine lv_aload_n hx hb dX8_fit_102 rfl (lv_at hl 3 rfl) ?_
      refine m_get (k := 21) (v := .long (M_9.2 21 0)) hc hP (by decide) wF_X8_108 rfl dX8_fit_103 ?_
      refine lv_aload_n hx hb dX8_fit_106 rfl (lv_at hl 3 rfl) ?_
      refine m_get (k := 22) (v := .long (M_9.2 22 0)) hc hP (by decide) wF_X8_65 rfl dX8_fit_107 ?_
      obtain ⟨M_10, eM_10, h⟩ := z_bd_some h
      refine m_callv (As := [.int r_8, .int (0 : Int32), .int (0 : Int32), .long (M_9.2 21 0), .long (M_9.2 22 0)]) (M' := M_10) (n := 5) hc hP hS (mt_X8_number l D cI cJ o H.size M_9 r_8 (0 : Int32) (0 : Int32) (M_9.2 21 0) (M_9.2 22 0) eM_10) wM_X8_133 wI_X8_number wS_X8_number wZ_X8 wC_X8_number md_X8_number ⟨rfl, rfl, Nat.le_of_ble_eq_true rfl, Nat.le_of_ble_eq_true rfl⟩ rfl hl.1 rfl (Nat.le_of_ble_eq_true rfl) dX8_fit_110 ⟨Nat.zero_le _, Nat.zero_le _⟩ (fun H locs hP hS => ?_)
      refine lv_aload_n hx hb dX8_fit_113 rfl (lv_at hl 3 rfl) ?_
      refine lv_iload_n hx hb dX8_fit_114 rfl (lv_at hl 6 rfl) ?_
      refine lv_i2l (v := a2.toInt64) hx hb dX8_fit_115 rfl ?_
      refine lv_iload hx hb dX8_fit_116 (lv_at hl 8 rfl) ?_
      refine lv_i2l (v := a4.toInt64) hx hb dX8_fit_118 rfl ?_
      obtain ⟨M_11, eM_11, h⟩ := z_bd_some h
      refine m_callv (As := [.long a2.toInt64, .long a4.toInt64]) (M' := M_11) (n := 2) hc hP hS (mt_X8_is l D cI cJ o H.size M_10 a2.toInt64 a4.toInt64 eM_11) wM_X8_111 wI_X8_is wS_X8_is wZ_X8 wC_X8_is md_X8_is ⟨rfl, rfl, Nat.le_of_ble_eq_true rfl, Nat.le_of_ble_eq_true rfl⟩ rfl hl.1 rfl (Nat.le_of_ble_eq_true rfl) dX8_fit_119 ⟨Nat.zero_le _, Nat.zero_le _⟩ (fun H locs hP hS => ?_)
      refine lv_aload_n hx hb dX8_fit_122 rfl (lv_at hl 3 rfl) ?_
      refine lv_iload hx hb dX8_fit_123 (lv_at hl 0 rfl) ?_
      refine lv_iconst (v := 0) hx hb dX8_fit_125 (by decide) ?_
      refine lv_iconst (v := 1) hx hb dX8_fit_126 (by decide) ?_
      refine lv_aload_n hx hb dX8_fit_127 rfl (lv_at hl 3 rfl) ?_
      refine m_get (k := 21) (v := .long (M_11.2 21 0)) hc hP (by decide) wF_X8_108 rfl dX8_fit_128 ?_
      refine lv_aload_n hx hb dX8_fit_131 rfl (lv_at hl 3 rfl) ?_
      refine m_get (k := 22) (v := .long (M_11.2 22 0)) hc hP (by decide) wF_X8_65 rfl dX8_fit_132 ?_
      obtain ⟨M_12, eM_12, h⟩ := z_bd_some h
      refine m_callv (As := [.int r_8, .int (0 : Int32), .int (1 : Int32), .long (M_11.2 21 0), .long (M_11.2 22 0)]) (M' := M_12) (n := 5) hc hP hS (mt_X8_number l D cI cJ o H.size M_11 r_8 (0 : Int32) (1 : Int32) (M_11.2 21 0) (M_11.2 22 0) eM_12) wM_X8_133 wI_X8_number wS_X8_number wZ_X8 wC_X8_number md_X8_number ⟨rfl, rfl, Nat.le_of_ble_eq_true rfl, Nat.le_of_ble_eq_true rfl⟩ rfl hl.1 rfl (Nat.le_of_ble_eq_true rfl) dX8_fit_135 ⟨Nat.zero_le _, Nat.zero_le _⟩ (fun H locs hP hS => ?_)
      refine lv_aload_n hx hb dX8_fit_138 rfl (lv_at hl 3 rfl) ?_
      refine lv_iload hx hb dX8_fit_139 (lv_at hl 7 rfl) ?_
      refine lv_i2l (v := a3.toInt64) hx hb dX8_fit_141 rfl ?_
      refine lv_iload hx hb dX8_fit_142 (lv_at hl 8 rfl) ?_
      refine lv_i2l (v := a4.toInt64) hx hb dX8_fit_144 rfl ?_
      obtain ⟨M_13, eM_13, h⟩ := z_bd_some h
      refine m_callv (As := [.long a3.toInt64, .long a4.toInt64]) (M' := M_13) (n := 2) hc hP hS (mt_X8_is l D cI cJ o H.size M_12 a3.toInt64 a4.toInt64 eM_13) wM_X8_111 wI_X8_is wS_X8_is wZ_X8 wC_X8_is md_X8_is ⟨rfl, rfl, Nat.le_of_ble_eq_true rfl, Nat.le_of_ble_eq_true rfl⟩ rfl hl.1 rfl (Nat.le_of_ble_eq_true rfl) dX8_fit_145 ⟨Nat.zero_le _, Nat.zero_le _⟩ (fun H locs hP hS => ?_)
      refine lv_aload_n hx hb dX8_fit_148 rfl (lv_at hl 3 rfl) ?_
      refine lv_iload hx hb dX8_fit_149 (lv_at hl 0 rfl) ?_
      refine lv_iconst (v := 0) hx hb dX8_fit_151 (by decide) ?_
      refine lv_iconst (v := 2) hx hb dX8_fit_152 (by decide) ?_
      refine lv_aload_n hx hb dX8_fit_153 rfl (lv_at hl 3 rfl) ?_
      refine m_get (k := 21) (v := .long (M_13.2 21 0)) hc hP (by decide) wF_X8_108 rfl dX8_fit_154 ?_
      refine lv_aload_n hx hb dX8_fit_157 rfl (lv_at hl 3 rfl) ?_
      refine m_get (k := 22) (v := .long (M_13.2 22 0)) hc hP (by decide) wF_X8_65 rfl dX8_fit_158 ?_
      obtain ⟨M_14, eM_14, h⟩ := z_bd_some h
      refine m_callv (As := [.int r_8, .int (0 : Int32), .int (2 : Int32), .long (M_13.2 21 0), .long (M_13.2 22 0)]) (M' := M_14) (n := 5) hc hP hS (mt_X8_number l D cI cJ o H.size M_13 r_8 (0 : Int32) (2 : Int32) (M_13.2 21 0) (M_13.2 22 0) eM_14) wM_X8_133 wI_X8_number wS_X8_number wZ_X8 wC_X8_number md_X8_number ⟨rfl, rfl, Nat.le_of_ble_eq_true rfl, Nat.le_of_ble_eq_true rfl⟩ rfl hl.1 rfl (Nat.le_of_ble_eq_true rfl) dX8_fit_161 ⟨Nat.zero_le _, Nat.zero_le _⟩ (fun H locs hP hS => ?_)
      refine lv_aload_n hx hb dX8_fit_164 rfl (lv_at hl 3 rfl) ?_
      refine lv_iload hx hb dX8_fit_165 (lv_at hl 0 rfl) ?_
      obtain ⟨r_16, M_15, er_16, h⟩ := z_bd2_some h
      refine m_calli (As := [.int r_8]) (r := r_16) (M' := M_15) (n := 1) hc hP hS (mt_X8_done l D cI cJ o H.size M_14 r_8 er_16) wM_X8_130 wI_X8_done wS_X8_done wZ_X8 wC_X8_done md_X8_done ⟨rfl, rfl, Nat.le_of_ble_eq_true rfl, Nat.le_of_ble_eq_true rfl⟩ rfl hl.1 rfl (Nat.le_of_ble_eq_true rfl) dX8_fit_167 ⟨Nat.zero_le _, Nat.zero_le _⟩ (fun H locs hP hS => ?_)
      cases h
      rw [hQ]
      exact m_reti hc hr hlocks hP hS hz dX8_fit_170
    · replace h := z_in_ c_69 h
      refine lv_aload_n hx hb dX8_fit_72 rfl (lv_at hl 2 rfl) ?_
      refine lv_iload hx hb dX8_fit_73 (lv_at hl 0 rfl) ?_
      obtain ⟨r_18, M_17, er_18, h⟩ := z_bd2_some h
      refine m_calli (As := [.int r_6]) (r := r_18) (M' := M_17) (n := 1) hc hP hS (mt_X8_refused l D cI cJ o H.size M r_6 er_18) wM_X8_118 wI_X8_refused wS_X8_refused wZ_X8 wC_X8_refused md_X8_refused ⟨rfl, rfl, Nat.le_of_ble_eq_true rfl, Nat.le_of_ble_eq_true rfl⟩ rfl hl.1 rfl (Nat.le_of_ble_eq_true rfl) dX8_fit_75 ⟨Nat.zero_le _, Nat.zero_le _⟩ (fun H locs hP hS => ?_)
      cases h
      rw [hQ]
      exact m_reti hc hr hlocks hP hS hz dX8_fit_78
  clear h
  have h := hJ
  clear hJ
  refine lv_if_eq (tgt := 55) hx hb dX8_fit_10 (by decide) (fun c_10 => ?_) (fun c_10 => ?_)
  · replace h := z_ip_ c_10 h
    refine lv_iconst (v := 0) hx hb dX8_fit_55 (by decide) ?_
    cases h
    exact J_56 H locs ls hP hS (lv_sub hl [0, 1, 2, 3, 4, 5] rfl)
  · replace h := z_in_ c_10 h
    refine lv_iload_n hx hb dX8_fit_13 rfl (lv_at hl 3 rfl) ?_
    refine lv_sipush (v := -1000) hx hb dX8_fit_14 (by decide) ?_
    refine lv_sipush (v := 1000) hx hb dX8_fit_17 (by decide) ?_
    obtain ⟨r_3, er_3, h⟩ := z_bd_some h
    refine s_calli (As := [.int a2, .int (-1000 : Int32), .int (1000 : Int32)]) (r := r_3) (n := 3) hc.s (mt_X8_in l a2 (-1000 : Int32) (1000 : Int32) er_3) wM_X8_100 wT_X8_in wZ_X8 wC_X8_in md_X8_in ⟨rfl, rfl, Nat.le_of_ble_eq_true rfl, Nat.le_of_ble_eq_true rfl⟩ rfl hl.1 rfl (Nat.le_of_ble_eq_true rfl) dX8_fit_20 ⟨Nat.zero_le _, Nat.zero_le _⟩ ?_
    refine lv_if_eq (tgt := 55) hx hb dX8_fit_23 (by decide) (fun c_23 => ?_) (fun c_23 => ?_)
    · replace h := z_ip_ c_23 h
      refine lv_iconst (v := 0) hx hb dX8_fit_55 (by decide) ?_
      cases h
      exact J_56 H locs ls hP hS (lv_sub hl [0, 1, 2, 3, 4, 5] rfl)
    · replace h := z_in_ c_23 h
      refine lv_iload hx hb dX8_fit_26 (lv_at hl 4 rfl) ?_
      refine lv_sipush (v := -1000) hx hb dX8_fit_28 (by decide) ?_
      refine lv_sipush (v := 1000) hx hb dX8_fit_31 (by decide) ?_
      obtain ⟨r_4, er_4, h⟩ := z_bd_some h
      refine s_calli (As := [.int a3, .int (-1000 : Int32), .int (1000 : Int32)]) (r := r_4) (n := 3) hc.s (mt_X8_in l a3 (-1000 : Int32) (1000 : Int32) er_4) wM_X8_100 wT_X8_in wZ_X8 wC_X8_in md_X8_in ⟨rfl, rfl, Nat.le_of_ble_eq_true rfl, Nat.le_of_ble_eq_true rfl⟩ rfl hl.1 rfl (Nat.le_of_ble_eq_true rfl) dX8_fit_34 ⟨Nat.zero_le _, Nat.zero_le _⟩ ?_
      refine lv_if_eq (tgt := 55) hx hb dX8_fit_37 (by decide) (fun c_37 => ?_) (fun c_37 => ?_)
      · replace h := z_ip_ c_37 h
        refine lv_iconst (v := 0) hx hb dX8_fit_55 (by decide) ?_
        cases h
        exact J_56 H locs ls hP hS (lv_sub hl [0, 1, 2, 3, 4, 5] rfl)
      · replace h := z_in_ c_37 h
        refine lv_iload hx hb dX8_fit_40 (lv_at hl 5 rfl) ?_
        refine lv_iconst (v := 1) hx hb dX8_fit_42 (by decide) ?_
        refine lv_bipush (v := 60) hx hb dX8_fit_43 (by decide) ?_
        obtain ⟨r_5, er_5, h⟩ := z_bd_some h
        refine s_calli (As := [.int a4, .int (1 : Int32), .int (60 : Int32)]) (r := r_5) (n := 3) hc.s (mt_X8_in l a4 (1 : Int32) (60 : Int32) er_5) wM_X8_100 wT_X8_in wZ_X8 wC_X8_in md_X8_in ⟨rfl, rfl, Nat.le_of_ble_eq_true rfl, Nat.le_of_ble_eq_true rfl⟩ rfl hl.1 rfl (Nat.le_of_ble_eq_true rfl) dX8_fit_45 ⟨Nat.zero_le _, Nat.zero_le _⟩ ?_
        refine lv_if_eq (tgt := 55) hx hb dX8_fit_48 (by decide) (fun c_48 => ?_) (fun c_48 => ?_)
        · replace h := z_ip_ c_48 h
          refine lv_iconst (v := 0) hx hb dX8_fit_55 (by decide) ?_
          cases h
          exact J_56 H locs ls hP hS (lv_sub hl [0, 1, 2, 3, 4, 5] rfl)
        · replace h := z_in_ c_48 h
          refine lv_iconst (v := 1) hx hb dX8_fit_51 (by decide) ?_
          refine lv_goto (tgt := 56) hx hb dX8_fit_52 (by decide) ?_
          cases h
          exact J_56 H locs ls hP hS (lv_sub hl [0, 1, 2, 3, 4, 5] rfl)
theorem md_X8_fit : yX8_fit.cls ≠ "java/lang/invoke/MethodHandle" ∧ yX8_fit.cls ≠ "java/lang/invoke/VarHandle" ∧ (parseMethodDescriptor yX8_fit.desc).map (fun d => d.parameters.length) = some 5 := by decide +kernel
noncomputable def f_X8_argument (a0 : Int32) (a1 : Int32) : Option (Int64) :=
  if a0 = (2 : Int32) then some (a1.toInt64 * a1.toInt64) else some (a1.toInt64)
set_option maxHeartbeats 4000000 in
set_option maxRecDepth 100000 in
theorem mt_X8_argument (l : Launch) (a0 : Int32) (a1 : Int32) {r_ : Int64} (h : f_X8_argument a0 a1 = some r_) : Met l yX8_argument (z_wd yX8_argument cX8_argument 2 (some .long)) (z_rm 0 0) (va_Pc [.int a0, .int a1] (fun _ => True)) (vp_Sl (fun r1 : Int64 => r1 = r_)) 0 0 (fun _ => False) := by
  refine Met.ofW (cc := cX8_argument) (maxL := 2) (ret := (some .long)) (by decide) rfl ?_
  intro p e s m args below meth c s₁ B hml hv
  obtain ⟨hav, -⟩ := hv
  have hx := B.exec
  have hb := B.bytes
  have hr := B.returns
  have hts := atoms_spec (ws := z_wd yX8_argument cX8_argument 2 (some .long)) B.pre
  have hown : s.vm.findClass RX8 = some m.cls := findClass_of_methodNamed B.named
  have hlocks := B.notSynchronized
  have hc : s_X p s m args c cX8_argument 2 RX8 := ⟨hx, hb, hml, fun w hw => hts w (List.mem_cons_of_mem _ hw), hown⟩
  have hl := lv_entry ([.int a0, .int a1]) (n := 2) (Nat.le_of_ble_eq_true rfl)
  have hE : entryFrame m args 2 = F0 m 0 ((lg_sl ([.int a0, .int a1]) ++ List.replicate (2 - (lg_sl ([.int a0, .int a1])).length) Slot.unset).toArray) [] := by rw [hav]; exact lg_entry_eq m _ _
  rw [hE]
  clear hE hav
  generalize (lg_sl ([.int a0, .int a1]) ++ List.replicate (2 - (lg_sl ([.int a0, .int a1])).length) Slot.unset).toArray = ls at hl ⊢
  have hl : lv_has ls 2 [(0, .int a0), (1, .int a1)] := hl
  obtain ⟨Q, hQ⟩ : ∃ Q, Q = MQ below (vp_Sl (fun r1 : Int64 => r1 = r_)) args s 0 0 (fun _ => False) := ⟨_, rfl⟩
  rw [← hQ]
  show W p l e (z_rm 0 0) s m args below meth c s.heap [] 0 0 Q (F0 m 0 ls [])
  unfold f_X8_argument at h
  refine lv_iload_n hx hb dX8_argument_0 rfl (lv_at hl 0 rfl) ?_
  refine lv_iconst (v := 2) hx hb dX8_argument_1 (by decide) ?_
  refine lv_icmp_ne (tgt := 13) hx hb dX8_argument_2 (by decide) (fun c_2 => ?_) (fun c_2 => ?_)
  · replace h := z_in_ c_2 h
    refine lv_iload_n hx hb dX8_argument_13 rfl (lv_at hl 1 rfl) ?_
    refine lv_i2l (v := a1.toInt64) hx hb dX8_argument_14 rfl ?_
    cases h
    rw [hQ]
    exact s_retl hc hr hlocks dX8_argument_15
  · replace h := z_ip_ c_2 h
    refine lv_iload_n hx hb dX8_argument_5 rfl (lv_at hl 1 rfl) ?_
    refine lv_i2l (v := a1.toInt64) hx hb dX8_argument_6 rfl ?_
    refine lv_iload_n hx hb dX8_argument_7 rfl (lv_at hl 1 rfl) ?_
    refine lv_i2l (v := a1.toInt64) hx hb dX8_argument_8 rfl ?_
    refine lv_lmul hx hb dX8_argument_9 ?_
    refine lv_goto (tgt := 15) hx hb dX8_argument_10 (by decide) ?_
    cases h
    rw [hQ]
    exact s_retl hc hr hlocks dX8_argument_15
theorem md_X8_argument : yX8_argument.cls ≠ "java/lang/invoke/MethodHandle" ∧ yX8_argument.cls ≠ "java/lang/invoke/VarHandle" ∧ (parseMethodDescriptor yX8_argument.desc).map (fun d => d.parameters.length) = some 2 := by decide +kernel
