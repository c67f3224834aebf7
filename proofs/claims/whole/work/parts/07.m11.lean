noncomputable def f_X8_line (M : MS) (a0 : Int32) (a1 : Int32) : Option (Int32 × MS) :=
  z_bd (f_X8_in a1 (0 : Int32) (2 : Int32)) fun r_1 => z_bd (f_X8_whyNot M a0 r_1) fun r_2 => if r_2 = 0 then z_bd2 (f_X8_newFit M a0 (1 : Int32) a1) fun r_4 M_3 => z_bd (f_X8_settle M_3 r_4) fun M_5 => z_bd2 (f_X8_done M_5 r_4) fun r_7 M_6 => some (r_7, M_6) else z_bd2 (f_X8_refused M r_2) fun r_9 M_8 => some (r_9, M_8)
set_option maxHeartbeats 4000000 in
set_option maxRecDepth 100000 in
theorem mt_X8_line (l : Launch) (D : va_G) (cI cJ : ClassId) (o sz : Nat) (M : MS) (a0 : Int32) (a1 : Int32) {r_ : Int32} {N_ : MS} (h : f_X8_line M a0 a1 = some (r_, N_)) : Met l yX8_line (z_wd yX8_line cX8_line 5 (some .int)) (z_rm 8 346) (va_Pc [.ref o, .int a0, .int a1] (m_C D cI cJ o sz M)) (va_Qi (fun (r1 : Int32) (M1 : MS) => r1 = r_ ∧ M1 = N_) (m_C D cI cJ o sz) (m_A o)) 0 0 (m_A o) := by
  refine Met.ofW (cc := cX8_line) (maxL := 5) (ret := (some .int)) (by decide) rfl ?_
  intro p e s m args below meth c s₁ B hml hv
  obtain ⟨hav, hz, hP0, hK⟩ := hv
  have hx := B.exec
  have hb := B.bytes
  have hr := B.returns
  have hts := atoms_spec (ws := z_wd yX8_line cX8_line 5 (some .int)) B.pre
  have hown : s.vm.findClass RX8 = some m.cls := findClass_of_methodNamed B.named
  have hlocks := B.notSynchronized
  have hc : m_X p s m args c cX8_line 5 D cI cJ := ⟨hx, hb, hml, fun w hw => hts w (List.mem_cons_of_mem _ hw), hown, hK⟩
  have hl := lv_entry ([.ref o, .int a0, .int a1]) (n := 5) (Nat.le_of_ble_eq_true rfl)
  have hE : entryFrame m args 5 = F0 m 0 ((lg_sl ([.ref o, .int a0, .int a1]) ++ List.replicate (5 - (lg_sl ([.ref o, .int a0, .int a1])).length) Slot.unset).toArray) [] := by rw [hav]; exact lg_entry_eq m _ _
  rw [hE]
  clear hE hav
  generalize (lg_sl ([.ref o, .int a0, .int a1]) ++ List.replicate (5 - (lg_sl ([.ref o, .int a0, .int a1])).length) Slot.unset).toArray = ls at hl ⊢
  have hl : lv_has ls 5 [(0, .ref o), (1, .int a0), (2, .int a1)] := hl
  obtain ⟨Q, hQ⟩ : ∃ Q, Q = MQ below (va_Qi (fun (r1 : Int32) (M1 : MS) => r1 = r_ ∧ M1 = N_) (m_C D cI cJ o sz) (m_A o)) args s 0 0 (m_A o) := ⟨_, rfl⟩
  rw [← hQ]
  suffices hmain : ∀ (H : Heap) (locs : List Loc), va_P D z_cls (m_W cI cJ o M) H → va_S (m_A o) s.heap H locs → W p l e (z_rm 8 346) s m args below meth c H locs 0 0 Q (F0 m 0 ls []) from hmain s.heap [] hP0 va_S.rf
  clear hP0
  intro H locs hP hS
  unfold f_X8_line at h
  refine lv_aload_n hx hb dX8_line_0 rfl (lv_at hl 0 rfl) ?_
  refine lv_iload_n hx hb dX8_line_1 rfl (lv_at hl 1 rfl) ?_
  refine lv_iload_n hx hb dX8_line_2 rfl (lv_at hl 2 rfl) ?_
  refine lv_iconst (v := 0) hx hb dX8_line_3 (by decide) ?_
  refine lv_iconst (v := 2) hx hb dX8_line_4 (by decide) ?_
  obtain ⟨r_1, er_1, h⟩ := z_bd_some h
  refine s_calli (As := [.int a1, .int (0 : Int32), .int (2 : Int32)]) (r := r_1) (n := 3) hc.s (mt_X8_in l a1 (0 : Int32) (2 : Int32) er_1) wM_X8_100 wT_X8_in wZ_X8 wC_X8_in md_X8_in ⟨rfl, rfl, Nat.le_of_ble_eq_true rfl, Nat.le_of_ble_eq_true rfl⟩ rfl hl.1 rfl (Nat.le_of_ble_eq_true rfl) dX8_line_5 ⟨Nat.zero_le _, Nat.zero_le _⟩ ?_
  obtain ⟨r_2, er_2, h⟩ := z_bd_some h
  refine m_calli (As := [.int a0, .int r_1]) (r := r_2) (M' := M) (n := 2) hc hP hS (mt_X8_whyNot l D cI cJ o H.size M a0 r_1 er_2) wM_X8_137 wI_X8_whyNot wS_X8_whyNot wZ_X8 wC_X8_whyNot md_X8_whyNot ⟨rfl, rfl, Nat.le_of_ble_eq_true rfl, Nat.le_of_ble_eq_true rfl⟩ rfl hl.1 rfl (Nat.le_of_ble_eq_true rfl) dX8_line_8 ⟨Nat.zero_le _, Nat.zero_le _⟩ (fun H locs hP hS => ?_)
  refine lv_istore_n (lv' := [(3, .int r_2), (0, .ref o), (1, .int a0), (2, .int a1)]) hx hb dX8_line_11 rfl hl (by decide) rfl (fun ls hl => ?_)
  refine lv_iload_n hx hb dX8_line_12 rfl (lv_at hl 0 rfl) ?_
  refine lv_if_eq (tgt := 22) hx hb dX8_line_13 (by decide) (fun c_13 => ?_) (fun c_13 => ?_)
  · replace h := z_ip_ c_13 h
    refine lv_aload_n hx hb dX8_line_22 rfl (lv_at hl 1 rfl) ?_
    refine lv_iload_n hx hb dX8_line_23 rfl (lv_at hl 2 rfl) ?_
    refine lv_iconst (v := 1) hx hb dX8_line_24 (by decide) ?_
    refine lv_iload_n hx hb dX8_line_25 rfl (lv_at hl 3 rfl) ?_
    obtain ⟨r_4, M_3, er_4, h⟩ := z_bd2_some h
    refine m_calli (As := [.int a0, .int (1 : Int32), .int a1]) (r := r_4) (M' := M_3) (n := 3) hc hP hS (mt_X8_newFit l D cI cJ o H.size M a0 (1 : Int32) a1 er_4) wM_X8_141 wI_X8_newFit wS_X8_newFit wZ_X8 wC_X8_newFit md_X8_newFit ⟨rfl, rfl, Nat.le_of_ble_eq_true rfl, Nat.le_of_ble_eq_true rfl⟩ rfl hl.1 rfl (Nat.le_of_ble_eq_true rfl) dX8_line_26 ⟨Nat.zero_le _, Nat.zero_le _⟩ (fun H locs hP hS => ?_)
    refine lv_istore (lv' := [(4, .int r_4), (3, .int r_2), (0, .ref o), (1, .int a0), (2, .int a1)]) hx hb dX8_line_29 hl (by decide) rfl (fun ls hl => ?_)
    refine lv_aload_n hx hb dX8_line_31 rfl (lv_at hl 2 rfl) ?_
    refine lv_iload hx hb dX8_line_32 (lv_at hl 0 rfl) ?_
    obtain ⟨M_5, eM_5, h⟩ := z_bd_some h
    refine m_callv (As := [.int r_4]) (M' := M_5) (n := 1) hc hP hS (mt_X8_settle l D cI cJ o H.size M_3 r_4 eM_5) wM_X8_214 wI_X8_settle wS_X8_settle wZ_X8 wC_X8_settle md_X8_settle ⟨rfl, rfl, Nat.le_of_ble_eq_true rfl, Nat.le_of_ble_eq_true rfl⟩ rfl hl.1 rfl (Nat.le_of_ble_eq_true rfl) dX8_line_34 ⟨Nat.zero_le _, Nat.zero_le _⟩ (fun H locs hP hS => ?_)
    refine lv_aload_n hx hb dX8_line_37 rfl (lv_at hl 2 rfl) ?_
    refine lv_iload hx hb dX8_line_38 (lv_at hl 0 rfl) ?_
    obtain ⟨r_7, M_6, er_7, h⟩ := z_bd2_some h
    refine m_calli (As := [.int r_4]) (r := r_7) (M' := M_6) (n := 1) hc hP hS (mt_X8_done l D cI cJ o H.size M_5 r_4 er_7) wM_X8_130 wI_X8_done wS_X8_done wZ_X8 wC_X8_done md_X8_done ⟨rfl, rfl, Nat.le_of_ble_eq_true rfl, Nat.le_of_ble_eq_true rfl⟩ rfl hl.1 rfl (Nat.le_of_ble_eq_true rfl) dX8_line_40 ⟨Nat.zero_le _, Nat.zero_le _⟩ (fun H locs hP hS => ?_)
    cases h
    rw [hQ]
    exact m_reti hc hr hlocks hP hS hz dX8_line_43
  · replace h := z_in_ c_13 h
    refine lv_aload_n hx hb dX8_line_16 rfl (lv_at hl 1 rfl) ?_
    refine lv_iload_n hx hb dX8_line_17 rfl (lv_at hl 0 rfl) ?_
    obtain ⟨r_9, M_8, er_9, h⟩ := z_bd2_some h
    refine m_calli (As := [.int r_2]) (r := r_9) (M' := M_8) (n := 1) hc hP hS (mt_X8_refused l D cI cJ o H.size M r_2 er_9) wM_X8_118 wI_X8_refused wS_X8_refused wZ_X8 wC_X8_refused md_X8_refused ⟨rfl, rfl, Nat.le_of_ble_eq_true rfl, Nat.le_of_ble_eq_true rfl⟩ rfl hl.1 rfl (Nat.le_of_ble_eq_true rfl) dX8_line_18 ⟨Nat.zero_le _, Nat.zero_le _⟩ (fun H locs hP hS => ?_)
    cases h
    rw [hQ]
    exact m_reti hc hr hlocks hP hS hz dX8_line_21
theorem md_X8_line : yX8_line.cls ≠ "java/lang/invoke/MethodHandle" ∧ yX8_line.cls ≠ "java/lang/invoke/VarHandle" ∧ (parseMethodDescriptor yX8_line.desc).map (fun d => d.parameters.length) = some 2 := by decide +kernel
noncomputable def f_X8_even (M : MS) (a0 : Int32) : Option (Int32 × MS) :=
  z_bd (f_X8_whyNot M a0 (1 : Int32)) fun r_1 => if r_1 = 0 then z_chk (z_in a0 6) (if (M.1 0 a0.toNatClampNeg) ≤ 0 then z_bd2 (f_X8_newFit M a0 (2 : Int32) (2 : Int32)) fun r_3 M_2 => z_bd (f_X8_settle M_2 r_3) fun M_4 => z_bd2 (f_X8_done M_4 r_3) fun r_6 M_5 => some (r_6, M_5) else z_chk (z_in ((12 : Int32) * a0) 72) (if 0 ≤ (M.1 1 ((12 : Int32) * a0).toNatClampNeg) then z_bd2 (f_X8_newFit M a0 (2 : Int32) (2 : Int32)) fun r_8 M_7 => z_bd (f_X8_settle M_7 r_8) fun M_9 => z_bd2 (f_X8_done M_9 r_8) fun r_11 M_10 => some (r_11, M_10) else z_bd2 (f_X8_refused M (3 : Int32)) fun r_13 M_12 => some (r_13, M_12))) else z_bd2 (f_X8_refused M r_1) fun r_15 M_14 => some (r_15, M_14)
set_option maxHeartbeats 4000000 in
set_option maxRecDepth 100000 in
theorem mt_X8_even (l : Launch) (D : va_G) (cI cJ : ClassId) (o sz : Nat) (M : MS) (a0 : Int32) {r_ : Int32} {N_ : MS} (h : f_X8_even M a0 = some (r_, N_)) : Met l yX8_even (z_wd yX8_even cX8_even 4 (some .int)) (z_rm 8 346) (va_Pc [.ref o, .int a0] (m_C D cI cJ o sz M)) (va_Qi (fun (r1 : Int32) (M1 : MS) => r1 = r_ ∧ M1 = N_) (m_C D cI cJ o sz) (m_A o)) 0 0 (m_A o) := by
  refine Met.ofW (cc := cX8_even) (maxL := 4) (ret := (some .int)) (by decide) rfl ?_
  intro p e s m args below meth c s₁ B hml hv
  obtain ⟨hav, hz, hP0, hK⟩ := hv
  have hx := B.exec
  have hb := B.bytes
  have hr := B.returns
  have hts := atoms_spec (ws := z_wd yX8_even cX8_even 4 (some .int)) B.pre
  have hown : s.vm.findClass RX8 = some m.cls := findClass_of_methodNamed B.named
  have hlocks := B.notSynchronized
  have hc : m_X p s m args c cX8_even 4 D cI cJ := ⟨hx, hb, hml, fun w hw => hts w (List.mem_cons_of_mem _ hw), hown, hK⟩
  have hl := lv_entry ([.ref o, .int a0]) (n := 4) (Nat.le_of_ble_eq_true rfl)
  have hE : entryFrame m args 4 = F0 m 0 ((lg_sl ([.ref o, .int a0]) ++ List.replicate (4 - (lg_sl ([.ref o, .int a0])).length) Slot.unset).toArray) [] := by rw [hav]; exact lg_entry_eq m _ _
  rw [hE]
  clear hE hav
  generalize (lg_sl ([.ref o, .int a0]) ++ List.replicate (4 - (lg_sl ([.ref o, .int a0])).length) Slot.unset).toArray = ls at hl ⊢
  have hl : lv_has ls 4 [(0, .ref o), (1, .int a0)] := hl
  obtain ⟨Q, hQ⟩ : ∃ Q, Q = MQ below (va_Qi (fun (r1 : Int32) (M1 : MS) => r1 = r_ ∧ M1 = N_) (m_C D cI cJ o sz) (m_A o)) args s 0 0 (m_A o) := ⟨_, rfl⟩
  rw [← hQ]
  suffices hmain : ∀ (H : Heap) (locs : List Loc), va_P D z_cls (m_W cI cJ o M) H → va_S (m_A o) s.heap H locs → W p l e (z_rm 8 346) s m args below meth c H locs 0 0 Q (F0 m 0 ls []) from hmain s.heap [] hP0 va_S.rf
  clear hP0
  intro H locs hP hS
  unfold f_X8_even at h
  refine lv_aload_n hx hb dX8_even_0 rfl (lv_at hl 0 rfl) ?_
  refine lv_iload_n hx hb dX8_even_1 rfl (lv_at hl 1 rfl) ?_
  refine lv_iconst (v := 1) hx hb dX8_even_2 (by decide) ?_
  obtain ⟨r_1, er_1, h⟩ := z_bd_some h
  refine m_calli (As := [.int a0, .int (1 : Int32)]) (r := r_1) (M' := M) (n := 2) hc hP hS (mt_X8_whyNot l D cI cJ o H.size M a0 (1 : Int32) er_1) wM_X8_137 wI_X8_whyNot wS_X8_whyNot wZ_X8 wC_X8_whyNot md_X8_whyNot ⟨rfl, rfl, Nat.le_of_ble_eq_true rfl, Nat.le_of_ble_eq_true rfl⟩ rfl hl.1 rfl (Nat.le_of_ble_eq_true rfl) dX8_even_3 ⟨Nat.zero_le _, Nat.zero_le _⟩ (fun H locs hP hS => ?_)
  refine lv_istore_n (lv' := [(2, .int r_1), (0, .ref o), (1, .int a0)]) hx hb dX8_even_6 rfl hl (by decide) rfl (fun ls hl => ?_)
  refine lv_iload_n hx hb dX8_even_7 rfl (lv_at hl 0 rfl) ?_
  refine lv_if_eq (tgt := 17) hx hb dX8_even_8 (by decide) (fun c_8 => ?_) (fun c_8 => ?_)
  · replace h := z_ip_ c_8 h
    refine lv_aload_n hx hb dX8_even_17 rfl (lv_at hl 1 rfl) ?_
    refine m_get (k := 0) (v := .ref (o + 1)) hc hP (by decide) wF_X8_7 rfl dX8_even_18 ?_
    refine lv_iload_n hx hb dX8_even_21 rfl (lv_at hl 2 rfl) ?_
    obtain ⟨c_22, h⟩ := z_chk_some h
    refine m_iald (k := 0) (j := 1) hc hP (ma_0 ..) c_22 dX8_even_22 ?_
    refine lv_if_le (tgt := 44) hx hb dX8_even_23 (by decide) (fun c_23 => ?_) (fun c_23 => ?_)
    · replace h := z_ip_ c_23 h
      refine lv_aload_n hx hb dX8_even_44 rfl (lv_at hl 1 rfl) ?_
      refine lv_iload_n hx hb dX8_even_45 rfl (lv_at hl 2 rfl) ?_
      refine lv_iconst (v := 2) hx hb dX8_even_46 (by decide) ?_
      refine lv_iconst (v := 2) hx hb dX8_even_47 (by decide) ?_
      obtain ⟨r_3, M_2, er_3, h⟩ := z_bd2_some h
      refine m_calli (As := [.int a0, .int (2 : Int32), .int (2 : Int32)]) (r := r_3) (M' := M_2) (n := 3) hc hP hS (mt_X8_newFit l D cI cJ o H.size M a0 (2 : Int32) (2 : Int32) er_3) wM_X8_141 wI_X8_newFit wS_X8_newFit wZ_X8 wC_X8_newFit md_X8_newFit ⟨rfl, rfl, Nat.le_of_ble_eq_true rfl, Nat.le_of_ble_eq_true rfl⟩ rfl hl.1 rfl (Nat.le_of_ble_eq_true rfl) dX8_even_48 ⟨Nat.zero_le _, Nat.zero_le _⟩ (fun H locs hP hS => ?_)
      refine lv_istore_n (lv' := [(3, .int r_3), (2, .int r_1), (0, .ref o), (1, .int a0)]) hx hb dX8_even_51 rfl hl (by decide) rfl (fun ls hl => ?_)
      refine lv_aload_n hx hb dX8_even_52 rfl (lv_at hl 2 rfl) ?_
      refine lv_iload_n hx hb dX8_even_53 rfl (lv_at hl 0 rfl) ?_
      obtain ⟨M_4, eM_4, h⟩ := z_bd_some h
      refine m_callv (As := [.int r_3]) (M' := M_4) (n := 1) hc hP hS (mt_X8_settle l D cI cJ o H.size M_2 r_3 eM_4) wM_X8_214 wI_X8_settle wS_X8_settle wZ_X8 wC_X8_settle md_X8_settle ⟨rfl, rfl, Nat.le_of_ble_eq_true rfl, Nat.le_of_ble_eq_true rfl⟩ rfl hl.1 rfl (Nat.le_of_ble_eq_true rfl) dX8_even_54 ⟨Nat.zero_le _, Nat.zero_le _⟩ (fun H locs hP hS => ?_)
      refine lv_aload_n hx hb dX8_even_57 rfl (lv_at hl 2 rfl) ?_
      refine lv_iload_n hx hb dX8_even_58 rfl (lv_at hl 0 rfl) ?_
      obtain ⟨r_6, M_5, er_6, h⟩ := z_bd2_some h
      refine m_calli (As := [.int r_3]) (r := r_6) (M' := M_5) (n := 1) hc hP hS (mt_X8_done l D cI cJ o H.size M_4 r_3 er_6) wM_X8_130 wI_X8_done wS_X8_done wZ_X8 wC_X8_done md_X8_done ⟨rfl, rfl, Nat.le_of_ble_eq_true rfl, Nat.le_of_ble_eq_true rfl⟩ rfl hl.1 rfl (Nat.le_of_ble_eq_true rfl) dX8_even_59 ⟨Nat.zero_le _, Nat.zero_le _⟩ (fun H locs hP hS => ?_)
      cases h
      rw [hQ]
      exact m_reti hc hr hlocks hP hS hz dX8_even_62
    · replace h := z_in_ c_23 h
      refine lv_aload_n hx hb dX8_even_26 rfl (lv_at hl 1 rfl) ?_
      refine m_get (k := 1) (v := .ref (o + 2)) hc hP (by decide) wF_X8_13 rfl dX8_even_27 ?_
      refine lv_bipush (v := 12) hx hb dX8_even_30 (by decide) ?_
      refine lv_iload_n hx hb dX8_even_32 rfl (lv_at hl 2 rfl) ?_
      refine lv_imul hx hb dX8_even_33 ?_
      obtain ⟨c_34, h⟩ := z_chk_some h
      refine m_iald (k := 1) (j := 2) hc hP (ma_1 ..) c_34 dX8_even_34 ?_
      refine lv_if_ge (tgt := 44) hx hb dX8_even_35 (by decide) (fun c_35 => ?_) (fun c_35 => ?_)
      · replace h := z_ip_ c_35 h
        refine lv_aload_n hx hb dX8_even_44 rfl (lv_at hl 1 rfl) ?_
        refine lv_iload_n hx hb dX8_even_45 rfl (lv_at hl 2 rfl) ?_
        refine lv_iconst (v := 2) hx hb dX8_even_46 (by decide) ?_
        refine lv_iconst (v := 2) hx hb dX8_even_47 (by decide) ?_
        obtain ⟨r_8, M_7, er_8, h⟩ := z_bd2_some h
        refine m_calli (As := [.int a0, .int (2 : Int32), .int (2 : Int32)]) (r := r_8) (M' := M_7) (n := 3) hc hP hS (mt_X8_newFit l D cI cJ o H.size M a0 (2 : Int32) (2 : Int32) er_8) wM_X8_141 wI_X8_newFit wS_X8_newFit wZ_X8 wC_X8_newFit md_X8_newFit ⟨rfl, rfl, Nat.le_of_ble_eq_true rfl, Nat.le_of_ble_eq_true rfl⟩ rfl hl.1 rfl (Nat.le_of_ble_eq_true rfl) dX8_even_48 ⟨Nat.zero_le _, Nat.zero_le _⟩ (fun H locs hP hS => ?_)
        refine lv_istore_n (lv' := [(3, .int r_8), (2, .int r_1), (0, .ref o), (1, .int a0)]) hx hb dX8_even_51 rfl hl (by decide) rfl (fun ls hl => ?_)
        refine lv_aload_n hx hb dX8_even_52 rfl (lv_at hl 2 rfl) ?_
        refine lv_iload_n hx hb dX8_even_53 rfl (lv_at hl 0 rfl) ?_
        obtain ⟨M_9, eM_9, h⟩ := z_bd_some h
        refine m_callv (As := [.int r_8]) (M' := M_9) (n := 1) hc hP hS (mt_X8_settle l D cI cJ o H.size M_7 r_8 eM_9) wM_X8_214 wI_X8_settle wS_X8_settle wZ_X8 wC_X8_settle md_X8_settle ⟨rfl, rfl, Nat.le_of_ble_eq_true rfl, Nat.le_of_ble_eq_true rfl⟩ rfl hl.1 rfl (Nat.le_of_ble_eq_true rfl) dX8_even_54 ⟨Nat.zero_le _, Nat.zero_le _⟩ (fun H locs hP hS => ?_)
        refine lv_aload_n hx hb dX8_even_57 rfl (lv_at hl 2 rfl) ?_
        refine lv_iload_n hx hb dX8_even_58 rfl (lv_at hl 0 rfl) ?_
        obtain ⟨r_11, M_10, er_11, h⟩ := z_bd2_some h
        refine m_calli (As := [.int r_8]) (r := r_11) (M' := M_10) (n := 1) hc hP hS (mt_X8_done l D cI cJ o H.size M_9 r_8 er_11) wM_X8_130 wI_X8_done wS_X8_done wZ_X8 wC_X8_done md_X8_done ⟨rfl, rfl, Nat.le_of_ble_eq_true rfl, Nat.le_of_ble_eq_true rfl⟩ rfl hl.1 rfl (Nat.le_of_ble_eq_true rfl) dX8_even_59 ⟨Nat.zero_le _, Nat.zero_le _⟩ (fun H locs hP hS => ?_)
        cases h
        rw [hQ]
        exact m_reti hc hr hlocks hP hS hz dX8_even_62
      · replace h := z_in_ c_35 h
        refine lv_aload_n hx hb dX8_even_38 rfl (lv_at hl 1 rfl) ?_
        refine lv_iconst (v := 3) hx hb dX8_even_39 (by decide) ?_
        obtain ⟨r_13, M_12, er_13, h⟩ := z_bd2_some h
        refine m_calli (As := [.int (3 : Int32)]) (r := r_13) (M' := M_12) (n := 1) hc hP hS (mt_X8_refused l D cI cJ o H.size M (3 : Int32) er_13) wM_X8_118 wI_X8_refused wS_X8_refused wZ_X8 wC_X8_refused md_X8_refused ⟨rfl, rfl, Nat.le_of_ble_eq_true rfl, Nat.le_of_ble_eq_true rfl⟩ rfl hl.1 rfl (Nat.le_of_ble_eq_true rfl) dX8_even_40 ⟨Nat.zero_le _, Nat.zero_le _⟩ (fun H locs hP hS => ?_)
        cases h
        rw [hQ]
        exact m_reti hc hr hlocks hP hS hz dX8_even_43
  · replace h := z_in_ c_8 h
    refine lv_aload_n hx hb dX8_even_11 rfl (lv_at hl 1 rfl) ?_
    refine lv_iload_n hx hb dX8_even_12 rfl (lv_at hl 0 rfl) ?_
    obtain ⟨r_15, M_14, er_15, h⟩ := z_bd2_some h
    refine m_calli (As := [.int r_1]) (r := r_15) (M' := M_14) (n := 1) hc hP hS (mt_X8_refused l D cI cJ o H.size M r_1 er_15) wM_X8_118 wI_X8_refused wS_X8_refused wZ_X8 wC_X8_refused md_X8_refused ⟨rfl, rfl, Nat.le_of_ble_eq_true rfl, Nat.le_of_ble_eq_true rfl⟩ rfl hl.1 rfl (Nat.le_of_ble_eq_true rfl) dX8_even_13 ⟨Nat.zero_le _, Nat.zero_le _⟩ (fun H locs hP hS => ?_)
    cases h
    rw [hQ]
    exact m_reti hc hr hlocks hP hS hz dX8_even_16
theorem md_X8_even : yX8_even.cls ≠ "java/lang/invoke/MethodHandle" ∧ yX8_even.cls ≠ "java/lang/invoke/VarHandle" ∧ (parseMethodDescriptor yX8_even.desc).map (fun d => d.parameters.length) = some 1 := by decide +kernel
noncomputable def f_X8_shorts_L125 (M_5 : MS) (a2 : Int32) (r_6 : Int32) (x10_10 : Int32) (x11_17 : Int32) (x12_22 : Int32) (x13_23 : Int32) : Option ((Int32) ⊕ (Int32 × Int32)) :=
  z_chk (z_in r_6 10) (if (((12 : Int32) * r_6) + (M_5.1 7 r_6.toNatClampNeg)) ≤ x13_23 then some (.inl (x12_22)) else z_chk (z_in x13_23 120) (z_chk (z_in x13_23 120) (z_chk (z_in x13_23 120) (z_bd (if 0 ≤ ((M_5.1 10 x13_23.toNatClampNeg) * (((((1 : Int32) <<< (a2 &&& 31)) * (M_5.1 9 x13_23.toNatClampNeg)) - x10_10) - (x11_17 * (M_5.1 8 x13_23.toNatClampNeg)))) then some (((M_5.1 10 x13_23.toNatClampNeg) * (((((1 : Int32) <<< (a2 &&& 31)) * (M_5.1 9 x13_23.toNatClampNeg)) - x10_10) - (x11_17 * (M_5.1 8 x13_23.toNatClampNeg))))) else some ((-((M_5.1 10 x13_23.toNatClampNeg) * (((((1 : Int32) <<< (a2 &&& 31)) * (M_5.1 9 x13_23.toNatClampNeg)) - x10_10) - (x11_17 * (M_5.1 8 x13_23.toNatClampNeg))))))) fun v_25 => if v_25 ≤ x12_22 then some (.inr (x12_22, (x13_23 + 1))) else some (.inr (v_25, (x13_23 + 1)))))))
noncomputable def f_X8_shorts_L97 (M_5 : MS) (a1 : Int32) (a2 : Int32) (r_6 : Int32) (x10_10 : Int32) (x7_14 : Int32) (x8_15 : Int32) (x9_16 : Int32) (x11_17 : Int32) : Option ((Int32 × Int32 × Int32) ⊕ (Int32 × Int32 × Int32 × Int32)) :=
  z_bd (if a1 = 0 then some ((0 : Int32)) else some (((8 : Int32) * ((1 : Int32) <<< (a2 &&& 31))))) fun v_21 => if v_21 < x11_17 then some (.inl (x7_14, x8_15, x9_16)) else z_bd (z_lp (fun x => f_X8_shorts_L125 M_5 a2 r_6 x10_10 x11_17 x.1 x.2) ((0 : Int32), ((12 : Int32) * r_6))) fun y12_24 => if x7_14 = (-1 : Int32) then some (.inr (y12_24, x10_10, x11_17, (x11_17 + 1))) else if x7_14 ≤ y12_24 then some (.inr (x7_14, x8_15, x9_16, (x11_17 + 1))) else some (.inr (y12_24, x10_10, x11_17, (x11_17 + 1)))
noncomputable def f_X8_shorts_L72 (M_5 : MS) (a1 : Int32) (a2 : Int32) (r_6 : Int32) (x7_7 : Int32) (x8_8 : Int32) (x9_9 : Int32) (x10_10 : Int32) : Option ((Int32 × Int32) ⊕ (Int32 × Int32 × Int32 × Int32)) :=
  if ((64 : Int32) * ((1 : Int32) <<< (a2 &&& 31))) < x10_10 then some (.inl (x8_8, x9_9)) else z_bd (if a1 = 0 then some ((0 : Int32)) else some (((-8 : Int32) * ((1 : Int32) <<< (a2 &&& 31))))) fun v_13 => z_bd3 (z_lp (fun x => f_X8_shorts_L97 M_5 a1 a2 r_6 x10_10 x.1 x.2.1 x.2.2.1 x.2.2.2) (x7_7, x8_8, x9_9, v_13)) fun y7_18 y8_19 y9_20 => some (.inr (y7_18, y8_19, y9_20, (x10_10 + 1)))
noncomputable def f_X8_shorts (M : MS) (a0 : Int32) (a1 : Int32) (a2 : Int32) : Option (Int32 × MS) :=
  z_bd (f_X8_in a1 (0 : Int32) (1 : Int32)) fun r_1 => z_bd (if r_1 = 0 then some ((0 : Int32)) else z_bd (f_X8_in a2 (0 : Int32) (2 : Int32)) fun r_3 => if r_3 = 0 then some ((0 : Int32)) else some ((1 : Int32))) fun v_2 => z_bd (f_X8_whyNot M a0 v_2) fun r_4 => if r_4 = 0 then z_bd2 (f_X8_newFit M a0 (3 : Int32) a1) fun r_6 M_5 => z_bd2 (z_lp (fun x => f_X8_shorts_L72 M_5 a1 a2 r_6 x.1 x.2.1 x.2.2.1 x.2.2.2) ((-1 : Int32), (0 : Int32), (0 : Int32), ((-64 : Int32) * ((1 : Int32) <<< (a2 &&& 31))))) fun y8_11 y9_12 => z_bd (f_X8_is M_5 y8_11.toInt64 ((1 : Int32) <<< (a2 &&& 31)).toInt64) fun M_26 => z_bd (f_X8_number M_26 r_6 (0 : Int32) (0 : Int32) (M_26.2 21 0) (M_26.2 22 0)) fun M_27 => z_bd (f_X8_is M_27 y9_12.toInt64 ((1 : Int32) <<< (a2 &&& 31)).toInt64) fun M_28 => z_bd (f_X8_number M_28 r_6 (0 : Int32) (1 : Int32) (M_28.2 21 0) (M_28.2 22 0)) fun M_29 => z_bd2 (f_X8_done M_29 r_6) fun r_31 M_30 => some (r_31, M_30) else z_bd2 (f_X8_refused M r_4) fun r_33 M_32 => some (r_33, M_32)
set_option maxHeartbeats 4000000 in
set_option maxRecDepth 100000 in
theorem mt_X8_shorts (l : Launch) (D : va_G) (cI cJ : ClassId) (o sz : Nat) (M : MS) (a0 : Int32) (a1 : Int32) (a2 : Int32) {r_ : Int32} {N_ : MS} (h : f_X8_shorts M a0 a1 a2 = some (r_, N_)) : Met l yX8_shorts (z_wd yX8_shorts cX8_shorts 15 (some .int)) (z_rm 2 87) (va_Pc [.ref o, .int a0, .int a1, .int a2] (m_C D cI cJ o sz M)) (va_Qi (fun (r1 : Int32) (M1 : MS) => r1 = r_ ∧ M1 = N_) (m_C D cI cJ o sz) (m_A o)) 0 0 (m_A o) := by
  refine Met.ofW (cc := cX8_shorts) (maxL := 15) (ret := (some .int)) (by decide) rfl ?_
  intro p e s m args below meth c s₁ B hml hv
  obtain ⟨hav, hz, hP0, hK⟩ := hv
  have hx := B.exec
  have hb := B.bytes
  have hr := B.returns
  have hts := atoms_spec (ws := z_wd yX8_shorts cX8_shorts 15 (some .int)) B.pre
  have hown : s.vm.findClass RX8 = some m.cls := findClass_of_methodNamed B.named
  have hlocks := B.notSynchronized
  have hc : m_X p s m args c cX8_shorts 15 D cI cJ := ⟨hx, hb, hml, fun w hw => hts w (List.mem_cons_of_mem _ hw), hown, hK⟩
  have hl := lv_entry ([.ref o, .int a0, .int a1, .int a2]) (n := 15) (Nat.le_of_ble_eq_true rfl)
  have hE : entryFrame m args 15 = F0 m 0 ((lg_sl ([.ref o, .int a0, .int a1, .int a2]) ++ List.replicate (15 - (lg_sl ([.ref o, .int a0, .int a1, .int a2])).length) Slot.unset).toArray) [] := by rw [hav]; exact lg_entry_eq m _ _
  rw [hE]
  clear hE hav
  generalize (lg_sl ([.ref o, .int a0, .int a1, .int a2]) ++ List.replicate (15 - (lg_sl ([.ref o, .int a0, .int a1, .int a2])).length) Slot.unset).toArray = ls at hl ⊢
  have hl : lv_has ls 15 [(0, .ref o), (1, .int a0), (2, .int a1), (3, .int a2)] := hl
  obtain ⟨Q, hQ⟩ : ∃ Q, Q = MQ below (va_Qi (fun (r1 : Int32) (M1 : MS) => r1 = r_ ∧ M1 = N_) (m_C D cI cJ o sz) (m_A o)) args s 0 0 (m_A o) := ⟨_, rfl⟩
  rw [← hQ]
  suffices hmain : ∀ (H : Heap) (locs : List Loc), va_P D z_cls (m_W cI cJ o M) H → va_S (m_A o) s.heap H locs → W p l e (z_rm 2 87) s m args below meth c H locs 0 0 Q (F0 m 0 ls []) from hmain s.heap [] hP0 va_S.rf
  clear hP0
  intro H locs hP hS
  unfold f_X8_shorts at h
  refine lv_aload_n hx hb dX8_shorts_0 rfl (lv_at hl 0 rfl) ?_
  refine lv_iload_n hx hb dX8_shorts_1 rfl (lv_at hl 1 rfl) ?_
  refine lv_iload_n hx hb dX8_shorts_2 rfl (lv_at hl 2 rfl) ?_
  refine lv_iconst (v := 0) hx hb dX8_shorts_3 (by decide) ?_
  refine lv_iconst (v := 1) hx hb dX8_shorts_4 (by decide) ?_
  obtain ⟨r_1, er_1, h⟩ := z_bd_some h
  refine s_calli (As := [.int a1, .int (0 : Int32), .int (1 : Int32)]) (r := r_1) (n := 3) hc.s (mt_X8_in l a1 (0 : Int32) (1 : Int32) er_1) wM_X8_100 wT_X8_in wZ_X8 wC_X8_in md_X8_in ⟨rfl, rfl, Nat.le_of_ble_eq_true rfl, Nat.le_of_ble_eq_true rfl⟩ rfl hl.1 rfl (Nat.le_of_ble_eq_true rfl) dX8_shorts_5 ⟨Nat.zero_le _, Nat.zero_le _⟩ ?_
  obtain ⟨v_2, hJ, h⟩ := z_bd_some h
  have J_25 : ∀ (H : Heap) (locs : List Loc) (ls : Array Slot), va_P D z_cls (m_W cI cJ o M) H → va_S (m_A o) s.heap H locs → lv_has ls 15 [(0, .ref o), (1, .int a0), (2, .int a1), (3, .int a2)] → W p l e (z_rm 2 87) s m args below meth c H locs 0 0 Q (F0 m 25 ls [.int v_2, .int a0, .ref o]) := by
    intro H locs ls hP hS hl
    obtain ⟨r_4, er_4, h⟩ := z_bd_some h
    refine m_calli (As := [.int a0, .int v_2]) (r := r_4) (M' := M) (n := 2) hc hP hS (mt_X8_whyNot l D cI cJ o H.size M a0 v_2 er_4) wM_X8_137 wI_X8_whyNot wS_X8_whyNot wZ_X8 wC_X8_whyNot md_X8_whyNot ⟨rfl, rfl, Nat.le_of_ble_eq_true rfl, Nat.le_of_ble_eq_true rfl⟩ rfl hl.1 rfl (Nat.le_of_ble_eq_true rfl) dX8_shorts_25 ⟨Nat.zero_le _, Nat.zero_le _⟩ (fun H locs hP hS => ?_)
    refine lv_istore (lv' := [(4, .int r_4), (0, .ref o), (1, .int a0), (2, .int a1), (3, .int a2)]) hx hb dX8_shorts_28 hl (by decide) rfl (fun ls hl => ?_)
    refine lv_iload hx hb dX8_shorts_30 (lv_at hl 0 rfl) ?_
    refine lv_if_eq (tgt := 42) hx hb dX8_shorts_32 (by decide) (fun c_32 => ?_) (fun c_32 => ?_)
    · replace h := z_ip_ c_32 h
      refine lv_aload_n hx hb dX8_shorts_42 rfl (lv_at hl 1 rfl) ?_
      refine lv_iload_n hx hb dX8_shorts_43 rfl (lv_at hl 2 rfl) ?_
      refine lv_iconst (v := 3) hx hb dX8_shorts_44 (by decide) ?_
      refine lv_iload_n hx hb dX8_shorts_45 rfl (lv_at hl 3 rfl) ?_
      obtain ⟨r_6, M_5, er_6, h⟩ := z_bd2_some h
      refine m_calli (As := [.int a0, .int (3 : Int32), .int a1]) (r := r_6) (M' := M_5) (n := 3) hc hP hS (mt_X8_newFit l D cI cJ o H.size M a0 (3 : Int32) a1 er_6) wM_X8_141 wI_X8_newFit wS_X8_newFit wZ_X8 wC_X8_newFit md_X8_newFit ⟨rfl, rfl, Nat.le_of_ble_eq_true rfl, Nat.le_of_ble_eq_true rfl⟩ rfl hl.1 rfl (Nat.le_of_ble_eq_true rfl) dX8_shorts_46 ⟨Nat.zero_le _, Nat.zero_le _⟩ (fun H locs hP hS => ?_)
      refine lv_istore (lv' := [(5, .int r_6), (4, .int r_4), (0, .ref o), (1, .int a0), (2, .int a1), (3, .int a2)]) hx hb dX8_shorts_49 hl (by decide) rfl (fun ls hl => ?_)
      refine lv_iconst (v := 1) hx hb dX8_shorts_51 (by decide) ?_
      refine lv_iload_n hx hb dX8_shorts_52 rfl (lv_at hl 5 rfl) ?_
      refine lv_ishl hx hb dX8_shorts_53 ?_
      refine lv_istore (lv' := [(6, .int ((1 : Int32) <<< (a2 &&& 31))), (5, .int r_6), (4, .int r_4), (0, .ref o), (1, .int a0), (2, .int a1), (3, .int a2)]) hx hb dX8_shorts_54 hl (by decide) rfl (fun ls hl => ?_)
      refine lv_iconst (v := -1) hx hb dX8_shorts_56 (by decide) ?_
      refine lv_istore (lv' := [(7, .int (-1 : Int32)), (6, .int ((1 : Int32) <<< (a2 &&& 31))), (5, .int r_6), (4, .int r_4), (0, .ref o), (1, .int a0), (2, .int a1), (3, .int a2)]) hx hb dX8_shorts_57 hl (by decide) rfl (fun ls hl => ?_)
      refine lv_iconst (v := 0) hx hb dX8_shorts_59 (by decide) ?_
      refine lv_istore (lv' := [(8, .int (0 : Int32)), (7, .int (-1 : Int32)), (6, .int ((1 : Int32) <<< (a2 &&& 31))), (5, .int r_6), (4, .int r_4), (0, .ref o), (1, .int a0), (2, .int a1), (3, .int a2)]) hx hb dX8_shorts_60 hl (by decide) rfl (fun ls hl => ?_)
      refine lv_iconst (v := 0) hx hb dX8_shorts_62 (by decide) ?_
      refine lv_istore (lv' := [(9, .int (0 : Int32)), (8, .int (0 : Int32)), (7, .int (-1 : Int32)), (6, .int ((1 : Int32) <<< (a2 &&& 31))), (5, .int r_6), (4, .int r_4), (0, .ref o), (1, .int a0), (2, .int a1), (3, .int a2)]) hx hb dX8_shorts_63 hl (by decide) rfl (fun ls hl => ?_)
      refine lv_bipush (v := -64) hx hb dX8_shorts_65 (by decide) ?_
      refine lv_iload hx hb dX8_shorts_67 (lv_at hl 3 rfl) ?_
      refine lv_imul hx hb dX8_shorts_69 ?_
      refine lv_istore (lv' := [(10, .int ((-64 : Int32) * ((1 : Int32) <<< (a2 &&& 31)))), (9, .int (0 : Int32)), (8, .int (0 : Int32)), (7, .int (-1 : Int32)), (6, .int ((1 : Int32) <<< (a2 &&& 31))), (5, .int r_6), (4, .int r_4), (0, .ref o), (1, .int a0), (2, .int a1), (3, .int a2)]) hx hb dX8_shorts_70 hl (by decide) rfl (fun ls hl => ?_)
      obtain ⟨y8_11, y9_12, hlp, h⟩ := z_bd2_some h
      refine z_lp_ind (P := fun x => ∀ (H : Heap) (locs : List Loc) (ls : Array Slot), va_P D z_cls (m_W cI cJ o M_5) H → va_S (m_A o) s.heap H locs → lv_has ls 15 [(0, .ref o), (2, .int a1), (5, .int r_6), (6, .int ((1 : Int32) <<< (a2 &&& 31))), (7, .int x.1), (8, .int x.2.1), (9, .int x.2.2.1), (10, .int x.2.2.2)] → W p l e (z_rm 2 87) s m args below meth c H locs 0 0 Q (F0 m 72 ls [])) (Qe := fun y => ∀ (H : Heap) (locs : List Loc) (ls : Array Slot), va_P D z_cls (m_W cI cJ o M_5) H → va_S (m_A o) s.heap H locs → lv_has ls 15 [(0, .ref o), (5, .int r_6), (6, .int ((1 : Int32) <<< (a2 &&& 31))), (8, .int y.1), (9, .int y.2)] → W p l e (z_rm 2 87) s m args below meth c H locs 0 0 Q (F0 m 251 ls [])) ?_ hlp ?_ H locs ls hP hS (lv_sub hl [7, 9, 5, 4, 3, 2, 1, 0] rfl)
      · clear h hlp hP hS hl
        rintro ⟨x7_7, x8_8, x9_9, x10_10⟩ oo h K_72 H locs ls hP hS hl
        have hP : va_P D z_cls (m_W cI cJ o M_5) H := hP
        have hl : lv_has ls 15 [(0, .ref o), (2, .int a1), (5, .int r_6), (6, .int ((1 : Int32) <<< (a2 &&& 31))), (7, .int x7_7), (8, .int x8_8), (9, .int x9_9), (10, .int x10_10)] := hl
        have h : f_X8_shorts_L72 M_5 a1 a2 r_6 x7_7 x8_8 x9_9 x10_10 = some oo := h
        unfold f_X8_shorts_L72 at h
        refine lv_iload hx hb dX8_shorts_72 (lv_at hl 7 rfl) ?_
        refine lv_bipush (v := 64) hx hb dX8_shorts_74 (by decide) ?_
        refine lv_iload hx hb dX8_shorts_76 (lv_at hl 3 rfl) ?_
        refine lv_imul hx hb dX8_shorts_78 ?_
        refine lv_icmp_gt (tgt := 251) hx hb dX8_shorts_79 (by decide) (fun c_79 => ?_) (fun c_79 => ?_)
        · replace h := z_ip_ c_79 h
          cases h
          exact K_72 H locs ls hP hS (lv_sub hl [0, 2, 3, 5, 6] rfl)
        · replace h := z_in_ c_79 h
          refine lv_iload_n hx hb dX8_shorts_82 rfl (lv_at hl 1 rfl) ?_
          obtain ⟨v_13, hJ, h⟩ := z_bd_some h
          have J_95 : ∀ (H : Heap) (locs : List Loc) (ls : Array Slot), va_P D z_cls (m_W cI cJ o M_5) H → va_S (m_A o) s.heap H locs → lv_has ls 15 [(0, .ref o), (2, .int a1), (5, .int r_6), (6, .int ((1 : Int32) <<< (a2 &&& 31))), (7, .int x7_7), (8, .int x8_8), (9, .int x9_9), (10, .int x10_10)] → W p l e (z_rm 2 87) s m args below meth c H locs 0 0 Q (F0 m 95 ls [.int v_13]) := by
            intro H locs ls hP hS hl
            refine lv_istore (lv' := [(11, .int v_13), (0, .ref o), (2, .int a1), (5, .int r_6), (6, .int ((1 : Int32) <<< (a2 &&& 31))), (7, .int x7_7), (8, .int x8_8), (9, .int x9_9), (10, .int x10_10)]) hx hb dX8_shorts_95 hl (by decide) rfl (fun ls hl => ?_)
            obtain ⟨y7_18, y8_19, y9_20, hlp, h⟩ := z_bd3_some h
            refine z_lp_ind (P := fun x => ∀ (H : Heap) (locs : List Loc) (ls : Array Slot), va_P D z_cls (m_W cI cJ o M_5) H → va_S (m_A o) s.heap H locs → lv_has ls 15 [(0, .ref o), (2, .int a1), (5, .int r_6), (6, .int ((1 : Int32) <<< (a2 &&& 31))), (7, .int x.1), (8, .int x.2.1), (9, .int x.2.2.1), (10, .int x10_10), (11, .int x.2.2.2)] → W p l e (z_rm 2 87) s m args below meth c H locs 0 0 Q (F0 m 97 ls [])) (Qe := fun y => ∀ (H : Heap) (locs : List Loc) (ls : Array Slot), va_P D z_cls (m_W cI cJ o M_5) H → va_S (m_A o) s.heap H locs → lv_has ls 15 [(0, .ref o), (2, .int a1), (5, .int r_6), (6, .int ((1 : Int32) <<< (a2 &&& 31))), (7, .int y.1), (8, .int y.2.1), (9, .int y.2.2), (10, .int x10_10)] → W p l e (z_rm 2 87) s m args below meth c H locs 0 0 Q (F0 m 245 ls [])) ?_ hlp ?_ H locs ls hP hS (lv_sub hl [1, 2, 3, 4, 5, 6, 7, 8, 0] rfl)
            · clear h hlp hP hS hl
              rintro ⟨x7_14, x8_15, x9_16, x11_17⟩ oo h K_97 H locs ls hP hS hl
              have hP : va_P D z_cls (m_W cI cJ o M_5) H := hP
              have hl : lv_has ls 15 [(0, .ref o), (2, .int a1), (5, .int r_6), (6, .int ((1 : Int32) <<< (a2 &&& 31))), (7, .int x7_14), (8, .int x8_15), (9, .int x9_16), (10, .int x10_10), (11, .int x11_17)] := hl
              have h : f_X8_shorts_L97 M_5 a1 a2 r_6 x10_10 x7_14 x8_15 x9_16 x11_17 = some oo := h
              unfold f_X8_shorts_L97 at h
              refine lv_iload hx hb dX8_shorts_97 (lv_at hl 8 rfl) ?_
              refine lv_iload_n hx hb dX8_shorts_99 rfl (lv_at hl 1 rfl) ?_
              obtain ⟨v_21, hJ, h⟩ := z_bd_some h
              have J_112 : ∀ (H : Heap) (locs : List Loc) (ls : Array Slot), va_P D z_cls (m_W cI cJ o M_5) H → va_S (m_A o) s.heap H locs → lv_has ls 15 [(0, .ref o), (2, .int a1), (5, .int r_6), (6, .int ((1 : Int32) <<< (a2 &&& 31))), (7, .int x7_14), (8, .int x8_15), (9, .int x9_16), (10, .int x10_10), (11, .int x11_17)] → W p l e (z_rm 2 87) s m args below meth c H locs 0 0 Q (F0 m 112 ls [.int v_21, .int x11_17]) := by
                intro H locs ls hP hS hl
                refine lv_icmp_gt (tgt := 245) hx hb dX8_shorts_112 (by decide) (fun c_112 => ?_) (fun c_112 => ?_)
                · replace h := z_ip_ c_112 h
                  cases h
                  exact K_97 H locs ls hP hS (lv_sub hl [0, 1, 2, 3, 4, 5, 6, 7] rfl)
                · replace h := z_in_ c_112 h
                  refine lv_iconst (v := 0) hx hb dX8_shorts_115 (by decide) ?_
                  refine lv_istore (lv' := [(12, .int (0 : Int32)), (0, .ref o), (2, .int a1), (5, .int r_6), (6, .int ((1 : Int32) <<< (a2 &&& 31))), (7, .int x7_14), (8, .int x8_15), (9, .int x9_16), (10, .int x10_10), (11, .int x11_17)]) hx hb dX8_shorts_116 hl (by decide) rfl (fun ls hl => ?_)
                  refine lv_bipush (v := 12) hx hb dX8_shorts_118 (by decide) ?_
                  refine lv_iload hx hb dX8_shorts_120 (lv_at hl 3 rfl) ?_
                  refine lv_imul hx hb dX8_shorts_122 ?_
                  refine lv_istore (lv' := [(13, .int ((12 : Int32) * r_6)), (12, .int (0 : Int32)), (0, .ref o), (2, .int a1), (5, .int r_6), (6, .int ((1 : Int32) <<< (a2 &&& 31))), (7, .int x7_14), (8, .int x8_15), (9, .int x9_16), (10, .int x10_10), (11, .int x11_17)]) hx hb dX8_shorts_123 hl (by decide) rfl (fun ls hl => ?_)
                  obtain ⟨y12_24, hlp, h⟩ := z_bd_some h
                  refine z_lp_ind (P := fun x => ∀ (H : Heap) (locs : List Loc) (ls : Array Slot), va_P D z_cls (m_W cI cJ o M_5) H → va_S (m_A o) s.heap H locs → lv_has ls 15 [(0, .ref o), (2, .int a1), (5, .int r_6), (6, .int ((1 : Int32) <<< (a2 &&& 31))), (7, .int x7_14), (8, .int x8_15), (9, .int x9_16), (10, .int x10_10), (11, .int x11_17), (12, .int x.1), (13, .int x.2)] → W p l e (z_rm 2 87) s m args below meth c H locs 0 0 Q (F0 m 125 ls [])) (Qe := fun y => ∀ (H : Heap) (locs : List Loc) (ls : Array Slot), va_P D z_cls (m_W cI cJ o M_5) H → va_S (m_A o) s.heap H locs → lv_has ls 15 [(0, .ref o), (2, .int a1), (5, .int r_6), (6, .int ((1 : Int32) <<< (a2 &&& 31))), (7, .int x7_14), (8, .int x8_15), (9, .int x9_16), (10, .int x10_10), (11, .int x11_17), (12, .int y)] → W p l e (z_rm 2 87) s m args below meth c H locs 0 0 Q (F0 m 214 ls [])) ?_ hlp ?_ H locs ls hP hS (lv_sub hl [2, 3, 4, 5, 6, 7, 8, 9, 10, 1, 0] rfl)
                  · clear h hlp hP hS hl
                    rintro ⟨x12_22, x13_23⟩ oo h K_125 H locs ls hP hS hl
                    have hP : va_P D z_cls (m_W cI cJ o M_5) H := hP
                    have hl : lv_has ls 15 [(0, .ref o), (2, .int a1), (5, .int r_6), (6, .int ((1 : Int32) <<< (a2 &&& 31))), (7, .int x7_14), (8, .int x8_15), (9, .int x9_16), (10, .int x10_10), (11, .int x11_17), (12, .int x12_22), (13, .int x13_23)] := hl
                    have h : f_X8_shorts_L125 M_5 a2 r_6 x10_10 x11_17 x12_22 x13_23 = some oo := h
                    unfold f_X8_shorts_L125 at h
                    refine lv_iload hx hb dX8_shorts_125 (lv_at hl 10 rfl) ?_
                    refine lv_bipush (v := 12) hx hb dX8_shorts_127 (by decide) ?_
                    refine lv_iload hx hb dX8_shorts_129 (lv_at hl 2 rfl) ?_
                    refine lv_imul hx hb dX8_shorts_131 ?_
                    refine lv_aload_n hx hb dX8_shorts_132 rfl (lv_at hl 0 rfl) ?_
                    refine m_get (k := 7) (v := .ref (o + 7)) hc hP (by decide) wF_X8_28 rfl dX8_shorts_133 ?_
                    refine lv_iload hx hb dX8_shorts_136 (lv_at hl 2 rfl) ?_
                    obtain ⟨c_138, h⟩ := z_chk_some h
                    refine m_iald (k := 7) (j := 7) hc hP (ma_7 ..) c_138 dX8_shorts_138 ?_
                    refine lv_iadd hx hb dX8_shorts_139 ?_
                    refine lv_icmp_ge (tgt := 214) hx hb dX8_shorts_140 (by decide) (fun c_140 => ?_) (fun c_140 => ?_)
                    · replace h := z_ip_ c_140 h
                      cases h
                      exact K_125 H locs ls hP hS (lv_sub hl [0, 1, 2, 3, 4, 5, 6, 7, 8, 9] rfl)
                    · replace h := z_in_ c_140 h
                      refine lv_aload_n hx hb dX8_shorts_143 rfl (lv_at hl 0 rfl) ?_
                      refine m_get (k := 10) (v := .ref (o + 10)) hc hP (by decide) wF_X8_37 rfl dX8_shorts_144 ?_
                      refine lv_iload hx hb dX8_shorts_147 (lv_at hl 10 rfl) ?_
                      obtain ⟨c_149, h⟩ := z_chk_some h
                      refine m_iald (k := 10) (j := 10) hc hP (ma_10 ..) c_149 dX8_shorts_149 ?_
                      refine lv_iload hx hb dX8_shorts_150 (lv_at hl 3 rfl) ?_
                      refine lv_aload_n hx hb dX8_shorts_152 rfl (lv_at hl 0 rfl) ?_
                      refine m_get (k := 9) (v := .ref (o + 9)) hc hP (by decide) wF_X8_34 rfl dX8_shorts_153 ?_
                      refine lv_iload hx hb dX8_shorts_156 (lv_at hl 10 rfl) ?_
                      obtain ⟨c_158, h⟩ := z_chk_some h
                      refine m_iald (k := 9) (j := 9) hc hP (ma_9 ..) c_158 dX8_shorts_158 ?_
                      refine lv_imul hx hb dX8_shorts_159 ?_
                      refine lv_iload hx hb dX8_shorts_160 (lv_at hl 7 rfl) ?_
                      refine lv_isub hx hb dX8_shorts_162 ?_
                      refine lv_iload hx hb dX8_shorts_163 (lv_at hl 8 rfl) ?_
                      refine lv_aload_n hx hb dX8_shorts_165 rfl (lv_at hl 0 rfl) ?_
                      refine m_get (k := 8) (v := .ref (o + 8)) hc hP (by decide) wF_X8_31 rfl dX8_shorts_166 ?_
                      refine lv_iload hx hb dX8_shorts_169 (lv_at hl 10 rfl) ?_
                      obtain ⟨c_171, h⟩ := z_chk_some h
                      refine m_iald (k := 8) (j := 8) hc hP (ma_8 ..) c_171 dX8_shorts_171 ?_
                      refine lv_imul hx hb dX8_shorts_172 ?_
                      refine lv_isub hx hb dX8_shorts_173 ?_
                      refine lv_imul hx hb dX8_shorts_174 ?_
                      refine lv_istore (lv' := [(14, .int ((M_5.1 10 x13_23.toNatClampNeg) * (((((1 : Int32) <<< (a2 &&& 31)) * (M_5.1 9 x13_23.toNatClampNeg)) - x10_10) - (x11_17 * (M_5.1 8 x13_23.toNatClampNeg))))), (0, .ref o), (2, .int a1), (5, .int r_6), (6, .int ((1 : Int32) <<< (a2 &&& 31))), (7, .int x7_14), (8, .int x8_15), (9, .int x9_16), (10, .int x10_10), (11, .int x11_17), (12, .int x12_22), (13, .int x13_23)]) hx hb dX8_shorts_175 hl (by decide) rfl (fun ls hl => ?_)
                      refine lv_iload hx hb dX8_shorts_177 (lv_at hl 0 rfl) ?_
                      obtain ⟨v_25, hJ, h⟩ := z_bd_some h
                      have J_190 : ∀ (H : Heap) (locs : List Loc) (ls : Array Slot), va_P D z_cls (m_W cI cJ o M_5) H → va_S (m_A o) s.heap H locs → lv_has ls 15 [(0, .ref o), (2, .int a1), (5, .int r_6), (6, .int ((1 : Int32) <<< (a2 &&& 31))), (7, .int x7_14), (8, .int x8_15), (9, .int x9_16), (10, .int x10_10), (11, .int x11_17), (12, .int x12_22), (13, .int x13_23)] → W p l e (z_rm 2 87) s m args below meth c H locs 0 0 Q (F0 m 190 ls [.int v_25]) := by
                        intro H locs ls hP hS hl
                        refine lv_istore (lv' := [(14, .int v_25), (0, .ref o), (2, .int a1), (5, .int r_6), (6, .int ((1 : Int32) <<< (a2 &&& 31))), (7, .int x7_14), (8, .int x8_15), (9, .int x9_16), (10, .int x10_10), (11, .int x11_17), (12, .int x12_22), (13, .int x13_23)]) hx hb dX8_shorts_190 hl (by decide) rfl (fun ls hl => ?_)
                        refine lv_iload hx hb dX8_shorts_192 (lv_at hl 0 rfl) ?_
                        refine lv_iload hx hb dX8_shorts_194 (lv_at hl 10 rfl) ?_
                        refine lv_icmp_le (tgt := 204) hx hb dX8_shorts_196 (by decide) (fun c_196 => ?_) (fun c_196 => ?_)
                        · replace h := z_ip_ c_196 h
                          refine lv_iload hx hb dX8_shorts_204 (lv_at hl 10 rfl) ?_
                          refine lv_istore (lv' := [(12, .int x12_22), (14, .int v_25), (0, .ref o), (2, .int a1), (5, .int r_6), (6, .int ((1 : Int32) <<< (a2 &&& 31))), (7, .int x7_14), (8, .int x8_15), (9, .int x9_16), (10, .int x10_10), (11, .int x11_17), (13, .int x13_23)]) hx hb dX8_shorts_206 hl (by decide) rfl (fun ls hl => ?_)
                          refine lv_iinc (v := (x13_23 + 1)) (lv' := [(13, .int (x13_23 + 1)), (12, .int x12_22), (14, .int v_25), (0, .ref o), (2, .int a1), (5, .int r_6), (6, .int ((1 : Int32) <<< (a2 &&& 31))), (7, .int x7_14), (8, .int x8_15), (9, .int x9_16), (10, .int x10_10), (11, .int x11_17)]) hx hb dX8_shorts_208 hl (k := 11) rfl rfl (by decide) rfl (fun ls hl => ?_)
                          refine lv_goto (tgt := 125) hx hb dX8_shorts_211 (by decide) ?_
                          cases h
                          exact K_125 H locs ls hP hS (lv_sub hl [3, 4, 5, 6, 7, 8, 9, 10, 11, 1, 0] rfl)
                        · replace h := z_in_ c_196 h
                          refine lv_iload hx hb dX8_shorts_199 (lv_at hl 0 rfl) ?_
                          refine lv_goto (tgt := 206) hx hb dX8_shorts_201 (by decide) ?_
                          refine lv_istore (lv' := [(12, .int v_25), (14, .int v_25), (0, .ref o), (2, .int a1), (5, .int r_6), (6, .int ((1 : Int32) <<< (a2 &&& 31))), (7, .int x7_14), (8, .int x8_15), (9, .int x9_16), (10, .int x10_10), (11, .int x11_17), (13, .int x13_23)]) hx hb dX8_shorts_206 hl (by decide) rfl (fun ls hl => ?_)
                          refine lv_iinc (v := (x13_23 + 1)) (lv' := [(13, .int (x13_23 + 1)), (12, .int v_25), (14, .int v_25), (0, .ref o), (2, .int a1), (5, .int r_6), (6, .int ((1 : Int32) <<< (a2 &&& 31))), (7, .int x7_14), (8, .int x8_15), (9, .int x9_16), (10, .int x10_10), (11, .int x11_17)]) hx hb dX8_shorts_208 hl (k := 11) rfl rfl (by decide) rfl (fun ls hl => ?_)
                          refine lv_goto (tgt := 125) hx hb dX8_shorts_211 (by decide) ?_
                          cases h
                          exact K_125 H locs ls hP hS (lv_sub hl [3, 4, 5, 6, 7, 8, 9, 10, 11, 1, 0] rfl)
                      clear h
                      have h := hJ
                      clear hJ
                      refine lv_if_ge (tgt := 188) hx hb dX8_shorts_179 (by decide) (fun c_179 => ?_) (fun c_179 => ?_)
                      · replace h := z_ip_ c_179 h
                        refine lv_iload hx hb dX8_shorts_188 (lv_at hl 0 rfl) ?_
                        cases h
                        exact J_190 H locs ls hP hS (lv_sub hl [1, 2, 3, 4, 5, 6, 7, 8, 9, 10, 11] rfl)
                      · replace h := z_in_ c_179 h
                        refine lv_iload hx hb dX8_shorts_182 (lv_at hl 0 rfl) ?_
                        refine lv_ineg hx hb dX8_shorts_184 ?_
                        refine lv_goto (tgt := 190) hx hb dX8_shorts_185 (by decide) ?_
                        cases h
                        exact J_190 H locs ls hP hS (lv_sub hl [1, 2, 3, 4, 5, 6, 7, 8, 9, 10, 11] rfl)
                  · clear hlp hP hS hl
                    intro H locs ls hP hS hl
                    have hP : va_P D z_cls (m_W cI cJ o M_5) H := hP
                    have hl : lv_has ls 15 [(0, .ref o), (2, .int a1), (5, .int r_6), (6, .int ((1 : Int32) <<< (a2 &&& 31))), (7, .int x7_14), (8, .int x8_15), (9, .int x9_16), (10, .int x10_10), (11, .int x11_17), (12, .int y12_24)] := hl
                    refine lv_iload hx hb dX8_shorts_214 (lv_at hl 4 rfl) ?_
                    refine lv_iconst (v := -1) hx hb dX8_shorts_216 (by decide) ?_
                    refine lv_icmp_eq (tgt := 227) hx hb dX8_shorts_217 (by decide) (fun c_217 => ?_) (fun c_217 => ?_)
                    · replace h := z_ip_ c_217 h
                      refine lv_iload hx hb dX8_shorts_227 (lv_at hl 9 rfl) ?_
                      refine lv_istore (lv' := [(7, .int y12_24), (0, .ref o), (2, .int a1), (5, .int r_6), (6, .int ((1 : Int32) <<< (a2 &&& 31))), (8, .int x8_15), (9, .int x9_16), (10, .int x10_10), (11, .int x11_17), (12, .int y12_24)]) hx hb dX8_shorts_229 hl (by decide) rfl (fun ls hl => ?_)
                      refine lv_iload hx hb dX8_shorts_231 (lv_at hl 7 rfl) ?_
                      refine lv_istore (lv' := [(8, .int x10_10), (7, .int y12_24), (0, .ref o), (2, .int a1), (5, .int r_6), (6, .int ((1 : Int32) <<< (a2 &&& 31))), (9, .int x9_16), (10, .int x10_10), (11, .int x11_17), (12, .int y12_24)]) hx hb dX8_shorts_233 hl (by decide) rfl (fun ls hl => ?_)
                      refine lv_iload hx hb dX8_shorts_235 (lv_at hl 8 rfl) ?_
                      refine lv_istore (lv' := [(9, .int x11_17), (8, .int x10_10), (7, .int y12_24), (0, .ref o), (2, .int a1), (5, .int r_6), (6, .int ((1 : Int32) <<< (a2 &&& 31))), (10, .int x10_10), (11, .int x11_17), (12, .int y12_24)]) hx hb dX8_shorts_237 hl (by decide) rfl (fun ls hl => ?_)
                      refine lv_iinc (v := (x11_17 + 1)) (lv' := [(11, .int (x11_17 + 1)), (9, .int x11_17), (8, .int x10_10), (7, .int y12_24), (0, .ref o), (2, .int a1), (5, .int r_6), (6, .int ((1 : Int32) <<< (a2 &&& 31))), (10, .int x10_10), (12, .int y12_24)]) hx hb dX8_shorts_239 hl (k := 8) rfl rfl (by decide) rfl (fun ls hl => ?_)
                      refine lv_goto (tgt := 97) hx hb dX8_shorts_242 (by decide) ?_
                      cases h
                      exact K_97 H locs ls hP hS (lv_sub hl [4, 5, 6, 7, 3, 2, 1, 8, 0] rfl)
                    · replace h := z_in_ c_217 h
                      refine lv_iload hx hb dX8_shorts_220 (lv_at hl 9 rfl) ?_
                      refine lv_iload hx hb dX8_shorts_222 (lv_at hl 4 rfl) ?_
                      refine lv_icmp_ge (tgt := 239) hx hb dX8_shorts_224 (by decide) (fun c_224 => ?_) (fun c_224 => ?_)
                      · replace h := z_ip_ c_224 h
                        refine lv_iinc (v := (x11_17 + 1)) (lv' := [(11, .int (x11_17 + 1)), (0, .ref o), (2, .int a1), (5, .int r_6), (6, .int ((1 : Int32) <<< (a2 &&& 31))), (7, .int x7_14), (8, .int x8_15), (9, .int x9_16), (10, .int x10_10), (12, .int y12_24)]) hx hb dX8_shorts_239 hl (k := 8) rfl rfl (by decide) rfl (fun ls hl => ?_)
                        refine lv_goto (tgt := 97) hx hb dX8_shorts_242 (by decide) ?_
                        cases h
                        exact K_97 H locs ls hP hS (lv_sub hl [1, 2, 3, 4, 5, 6, 7, 8, 0] rfl)
                      · replace h := z_in_ c_224 h
                        refine lv_iload hx hb dX8_shorts_227 (lv_at hl 9 rfl) ?_
                        refine lv_istore (lv' := [(7, .int y12_24), (0, .ref o), (2, .int a1), (5, .int r_6), (6, .int ((1 : Int32) <<< (a2 &&& 31))), (8, .int x8_15), (9, .int x9_16), (10, .int x10_10), (11, .int x11_17), (12, .int y12_24)]) hx hb dX8_shorts_229 hl (by decide) rfl (fun ls hl => ?_)
                        refine lv_iload hx hb dX8_shorts_231 (lv_at hl 7 rfl) ?_
                        refine lv_istore (lv' := [(8, .int x10_10), (7, .int y12_24), (0, .ref o), (2, .int a1), (5, .int r_6), (6, .int ((1 : Int32) <<< (a2 &&& 31))), (9, .int x9_16), (10, .int x10_10), (11, .int x11_17), (12, .int y12_24)]) hx hb dX8_shorts_233 hl (by decide) rfl (fun ls hl => ?_)
                        refine lv_iload hx hb dX8_shorts_235 (lv_at hl 8 rfl) ?_
                        refine lv_istore (lv' := [(9, .int x11_17), (8, .int x10_10), (7, .int y12_24), (0, .ref o), (2, .int a1), (5, .int r_6), (6, .int ((1 : Int32) <<< (a2 &&& 31))), (10, .int x10_10), (11, .int x11_17), (12, .int y12_24)]) hx hb dX8_shorts_237 hl (by decide) rfl (fun ls hl => ?_)
                        refine lv_iinc (v := (x11_17 + 1)) (lv' := [(11, .int (x11_17 + 1)), (9, .int x11_17), (8, .int x10_10), (7, .int y12_24), (0, .ref o), (2, .int a1), (5, .int r_6), (6, .int ((1 : Int32) <<< (a2 &&& 31))), (10, .int x10_10), (12, .int y12_24)]) hx hb dX8_shorts_239 hl (k := 8) rfl rfl (by decide) rfl (fun ls hl => ?_)
                        refine lv_goto (tgt := 97) hx hb dX8_shorts_242 (by decide) ?_
                        cases h
                        exact K_97 H locs ls hP hS (lv_sub hl [4, 5, 6, 7, 3, 2, 1, 8, 0] rfl)
              clear h
              have h := hJ
              clear hJ
              refine lv_if_ne (tgt := 107) hx hb dX8_shorts_100 (by decide) (fun c_100 => ?_) (fun c_100 => ?_)
              · replace h := z_in_ c_100 h
                refine lv_bipush (v := 8) hx hb dX8_shorts_107 (by decide) ?_
                refine lv_iload hx hb dX8_shorts_109 (lv_at hl 3 rfl) ?_
                refine lv_imul hx hb dX8_shorts_111 ?_
                cases h
                exact J_112 H locs ls hP hS (lv_sub hl [0, 1, 2, 3, 4, 5, 6, 7, 8] rfl)
              · replace h := z_ip_ c_100 h
                refine lv_iconst (v := 0) hx hb dX8_shorts_103 (by decide) ?_
                refine lv_goto (tgt := 112) hx hb dX8_shorts_104 (by decide) ?_
                cases h
                exact J_112 H locs ls hP hS (lv_sub hl [0, 1, 2, 3, 4, 5, 6, 7, 8] rfl)
            · clear hlp hP hS hl
              intro H locs ls hP hS hl
              have hP : va_P D z_cls (m_W cI cJ o M_5) H := hP
              have hl : lv_has ls 15 [(0, .ref o), (2, .int a1), (5, .int r_6), (6, .int ((1 : Int32) <<< (a2 &&& 31))), (7, .int y7_18), (8, .int y8_19), (9, .int y9_20), (10, .int x10_10)] := hl
              refine lv_iinc (v := (x10_10 + 1)) (lv' := [(10, .int (x10_10 + 1)), (0, .ref o), (2, .int a1), (5, .int r_6), (6, .int ((1 : Int32) <<< (a2 &&& 31))), (7, .int y7_18), (8, .int y8_19), (9, .int y9_20)]) hx hb dX8_shorts_245 hl (k := 7) rfl rfl (by decide) rfl (fun ls hl => ?_)
              refine lv_goto (tgt := 72) hx hb dX8_shorts_248 (by decide) ?_
              cases h
              exact K_72 H locs ls hP hS (lv_sub hl [1, 2, 3, 4, 5, 6, 7, 0] rfl)
          clear h
          have h := hJ
          clear hJ
          refine lv_if_ne (tgt := 90) hx hb dX8_shorts_83 (by decide) (fun c_83 => ?_) (fun c_83 => ?_)
          · replace h := z_in_ c_83 h
            refine lv_bipush (v := -8) hx hb dX8_shorts_90 (by decide) ?_
            refine lv_iload hx hb dX8_shorts_92 (lv_at hl 3 rfl) ?_
            refine lv_imul hx hb dX8_shorts_94 ?_
            cases h
            exact J_95 H locs ls hP hS (lv_sub hl [0, 1, 2, 3, 4, 5, 6, 7] rfl)
          · replace h := z_ip_ c_83 h
            refine lv_iconst (v := 0) hx hb dX8_shorts_86 (by decide) ?_
            refine lv_goto (tgt := 95) hx hb dX8_shorts_87 (by decide) ?_
            cases h
            exact J_95 H locs ls hP hS (lv_sub hl [0, 1, 2, 3, 4, 5, 6, 7] rfl)
      · clear hlp hP hS hl
        intro H locs ls hP hS hl
        have hP : va_P D z_cls (m_W cI cJ o M_5) H := hP
        have hl : lv_has ls 15 [(0, .ref o), (5, .int r_6), (6, .int ((1 : Int32) <<< (a2 &&& 31))), (8, .int y8_11), (9, .int y9_12)] := hl
        refine lv_aload_n hx hb dX8_shorts_251 rfl (lv_at hl 0 rfl) ?_
        refine lv_iload hx hb dX8_shorts_252 (lv_at hl 3 rfl) ?_
        refine lv_i2l (v := y8_11.toInt64) hx hb dX8_shorts_254 rfl ?_
        refine lv_iload hx hb dX8_shorts_255 (lv_at hl 2 rfl) ?_
        refine lv_i2l (v := ((1 : Int32) <<< (a2 &&& 31)).toInt64) hx hb dX8_shorts_257 rfl ?_
        obtain ⟨M_26, eM_26, h⟩ := z_bd_some h
        refine m_callv (As := [.long y8_11.toInt64, .long ((1 : Int32) <<< (a2 &&& 31)).toInt64]) (M' := M_26) (n := 2) hc hP hS (mt_X8_is l D cI cJ o H.size M_5 y8_11.toInt64 ((1 : Int32) <<< (a2 &&& 31)).toInt64 eM_26) wM_X8_111 wI_X8_is wS_X8_is wZ_X8 wC_X8_is md_X8_is ⟨rfl, rfl, Nat.le_of_ble_eq_true rfl, Nat.le_of_ble_eq_true rfl⟩ rfl hl.1 rfl (Nat.le_of_ble_eq_true rfl) dX8_shorts_258 ⟨Nat.zero_le _, Nat.zero_le _⟩ (fun H locs hP hS => ?_)
        refine lv_aload_n hx hb dX8_shorts_261 rfl (lv_at hl 0 rfl) ?_
        refine lv_iload hx hb dX8_shorts_262 (lv_at hl 1 rfl) ?_
        refine lv_iconst (v := 0) hx hb dX8_shorts_264 (by decide) ?_
        refine lv_iconst (v := 0) hx hb dX8_shorts_265 (by decide) ?_
        refine lv_aload_n hx hb dX8_shorts_266 rfl (lv_at hl 0 rfl) ?_
        refine m_get (k := 21) (v := .long (M_26.2 21 0)) hc hP (by decide) wF_X8_108 rfl dX8_shorts_267 ?_
        refine lv_aload_n hx hb dX8_shorts_270 rfl (lv_at hl 0 rfl) ?_
        refine m_get (k := 22) (v := .long (M_26.2 22 0)) hc hP (by decide) wF_X8_65 rfl dX8_shorts_271 ?_
        obtain ⟨M_27, eM_27, h⟩ := z_bd_some h
        refine m_callv (As := [.int r_6, .int (0 : Int32), .int (0 : Int32), .long (M_26.2 21 0), .long (M_26.2 22 0)]) (M' := M_27) (n := 5) hc hP hS (mt_X8_number l D cI cJ o H.size M_26 r_6 (0 : Int32) (0 : Int32) (M_26.2 21 0) (M_26.2 22 0) eM_27) wM_X8_133 wI_X8_number wS_X8_number wZ_X8 wC_X8_number md_X8_number ⟨rfl, rfl, Nat.le_of_ble_eq_true rfl, Nat.le_of_ble_eq_true rfl⟩ rfl hl.1 rfl (Nat.le_of_ble_eq_true rfl) dX8_shorts_274 ⟨Nat.zero_le _, Nat.zero_le _⟩ (fun H locs hP hS => ?_)
        refine lv_aload_n hx hb dX8_shorts_277 rfl (lv_at hl 0 rfl) ?_
        refine lv_iload hx hb dX8_shorts_278 (lv_at hl 4 rfl) ?_
        refine lv_i2l (v := y9_12.toInt64) hx hb dX8_shorts_280 rfl ?_
        refine lv_iload hx hb dX8_shorts_281 (lv_at hl 2 rfl) ?_
        refine lv_i2l (v := ((1 : Int32) <<< (a2 &&& 31)).toInt64) hx hb dX8_shorts_283 rfl ?_
        obtain ⟨M_28, eM_28, h⟩ := z_bd_some h
        refine m_callv (As := [.long y9_12.toInt64, .long ((1 : Int32) <<< (a2 &&& 31)).toInt64]) (M' := M_28) (n := 2) hc hP hS (mt_X8_is l D cI cJ o H.size M_27 y9_12.toInt64 ((1 : Int32) <<< (a2 &&& 31)).toInt64 eM_28) wM_X8_111 wI_X8_is wS_X8_is wZ_X8 wC_X8_is md_X8_is ⟨rfl, rfl, Nat.le_of_ble_eq_true rfl, Nat.le_of_ble_eq_true rfl⟩ rfl hl.1 rfl (Nat.le_of_ble_eq_true rfl) dX8_shorts_284 ⟨Nat.zero_le _, Nat.zero_le _⟩ (fun H locs hP hS => ?_)
        refine lv_aload_n hx hb dX8_shorts_287 rfl (lv_at hl 0 rfl) ?_
        refine lv_iload hx hb dX8_shorts_288 (lv_at hl 1 rfl) ?_
        refine lv_iconst (v := 0) hx hb dX8_shorts_290 (by decide) ?_
        refine lv_iconst (v := 1) hx hb dX8_shorts_291 (by decide) ?_
        refine lv_aload_n hx hb dX8_shorts_292 rfl (lv_at hl 0 rfl) ?_
        refine m_get (k := 21) (v := .long (M_28.2 21 0)) hc hP (by decide) wF_X8_108 rfl dX8_shorts_293 ?_
        refine lv_aload_n hx hb dX8_shorts_296 rfl (lv_at hl 0 rfl) ?_
        refine m_get (k := 22) (v := .long (M_28.2 22 0)) hc hP (by decide) wF_X8_65 rfl dX8_shorts_297 ?_
        obtain ⟨M_29, eM_29, h⟩ := z_bd_some h
        refine m_callv (As := [.int r_6, .int (0 : Int32), .int (1 : Int32), .long (M_28.2 21 0), .long (M_28.2 22 0)]) (M' := M_29) (n := 5) hc hP hS (mt_X8_number l D cI cJ o H.size M_28 r_6 (0 : Int32) (1 : Int32) (M_28.2 21 0) (M_28.2 22 0) eM_29) wM_X8_133 wI_X8_number wS_X8_number wZ_X8 wC_X8_number md_X8_number ⟨rfl, rfl, Nat.le_of_ble_eq_true rfl, Nat.le_of_ble_eq_true rfl⟩ rfl hl.1 rfl (Nat.le_of_ble_eq_true rfl) dX8_shorts_300 ⟨Nat.zero_le _, Nat.zero_le _⟩ (fun H locs hP hS => ?_)
        refine lv_aload_n hx hb dX8_shorts_303 rfl (lv_at hl 0 rfl) ?_
        refine lv_iload hx hb dX8_shorts_304 (lv_at hl 1 rfl) ?_
        obtain ⟨r_31, M_30, er_31, h⟩ := z_bd2_some h
        refine m_calli (As := [.int r_6]) (r := r_31) (M' := M_30) (n := 1) hc hP hS (mt_X8_done l D cI cJ o H.size M_29 r_6 er_31) wM_X8_130 wI_X8_done wS_X8_done wZ_X8 wC_X8_done md_X8_done ⟨rfl, rfl, Nat.le_of_ble_eq_true rfl, Nat.le_of_ble_eq_true rfl⟩ rfl hl.1 rfl (Nat.le_of_ble_eq_true rfl) dX8_shorts_306 ⟨Nat.zero_le _, Nat.zero_le _⟩ (fun H locs hP hS => ?_)
        cases h
        rw [hQ]
        exact m_reti hc hr hlocks hP hS hz dX8_shorts_309
    · replace h := z_in_ c_32 h
      refine lv_aload_n hx hb dX8_shorts_35 rfl (lv_at hl 1 rfl) ?_
      refine lv_iload hx hb dX8_shorts_36 (lv_at hl 0 rfl) ?_
      obtain ⟨r_33, M_32, er_33, h⟩ := z_bd2_some h
      refine m_calli (As := [.int r_4]) (r := r_33) (M' := M_32) (n := 1) hc hP hS (mt_X8_refused l D cI cJ o H.size M r_4 er_33) wM_X8_118 wI_X8_refused wS_X8_refused wZ_X8 wC_X8_refused md_X8_refused ⟨rfl, rfl, Nat.le_of_ble_eq_true rfl, Nat.le_of_ble_eq_true rfl⟩ rfl hl.1 rfl (Nat.le_of_ble_eq_true rfl) dX8_shorts_38 ⟨Nat.zero_le _, Nat.zero_le _⟩ (fun H locs hP hS => ?_)
      cases h
      rw [hQ]
      exact m_reti hc hr hlocks hP hS hz dX8_shorts_41
  clear h
  have h := hJ
  clear hJ
  refine lv_if_eq (tgt := 24) hx hb dX8_shorts_8 (by decide) (fun c_8 => ?_) (fun c_8 => ?_)
  · replace h := z_ip_ c_8 h
    refine lv_iconst (v := 0) hx hb dX8_shorts_24 (by decide) ?_
    cases h
    exact J_25 H locs ls hP hS (lv_sub hl [0, 1, 2, 3] rfl)
  · replace h := z_in_ c_8 h
    refine lv_iload_n hx hb dX8_shorts_11 rfl (lv_at hl 3 rfl) ?_
    refine lv_iconst (v := 0) hx hb dX8_shorts_12 (by decide) ?_
    refine lv_iconst (v := 2) hx hb dX8_shorts_13 (by decide) ?_
    obtain ⟨r_3, er_3, h⟩ := z_bd_some h
    refine s_calli (As := [.int a2, .int (0 : Int32), .int (2 : Int32)]) (r := r_3) (n := 3) hc.s (mt_X8_in l a2 (0 : Int32) (2 : Int32) er_3) wM_X8_100 wT_X8_in wZ_X8 wC_X8_in md_X8_in ⟨rfl, rfl, Nat.le_of_ble_eq_true rfl, Nat.le_of_ble_eq_true rfl⟩ rfl hl.1 rfl (Nat.le_of_ble_eq_true rfl) dX8_shorts_14 ⟨Nat.zero_le _, Nat.zero_le _⟩ ?_
    refine lv_if_eq (tgt := 24) hx hb dX8_shorts_17 (by decide) (fun c_17 => ?_) (fun c_17 => ?_)
    · replace h := z_ip_ c_17 h
      refine lv_iconst (v := 0) hx hb dX8_shorts_24 (by decide) ?_
      cases h
      exact J_25 H locs ls hP hS (lv_sub hl [0, 1, 2, 3] rfl)
    · replace h := z_in_ c_17 h
      refine lv_iconst (v := 1) hx hb dX8_shorts_20 (by decide) ?_
      refine lv_goto (tgt := 25) hx hb dX8_shorts_21 (by decide) ?_
      cases h
      exact J_25 H locs ls hP hS (lv_sub hl [0, 1, 2, 3] rfl)
theorem md_X8_shorts : yX8_shorts.cls ≠ "java/lang/invoke/MethodHandle" ∧ yX8_shorts.cls ≠ "java/lang/invoke/VarHandle" ∧ (parseMethodDescriptor yX8_shorts.desc).map (fun d => d.parameters.length) = some 3 := by decide +kernel
