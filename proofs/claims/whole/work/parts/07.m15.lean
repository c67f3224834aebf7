noncomputable def f_X8_isFar (M : MS) (a0 : Int32) (a1 : Int32) : Option (Int32 × MS) :=
  z_bd (f_X8_missAt M a0 a1) fun M_1 => z_bd (if 0 ≤ (lg_cmp (M_1.2 21 0) (0 : Int64)) then some ((M_1.2 21 0)) else some ((-(M_1.2 21 0)))) fun v_2 => if (lg_cmp v_2 (M_1.2 33 0)) = 0 then if (lg_cmp (M_1.2 22 0) (M_1.2 34 0)) = 0 then some ((1 : Int32), M_1) else some ((0 : Int32), M_1) else some ((0 : Int32), M_1)
set_option maxHeartbeats 4000000 in
set_option maxRecDepth 100000 in
theorem mt_X8_isFar (l : Launch) (D : va_G) (cI cJ : ClassId) (o sz : Nat) (M : MS) (a0 : Int32) (a1 : Int32) {r_ : Int32} {N_ : MS} (h : f_X8_isFar M a0 a1 = some (r_, N_)) : Met l yX8_isFar (z_wd yX8_isFar cX8_isFar 3 (some .boolean)) (z_rm 6 263) (va_Pc [.ref o, .int a0, .int a1] (m_C D cI cJ o sz M)) (va_Qi (fun (r1 : Int32) (M1 : MS) => r1 = r_ ∧ M1 = N_) (m_C D cI cJ o sz) (m_A o)) 0 0 (m_A o) := by
  refine Met.ofW (cc := cX8_isFar) (maxL := 3) (ret := (some .boolean)) (by decide) rfl ?_
  intro p e s m args below meth c s₁ B hml hv
  obtain ⟨hav, hz, hP0, hK⟩ := hv
  have hx := B.exec
  have hb := B.bytes
  have hr := B.returns
  have hts := atoms_spec (ws := z_wd yX8_isFar cX8_isFar 3 (some .boolean)) B.pre
  have hown : s.vm.findClass RX8 = some m.cls := findClass_of_methodNamed B.named
  have hlocks := B.notSynchronized
  have hc : m_X p s m args c cX8_isFar 3 D cI cJ := ⟨hx, hb, hml, fun w hw => hts w (List.mem_cons_of_mem _ hw), hown, hK⟩
  have hl := lv_entry ([.ref o, .int a0, .int a1]) (n := 3) (Nat.le_of_ble_eq_true rfl)
  have hE : entryFrame m args 3 = F0 m 0 ((lg_sl ([.ref o, .int a0, .int a1]) ++ List.replicate (3 - (lg_sl ([.ref o, .int a0, .int a1])).length) Slot.unset).toArray) [] := by rw [hav]; exact lg_entry_eq m _ _
  rw [hE]
  clear hE hav
  generalize (lg_sl ([.ref o, .int a0, .int a1]) ++ List.replicate (3 - (lg_sl ([.ref o, .int a0, .int a1])).length) Slot.unset).toArray = ls at hl ⊢
  have hl : lv_has ls 3 [(0, .ref o), (1, .int a0), (2, .int a1)] := hl
  obtain ⟨Q, hQ⟩ : ∃ Q, Q = MQ below (va_Qi (fun (r1 : Int32) (M1 : MS) => r1 = r_ ∧ M1 = N_) (m_C D cI cJ o sz) (m_A o)) args s 0 0 (m_A o) := ⟨_, rfl⟩
  rw [← hQ]
  suffices hmain : ∀ (H : Heap) (locs : List Loc), va_P D z_cls (m_W cI cJ o M) H → va_S (m_A o) s.heap H locs → W p l e (z_rm 6 263) s m args below meth c H locs 0 0 Q (F0 m 0 ls []) from hmain s.heap [] hP0 va_S.rf
  clear hP0
  intro H locs hP hS
  unfold f_X8_isFar at h
  refine lv_aload_n hx hb dX8_isFar_0 rfl (lv_at hl 0 rfl) ?_
  refine lv_iload_n hx hb dX8_isFar_1 rfl (lv_at hl 1 rfl) ?_
  refine lv_iload_n hx hb dX8_isFar_2 rfl (lv_at hl 2 rfl) ?_
  obtain ⟨M_1, eM_1, h⟩ := z_bd_some h
  refine m_callv (As := [.int a0, .int a1]) (M' := M_1) (n := 2) hc hP hS (mt_X8_missAt l D cI cJ o H.size M a0 a1 eM_1) wM_X8_238 wI_X8_missAt wS_X8_missAt wZ_X8 wC_X8_missAt md_X8_missAt ⟨rfl, rfl, Nat.le_of_ble_eq_true rfl, Nat.le_of_ble_eq_true rfl⟩ rfl hl.1 rfl (Nat.le_of_ble_eq_true rfl) dX8_isFar_3 ⟨Nat.zero_le _, Nat.zero_le _⟩ (fun H locs hP hS => ?_)
  refine lv_aload_n hx hb dX8_isFar_6 rfl (lv_at hl 0 rfl) ?_
  refine m_get (k := 21) (v := .long (M_1.2 21 0)) hc hP (by decide) wF_X8_108 rfl dX8_isFar_7 ?_
  refine lv_lconst (v := 0) hx hb dX8_isFar_10 (by decide) ?_
  refine W.lcmp hx hb dX8_isFar_11 ?_
  obtain ⟨v_2, hJ, h⟩ := z_bd_some h
  have J_27 : ∀ (H : Heap) (locs : List Loc) (ls : Array Slot), va_P D z_cls (m_W cI cJ o M_1) H → va_S (m_A o) s.heap H locs → lv_has ls 3 [(0, .ref o)] → W p l e (z_rm 6 263) s m args below meth c H locs 0 0 Q (F0 m 27 ls [.long v_2]) := by
    intro H locs ls hP hS hl
    refine lv_aload_n hx hb dX8_isFar_27 rfl (lv_at hl 0 rfl) ?_
    refine m_get (k := 33) (v := .long (M_1.2 33 0)) hc hP (by decide) wF_X8_232 rfl dX8_isFar_28 ?_
    refine W.lcmp hx hb dX8_isFar_31 ?_
    refine lv_if_ne (tgt := 51) hx hb dX8_isFar_32 (by decide) (fun c_32 => ?_) (fun c_32 => ?_)
    · replace h := z_in_ c_32 h
      refine lv_iconst (v := 0) hx hb dX8_isFar_51 (by decide) ?_
      cases h
      rw [hQ]
      exact m_retz hc hr hlocks (by decide) hP hS hz dX8_isFar_52
    · replace h := z_ip_ c_32 h
      refine lv_aload_n hx hb dX8_isFar_35 rfl (lv_at hl 0 rfl) ?_
      refine m_get (k := 22) (v := .long (M_1.2 22 0)) hc hP (by decide) wF_X8_65 rfl dX8_isFar_36 ?_
      refine lv_aload_n hx hb dX8_isFar_39 rfl (lv_at hl 0 rfl) ?_
      refine m_get (k := 34) (v := .long (M_1.2 34 0)) hc hP (by decide) wF_X8_235 rfl dX8_isFar_40 ?_
      refine W.lcmp hx hb dX8_isFar_43 ?_
      refine lv_if_ne (tgt := 51) hx hb dX8_isFar_44 (by decide) (fun c_44 => ?_) (fun c_44 => ?_)
      · replace h := z_in_ c_44 h
        refine lv_iconst (v := 0) hx hb dX8_isFar_51 (by decide) ?_
        cases h
        rw [hQ]
        exact m_retz hc hr hlocks (by decide) hP hS hz dX8_isFar_52
      · replace h := z_ip_ c_44 h
        refine lv_iconst (v := 1) hx hb dX8_isFar_47 (by decide) ?_
        refine lv_goto (tgt := 52) hx hb dX8_isFar_48 (by decide) ?_
        cases h
        rw [hQ]
        exact m_retz hc hr hlocks (by decide) hP hS hz dX8_isFar_52
  clear h
  have h := hJ
  clear hJ
  refine lv_if_ge (tgt := 23) hx hb dX8_isFar_12 (by decide) (fun c_12 => ?_) (fun c_12 => ?_)
  · replace h := z_ip_ c_12 h
    refine lv_aload_n hx hb dX8_isFar_23 rfl (lv_at hl 0 rfl) ?_
    refine m_get (k := 21) (v := .long (M_1.2 21 0)) hc hP (by decide) wF_X8_108 rfl dX8_isFar_24 ?_
    cases h
    exact J_27 H locs ls hP hS (lv_sub hl [0] rfl)
  · replace h := z_in_ c_12 h
    refine lv_aload_n hx hb dX8_isFar_15 rfl (lv_at hl 0 rfl) ?_
    refine m_get (k := 21) (v := .long (M_1.2 21 0)) hc hP (by decide) wF_X8_108 rfl dX8_isFar_16 ?_
    refine lv_lneg hx hb dX8_isFar_19 ?_
    refine lv_goto (tgt := 27) hx hb dX8_isFar_20 (by decide) ?_
    cases h
    exact J_27 H locs ls hP hS (lv_sub hl [0] rfl)
theorem md_X8_isFar : yX8_isFar.cls ≠ "java/lang/invoke/MethodHandle" ∧ yX8_isFar.cls ≠ "java/lang/invoke/VarHandle" ∧ (parseMethodDescriptor yX8_isFar.desc).map (fun d => d.parameters.length) = some 2 := by decide +kernel
noncomputable def f_X8_fars_L9 (a0 : Int32) (x2_2 : Int32) (x3_3 : Int32) (M_4 : MS) : Option ((Int32 × MS) ⊕ (Int32 × Int32 × MS)) :=
  z_chk (z_in a0 10) (if (M_4.1 7 a0.toNatClampNeg) ≤ x3_3 then some (.inl (x2_2, M_4)) else z_bd2 (f_X8_isFar M_4 a0 x3_3) fun r_8 M_7 => z_bd (if r_8 = 0 then some ((0 : Int32)) else some ((1 : Int32))) fun v_9 => some (.inr ((x2_2 + v_9), (x3_3 + 1), M_7)))
noncomputable def f_X8_fars (M : MS) (a0 : Int32) : Option (Int32 × MS) :=
  z_bd (f_X8_findLevel M a0) fun M_1 => z_bd2 (z_lp (fun x => f_X8_fars_L9 a0 x.1 x.2.1 x.2.2) ((0 : Int32), (0 : Int32), M_1)) fun y2_5 M_6 => some (y2_5, M_6)
set_option maxHeartbeats 4000000 in
set_option maxRecDepth 100000 in
theorem mt_X8_fars (l : Launch) (D : va_G) (cI cJ : ClassId) (o sz : Nat) (M : MS) (a0 : Int32) {r_ : Int32} {N_ : MS} (h : f_X8_fars M a0 = some (r_, N_)) : Met l yX8_fars (z_wd yX8_fars cX8_fars 4 (some .int)) (z_rm 7 303) (va_Pc [.ref o, .int a0] (m_C D cI cJ o sz M)) (va_Qi (fun (r1 : Int32) (M1 : MS) => r1 = r_ ∧ M1 = N_) (m_C D cI cJ o sz) (m_A o)) 0 0 (m_A o) := by
  refine Met.ofW (cc := cX8_fars) (maxL := 4) (ret := (some .int)) (by decide) rfl ?_
  intro p e s m args below meth c s₁ B hml hv
  obtain ⟨hav, hz, hP0, hK⟩ := hv
  have hx := B.exec
  have hb := B.bytes
  have hr := B.returns
  have hts := atoms_spec (ws := z_wd yX8_fars cX8_fars 4 (some .int)) B.pre
  have hown : s.vm.findClass RX8 = some m.cls := findClass_of_methodNamed B.named
  have hlocks := B.notSynchronized
  have hc : m_X p s m args c cX8_fars 4 D cI cJ := ⟨hx, hb, hml, fun w hw => hts w (List.mem_cons_of_mem _ hw), hown, hK⟩
  have hl := lv_entry ([.ref o, .int a0]) (n := 4) (Nat.le_of_ble_eq_true rfl)
  have hE : entryFrame m args 4 = F0 m 0 ((lg_sl ([.ref o, .int a0]) ++ List.replicate (4 - (lg_sl ([.ref o, .int a0])).length) Slot.unset).toArray) [] := by rw [hav]; exact lg_entry_eq m _ _
  rw [hE]
  clear hE hav
  generalize (lg_sl ([.ref o, .int a0]) ++ List.replicate (4 - (lg_sl ([.ref o, .int a0])).length) Slot.unset).toArray = ls at hl ⊢
  have hl : lv_has ls 4 [(0, .ref o), (1, .int a0)] := hl
  obtain ⟨Q, hQ⟩ : ∃ Q, Q = MQ below (va_Qi (fun (r1 : Int32) (M1 : MS) => r1 = r_ ∧ M1 = N_) (m_C D cI cJ o sz) (m_A o)) args s 0 0 (m_A o) := ⟨_, rfl⟩
  rw [← hQ]
  suffices hmain : ∀ (H : Heap) (locs : List Loc), va_P D z_cls (m_W cI cJ o M) H → va_S (m_A o) s.heap H locs → W p l e (z_rm 7 303) s m args below meth c H locs 0 0 Q (F0 m 0 ls []) from hmain s.heap [] hP0 va_S.rf
  clear hP0
  intro H locs hP hS
  unfold f_X8_fars at h
  refine lv_aload_n hx hb dX8_fars_0 rfl (lv_at hl 0 rfl) ?_
  refine lv_iload_n hx hb dX8_fars_1 rfl (lv_at hl 1 rfl) ?_
  obtain ⟨M_1, eM_1, h⟩ := z_bd_some h
  refine m_callv (As := [.int a0]) (M' := M_1) (n := 1) hc hP hS (mt_X8_findLevel l D cI cJ o H.size M a0 eM_1) wM_X8_241 wI_X8_findLevel wS_X8_findLevel wZ_X8 wC_X8_findLevel md_X8_findLevel ⟨rfl, rfl, Nat.le_of_ble_eq_true rfl, Nat.le_of_ble_eq_true rfl⟩ rfl hl.1 rfl (Nat.le_of_ble_eq_true rfl) dX8_fars_2 ⟨Nat.zero_le _, Nat.zero_le _⟩ (fun H locs hP hS => ?_)
  refine lv_iconst (v := 0) hx hb dX8_fars_5 (by decide) ?_
  refine lv_istore_n (lv' := [(2, .int (0 : Int32)), (0, .ref o), (1, .int a0)]) hx hb dX8_fars_6 rfl hl (by decide) rfl (fun ls hl => ?_)
  refine lv_iconst (v := 0) hx hb dX8_fars_7 (by decide) ?_
  refine lv_istore_n (lv' := [(3, .int (0 : Int32)), (2, .int (0 : Int32)), (0, .ref o), (1, .int a0)]) hx hb dX8_fars_8 rfl hl (by decide) rfl (fun ls hl => ?_)
  obtain ⟨y2_5, M_6, hlp, h⟩ := z_bd2_some h
  refine z_lp_ind (P := fun x => ∀ (H : Heap) (locs : List Loc) (ls : Array Slot), va_P D z_cls (m_W cI cJ o x.2.2) H → va_S (m_A o) s.heap H locs → lv_has ls 4 [(0, .ref o), (1, .int a0), (2, .int x.1), (3, .int x.2.1)] → W p l e (z_rm 7 303) s m args below meth c H locs 0 0 Q (F0 m 9 ls [])) (Qe := fun y => ∀ (H : Heap) (locs : List Loc) (ls : Array Slot), va_P D z_cls (m_W cI cJ o y.2) H → va_S (m_A o) s.heap H locs → lv_has ls 4 [(2, .int y.1)] → W p l e (z_rm 7 303) s m args below meth c H locs 0 0 Q (F0 m 42 ls [])) ?_ hlp ?_ H locs ls hP hS (lv_sub hl [2, 3, 1, 0] rfl)
  · clear h hlp hP hS hl
    rintro ⟨x2_2, x3_3, M_4⟩ oo h K_9 H locs ls hP hS hl
    have hP : va_P D z_cls (m_W cI cJ o M_4) H := hP
    have hl : lv_has ls 4 [(0, .ref o), (1, .int a0), (2, .int x2_2), (3, .int x3_3)] := hl
    have h : f_X8_fars_L9 a0 x2_2 x3_3 M_4 = some oo := h
    unfold f_X8_fars_L9 at h
    refine lv_iload_n hx hb dX8_fars_9 rfl (lv_at hl 3 rfl) ?_
    refine lv_aload_n hx hb dX8_fars_10 rfl (lv_at hl 0 rfl) ?_
    refine m_get (k := 7) (v := .ref (o + 7)) hc hP (by decide) wF_X8_28 rfl dX8_fars_11 ?_
    refine lv_iload_n hx hb dX8_fars_14 rfl (lv_at hl 1 rfl) ?_
    obtain ⟨c_15, h⟩ := z_chk_some h
    refine m_iald (k := 7) (j := 7) hc hP (ma_7 ..) c_15 dX8_fars_15 ?_
    refine lv_icmp_ge (tgt := 42) hx hb dX8_fars_16 (by decide) (fun c_16 => ?_) (fun c_16 => ?_)
    · replace h := z_ip_ c_16 h
      cases h
      exact K_9 H locs ls hP hS (lv_sub hl [2] rfl)
    · replace h := z_in_ c_16 h
      refine lv_iload_n hx hb dX8_fars_19 rfl (lv_at hl 2 rfl) ?_
      refine lv_aload_n hx hb dX8_fars_20 rfl (lv_at hl 0 rfl) ?_
      refine lv_iload_n hx hb dX8_fars_21 rfl (lv_at hl 1 rfl) ?_
      refine lv_iload_n hx hb dX8_fars_22 rfl (lv_at hl 3 rfl) ?_
      obtain ⟨r_8, M_7, er_8, h⟩ := z_bd2_some h
      refine m_calli (As := [.int a0, .int x3_3]) (r := r_8) (M' := M_7) (n := 2) hc hP hS (mt_X8_isFar l D cI cJ o H.size M_4 a0 x3_3 er_8) wM_X8_244 wI_X8_isFar wS_X8_isFar wZ_X8 wC_X8_isFar md_X8_isFar ⟨rfl, rfl, Nat.le_of_ble_eq_true rfl, Nat.le_of_ble_eq_true rfl⟩ rfl hl.1 rfl (Nat.le_of_ble_eq_true rfl) dX8_fars_23 ⟨Nat.zero_le _, Nat.zero_le _⟩ (fun H locs hP hS => ?_)
      obtain ⟨v_9, hJ, h⟩ := z_bd_some h
      have J_34 : ∀ (H : Heap) (locs : List Loc) (ls : Array Slot), va_P D z_cls (m_W cI cJ o M_7) H → va_S (m_A o) s.heap H locs → lv_has ls 4 [(0, .ref o), (1, .int a0), (3, .int x3_3)] → W p l e (z_rm 7 303) s m args below meth c H locs 0 0 Q (F0 m 34 ls [.int v_9, .int x2_2]) := by
        intro H locs ls hP hS hl
        refine lv_iadd hx hb dX8_fars_34 ?_
        refine lv_istore_n (lv' := [(2, .int (x2_2 + v_9)), (0, .ref o), (1, .int a0), (3, .int x3_3)]) hx hb dX8_fars_35 rfl hl (by decide) rfl (fun ls hl => ?_)
        refine lv_iinc (v := (x3_3 + 1)) (lv' := [(3, .int (x3_3 + 1)), (2, .int (x2_2 + v_9)), (0, .ref o), (1, .int a0)]) hx hb dX8_fars_36 hl (k := 3) rfl rfl (by decide) rfl (fun ls hl => ?_)
        refine lv_goto (tgt := 9) hx hb dX8_fars_39 (by decide) ?_
        cases h
        exact K_9 H locs ls hP hS (lv_sub hl [2, 3, 1, 0] rfl)
      clear h
      have h := hJ
      clear hJ
      refine lv_if_eq (tgt := 33) hx hb dX8_fars_26 (by decide) (fun c_26 => ?_) (fun c_26 => ?_)
      · replace h := z_ip_ c_26 h
        refine lv_iconst (v := 0) hx hb dX8_fars_33 (by decide) ?_
        cases h
        exact J_34 H locs ls hP hS (lv_sub hl [0, 1, 3] rfl)
      · replace h := z_in_ c_26 h
        refine lv_iconst (v := 1) hx hb dX8_fars_29 (by decide) ?_
        refine lv_goto (tgt := 34) hx hb dX8_fars_30 (by decide) ?_
        cases h
        exact J_34 H locs ls hP hS (lv_sub hl [0, 1, 3] rfl)
  · clear hlp hP hS hl
    intro H locs ls hP hS hl
    have hP : va_P D z_cls (m_W cI cJ o M_6) H := hP
    have hl : lv_has ls 4 [(2, .int y2_5)] := hl
    refine lv_iload_n hx hb dX8_fars_42 rfl (lv_at hl 0 rfl) ?_
    cases h
    rw [hQ]
    exact m_reti hc hr hlocks hP hS hz dX8_fars_43
theorem md_X8_fars : yX8_fars.cls ≠ "java/lang/invoke/MethodHandle" ∧ yX8_fars.cls ≠ "java/lang/invoke/VarHandle" ∧ (parseMethodDescriptor yX8_fars.desc).map (fun d => d.parameters.length) = some 1 := by decide +kernel
noncomputable def f_X8_told (M : MS) (a0 : Int32) (a1 : Int32) : Option (Int32 × MS) :=
  z_bd (f_X8_isFit M a0) fun r_1 => if r_1 = 0 then some ((-1 : Int32), M) else if a1 = 0 then z_chk (z_in a0 10) (some ((M.1 5 a0.toNatClampNeg), M)) else if a1 = 1 then z_chk (z_in a0 10) (some ((M.1 7 a0.toNatClampNeg), M)) else if a1 = 2 then z_chk (z_in a0 10) (some ((M.1 6 a0.toNatClampNeg), M)) else if a1 = 3 then z_bd2 (f_X8_fars M a0) fun r_3 M_2 => some (r_3, M_2) else if a1 = 4 then z_chk (z_in a0 10) (some ((M.1 11 a0.toNatClampNeg), M)) else some ((-1 : Int32), M)
set_option maxHeartbeats 4000000 in
set_option maxRecDepth 100000 in
theorem mt_X8_told (l : Launch) (D : va_G) (cI cJ : ClassId) (o sz : Nat) (M : MS) (a0 : Int32) (a1 : Int32) {r_ : Int32} {N_ : MS} (h : f_X8_told M a0 a1 = some (r_, N_)) : Met l yX8_told (z_wd yX8_told cX8_told 3 (some .int)) (z_rm 8 342) (va_Pc [.ref o, .int a0, .int a1] (m_C D cI cJ o sz M)) (va_Qi (fun (r1 : Int32) (M1 : MS) => r1 = r_ ∧ M1 = N_) (m_C D cI cJ o sz) (m_A o)) 0 0 (m_A o) := by
  refine Met.ofW (cc := cX8_told) (maxL := 3) (ret := (some .int)) (by decide) rfl ?_
  intro p e s m args below meth c s₁ B hml hv
  obtain ⟨hav, hz, hP0, hK⟩ := hv
  have hx := B.exec
  have hb := B.bytes
  have hr := B.returns
  have hts := atoms_spec (ws := z_wd yX8_told cX8_told 3 (some .int)) B.pre
  have hown : s.vm.findClass RX8 = some m.cls := findClass_of_methodNamed B.named
  have hlocks := B.notSynchronized
  have hc : m_X p s m args c cX8_told 3 D cI cJ := ⟨hx, hb, hml, fun w hw => hts w (List.mem_cons_of_mem _ hw), hown, hK⟩
  have hl := lv_entry ([.ref o, .int a0, .int a1]) (n := 3) (Nat.le_of_ble_eq_true rfl)
  have hE : entryFrame m args 3 = F0 m 0 ((lg_sl ([.ref o, .int a0, .int a1]) ++ List.replicate (3 - (lg_sl ([.ref o, .int a0, .int a1])).length) Slot.unset).toArray) [] := by rw [hav]; exact lg_entry_eq m _ _
  rw [hE]
  clear hE hav
  generalize (lg_sl ([.ref o, .int a0, .int a1]) ++ List.replicate (3 - (lg_sl ([.ref o, .int a0, .int a1])).length) Slot.unset).toArray = ls at hl ⊢
  have hl : lv_has ls 3 [(0, .ref o), (1, .int a0), (2, .int a1)] := hl
  obtain ⟨Q, hQ⟩ : ∃ Q, Q = MQ below (va_Qi (fun (r1 : Int32) (M1 : MS) => r1 = r_ ∧ M1 = N_) (m_C D cI cJ o sz) (m_A o)) args s 0 0 (m_A o) := ⟨_, rfl⟩
  rw [← hQ]
  suffices hmain : ∀ (H : Heap) (locs : List Loc), va_P D z_cls (m_W cI cJ o M) H → va_S (m_A o) s.heap H locs → W p l e (z_rm 8 342) s m args below meth c H locs 0 0 Q (F0 m 0 ls []) from hmain s.heap [] hP0 va_S.rf
  clear hP0
  intro H locs hP hS
  unfold f_X8_told at h
  refine lv_aload_n hx hb dX8_told_0 rfl (lv_at hl 0 rfl) ?_
  refine lv_iload_n hx hb dX8_told_1 rfl (lv_at hl 1 rfl) ?_
  obtain ⟨r_1, er_1, h⟩ := z_bd_some h
  refine m_calli (As := [.int a0]) (r := r_1) (M' := M) (n := 1) hc hP hS (mt_X8_isFit l D cI cJ o H.size M a0 er_1) wM_X8_185 wI_X8_isFit wS_X8_isFit wZ_X8 wC_X8_isFit md_X8_isFit ⟨rfl, rfl, Nat.le_of_ble_eq_true rfl, Nat.le_of_ble_eq_true rfl⟩ rfl hl.1 rfl (Nat.le_of_ble_eq_true rfl) dX8_told_2 ⟨Nat.zero_le _, Nat.zero_le _⟩ (fun H locs hP hS => ?_)
  refine lv_if_ne (tgt := 10) hx hb dX8_told_5 (by decide) (fun c_5 => ?_) (fun c_5 => ?_)
  · replace h := z_in_ c_5 h
    refine lv_iload_n hx hb dX8_told_10 rfl (lv_at hl 2 rfl) ?_
    by_cases c_11_0 : a1 = 0
    · replace h := z_ip_ c_11_0 h
      refine lv_tableIn (off := 33) (tgt := 44) hx hb dX8_told_11 (by rw [c_11_0]; decide) (by rw [c_11_0]; decide) (by rw [c_11_0]; rfl) (by decide) ?_
      refine lv_aload_n hx hb dX8_told_44 rfl (lv_at hl 0 rfl) ?_
      refine m_get (k := 5) (v := .ref (o + 5)) hc hP (by decide) wF_X8_22 rfl dX8_told_45 ?_
      refine lv_iload_n hx hb dX8_told_48 rfl (lv_at hl 1 rfl) ?_
      obtain ⟨c_49, h⟩ := z_chk_some h
      refine m_iald (k := 5) (j := 5) hc hP (ma_5 ..) c_49 dX8_told_49 ?_
      cases h
      rw [hQ]
      exact m_reti hc hr hlocks hP hS hz dX8_told_50
    · replace h := z_in_ c_11_0 h
      by_cases c_11_1 : a1 = 1
      · replace h := z_ip_ c_11_1 h
        refine lv_tableIn (off := 40) (tgt := 51) hx hb dX8_told_11 (by rw [c_11_1]; decide) (by rw [c_11_1]; decide) (by rw [c_11_1]; rfl) (by decide) ?_
        refine lv_aload_n hx hb dX8_told_51 rfl (lv_at hl 0 rfl) ?_
        refine m_get (k := 7) (v := .ref (o + 7)) hc hP (by decide) wF_X8_28 rfl dX8_told_52 ?_
        refine lv_iload_n hx hb dX8_told_55 rfl (lv_at hl 1 rfl) ?_
        obtain ⟨c_56, h⟩ := z_chk_some h
        refine m_iald (k := 7) (j := 7) hc hP (ma_7 ..) c_56 dX8_told_56 ?_
        cases h
        rw [hQ]
        exact m_reti hc hr hlocks hP hS hz dX8_told_57
      · replace h := z_in_ c_11_1 h
        by_cases c_11_2 : a1 = 2
        · replace h := z_ip_ c_11_2 h
          refine lv_tableIn (off := 47) (tgt := 58) hx hb dX8_told_11 (by rw [c_11_2]; decide) (by rw [c_11_2]; decide) (by rw [c_11_2]; rfl) (by decide) ?_
          refine lv_aload_n hx hb dX8_told_58 rfl (lv_at hl 0 rfl) ?_
          refine m_get (k := 6) (v := .ref (o + 6)) hc hP (by decide) wF_X8_25 rfl dX8_told_59 ?_
          refine lv_iload_n hx hb dX8_told_62 rfl (lv_at hl 1 rfl) ?_
          obtain ⟨c_63, h⟩ := z_chk_some h
          refine m_iald (k := 6) (j := 6) hc hP (ma_6 ..) c_63 dX8_told_63 ?_
          cases h
          rw [hQ]
          exact m_reti hc hr hlocks hP hS hz dX8_told_64
        · replace h := z_in_ c_11_2 h
          by_cases c_11_3 : a1 = 3
          · replace h := z_ip_ c_11_3 h
            refine lv_tableIn (off := 54) (tgt := 65) hx hb dX8_told_11 (by rw [c_11_3]; decide) (by rw [c_11_3]; decide) (by rw [c_11_3]; rfl) (by decide) ?_
            refine lv_aload_n hx hb dX8_told_65 rfl (lv_at hl 0 rfl) ?_
            refine lv_iload_n hx hb dX8_told_66 rfl (lv_at hl 1 rfl) ?_
            obtain ⟨r_3, M_2, er_3, h⟩ := z_bd2_some h
            refine m_calli (As := [.int a0]) (r := r_3) (M' := M_2) (n := 1) hc hP hS (mt_X8_fars l D cI cJ o H.size M a0 er_3) wM_X8_247 wI_X8_fars wS_X8_fars wZ_X8 wC_X8_fars md_X8_fars ⟨rfl, rfl, Nat.le_of_ble_eq_true rfl, Nat.le_of_ble_eq_true rfl⟩ rfl hl.1 rfl (Nat.le_of_ble_eq_true rfl) dX8_told_67 ⟨Nat.zero_le _, Nat.zero_le _⟩ (fun H locs hP hS => ?_)
            cases h
            rw [hQ]
            exact m_reti hc hr hlocks hP hS hz dX8_told_70
          · replace h := z_in_ c_11_3 h
            by_cases c_11_4 : a1 = 4
            · replace h := z_ip_ c_11_4 h
              refine lv_tableIn (off := 60) (tgt := 71) hx hb dX8_told_11 (by rw [c_11_4]; decide) (by rw [c_11_4]; decide) (by rw [c_11_4]; rfl) (by decide) ?_
              refine lv_aload_n hx hb dX8_told_71 rfl (lv_at hl 0 rfl) ?_
              refine m_get (k := 11) (v := .ref (o + 11)) hc hP (by decide) wF_X8_40 rfl dX8_told_72 ?_
              refine lv_iload_n hx hb dX8_told_75 rfl (lv_at hl 1 rfl) ?_
              obtain ⟨c_76, h⟩ := z_chk_some h
              refine m_iald (k := 11) (j := 11) hc hP (ma_11 ..) c_76 dX8_told_76 ?_
              cases h
              rw [hQ]
              exact m_reti hc hr hlocks hP hS hz dX8_told_77
            · replace h := z_in_ c_11_4 h
              refine lv_tableOut (tgt := 78) hx hb dX8_told_11 (z_out_0_4 c_11_0 c_11_1 c_11_2 c_11_3 c_11_4) (by decide) ?_
              refine lv_iconst (v := -1) hx hb dX8_told_78 (by decide) ?_
              cases h
              rw [hQ]
              exact m_reti hc hr hlocks hP hS hz dX8_told_79
  · replace h := z_ip_ c_5 h
    refine lv_iconst (v := -1) hx hb dX8_told_8 (by decide) ?_
    cases h
    rw [hQ]
    exact m_reti hc hr hlocks hP hS hz dX8_told_9
theorem md_X8_told : yX8_told.cls ≠ "java/lang/invoke/MethodHandle" ∧ yX8_told.cls ≠ "java/lang/invoke/VarHandle" ∧ (parseMethodDescriptor yX8_told.desc).map (fun d => d.parameters.length) = some 2 := by decide +kernel
