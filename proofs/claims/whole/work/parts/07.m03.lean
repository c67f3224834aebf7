noncomputable def f_X8_times (M : MS) (a0 : Int64) (a1 : Int64) (a2 : Int64) (a3 : Int64) : Option (MS) :=
  z_bd (f_X8_divisor a0 a3) fun r_1 => z_bd (f_X8_divisor a2 a1) fun r_2 => z_bd (if (lg_cmp r_1 (0 : Int64)) = 0 then some ((1 : Int64)) else some (r_1)) fun v_3 => z_bd (if (lg_cmp r_2 (0 : Int64)) = 0 then some ((1 : Int64)) else some (r_2)) fun v_4 => z_chk (¬ v_3 = 0) (z_chk (¬ v_4 = 0) (z_chk (¬ v_4 = 0) (z_chk (¬ v_3 = 0) (z_bd (f_X8_is M ((a0 / v_3) * (a2 / v_4)) ((a1 / v_4) * (a3 / v_3))) fun M_5 => some M_5))))
set_option maxHeartbeats 4000000 in
set_option maxRecDepth 100000 in
theorem mt_X8_times (l : Launch) (D : va_G) (cI cJ : ClassId) (o sz : Nat) (M : MS) (a0 : Int64) (a1 : Int64) (a2 : Int64) (a3 : Int64) {N_ : MS} (h : f_X8_times M a0 a1 a2 a3 = some N_) : Met l yX8_times (z_wd yX8_times cX8_times 13 none) (z_rm 2 87) (va_Pc [.ref o, .long a0, .long a1, .long a2, .long a3] (m_C D cI cJ o sz M)) (va_Qv (fun (M1 : MS) => M1 = N_) (m_C D cI cJ o sz) (m_A o)) 0 0 (m_A o) := by
  refine Met.ofW (cc := cX8_times) (maxL := 13) (ret := none) (by decide) rfl ?_
  intro p e s m args below meth c s₁ B hml hv
  obtain ⟨hav, hz, hP0, hK⟩ := hv
  have hx := B.exec
  have hb := B.bytes
  have hr := B.returns
  have hts := atoms_spec (ws := z_wd yX8_times cX8_times 13 none) B.pre
  have hown : s.vm.findClass RX8 = some m.cls := findClass_of_methodNamed B.named
  have hlocks := B.notSynchronized
  have hc : m_X p s m args c cX8_times 13 D cI cJ := ⟨hx, hb, hml, fun w hw => hts w (List.mem_cons_of_mem _ hw), hown, hK⟩
  have hl := lv_entry ([.ref o, .long a0, .long a1, .long a2, .long a3]) (n := 13) (Nat.le_of_ble_eq_true rfl)
  have hE : entryFrame m args 13 = F0 m 0 ((lg_sl ([.ref o, .long a0, .long a1, .long a2, .long a3]) ++ List.replicate (13 - (lg_sl ([.ref o, .long a0, .long a1, .long a2, .long a3])).length) Slot.unset).toArray) [] := by rw [hav]; exact lg_entry_eq m _ _
  rw [hE]
  clear hE hav
  generalize (lg_sl ([.ref o, .long a0, .long a1, .long a2, .long a3]) ++ List.replicate (13 - (lg_sl ([.ref o, .long a0, .long a1, .long a2, .long a3])).length) Slot.unset).toArray = ls at hl ⊢
  have hl : lv_has ls 13 [(0, .ref o), (1, .long a0), (3, .long a1), (5, .long a2), (7, .long a3)] := hl
  obtain ⟨Q, hQ⟩ : ∃ Q, Q = MQ below (va_Qv (fun (M1 : MS) => M1 = N_) (m_C D cI cJ o sz) (m_A o)) args s 0 0 (m_A o) := ⟨_, rfl⟩
  rw [← hQ]
  suffices hmain : ∀ (H : Heap) (locs : List Loc), va_P D z_cls (m_W cI cJ o M) H → va_S (m_A o) s.heap H locs → W p l e (z_rm 2 87) s m args below meth c H locs 0 0 Q (F0 m 0 ls []) from hmain s.heap [] hP0 va_S.rf
  clear hP0
  intro H locs hP hS
  unfold f_X8_times at h
  refine lv_lload_n hx hb dX8_times_0 rfl (lv_at hl 1 rfl) ?_
  refine lv_lload hx hb dX8_times_1 (lv_at hl 4 rfl) ?_
  obtain ⟨r_1, er_1, h⟩ := z_bd_some h
  refine s_calll (As := [.long a0, .long a3]) (r := r_1) (n := 2) hc.s (mt_X8_divisor l a0 a3 er_1) wM_X8_104 wT_X8_divisor wZ_X8 wC_X8_divisor md_X8_divisor ⟨rfl, rfl, Nat.le_of_ble_eq_true rfl, Nat.le_of_ble_eq_true rfl⟩ rfl hl.1 rfl (Nat.le_of_ble_eq_true rfl) dX8_times_3 ⟨Nat.zero_le _, Nat.zero_le _⟩ ?_
  refine lv_lstore (lv' := [(9, .long r_1), (0, .ref o), (1, .long a0), (3, .long a1), (5, .long a2), (7, .long a3)]) hx hb dX8_times_6 hl (by decide) rfl (fun ls hl => ?_)
  refine lv_lload hx hb dX8_times_8 (lv_at hl 4 rfl) ?_
  refine lv_lload_n hx hb dX8_times_10 rfl (lv_at hl 3 rfl) ?_
  obtain ⟨r_2, er_2, h⟩ := z_bd_some h
  refine s_calll (As := [.long a2, .long a1]) (r := r_2) (n := 2) hc.s (mt_X8_divisor l a2 a1 er_2) wM_X8_104 wT_X8_divisor wZ_X8 wC_X8_divisor md_X8_divisor ⟨rfl, rfl, Nat.le_of_ble_eq_true rfl, Nat.le_of_ble_eq_true rfl⟩ rfl hl.1 rfl (Nat.le_of_ble_eq_true rfl) dX8_times_11 ⟨Nat.zero_le _, Nat.zero_le _⟩ ?_
  refine lv_lstore (lv' := [(11, .long r_2), (9, .long r_1), (0, .ref o), (1, .long a0), (3, .long a1), (5, .long a2), (7, .long a3)]) hx hb dX8_times_14 hl (by decide) rfl (fun ls hl => ?_)
  refine lv_lload hx hb dX8_times_16 (lv_at hl 1 rfl) ?_
  refine lv_lconst (v := 0) hx hb dX8_times_18 (by decide) ?_
  refine W.lcmp hx hb dX8_times_19 ?_
  obtain ⟨v_3, hJ, h⟩ := z_bd_some h
  have J_29 : ∀ (H : Heap) (locs : List Loc) (ls : Array Slot), va_P D z_cls (m_W cI cJ o M) H → va_S (m_A o) s.heap H locs → lv_has ls 13 [(0, .ref o), (1, .long a0), (3, .long a1), (5, .long a2), (7, .long a3), (11, .long r_2)] → W p l e (z_rm 2 87) s m args below meth c H locs 0 0 Q (F0 m 29 ls [.long v_3]) := by
    intro H locs ls hP hS hl
    refine lv_lstore (lv' := [(9, .long v_3), (0, .ref o), (1, .long a0), (3, .long a1), (5, .long a2), (7, .long a3), (11, .long r_2)]) hx hb dX8_times_29 hl (by decide) rfl (fun ls hl => ?_)
    refine lv_lload hx hb dX8_times_31 (lv_at hl 6 rfl) ?_
    refine lv_lconst (v := 0) hx hb dX8_times_33 (by decide) ?_
    refine W.lcmp hx hb dX8_times_34 ?_
    obtain ⟨v_4, hJ, h⟩ := z_bd_some h
    have J_44 : ∀ (H : Heap) (locs : List Loc) (ls : Array Slot), va_P D z_cls (m_W cI cJ o M) H → va_S (m_A o) s.heap H locs → lv_has ls 13 [(0, .ref o), (1, .long a0), (3, .long a1), (5, .long a2), (7, .long a3), (9, .long v_3)] → W p l e (z_rm 2 87) s m args below meth c H locs 0 0 Q (F0 m 44 ls [.long v_4]) := by
      intro H locs ls hP hS hl
      refine lv_lstore (lv' := [(11, .long v_4), (0, .ref o), (1, .long a0), (3, .long a1), (5, .long a2), (7, .long a3), (9, .long v_3)]) hx hb dX8_times_44 hl (by decide) rfl (fun ls hl => ?_)
      refine lv_aload_n hx hb dX8_times_46 rfl (lv_at hl 1 rfl) ?_
      refine lv_lload_n hx hb dX8_times_47 rfl (lv_at hl 2 rfl) ?_
      refine lv_lload hx hb dX8_times_48 (lv_at hl 6 rfl) ?_
      obtain ⟨c_50, h⟩ := z_chk_some h
      refine lv_ldiv hx hb dX8_times_50 c_50 ?_
      refine lv_lload hx hb dX8_times_51 (lv_at hl 4 rfl) ?_
      refine lv_lload hx hb dX8_times_53 (lv_at hl 0 rfl) ?_
      obtain ⟨c_55, h⟩ := z_chk_some h
      refine lv_ldiv hx hb dX8_times_55 c_55 ?_
      refine lv_lmul hx hb dX8_times_56 ?_
      refine lv_lload_n hx hb dX8_times_57 rfl (lv_at hl 3 rfl) ?_
      refine lv_lload hx hb dX8_times_58 (lv_at hl 0 rfl) ?_
      obtain ⟨c_60, h⟩ := z_chk_some h
      refine lv_ldiv hx hb dX8_times_60 c_60 ?_
      refine lv_lload hx hb dX8_times_61 (lv_at hl 5 rfl) ?_
      refine lv_lload hx hb dX8_times_63 (lv_at hl 6 rfl) ?_
      obtain ⟨c_65, h⟩ := z_chk_some h
      refine lv_ldiv hx hb dX8_times_65 c_65 ?_
      refine lv_lmul hx hb dX8_times_66 ?_
      obtain ⟨M_5, eM_5, h⟩ := z_bd_some h
      refine m_callv (As := [.long ((a0 / v_3) * (a2 / v_4)), .long ((a1 / v_4) * (a3 / v_3))]) (M' := M_5) (n := 2) hc hP hS (mt_X8_is l D cI cJ o H.size M ((a0 / v_3) * (a2 / v_4)) ((a1 / v_4) * (a3 / v_3)) eM_5) wM_X8_111 wI_X8_is wS_X8_is wZ_X8 wC_X8_is md_X8_is ⟨rfl, rfl, Nat.le_of_ble_eq_true rfl, Nat.le_of_ble_eq_true rfl⟩ rfl hl.1 rfl (Nat.le_of_ble_eq_true rfl) dX8_times_67 ⟨Nat.zero_le _, Nat.zero_le _⟩ (fun H locs hP hS => ?_)
      cases h
      rw [hQ]
      exact m_retv hc hr hlocks hP hS hz dX8_times_70
    clear h
    have h := hJ
    clear hJ
    refine lv_if_ne (tgt := 42) hx hb dX8_times_35 (by decide) (fun c_35 => ?_) (fun c_35 => ?_)
    · replace h := z_in_ c_35 h
      refine lv_lload hx hb dX8_times_42 (lv_at hl 6 rfl) ?_
      cases h
      exact J_44 H locs ls hP hS (lv_sub hl [1, 2, 3, 4, 5, 0] rfl)
    · replace h := z_ip_ c_35 h
      refine lv_lconst (v := 1) hx hb dX8_times_38 (by decide) ?_
      refine lv_goto (tgt := 44) hx hb dX8_times_39 (by decide) ?_
      cases h
      exact J_44 H locs ls hP hS (lv_sub hl [1, 2, 3, 4, 5, 0] rfl)
  clear h
  have h := hJ
  clear hJ
  refine lv_if_ne (tgt := 27) hx hb dX8_times_20 (by decide) (fun c_20 => ?_) (fun c_20 => ?_)
  · replace h := z_in_ c_20 h
    refine lv_lload hx hb dX8_times_27 (lv_at hl 1 rfl) ?_
    cases h
    exact J_29 H locs ls hP hS (lv_sub hl [2, 3, 4, 5, 6, 0] rfl)
  · replace h := z_ip_ c_20 h
    refine lv_lconst (v := 1) hx hb dX8_times_23 (by decide) ?_
    refine lv_goto (tgt := 29) hx hb dX8_times_24 (by decide) ?_
    cases h
    exact J_29 H locs ls hP hS (lv_sub hl [2, 3, 4, 5, 6, 0] rfl)
theorem md_X8_times : yX8_times.cls ≠ "java/lang/invoke/MethodHandle" ∧ yX8_times.cls ≠ "java/lang/invoke/VarHandle" ∧ (parseMethodDescriptor yX8_times.desc).map (fun d => d.parameters.length) = some 4 := by decide +kernel
noncomputable def f_X8_compare_L17  (x8_1 : Int64) (x10_2 : Int64) (x12_3 : Int64) (x14_4 : Int64) (x16_5 : Int32) : Option (((Int32) ⊕ (Int64 × Int64 × Int64 × Int64 × Int32)) ⊕ (Int64 × Int64 × Int64 × Int64 × Int32)) :=
  z_chk (¬ x10_2 = 0) (z_chk (¬ x14_4 = 0) (if (lg_cmp (x8_1 / x10_2) (x12_3 / x14_4)) = 0 then z_chk (¬ x10_2 = 0) (z_chk (¬ x14_4 = 0) (if (lg_cmp (x8_1 - x8_1 / x10_2 * x10_2) (0 : Int64)) = 0 then if (lg_cmp (x8_1 - x8_1 / x10_2 * x10_2) (x12_3 - x12_3 / x14_4 * x14_4)) = 0 then some (.inl (.inl (0 : Int32))) else if (lg_cmp (x8_1 - x8_1 / x10_2 * x10_2) (0 : Int64)) = 0 then some (.inl (.inl (-x16_5))) else some (.inl (.inl x16_5)) else if (lg_cmp (x12_3 - x12_3 / x14_4 * x14_4) (0 : Int64)) = 0 then if (lg_cmp (x8_1 - x8_1 / x10_2 * x10_2) (x12_3 - x12_3 / x14_4 * x14_4)) = 0 then some (.inl (.inl (0 : Int32))) else if (lg_cmp (x8_1 - x8_1 / x10_2 * x10_2) (0 : Int64)) = 0 then some (.inl (.inl (-x16_5))) else some (.inl (.inl x16_5)) else some (.inr (x10_2, (x8_1 - x8_1 / x10_2 * x10_2), x14_4, (x12_3 - x12_3 / x14_4 * x14_4), (-x16_5))))) else some (.inl (.inr (x8_1, x10_2, x12_3, x14_4, x16_5)))))
noncomputable def f_X8_compare (a0 : Int64) (a1 : Int64) (a2 : Int64) (a3 : Int64) : Option (Int32) :=
  z_bs (z_lp (fun x => f_X8_compare_L17  x.1 x.2.1 x.2.2.1 x.2.2.2.1 x.2.2.2.2) (a0, a1, a2, a3, (1 : Int32))) fun y => z_chk (¬ y.2.1 = 0) (z_chk (¬ y.2.2.2.1 = 0) (if 0 ≤ (lg_cmp (y.1 / y.2.1) (y.2.2.1 / y.2.2.2.1)) then some y.2.2.2.2 else some (-y.2.2.2.2)))
set_option maxHeartbeats 4000000 in
set_option maxRecDepth 100000 in
theorem mt_X8_compare (l : Launch) (a0 : Int64) (a1 : Int64) (a2 : Int64) (a3 : Int64) {r_ : Int32} (h : f_X8_compare a0 a1 a2 a3 = some r_) : Met l yX8_compare (z_wd yX8_compare cX8_compare 19 (some .int)) (z_rm 0 0) (va_Pc [.long a0, .long a1, .long a2, .long a3] (fun _ => True)) (vp_Si (fun r1 : Int32 => r1 = r_)) 0 0 (fun _ => False) := by
  refine Met.ofW (cc := cX8_compare) (maxL := 19) (ret := (some .int)) (by decide) rfl ?_
  intro p e s m args below meth c s₁ B hml hv
  obtain ⟨hav, -⟩ := hv
  have hx := B.exec
  have hb := B.bytes
  have hr := B.returns
  have hts := atoms_spec (ws := z_wd yX8_compare cX8_compare 19 (some .int)) B.pre
  have hown : s.vm.findClass RX8 = some m.cls := findClass_of_methodNamed B.named
  have hlocks := B.notSynchronized
  have hc : s_X p s m args c cX8_compare 19 RX8 := ⟨hx, hb, hml, fun w hw => hts w (List.mem_cons_of_mem _ hw), hown⟩
  have hl := lv_entry ([.long a0, .long a1, .long a2, .long a3]) (n := 19) (Nat.le_of_ble_eq_true rfl)
  have hE : entryFrame m args 19 = F0 m 0 ((lg_sl ([.long a0, .long a1, .long a2, .long a3]) ++ List.replicate (19 - (lg_sl ([.long a0, .long a1, .long a2, .long a3])).length) Slot.unset).toArray) [] := by rw [hav]; exact lg_entry_eq m _ _
  rw [hE]
  clear hE hav
  generalize (lg_sl ([.long a0, .long a1, .long a2, .long a3]) ++ List.replicate (19 - (lg_sl ([.long a0, .long a1, .long a2, .long a3])).length) Slot.unset).toArray = ls at hl ⊢
  have hl : lv_has ls 19 [(0, .long a0), (2, .long a1), (4, .long a2), (6, .long a3)] := hl
  obtain ⟨Q, hQ⟩ : ∃ Q, Q = MQ below (vp_Si (fun r1 : Int32 => r1 = r_)) args s 0 0 (fun _ => False) := ⟨_, rfl⟩
  rw [← hQ]
  show W p l e (z_rm 0 0) s m args below meth c s.heap [] 0 0 Q (F0 m 0 ls [])
  unfold f_X8_compare at h
  refine lv_lload_n hx hb dX8_compare_0 rfl (lv_at hl 0 rfl) ?_
  refine lv_lstore (lv' := [(8, .long a0), (0, .long a0), (2, .long a1), (4, .long a2), (6, .long a3)]) hx hb dX8_compare_1 hl (by decide) rfl (fun ls hl => ?_)
  refine lv_lload_n hx hb dX8_compare_3 rfl (lv_at hl 2 rfl) ?_
  refine lv_lstore (lv' := [(10, .long a1), (8, .long a0), (0, .long a0), (2, .long a1), (4, .long a2), (6, .long a3)]) hx hb dX8_compare_4 hl (by decide) rfl (fun ls hl => ?_)
  refine lv_lload hx hb dX8_compare_6 (lv_at hl 4 rfl) ?_
  refine lv_lstore (lv' := [(12, .long a2), (10, .long a1), (8, .long a0), (0, .long a0), (2, .long a1), (4, .long a2), (6, .long a3)]) hx hb dX8_compare_8 hl (by decide) rfl (fun ls hl => ?_)
  refine lv_lload hx hb dX8_compare_10 (lv_at hl 6 rfl) ?_
  refine lv_lstore (lv' := [(14, .long a3), (12, .long a2), (10, .long a1), (8, .long a0), (0, .long a0), (2, .long a1), (4, .long a2), (6, .long a3)]) hx hb dX8_compare_12 hl (by decide) rfl (fun ls hl => ?_)
  refine lv_iconst (v := 1) hx hb dX8_compare_14 (by decide) ?_
  refine lv_istore (lv' := [(16, .int (1 : Int32)), (14, .long a3), (12, .long a2), (10, .long a1), (8, .long a0), (0, .long a0), (2, .long a1), (4, .long a2), (6, .long a3)]) hx hb dX8_compare_15 hl (by decide) rfl (fun ls hl => ?_)
  have LP_17 : ∀ ee, z_lp (fun x => f_X8_compare_L17  x.1 x.2.1 x.2.2.1 x.2.2.2.1 x.2.2.2.2) (a0, a1, a2, a3, (1 : Int32)) = some ee → ((fun z => match z with
      | .inl rr => rr = r_
      | .inr y => ∀ (ls : Array Slot), lv_has ls 19 [(8, .long y.1), (10, .long y.2.1), (12, .long y.2.2.1), (14, .long y.2.2.2.1), (16, .int y.2.2.2.2)] → W p l e (z_rm 0 0) s m args below meth c s.heap [] 0 0 Q (F0 m 119 ls []) : (Int32) ⊕ (Int64 × Int64 × Int64 × Int64 × Int32) → Prop) ee) → W p l e (z_rm 0 0) s m args below meth c s.heap [] 0 0 Q (F0 m 17 ls []) := by
    intro ee hlp hq
    refine z_lp_ind (P := fun x => ∀ (ls : Array Slot), lv_has ls 19 [(8, .long x.1), (10, .long x.2.1), (12, .long x.2.2.1), (14, .long x.2.2.2.1), (16, .int x.2.2.2.2)] → W p l e (z_rm 0 0) s m args below meth c s.heap [] 0 0 Q (F0 m 17 ls [])) (Qe := fun z => match z with
      | .inl rr => rr = r_
      | .inr y => ∀ (ls : Array Slot), lv_has ls 19 [(8, .long y.1), (10, .long y.2.1), (12, .long y.2.2.1), (14, .long y.2.2.2.1), (16, .int y.2.2.2.2)] → W p l e (z_rm 0 0) s m args below meth c s.heap [] 0 0 Q (F0 m 119 ls [])) ?_ hlp hq ls (lv_sub hl [4, 3, 2, 1, 0] rfl)
    clear h hlp hq hl
    rintro ⟨x8_1, x10_2, x12_3, x14_4, x16_5⟩ oo h K_17 ls hl
    have hl : lv_has ls 19 [(8, .long x8_1), (10, .long x10_2), (12, .long x12_3), (14, .long x14_4), (16, .int x16_5)] := hl
    have h : f_X8_compare_L17  x8_1 x10_2 x12_3 x14_4 x16_5 = some oo := h
    unfold f_X8_compare_L17 at h
    refine lv_lload hx hb dX8_compare_17 (lv_at hl 0 rfl) ?_
    refine lv_lload hx hb dX8_compare_19 (lv_at hl 1 rfl) ?_
    obtain ⟨c_21, h⟩ := z_chk_some h
    refine lv_ldiv hx hb dX8_compare_21 c_21 ?_
    refine lv_lload hx hb dX8_compare_22 (lv_at hl 2 rfl) ?_
    refine lv_lload hx hb dX8_compare_24 (lv_at hl 3 rfl) ?_
    obtain ⟨c_26, h⟩ := z_chk_some h
    refine lv_ldiv hx hb dX8_compare_26 c_26 ?_
    refine W.lcmp hx hb dX8_compare_27 ?_
    refine lv_if_ne (tgt := 119) hx hb dX8_compare_28 (by decide) (fun c_28 => ?_) (fun c_28 => ?_)
    · replace h := z_in_ c_28 h
      cases h
      exact K_17 ls (lv_sub hl [0, 1, 2, 3, 4] rfl)
    · replace h := z_ip_ c_28 h
      refine lv_lload hx hb dX8_compare_31 (lv_at hl 0 rfl) ?_
      refine lv_lload hx hb dX8_compare_33 (lv_at hl 1 rfl) ?_
      obtain ⟨c_35, h⟩ := z_chk_some h
      refine lv_lrem hx hb dX8_compare_35 c_35 ?_
      refine lv_lstore (lv' := [(8, .long (x8_1 - x8_1 / x10_2 * x10_2)), (10, .long x10_2), (12, .long x12_3), (14, .long x14_4), (16, .int x16_5)]) hx hb dX8_compare_36 hl (by decide) rfl (fun ls hl => ?_)
      refine lv_lload hx hb dX8_compare_38 (lv_at hl 2 rfl) ?_
      refine lv_lload hx hb dX8_compare_40 (lv_at hl 3 rfl) ?_
      obtain ⟨c_42, h⟩ := z_chk_some h
      refine lv_lrem hx hb dX8_compare_42 c_42 ?_
      refine lv_lstore (lv' := [(12, .long (x12_3 - x12_3 / x14_4 * x14_4)), (8, .long (x8_1 - x8_1 / x10_2 * x10_2)), (10, .long x10_2), (14, .long x14_4), (16, .int x16_5)]) hx hb dX8_compare_43 hl (by decide) rfl (fun ls hl => ?_)
      refine lv_lload hx hb dX8_compare_45 (lv_at hl 1 rfl) ?_
      refine lv_lconst (v := 0) hx hb dX8_compare_47 (by decide) ?_
      refine W.lcmp hx hb dX8_compare_48 ?_
      refine lv_if_eq (tgt := 59) hx hb dX8_compare_49 (by decide) (fun c_49 => ?_) (fun c_49 => ?_)
      · replace h := z_ip_ c_49 h
        refine lv_lload hx hb dX8_compare_59 (lv_at hl 1 rfl) ?_
        refine lv_lload hx hb dX8_compare_61 (lv_at hl 0 rfl) ?_
        refine W.lcmp hx hb dX8_compare_63 ?_
        refine lv_if_ne (tgt := 71) hx hb dX8_compare_64 (by decide) (fun c_64 => ?_) (fun c_64 => ?_)
        · replace h := z_in_ c_64 h
          refine lv_lload hx hb dX8_compare_71 (lv_at hl 1 rfl) ?_
          refine lv_lconst (v := 0) hx hb dX8_compare_73 (by decide) ?_
          refine W.lcmp hx hb dX8_compare_74 ?_
          refine lv_if_ne (tgt := 84) hx hb dX8_compare_75 (by decide) (fun c_75 => ?_) (fun c_75 => ?_)
          · replace h := z_in_ c_75 h
            refine lv_iload hx hb dX8_compare_84 (lv_at hl 4 rfl) ?_
            cases h
            have K_17 : x16_5 = r_ := K_17
            cases K_17
            rw [hQ]
            exact s_reti hc hr hlocks dX8_compare_86
          · replace h := z_ip_ c_75 h
            refine lv_iload hx hb dX8_compare_78 (lv_at hl 4 rfl) ?_
            refine lv_ineg hx hb dX8_compare_80 ?_
            refine lv_goto (tgt := 86) hx hb dX8_compare_81 (by decide) ?_
            cases h
            have K_17 : (-x16_5) = r_ := K_17
            cases K_17
            rw [hQ]
            exact s_reti hc hr hlocks dX8_compare_86
        · replace h := z_ip_ c_64 h
          refine lv_iconst (v := 0) hx hb dX8_compare_67 (by decide) ?_
          refine lv_goto (tgt := 86) hx hb dX8_compare_68 (by decide) ?_
          cases h
          have K_17 : (0 : Int32) = r_ := K_17
          cases K_17
          rw [hQ]
          exact s_reti hc hr hlocks dX8_compare_86
      · replace h := z_in_ c_49 h
        refine lv_lload hx hb dX8_compare_52 (lv_at hl 0 rfl) ?_
        refine lv_lconst (v := 0) hx hb dX8_compare_54 (by decide) ?_
        refine W.lcmp hx hb dX8_compare_55 ?_
        refine lv_if_ne (tgt := 87) hx hb dX8_compare_56 (by decide) (fun c_56 => ?_) (fun c_56 => ?_)
        · replace h := z_in_ c_56 h
          refine lv_lload hx hb dX8_compare_87 (lv_at hl 1 rfl) ?_
          refine lv_lstore (lv' := [(17, .long (x8_1 - x8_1 / x10_2 * x10_2)), (12, .long (x12_3 - x12_3 / x14_4 * x14_4)), (8, .long (x8_1 - x8_1 / x10_2 * x10_2)), (10, .long x10_2), (14, .long x14_4), (16, .int x16_5)]) hx hb dX8_compare_89 hl (by decide) rfl (fun ls hl => ?_)
          refine lv_lload hx hb dX8_compare_91 (lv_at hl 3 rfl) ?_
          refine lv_lstore (lv' := [(8, .long x10_2), (17, .long (x8_1 - x8_1 / x10_2 * x10_2)), (12, .long (x12_3 - x12_3 / x14_4 * x14_4)), (10, .long x10_2), (14, .long x14_4), (16, .int x16_5)]) hx hb dX8_compare_93 hl (by decide) rfl (fun ls hl => ?_)
          refine lv_lload hx hb dX8_compare_95 (lv_at hl 1 rfl) ?_
          refine lv_lstore (lv' := [(10, .long (x8_1 - x8_1 / x10_2 * x10_2)), (8, .long x10_2), (17, .long (x8_1 - x8_1 / x10_2 * x10_2)), (12, .long (x12_3 - x12_3 / x14_4 * x14_4)), (14, .long x14_4), (16, .int x16_5)]) hx hb dX8_compare_97 hl (by decide) rfl (fun ls hl => ?_)
          refine lv_lload hx hb dX8_compare_99 (lv_at hl 3 rfl) ?_
          refine lv_lstore (lv' := [(17, .long (x12_3 - x12_3 / x14_4 * x14_4)), (10, .long (x8_1 - x8_1 / x10_2 * x10_2)), (8, .long x10_2), (12, .long (x12_3 - x12_3 / x14_4 * x14_4)), (14, .long x14_4), (16, .int x16_5)]) hx hb dX8_compare_101 hl (by decide) rfl (fun ls hl => ?_)
          refine lv_lload hx hb dX8_compare_103 (lv_at hl 4 rfl) ?_
          refine lv_lstore (lv' := [(12, .long x14_4), (17, .long (x12_3 - x12_3 / x14_4 * x14_4)), (10, .long (x8_1 - x8_1 / x10_2 * x10_2)), (8, .long x10_2), (14, .long x14_4), (16, .int x16_5)]) hx hb dX8_compare_105 hl (by decide) rfl (fun ls hl => ?_)
          refine lv_lload hx hb dX8_compare_107 (lv_at hl 1 rfl) ?_
          refine lv_lstore (lv' := [(14, .long (x12_3 - x12_3 / x14_4 * x14_4)), (12, .long x14_4), (17, .long (x12_3 - x12_3 / x14_4 * x14_4)), (10, .long (x8_1 - x8_1 / x10_2 * x10_2)), (8, .long x10_2), (16, .int x16_5)]) hx hb dX8_compare_109 hl (by decide) rfl (fun ls hl => ?_)
          refine lv_iload hx hb dX8_compare_111 (lv_at hl 5 rfl) ?_
          refine lv_ineg hx hb dX8_compare_113 ?_
          refine lv_istore (lv' := [(16, .int (-x16_5)), (14, .long (x12_3 - x12_3 / x14_4 * x14_4)), (12, .long x14_4), (17, .long (x12_3 - x12_3 / x14_4 * x14_4)), (10, .long (x8_1 - x8_1 / x10_2 * x10_2)), (8, .long x10_2)]) hx hb dX8_compare_114 hl (by decide) rfl (fun ls hl => ?_)
          refine lv_goto (tgt := 17) hx hb dX8_compare_116 (by decide) ?_
          cases h
          exact K_17 ls (lv_sub hl [5, 4, 2, 1, 0] rfl)
        · replace h := z_ip_ c_56 h
          refine lv_lload hx hb dX8_compare_59 (lv_at hl 1 rfl) ?_
          refine lv_lload hx hb dX8_compare_61 (lv_at hl 0 rfl) ?_
          refine W.lcmp hx hb dX8_compare_63 ?_
          refine lv_if_ne (tgt := 71) hx hb dX8_compare_64 (by decide) (fun c_64 => ?_) (fun c_64 => ?_)
          · replace h := z_in_ c_64 h
            refine lv_lload hx hb dX8_compare_71 (lv_at hl 1 rfl) ?_
            refine lv_lconst (v := 0) hx hb dX8_compare_73 (by decide) ?_
            refine W.lcmp hx hb dX8_compare_74 ?_
            refine lv_if_ne (tgt := 84) hx hb dX8_compare_75 (by decide) (fun c_75 => ?_) (fun c_75 => ?_)
            · replace h := z_in_ c_75 h
              refine lv_iload hx hb dX8_compare_84 (lv_at hl 4 rfl) ?_
              cases h
              have K_17 : x16_5 = r_ := K_17
              cases K_17
              rw [hQ]
              exact s_reti hc hr hlocks dX8_compare_86
            · replace h := z_ip_ c_75 h
              refine lv_iload hx hb dX8_compare_78 (lv_at hl 4 rfl) ?_
              refine lv_ineg hx hb dX8_compare_80 ?_
              refine lv_goto (tgt := 86) hx hb dX8_compare_81 (by decide) ?_
              cases h
              have K_17 : (-x16_5) = r_ := K_17
              cases K_17
              rw [hQ]
              exact s_reti hc hr hlocks dX8_compare_86
          · replace h := z_ip_ c_64 h
            refine lv_iconst (v := 0) hx hb dX8_compare_67 (by decide) ?_
            refine lv_goto (tgt := 86) hx hb dX8_compare_68 (by decide) ?_
            cases h
            have K_17 : (0 : Int32) = r_ := K_17
            cases K_17
            rw [hQ]
            exact s_reti hc hr hlocks dX8_compare_86
  rcases z_bs_some h with hlp | ⟨y, hlp, h⟩
  · exact LP_17 _ hlp rfl
  · refine LP_17 _ hlp ?_
    obtain ⟨y8_6, y10_7, y12_8, y14_9, y16_10⟩ := y
    clear hlp LP_17 hl
    show ∀ (ls : Array Slot), lv_has ls 19 [(8, .long y8_6), (10, .long y10_7), (12, .long y12_8), (14, .long y14_9), (16, .int y16_10)] → W p l e (z_rm 0 0) s m args below meth c s.heap [] 0 0 Q (F0 m 119 ls [])
    intro ls hl
    have hl : lv_has ls 19 [(8, .long y8_6), (10, .long y10_7), (12, .long y12_8), (14, .long y14_9), (16, .int y16_10)] := hl
    refine lv_lload hx hb dX8_compare_119 (lv_at hl 0 rfl) ?_
    refine lv_lload hx hb dX8_compare_121 (lv_at hl 1 rfl) ?_
    obtain ⟨c_123, h⟩ := z_chk_some h
    refine lv_ldiv hx hb dX8_compare_123 c_123 ?_
    refine lv_lload hx hb dX8_compare_124 (lv_at hl 2 rfl) ?_
    refine lv_lload hx hb dX8_compare_126 (lv_at hl 3 rfl) ?_
    obtain ⟨c_128, h⟩ := z_chk_some h
    refine lv_ldiv hx hb dX8_compare_128 c_128 ?_
    refine W.lcmp hx hb dX8_compare_129 ?_
    refine lv_if_ge (tgt := 139) hx hb dX8_compare_130 (by decide) (fun c_130 => ?_) (fun c_130 => ?_)
    · replace h := z_ip_ c_130 h
      refine lv_iload hx hb dX8_compare_139 (lv_at hl 4 rfl) ?_
      cases h
      rw [hQ]
      exact s_reti hc hr hlocks dX8_compare_141
    · replace h := z_in_ c_130 h
      refine lv_iload hx hb dX8_compare_133 (lv_at hl 4 rfl) ?_
      refine lv_ineg hx hb dX8_compare_135 ?_
      refine lv_goto (tgt := 141) hx hb dX8_compare_136 (by decide) ?_
      cases h
      rw [hQ]
      exact s_reti hc hr hlocks dX8_compare_141
theorem md_X8_compare : yX8_compare.cls ≠ "java/lang/invoke/MethodHandle" ∧ yX8_compare.cls ≠ "java/lang/invoke/VarHandle" ∧ (parseMethodDescriptor yX8_compare.desc).map (fun d => d.parameters.length) = some 4 := by decide +kernel
noncomputable def f_X8_isPoint (a0 : Int32) (a1 : Int32) (a2 : Int32) : Option (Int32) :=
  z_bd (f_X8_in a0 (-12 : Int32) (12 : Int32)) fun r_1 => if r_1 = 0 then some (0 : Int32) else z_bd (f_X8_in a1 (-60 : Int32) (60 : Int32)) fun r_2 => if r_2 = 0 then some (0 : Int32) else z_bd (f_X8_in a2 (1 : Int32) (4 : Int32)) fun r_3 => if r_3 = 0 then some (0 : Int32) else some (1 : Int32)
set_option maxHeartbeats 4000000 in
set_option maxRecDepth 100000 in
theorem mt_X8_isPoint (l : Launch) (a0 : Int32) (a1 : Int32) (a2 : Int32) {r_ : Int32} (h : f_X8_isPoint a0 a1 a2 = some r_) : Met l yX8_isPoint (z_wd yX8_isPoint cX8_isPoint 3 (some .boolean)) (z_rm 1 38) (va_Pc [.int a0, .int a1, .int a2] (fun _ => True)) (vp_Si (fun r1 : Int32 => r1 = r_)) 0 0 (fun _ => False) := by
  refine Met.ofW (cc := cX8_isPoint) (maxL := 3) (ret := (some .boolean)) (by decide) rfl ?_
  intro p e s m args below meth c s₁ B hml hv
  obtain ⟨hav, -⟩ := hv
  have hx := B.exec
  have hb := B.bytes
  have hr := B.returns
  have hts := atoms_spec (ws := z_wd yX8_isPoint cX8_isPoint 3 (some .boolean)) B.pre
  have hown : s.vm.findClass RX8 = some m.cls := findClass_of_methodNamed B.named
  have hlocks := B.notSynchronized
  have hc : s_X p s m args c cX8_isPoint 3 RX8 := ⟨hx, hb, hml, fun w hw => hts w (List.mem_cons_of_mem _ hw), hown⟩
  have hl := lv_entry ([.int a0, .int a1, .int a2]) (n := 3) (Nat.le_of_ble_eq_true rfl)
  have hE : entryFrame m args 3 = F0 m 0 ((lg_sl ([.int a0, .int a1, .int a2]) ++ List.replicate (3 - (lg_sl ([.int a0, .int a1, .int a2])).length) Slot.unset).toArray) [] := by rw [hav]; exact lg_entry_eq m _ _
  rw [hE]
  clear hE hav
  generalize (lg_sl ([.int a0, .int a1, .int a2]) ++ List.replicate (3 - (lg_sl ([.int a0, .int a1, .int a2])).length) Slot.unset).toArray = ls at hl ⊢
  have hl : lv_has ls 3 [(0, .int a0), (1, .int a1), (2, .int a2)] := hl
  obtain ⟨Q, hQ⟩ : ∃ Q, Q = MQ below (vp_Si (fun r1 : Int32 => r1 = r_)) args s 0 0 (fun _ => False) := ⟨_, rfl⟩
  rw [← hQ]
  show W p l e (z_rm 1 38) s m args below meth c s.heap [] 0 0 Q (F0 m 0 ls [])
  unfold f_X8_isPoint at h
  refine lv_iload_n hx hb dX8_isPoint_0 rfl (lv_at hl 0 rfl) ?_
  refine lv_bipush (v := -12) hx hb dX8_isPoint_1 (by decide) ?_
  refine lv_bipush (v := 12) hx hb dX8_isPoint_3 (by decide) ?_
  obtain ⟨r_1, er_1, h⟩ := z_bd_some h
  refine s_calli (As := [.int a0, .int (-12 : Int32), .int (12 : Int32)]) (r := r_1) (n := 3) hc (mt_X8_in l a0 (-12 : Int32) (12 : Int32) er_1) wM_X8_100 wT_X8_in wZ_X8 wC_X8_in md_X8_in ⟨rfl, rfl, Nat.le_of_ble_eq_true rfl, Nat.le_of_ble_eq_true rfl⟩ rfl hl.1 rfl (Nat.le_of_ble_eq_true rfl) dX8_isPoint_5 ⟨Nat.zero_le _, Nat.zero_le _⟩ ?_
  refine lv_if_eq (tgt := 35) hx hb dX8_isPoint_8 (by decide) (fun c_8 => ?_) (fun c_8 => ?_)
  · replace h := z_ip_ c_8 h
    refine lv_iconst (v := 0) hx hb dX8_isPoint_35 (by decide) ?_
    cases h
    rw [hQ]
    exact s_retz hc hr hlocks (by decide) dX8_isPoint_36
  · replace h := z_in_ c_8 h
    refine lv_iload_n hx hb dX8_isPoint_11 rfl (lv_at hl 1 rfl) ?_
    refine lv_bipush (v := -60) hx hb dX8_isPoint_12 (by decide) ?_
    refine lv_bipush (v := 60) hx hb dX8_isPoint_14 (by decide) ?_
    obtain ⟨r_2, er_2, h⟩ := z_bd_some h
    refine s_calli (As := [.int a1, .int (-60 : Int32), .int (60 : Int32)]) (r := r_2) (n := 3) hc (mt_X8_in l a1 (-60 : Int32) (60 : Int32) er_2) wM_X8_100 wT_X8_in wZ_X8 wC_X8_in md_X8_in ⟨rfl, rfl, Nat.le_of_ble_eq_true rfl, Nat.le_of_ble_eq_true rfl⟩ rfl hl.1 rfl (Nat.le_of_ble_eq_true rfl) dX8_isPoint_16 ⟨Nat.zero_le _, Nat.zero_le _⟩ ?_
    refine lv_if_eq (tgt := 35) hx hb dX8_isPoint_19 (by decide) (fun c_19 => ?_) (fun c_19 => ?_)
    · replace h := z_ip_ c_19 h
      refine lv_iconst (v := 0) hx hb dX8_isPoint_35 (by decide) ?_
      cases h
      rw [hQ]
      exact s_retz hc hr hlocks (by decide) dX8_isPoint_36
    · replace h := z_in_ c_19 h
      refine lv_iload_n hx hb dX8_isPoint_22 rfl (lv_at hl 2 rfl) ?_
      refine lv_iconst (v := 1) hx hb dX8_isPoint_23 (by decide) ?_
      refine lv_iconst (v := 4) hx hb dX8_isPoint_24 (by decide) ?_
      obtain ⟨r_3, er_3, h⟩ := z_bd_some h
      refine s_calli (As := [.int a2, .int (1 : Int32), .int (4 : Int32)]) (r := r_3) (n := 3) hc (mt_X8_in l a2 (1 : Int32) (4 : Int32) er_3) wM_X8_100 wT_X8_in wZ_X8 wC_X8_in md_X8_in ⟨rfl, rfl, Nat.le_of_ble_eq_true rfl, Nat.le_of_ble_eq_true rfl⟩ rfl hl.1 rfl (Nat.le_of_ble_eq_true rfl) dX8_isPoint_25 ⟨Nat.zero_le _, Nat.zero_le _⟩ ?_
      refine lv_if_eq (tgt := 35) hx hb dX8_isPoint_28 (by decide) (fun c_28 => ?_) (fun c_28 => ?_)
      · replace h := z_ip_ c_28 h
        refine lv_iconst (v := 0) hx hb dX8_isPoint_35 (by decide) ?_
        cases h
        rw [hQ]
        exact s_retz hc hr hlocks (by decide) dX8_isPoint_36
      · replace h := z_in_ c_28 h
        refine lv_iconst (v := 1) hx hb dX8_isPoint_31 (by decide) ?_
        refine lv_goto (tgt := 36) hx hb dX8_isPoint_32 (by decide) ?_
        cases h
        rw [hQ]
        exact s_retz hc hr hlocks (by decide) dX8_isPoint_36
theorem md_X8_isPoint : yX8_isPoint.cls ≠ "java/lang/invoke/MethodHandle" ∧ yX8_isPoint.cls ≠ "java/lang/invoke/VarHandle" ∧ (parseMethodDescriptor yX8_isPoint.desc).map (fun d => d.parameters.length) = some 3 := by decide +kernel
