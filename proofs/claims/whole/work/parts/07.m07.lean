noncomputable def f_X8_t (M : MS) (a0 : Int32) (a1 : Int32) : Option (Int64) :=
  z_chk (z_in a0 10) (z_chk (z_in a1 12) (z_chk (z_in (((12 : Int32) * a0) + (M.1 23 a1.toNatClampNeg)) 120) (z_bd (f_X8_argument (M.1 5 a0.toNatClampNeg) (M.1 8 (((12 : Int32) * a0) + (M.1 23 a1.toNatClampNeg)).toNatClampNeg)) fun r_1 => some r_1)))
set_option maxHeartbeats 4000000 in
set_option maxRecDepth 100000 in
theorem mt_X8_t (l : Launch) (D : va_G) (cI cJ : ClassId) (o sz : Nat) (M : MS) (a0 : Int32) (a1 : Int32) {r_ : Int64} (h : f_X8_t M a0 a1 = some r_) : Met l yX8_t (z_wd yX8_t cX8_t 3 (some .long)) (z_rm 1 37) (va_Pc [.ref o, .int a0, .int a1] (m_C D cI cJ o sz M)) (va_Ql (fun (r1 : Int64) (M1 : MS) => r1 = r_ ∧ M1 = M) (m_C D cI cJ o sz) (m_A o)) 0 0 (m_A o) := by
  refine Met.ofW (cc := cX8_t) (maxL := 3) (ret := (some .long)) (by decide) rfl ?_
  intro p e s m args below meth c s₁ B hml hv
  obtain ⟨hav, hz, hP0, hK⟩ := hv
  have hx := B.exec
  have hb := B.bytes
  have hr := B.returns
  have hts := atoms_spec (ws := z_wd yX8_t cX8_t 3 (some .long)) B.pre
  have hown : s.vm.findClass RX8 = some m.cls := findClass_of_methodNamed B.named
  have hlocks := B.notSynchronized
  have hc : m_X p s m args c cX8_t 3 D cI cJ := ⟨hx, hb, hml, fun w hw => hts w (List.mem_cons_of_mem _ hw), hown, hK⟩
  have hl := lv_entry ([.ref o, .int a0, .int a1]) (n := 3) (Nat.le_of_ble_eq_true rfl)
  have hE : entryFrame m args 3 = F0 m 0 ((lg_sl ([.ref o, .int a0, .int a1]) ++ List.replicate (3 - (lg_sl ([.ref o, .int a0, .int a1])).length) Slot.unset).toArray) [] := by rw [hav]; exact lg_entry_eq m _ _
  rw [hE]
  clear hE hav
  generalize (lg_sl ([.ref o, .int a0, .int a1]) ++ List.replicate (3 - (lg_sl ([.ref o, .int a0, .int a1])).length) Slot.unset).toArray = ls at hl ⊢
  have hl : lv_has ls 3 [(0, .ref o), (1, .int a0), (2, .int a1)] := hl
  obtain ⟨Q, hQ⟩ : ∃ Q, Q = MQ below (va_Ql (fun (r1 : Int64) (M1 : MS) => r1 = r_ ∧ M1 = M) (m_C D cI cJ o sz) (m_A o)) args s 0 0 (m_A o) := ⟨_, rfl⟩
  rw [← hQ]
  suffices hmain : ∀ (H : Heap) (locs : List Loc), va_P D z_cls (m_W cI cJ o M) H → va_S (m_A o) s.heap H locs → W p l e (z_rm 1 37) s m args below meth c H locs 0 0 Q (F0 m 0 ls []) from hmain s.heap [] hP0 va_S.rf
  clear hP0
  intro H locs hP hS
  unfold f_X8_t at h
  refine lv_aload_n hx hb dX8_t_0 rfl (lv_at hl 0 rfl) ?_
  refine m_get (k := 5) (v := .ref (o + 5)) hc hP (by decide) wF_X8_22 rfl dX8_t_1 ?_
  refine lv_iload_n hx hb dX8_t_4 rfl (lv_at hl 1 rfl) ?_
  obtain ⟨c_5, h⟩ := z_chk_some h
  refine m_iald (k := 5) (j := 5) hc hP (ma_5 ..) c_5 dX8_t_5 ?_
  refine lv_aload_n hx hb dX8_t_6 rfl (lv_at hl 0 rfl) ?_
  refine m_get (k := 8) (v := .ref (o + 8)) hc hP (by decide) wF_X8_31 rfl dX8_t_7 ?_
  refine lv_bipush (v := 12) hx hb dX8_t_10 (by decide) ?_
  refine lv_iload_n hx hb dX8_t_12 rfl (lv_at hl 1 rfl) ?_
  refine lv_imul hx hb dX8_t_13 ?_
  refine lv_aload_n hx hb dX8_t_14 rfl (lv_at hl 0 rfl) ?_
  refine m_get (k := 23) (v := .ref (o + 19)) hc hP (by decide) wF_X8_69 rfl dX8_t_15 ?_
  refine lv_iload_n hx hb dX8_t_18 rfl (lv_at hl 2 rfl) ?_
  obtain ⟨c_19, h⟩ := z_chk_some h
  refine m_iald (k := 23) (j := 19) hc hP (ma_23 ..) c_19 dX8_t_19 ?_
  refine lv_iadd hx hb dX8_t_20 ?_
  obtain ⟨c_21, h⟩ := z_chk_some h
  refine m_iald (k := 8) (j := 8) hc hP (ma_8 ..) c_21 dX8_t_21 ?_
  obtain ⟨r_1, er_1, h⟩ := z_bd_some h
  refine s_calll (As := [.int (M.1 5 a0.toNatClampNeg), .int (M.1 8 (((12 : Int32) * a0) + (M.1 23 a1.toNatClampNeg)).toNatClampNeg)]) (r := r_1) (n := 2) hc.s (mt_X8_argument l (M.1 5 a0.toNatClampNeg) (M.1 8 (((12 : Int32) * a0) + (M.1 23 a1.toNatClampNeg)).toNatClampNeg) er_1) wM_X8_145 wT_X8_argument wZ_X8 wC_X8_argument md_X8_argument ⟨rfl, rfl, Nat.le_of_ble_eq_true rfl, Nat.le_of_ble_eq_true rfl⟩ rfl hl.1 rfl (Nat.le_of_ble_eq_true rfl) dX8_t_22 ⟨Nat.zero_le _, Nat.zero_le _⟩ ?_
  cases h
  rw [hQ]
  exact m_retl hc hr hlocks hP hS hz dX8_t_25
theorem md_X8_t : yX8_t.cls ≠ "java/lang/invoke/MethodHandle" ∧ yX8_t.cls ≠ "java/lang/invoke/VarHandle" ∧ (parseMethodDescriptor yX8_t.desc).map (fun d => d.parameters.length) = some 2 := by decide +kernel
noncomputable def f_X8_findHigh_L32 (M : MS) (a0 : Int32) (a1 : Int32) (x10_7 : Int32) (x7_3 : Int32) (x8_9 : Int64) (x11_10 : Int32) : Option ((Int64) ⊕ (Int64 × Int32)) :=
  if a1 ≤ x11_10 then some (.inl (x8_9)) else z_bd (if x10_7 = x7_3 then some ((1 : Int64)) else if x11_10 = x7_3 then some ((1 : Int64)) else z_bd (f_X8_t M a0 x11_10) fun r_13 => z_bd (f_X8_t M a0 x10_7) fun r_14 => some ((r_13 - r_14))) fun v_12 => some (.inr ((x8_9 * v_12), (x11_10 + 1)))
noncomputable def f_X8_findHigh_L20 (M : MS) (a0 : Int32) (a1 : Int32) (x7_3 : Int32) (x8_6 : Int64) (x10_7 : Int32) : Option ((Int64) ⊕ (Int64 × Int32)) :=
  if a1 ≤ x10_7 then some (.inl (x8_6)) else z_bd (z_lp (fun x => f_X8_findHigh_L32 M a0 a1 x10_7 x7_3 x.1 x.2) (x8_6, (x10_7 + (1 : Int32)))) fun y8_11 => some (.inr (y8_11, (x10_7 + 1)))
noncomputable def f_X8_findHigh_L8 (M : MS) (a0 : Int32) (a1 : Int32) (x3_1 : Int64) (x5_2 : Int64) (x7_3 : Int32) : Option ((Int64 × Int64) ⊕ (Int64 × Int64 × Int32)) :=
  if a1 ≤ x7_3 then some (.inl (x3_1, x5_2)) else z_bd (z_lp (fun x => f_X8_findHigh_L20 M a0 a1 x7_3 x.1 x.2) ((1 : Int64), (0 : Int32))) fun y8_8 => z_chk (z_in x7_3 12) (z_bd (if (x7_3 - x7_3 / (2 : Int32) * (2 : Int32)) = 0 then some (y8_8) else some ((-y8_8))) fun v_15 => z_chk (z_in (((12 : Int32) * a0) + (M.1 23 x7_3.toNatClampNeg)) 120) (z_chk (z_in (((12 : Int32) * a0) + (M.1 23 x7_3.toNatClampNeg)) 120) (z_chk (¬ (M.1 10 (((12 : Int32) * a0) + (M.1 23 x7_3.toNatClampNeg)).toNatClampNeg) = 0) (some (.inr ((x3_1 + ((v_15 * (M.1 9 (((12 : Int32) * a0) + (M.1 23 x7_3.toNatClampNeg)).toNatClampNeg).toInt64) * (12 : Int64))), (x5_2 + (y8_8 * ((12 : Int32) / (M.1 10 (((12 : Int32) * a0) + (M.1 23 x7_3.toNatClampNeg)).toNatClampNeg)).toInt64)), (x7_3 + 1)))))))
noncomputable def f_X8_findHigh (M : MS) (a0 : Int32) (a1 : Int32) : Option (MS) :=
  z_bd2 (z_lp (fun x => f_X8_findHigh_L8 M a0 a1 x.1 x.2.1 x.2.2) ((0 : Int64), (0 : Int64), (0 : Int32))) fun y3_4 y5_5 => z_bd (f_X8_is M y3_4 y5_5) fun M_16 => z_lt (sJ M_16 26 0 (M_16.2 21 0)) fun M_17 => z_lt (sJ M_17 27 0 (M_17.2 22 0)) fun M_18 => some M_18
set_option maxHeartbeats 4000000 in
set_option maxRecDepth 100000 in
theorem mt_X8_findHigh (l : Launch) (D : va_G) (cI cJ : ClassId) (o sz : Nat) (M : MS) (a0 : Int32) (a1 : Int32) {N_ : MS} (h : f_X8_findHigh M a0 a1 = some N_) : Met l yX8_findHigh (z_wd yX8_findHigh cX8_findHigh 12 none) (z_rm 2 87) (va_Pc [.ref o, .int a0, .int a1] (m_C D cI cJ o sz M)) (va_Qv (fun (M1 : MS) => M1 = N_) (m_C D cI cJ o sz) (m_A o)) 0 0 (m_A o) := by
  refine Met.ofW (cc := cX8_findHigh) (maxL := 12) (ret := none) (by decide) rfl ?_
  intro p e s m args below meth c s₁ B hml hv
  obtain ⟨hav, hz, hP0, hK⟩ := hv
  have hx := B.exec
  have hb := B.bytes
  have hr := B.returns
  have hts := atoms_spec (ws := z_wd yX8_findHigh cX8_findHigh 12 none) B.pre
  have hown : s.vm.findClass RX8 = some m.cls := findClass_of_methodNamed B.named
  have hlocks := B.notSynchronized
  have hc : m_X p s m args c cX8_findHigh 12 D cI cJ := ⟨hx, hb, hml, fun w hw => hts w (List.mem_cons_of_mem _ hw), hown, hK⟩
  have hl := lv_entry ([.ref o, .int a0, .int a1]) (n := 12) (Nat.le_of_ble_eq_true rfl)
  have hE : entryFrame m args 12 = F0 m 0 ((lg_sl ([.ref o, .int a0, .int a1]) ++ List.replicate (12 - (lg_sl ([.ref o, .int a0, .int a1])).length) Slot.unset).toArray) [] := by rw [hav]; exact lg_entry_eq m _ _
  rw [hE]
  clear hE hav
  generalize (lg_sl ([.ref o, .int a0, .int a1]) ++ List.replicate (12 - (lg_sl ([.ref o, .int a0, .int a1])).length) Slot.unset).toArray = ls at hl ⊢
  have hl : lv_has ls 12 [(0, .ref o), (1, .int a0), (2, .int a1)] := hl
  obtain ⟨Q, hQ⟩ : ∃ Q, Q = MQ below (va_Qv (fun (M1 : MS) => M1 = N_) (m_C D cI cJ o sz) (m_A o)) args s 0 0 (m_A o) := ⟨_, rfl⟩
  rw [← hQ]
  suffices hmain : ∀ (H : Heap) (locs : List Loc), va_P D z_cls (m_W cI cJ o M) H → va_S (m_A o) s.heap H locs → W p l e (z_rm 2 87) s m args below meth c H locs 0 0 Q (F0 m 0 ls []) from hmain s.heap [] hP0 va_S.rf
  clear hP0
  intro H locs hP hS
  unfold f_X8_findHigh at h
  refine lv_lconst (v := 0) hx hb dX8_findHigh_0 (by decide) ?_
  refine lv_lstore_n (lv' := [(3, .long (0 : Int64)), (0, .ref o), (1, .int a0), (2, .int a1)]) hx hb dX8_findHigh_1 rfl hl (by decide) rfl (fun ls hl => ?_)
  refine lv_lconst (v := 0) hx hb dX8_findHigh_2 (by decide) ?_
  refine lv_lstore (lv' := [(5, .long (0 : Int64)), (3, .long (0 : Int64)), (0, .ref o), (1, .int a0), (2, .int a1)]) hx hb dX8_findHigh_3 hl (by decide) rfl (fun ls hl => ?_)
  refine lv_iconst (v := 0) hx hb dX8_findHigh_5 (by decide) ?_
  refine lv_istore (lv' := [(7, .int (0 : Int32)), (5, .long (0 : Int64)), (3, .long (0 : Int64)), (0, .ref o), (1, .int a0), (2, .int a1)]) hx hb dX8_findHigh_6 hl (by decide) rfl (fun ls hl => ?_)
  obtain ⟨y3_4, y5_5, hlp, h⟩ := z_bd2_some h
  refine z_lp_ind (P := fun x => ∀ (H : Heap) (locs : List Loc) (ls : Array Slot), va_P D z_cls (m_W cI cJ o M) H → va_S (m_A o) s.heap H locs → lv_has ls 12 [(0, .ref o), (1, .int a0), (2, .int a1), (3, .long x.1), (5, .long x.2.1), (7, .int x.2.2)] → W p l e (z_rm 2 87) s m args below meth c H locs 0 0 Q (F0 m 8 ls [])) (Qe := fun y => ∀ (H : Heap) (locs : List Loc) (ls : Array Slot), va_P D z_cls (m_W cI cJ o M) H → va_S (m_A o) s.heap H locs → lv_has ls 12 [(0, .ref o), (3, .long y.1), (5, .long y.2)] → W p l e (z_rm 2 87) s m args below meth c H locs 0 0 Q (F0 m 158 ls [])) ?_ hlp ?_ H locs ls hP hS (lv_sub hl [3, 4, 5, 2, 1, 0] rfl)
  · clear h hlp hP hS hl
    rintro ⟨x3_1, x5_2, x7_3⟩ oo h K_8 H locs ls hP hS hl
    have hP : va_P D z_cls (m_W cI cJ o M) H := hP
    have hl : lv_has ls 12 [(0, .ref o), (1, .int a0), (2, .int a1), (3, .long x3_1), (5, .long x5_2), (7, .int x7_3)] := hl
    have h : f_X8_findHigh_L8 M a0 a1 x3_1 x5_2 x7_3 = some oo := h
    unfold f_X8_findHigh_L8 at h
    refine lv_iload hx hb dX8_findHigh_8 (lv_at hl 5 rfl) ?_
    refine lv_iload_n hx hb dX8_findHigh_10 rfl (lv_at hl 2 rfl) ?_
    refine lv_icmp_ge (tgt := 158) hx hb dX8_findHigh_11 (by decide) (fun c_11 => ?_) (fun c_11 => ?_)
    · replace h := z_ip_ c_11 h
      cases h
      exact K_8 H locs ls hP hS (lv_sub hl [0, 3, 4] rfl)
    · replace h := z_in_ c_11 h
      refine lv_lconst (v := 1) hx hb dX8_findHigh_14 (by decide) ?_
      refine lv_lstore (lv' := [(8, .long (1 : Int64)), (0, .ref o), (1, .int a0), (2, .int a1), (3, .long x3_1), (5, .long x5_2), (7, .int x7_3)]) hx hb dX8_findHigh_15 hl (by decide) rfl (fun ls hl => ?_)
      refine lv_iconst (v := 0) hx hb dX8_findHigh_17 (by decide) ?_
      refine lv_istore (lv' := [(10, .int (0 : Int32)), (8, .long (1 : Int64)), (0, .ref o), (1, .int a0), (2, .int a1), (3, .long x3_1), (5, .long x5_2), (7, .int x7_3)]) hx hb dX8_findHigh_18 hl (by decide) rfl (fun ls hl => ?_)
      obtain ⟨y8_8, hlp, h⟩ := z_bd_some h
      refine z_lp_ind (P := fun x => ∀ (H : Heap) (locs : List Loc) (ls : Array Slot), va_P D z_cls (m_W cI cJ o M) H → va_S (m_A o) s.heap H locs → lv_has ls 12 [(0, .ref o), (1, .int a0), (2, .int a1), (3, .long x3_1), (5, .long x5_2), (7, .int x7_3), (8, .long x.1), (10, .int x.2)] → W p l e (z_rm 2 87) s m args below meth c H locs 0 0 Q (F0 m 20 ls [])) (Qe := fun y => ∀ (H : Heap) (locs : List Loc) (ls : Array Slot), va_P D z_cls (m_W cI cJ o M) H → va_S (m_A o) s.heap H locs → lv_has ls 12 [(0, .ref o), (1, .int a0), (2, .int a1), (3, .long x3_1), (5, .long x5_2), (7, .int x7_3), (8, .long y)] → W p l e (z_rm 2 87) s m args below meth c H locs 0 0 Q (F0 m 88 ls [])) ?_ hlp ?_ H locs ls hP hS (lv_sub hl [2, 3, 4, 5, 6, 7, 1, 0] rfl)
      · clear h hlp hP hS hl
        rintro ⟨x8_6, x10_7⟩ oo h K_20 H locs ls hP hS hl
        have hP : va_P D z_cls (m_W cI cJ o M) H := hP
        have hl : lv_has ls 12 [(0, .ref o), (1, .int a0), (2, .int a1), (3, .long x3_1), (5, .long x5_2), (7, .int x7_3), (8, .long x8_6), (10, .int x10_7)] := hl
        have h : f_X8_findHigh_L20 M a0 a1 x7_3 x8_6 x10_7 = some oo := h
        unfold f_X8_findHigh_L20 at h
        refine lv_iload hx hb dX8_findHigh_20 (lv_at hl 7 rfl) ?_
        refine lv_iload_n hx hb dX8_findHigh_22 rfl (lv_at hl 2 rfl) ?_
        refine lv_icmp_ge (tgt := 88) hx hb dX8_findHigh_23 (by decide) (fun c_23 => ?_) (fun c_23 => ?_)
        · replace h := z_ip_ c_23 h
          cases h
          exact K_20 H locs ls hP hS (lv_sub hl [0, 1, 2, 3, 4, 5, 6] rfl)
        · replace h := z_in_ c_23 h
          refine lv_iload hx hb dX8_findHigh_26 (lv_at hl 7 rfl) ?_
          refine lv_iconst (v := 1) hx hb dX8_findHigh_28 (by decide) ?_
          refine lv_iadd hx hb dX8_findHigh_29 ?_
          refine lv_istore (lv' := [(11, .int (x10_7 + (1 : Int32))), (0, .ref o), (1, .int a0), (2, .int a1), (3, .long x3_1), (5, .long x5_2), (7, .int x7_3), (8, .long x8_6), (10, .int x10_7)]) hx hb dX8_findHigh_30 hl (by decide) rfl (fun ls hl => ?_)
          obtain ⟨y8_11, hlp, h⟩ := z_bd_some h
          refine z_lp_ind (P := fun x => ∀ (H : Heap) (locs : List Loc) (ls : Array Slot), va_P D z_cls (m_W cI cJ o M) H → va_S (m_A o) s.heap H locs → lv_has ls 12 [(0, .ref o), (1, .int a0), (2, .int a1), (3, .long x3_1), (5, .long x5_2), (7, .int x7_3), (8, .long x.1), (10, .int x10_7), (11, .int x.2)] → W p l e (z_rm 2 87) s m args below meth c H locs 0 0 Q (F0 m 32 ls [])) (Qe := fun y => ∀ (H : Heap) (locs : List Loc) (ls : Array Slot), va_P D z_cls (m_W cI cJ o M) H → va_S (m_A o) s.heap H locs → lv_has ls 12 [(0, .ref o), (1, .int a0), (2, .int a1), (3, .long x3_1), (5, .long x5_2), (7, .int x7_3), (8, .long y), (10, .int x10_7)] → W p l e (z_rm 2 87) s m args below meth c H locs 0 0 Q (F0 m 82 ls [])) ?_ hlp ?_ H locs ls hP hS (lv_sub hl [1, 2, 3, 4, 5, 6, 7, 8, 0] rfl)
          · clear h hlp hP hS hl
            rintro ⟨x8_9, x11_10⟩ oo h K_32 H locs ls hP hS hl
            have hP : va_P D z_cls (m_W cI cJ o M) H := hP
            have hl : lv_has ls 12 [(0, .ref o), (1, .int a0), (2, .int a1), (3, .long x3_1), (5, .long x5_2), (7, .int x7_3), (8, .long x8_9), (10, .int x10_7), (11, .int x11_10)] := hl
            have h : f_X8_findHigh_L32 M a0 a1 x10_7 x7_3 x8_9 x11_10 = some oo := h
            unfold f_X8_findHigh_L32 at h
            refine lv_iload hx hb dX8_findHigh_32 (lv_at hl 8 rfl) ?_
            refine lv_iload_n hx hb dX8_findHigh_34 rfl (lv_at hl 2 rfl) ?_
            refine lv_icmp_ge (tgt := 82) hx hb dX8_findHigh_35 (by decide) (fun c_35 => ?_) (fun c_35 => ?_)
            · replace h := z_ip_ c_35 h
              cases h
              exact K_32 H locs ls hP hS (lv_sub hl [0, 1, 2, 3, 4, 5, 6, 7] rfl)
            · replace h := z_in_ c_35 h
              refine lv_lload hx hb dX8_findHigh_38 (lv_at hl 6 rfl) ?_
              refine lv_iload hx hb dX8_findHigh_40 (lv_at hl 7 rfl) ?_
              refine lv_iload hx hb dX8_findHigh_42 (lv_at hl 5 rfl) ?_
              obtain ⟨v_12, hJ, h⟩ := z_bd_some h
              have J_73 : ∀ (H : Heap) (locs : List Loc) (ls : Array Slot), va_P D z_cls (m_W cI cJ o M) H → va_S (m_A o) s.heap H locs → lv_has ls 12 [(0, .ref o), (1, .int a0), (2, .int a1), (3, .long x3_1), (5, .long x5_2), (7, .int x7_3), (10, .int x10_7), (11, .int x11_10)] → W p l e (z_rm 2 87) s m args below meth c H locs 0 0 Q (F0 m 73 ls [.long v_12, .long x8_9]) := by
                intro H locs ls hP hS hl
                refine lv_lmul hx hb dX8_findHigh_73 ?_
                refine lv_lstore (lv' := [(8, .long (x8_9 * v_12)), (0, .ref o), (1, .int a0), (2, .int a1), (3, .long x3_1), (5, .long x5_2), (7, .int x7_3), (10, .int x10_7), (11, .int x11_10)]) hx hb dX8_findHigh_74 hl (by decide) rfl (fun ls hl => ?_)
                refine lv_iinc (v := (x11_10 + 1)) (lv' := [(11, .int (x11_10 + 1)), (8, .long (x8_9 * v_12)), (0, .ref o), (1, .int a0), (2, .int a1), (3, .long x3_1), (5, .long x5_2), (7, .int x7_3), (10, .int x10_7)]) hx hb dX8_findHigh_76 hl (k := 8) rfl rfl (by decide) rfl (fun ls hl => ?_)
                refine lv_goto (tgt := 32) hx hb dX8_findHigh_79 (by decide) ?_
                cases h
                exact K_32 H locs ls hP hS (lv_sub hl [2, 3, 4, 5, 6, 7, 1, 8, 0] rfl)
              clear h
              have h := hJ
              clear hJ
              refine lv_icmp_eq (tgt := 72) hx hb dX8_findHigh_44 (by decide) (fun c_44 => ?_) (fun c_44 => ?_)
              · replace h := z_ip_ c_44 h
                refine lv_lconst (v := 1) hx hb dX8_findHigh_72 (by decide) ?_
                cases h
                exact J_73 H locs ls hP hS (lv_sub hl [0, 1, 2, 3, 4, 5, 7, 8] rfl)
              · replace h := z_in_ c_44 h
                refine lv_iload hx hb dX8_findHigh_47 (lv_at hl 8 rfl) ?_
                refine lv_iload hx hb dX8_findHigh_49 (lv_at hl 5 rfl) ?_
                refine lv_icmp_eq (tgt := 72) hx hb dX8_findHigh_51 (by decide) (fun c_51 => ?_) (fun c_51 => ?_)
                · replace h := z_ip_ c_51 h
                  refine lv_lconst (v := 1) hx hb dX8_findHigh_72 (by decide) ?_
                  cases h
                  exact J_73 H locs ls hP hS (lv_sub hl [0, 1, 2, 3, 4, 5, 7, 8] rfl)
                · replace h := z_in_ c_51 h
                  refine lv_aload_n hx hb dX8_findHigh_54 rfl (lv_at hl 0 rfl) ?_
                  refine lv_iload_n hx hb dX8_findHigh_55 rfl (lv_at hl 1 rfl) ?_
                  refine lv_iload hx hb dX8_findHigh_56 (lv_at hl 8 rfl) ?_
                  obtain ⟨r_13, er_13, h⟩ := z_bd_some h
                  refine m_calll (As := [.int a0, .int x11_10]) (r := r_13) (M' := M) (n := 2) hc hP hS (mt_X8_t l D cI cJ o H.size M a0 x11_10 er_13) wM_X8_149 wI_X8_t wS_X8_t wZ_X8 wC_X8_t md_X8_t ⟨rfl, rfl, Nat.le_of_ble_eq_true rfl, Nat.le_of_ble_eq_true rfl⟩ rfl hl.1 rfl (Nat.le_of_ble_eq_true rfl) dX8_findHigh_58 ⟨Nat.zero_le _, Nat.zero_le _⟩ (fun H locs hP hS => ?_)
                  refine lv_aload_n hx hb dX8_findHigh_61 rfl (lv_at hl 0 rfl) ?_
                  refine lv_iload_n hx hb dX8_findHigh_62 rfl (lv_at hl 1 rfl) ?_
                  refine lv_iload hx hb dX8_findHigh_63 (lv_at hl 7 rfl) ?_
                  obtain ⟨r_14, er_14, h⟩ := z_bd_some h
                  refine m_calll (As := [.int a0, .int x10_7]) (r := r_14) (M' := M) (n := 2) hc hP hS (mt_X8_t l D cI cJ o H.size M a0 x10_7 er_14) wM_X8_149 wI_X8_t wS_X8_t wZ_X8 wC_X8_t md_X8_t ⟨rfl, rfl, Nat.le_of_ble_eq_true rfl, Nat.le_of_ble_eq_true rfl⟩ rfl hl.1 rfl (Nat.le_of_ble_eq_true rfl) dX8_findHigh_65 ⟨Nat.zero_le _, Nat.zero_le _⟩ (fun H locs hP hS => ?_)
                  refine lv_lsub hx hb dX8_findHigh_68 ?_
                  refine lv_goto (tgt := 73) hx hb dX8_findHigh_69 (by decide) ?_
                  cases h
                  exact J_73 H locs ls hP hS (lv_sub hl [0, 1, 2, 3, 4, 5, 7, 8] rfl)
          · clear hlp hP hS hl
            intro H locs ls hP hS hl
            have hP : va_P D z_cls (m_W cI cJ o M) H := hP
            have hl : lv_has ls 12 [(0, .ref o), (1, .int a0), (2, .int a1), (3, .long x3_1), (5, .long x5_2), (7, .int x7_3), (8, .long y8_11), (10, .int x10_7)] := hl
            refine lv_iinc (v := (x10_7 + 1)) (lv' := [(10, .int (x10_7 + 1)), (0, .ref o), (1, .int a0), (2, .int a1), (3, .long x3_1), (5, .long x5_2), (7, .int x7_3), (8, .long y8_11)]) hx hb dX8_findHigh_82 hl (k := 7) rfl rfl (by decide) rfl (fun ls hl => ?_)
            refine lv_goto (tgt := 20) hx hb dX8_findHigh_85 (by decide) ?_
            cases h
            exact K_20 H locs ls hP hS (lv_sub hl [1, 2, 3, 4, 5, 6, 7, 0] rfl)
      · clear hlp hP hS hl
        intro H locs ls hP hS hl
        have hP : va_P D z_cls (m_W cI cJ o M) H := hP
        have hl : lv_has ls 12 [(0, .ref o), (1, .int a0), (2, .int a1), (3, .long x3_1), (5, .long x5_2), (7, .int x7_3), (8, .long y8_8)] := hl
        refine lv_bipush (v := 12) hx hb dX8_findHigh_88 (by decide) ?_
        refine lv_iload_n hx hb dX8_findHigh_90 rfl (lv_at hl 1 rfl) ?_
        refine lv_imul hx hb dX8_findHigh_91 ?_
        refine lv_aload_n hx hb dX8_findHigh_92 rfl (lv_at hl 0 rfl) ?_
        refine m_get (k := 23) (v := .ref (o + 19)) hc hP (by decide) wF_X8_69 rfl dX8_findHigh_93 ?_
        refine lv_iload hx hb dX8_findHigh_96 (lv_at hl 5 rfl) ?_
        obtain ⟨c_98, h⟩ := z_chk_some h
        refine m_iald (k := 23) (j := 19) hc hP (ma_23 ..) c_98 dX8_findHigh_98 ?_
        refine lv_iadd hx hb dX8_findHigh_99 ?_
        refine lv_istore (lv' := [(10, .int (((12 : Int32) * a0) + (M.1 23 x7_3.toNatClampNeg))), (0, .ref o), (1, .int a0), (2, .int a1), (3, .long x3_1), (5, .long x5_2), (7, .int x7_3), (8, .long y8_8)]) hx hb dX8_findHigh_100 hl (by decide) rfl (fun ls hl => ?_)
        refine lv_lload_n hx hb dX8_findHigh_102 rfl (lv_at hl 4 rfl) ?_
        refine lv_iload hx hb dX8_findHigh_103 (lv_at hl 6 rfl) ?_
        refine lv_iconst (v := 2) hx hb dX8_findHigh_105 (by decide) ?_
        refine lv_irem hx hb dX8_findHigh_106 (by decide) ?_
        obtain ⟨v_15, hJ, h⟩ := z_bd_some h
        have J_118 : ∀ (H : Heap) (locs : List Loc) (ls : Array Slot), va_P D z_cls (m_W cI cJ o M) H → va_S (m_A o) s.heap H locs → lv_has ls 12 [(0, .ref o), (1, .int a0), (2, .int a1), (5, .long x5_2), (7, .int x7_3), (8, .long y8_8), (10, .int (((12 : Int32) * a0) + (M.1 23 x7_3.toNatClampNeg)))] → W p l e (z_rm 2 87) s m args below meth c H locs 0 0 Q (F0 m 118 ls [.long v_15, .long x3_1]) := by
          intro H locs ls hP hS hl
          refine lv_aload_n hx hb dX8_findHigh_118 rfl (lv_at hl 0 rfl) ?_
          refine m_get (k := 9) (v := .ref (o + 9)) hc hP (by decide) wF_X8_34 rfl dX8_findHigh_119 ?_
          refine lv_iload hx hb dX8_findHigh_122 (lv_at hl 6 rfl) ?_
          obtain ⟨c_124, h⟩ := z_chk_some h
          refine m_iald (k := 9) (j := 9) hc hP (ma_9 ..) c_124 dX8_findHigh_124 ?_
          refine lv_i2l (v := (M.1 9 (((12 : Int32) * a0) + (M.1 23 x7_3.toNatClampNeg)).toNatClampNeg).toInt64) hx hb dX8_findHigh_125 rfl ?_
          refine lv_lmul hx hb dX8_findHigh_126 ?_
          refine lv_ldc2 (v := 12) hx hb hc.s.2.2.2.2 (hc.s.2.2.2.1 _ wL_X8_152) dX8_findHigh_127 ?_
          refine lv_lmul hx hb dX8_findHigh_130 ?_
          refine lv_ladd hx hb dX8_findHigh_131 ?_
          refine lv_lstore_n (lv' := [(3, .long (x3_1 + ((v_15 * (M.1 9 (((12 : Int32) * a0) + (M.1 23 x7_3.toNatClampNeg)).toNatClampNeg).toInt64) * (12 : Int64)))), (0, .ref o), (1, .int a0), (2, .int a1), (5, .long x5_2), (7, .int x7_3), (8, .long y8_8), (10, .int (((12 : Int32) * a0) + (M.1 23 x7_3.toNatClampNeg)))]) hx hb dX8_findHigh_132 rfl hl (by decide) rfl (fun ls hl => ?_)
          refine lv_lload hx hb dX8_findHigh_133 (lv_at hl 4 rfl) ?_
          refine lv_lload hx hb dX8_findHigh_135 (lv_at hl 6 rfl) ?_
          refine lv_bipush (v := 12) hx hb dX8_findHigh_137 (by decide) ?_
          refine lv_aload_n hx hb dX8_findHigh_139 rfl (lv_at hl 1 rfl) ?_
          refine m_get (k := 10) (v := .ref (o + 10)) hc hP (by decide) wF_X8_37 rfl dX8_findHigh_140 ?_
          refine lv_iload hx hb dX8_findHigh_143 (lv_at hl 7 rfl) ?_
          obtain ⟨c_145, h⟩ := z_chk_some h
          refine m_iald (k := 10) (j := 10) hc hP (ma_10 ..) c_145 dX8_findHigh_145 ?_
          obtain ⟨c_146, h⟩ := z_chk_some h
          refine lv_idiv hx hb dX8_findHigh_146 c_146 ?_
          refine lv_i2l (v := ((12 : Int32) / (M.1 10 (((12 : Int32) * a0) + (M.1 23 x7_3.toNatClampNeg)).toNatClampNeg)).toInt64) hx hb dX8_findHigh_147 rfl ?_
          refine lv_lmul hx hb dX8_findHigh_148 ?_
          refine lv_ladd hx hb dX8_findHigh_149 ?_
          refine lv_lstore (lv' := [(5, .long (x5_2 + (y8_8 * ((12 : Int32) / (M.1 10 (((12 : Int32) * a0) + (M.1 23 x7_3.toNatClampNeg)).toNatClampNeg)).toInt64))), (3, .long (x3_1 + ((v_15 * (M.1 9 (((12 : Int32) * a0) + (M.1 23 x7_3.toNatClampNeg)).toNatClampNeg).toInt64) * (12 : Int64)))), (0, .ref o), (1, .int a0), (2, .int a1), (7, .int x7_3), (8, .long y8_8), (10, .int (((12 : Int32) * a0) + (M.1 23 x7_3.toNatClampNeg)))]) hx hb dX8_findHigh_150 hl (by decide) rfl (fun ls hl => ?_)
          refine lv_iinc (v := (x7_3 + 1)) (lv' := [(7, .int (x7_3 + 1)), (5, .long (x5_2 + (y8_8 * ((12 : Int32) / (M.1 10 (((12 : Int32) * a0) + (M.1 23 x7_3.toNatClampNeg)).toNatClampNeg)).toInt64))), (3, .long (x3_1 + ((v_15 * (M.1 9 (((12 : Int32) * a0) + (M.1 23 x7_3.toNatClampNeg)).toNatClampNeg).toInt64) * (12 : Int64)))), (0, .ref o), (1, .int a0), (2, .int a1), (8, .long y8_8), (10, .int (((12 : Int32) * a0) + (M.1 23 x7_3.toNatClampNeg)))]) hx hb dX8_findHigh_152 hl (k := 5) rfl rfl (by decide) rfl (fun ls hl => ?_)
          refine lv_goto (tgt := 8) hx hb dX8_findHigh_155 (by decide) ?_
          cases h
          exact K_8 H locs ls hP hS (lv_sub hl [3, 4, 5, 2, 1, 0] rfl)
        clear h
        have h := hJ
        clear hJ
        refine lv_if_ne (tgt := 115) hx hb dX8_findHigh_107 (by decide) (fun c_107 => ?_) (fun c_107 => ?_)
        · replace h := z_in_ c_107 h
          refine lv_lload hx hb dX8_findHigh_115 (lv_at hl 7 rfl) ?_
          refine lv_lneg hx hb dX8_findHigh_117 ?_
          cases h
          exact J_118 H locs ls hP hS (lv_sub hl [1, 2, 3, 5, 6, 7, 0] rfl)
        · replace h := z_ip_ c_107 h
          refine lv_lload hx hb dX8_findHigh_110 (lv_at hl 7 rfl) ?_
          refine lv_goto (tgt := 118) hx hb dX8_findHigh_112 (by decide) ?_
          cases h
          exact J_118 H locs ls hP hS (lv_sub hl [1, 2, 3, 5, 6, 7, 0] rfl)
  · clear hlp hP hS hl
    intro H locs ls hP hS hl
    have hP : va_P D z_cls (m_W cI cJ o M) H := hP
    have hl : lv_has ls 12 [(0, .ref o), (3, .long y3_4), (5, .long y5_5)] := hl
    refine lv_aload_n hx hb dX8_findHigh_158 rfl (lv_at hl 0 rfl) ?_
    refine lv_lload_n hx hb dX8_findHigh_159 rfl (lv_at hl 1 rfl) ?_
    refine lv_lload hx hb dX8_findHigh_160 (lv_at hl 2 rfl) ?_
    obtain ⟨M_16, eM_16, h⟩ := z_bd_some h
    refine m_callv (As := [.long y3_4, .long y5_5]) (M' := M_16) (n := 2) hc hP hS (mt_X8_is l D cI cJ o H.size M y3_4 y5_5 eM_16) wM_X8_111 wI_X8_is wS_X8_is wZ_X8 wC_X8_is md_X8_is ⟨rfl, rfl, Nat.le_of_ble_eq_true rfl, Nat.le_of_ble_eq_true rfl⟩ rfl hl.1 rfl (Nat.le_of_ble_eq_true rfl) dX8_findHigh_162 ⟨Nat.zero_le _, Nat.zero_le _⟩ (fun H locs hP hS => ?_)
    refine lv_aload_n hx hb dX8_findHigh_165 rfl (lv_at hl 0 rfl) ?_
    refine lv_aload_n hx hb dX8_findHigh_166 rfl (lv_at hl 0 rfl) ?_
    refine m_get (k := 21) (v := .long (M_16.2 21 0)) hc hP (by decide) wF_X8_108 rfl dX8_findHigh_167 ?_
    obtain ⟨M_17, eM_17, h⟩ := z_lt_some h
    refine m_put (k := 26) (M' := M_17) (ty := .long) hc hP hS (by decide) wF_X8_154 rfl (by decide +kernel) rfl rfl (by rw [eM_17]; exact mp_26 ..) dX8_findHigh_170 (fun H locs hP hS => ?_)
    refine lv_aload_n hx hb dX8_findHigh_173 rfl (lv_at hl 0 rfl) ?_
    refine lv_aload_n hx hb dX8_findHigh_174 rfl (lv_at hl 0 rfl) ?_
    refine m_get (k := 22) (v := .long (M_17.2 22 0)) hc hP (by decide) wF_X8_65 rfl dX8_findHigh_175 ?_
    obtain ⟨M_18, eM_18, h⟩ := z_lt_some h
    refine m_put (k := 27) (M' := M_18) (ty := .long) hc hP hS (by decide) wF_X8_157 rfl (by decide +kernel) rfl rfl (by rw [eM_18]; exact mp_27 ..) dX8_findHigh_178 (fun H locs hP hS => ?_)
    cases h
    rw [hQ]
    exact m_retv hc hr hlocks hP hS hz dX8_findHigh_181
theorem md_X8_findHigh : yX8_findHigh.cls ≠ "java/lang/invoke/MethodHandle" ∧ yX8_findHigh.cls ≠ "java/lang/invoke/VarHandle" ∧ (parseMethodDescriptor yX8_findHigh.desc).map (fun d => d.parameters.length) = some 2 := by decide +kernel
noncomputable def f_X8_slope (M : MS) (a0 : Int32) (a1 : Int32) (a2 : Int32) : Option (MS) :=
  z_chk (z_in a2 3) (z_chk (z_in a2 3) (z_chk (z_in a1 3) (z_chk (z_in a1 3) (z_bd (f_X8_plus M (M.2 24 a2.toNatClampNeg) (M.2 25 a2.toNatClampNeg) (-(M.2 24 a1.toNatClampNeg)) (M.2 25 a1.toNatClampNeg)) fun M_1 => z_bd (f_X8_t M_1 a0 a2) fun r_2 => z_bd (f_X8_t M_1 a0 a1) fun r_3 => z_bd (f_X8_times M_1 (M_1.2 21 0) (M_1.2 22 0) (1 : Int64) (r_2 - r_3)) fun M_4 => some M_4))))
set_option maxHeartbeats 4000000 in
set_option maxRecDepth 100000 in
theorem mt_X8_slope (l : Launch) (D : va_G) (cI cJ : ClassId) (o sz : Nat) (M : MS) (a0 : Int32) (a1 : Int32) (a2 : Int32) {N_ : MS} (h : f_X8_slope M a0 a1 a2 = some N_) : Met l yX8_slope (z_wd yX8_slope cX8_slope 4 none) (z_rm 3 135) (va_Pc [.ref o, .int a0, .int a1, .int a2] (m_C D cI cJ o sz M)) (va_Qv (fun (M1 : MS) => M1 = N_) (m_C D cI cJ o sz) (m_A o)) 0 0 (m_A o) := by
  refine Met.ofW (cc := cX8_slope) (maxL := 4) (ret := none) (by decide) rfl ?_
  intro p e s m args below meth c s₁ B hml hv
  obtain ⟨hav, hz, hP0, hK⟩ := hv
  have hx := B.exec
  have hb := B.bytes
  have hr := B.returns
  have hts := atoms_spec (ws := z_wd yX8_slope cX8_slope 4 none) B.pre
  have hown : s.vm.findClass RX8 = some m.cls := findClass_of_methodNamed B.named
  have hlocks := B.notSynchronized
  have hc : m_X p s m args c cX8_slope 4 D cI cJ := ⟨hx, hb, hml, fun w hw => hts w (List.mem_cons_of_mem _ hw), hown, hK⟩
  have hl := lv_entry ([.ref o, .int a0, .int a1, .int a2]) (n := 4) (Nat.le_of_ble_eq_true rfl)
  have hE : entryFrame m args 4 = F0 m 0 ((lg_sl ([.ref o, .int a0, .int a1, .int a2]) ++ List.replicate (4 - (lg_sl ([.ref o, .int a0, .int a1, .int a2])).length) Slot.unset).toArray) [] := by rw [hav]; exact lg_entry_eq m _ _
  rw [hE]
  clear hE hav
  generalize (lg_sl ([.ref o, .int a0, .int a1, .int a2]) ++ List.replicate (4 - (lg_sl ([.ref o, .int a0, .int a1, .int a2])).length) Slot.unset).toArray = ls at hl ⊢
  have hl : lv_has ls 4 [(0, .ref o), (1, .int a0), (2, .int a1), (3, .int a2)] := hl
  obtain ⟨Q, hQ⟩ : ∃ Q, Q = MQ below (va_Qv (fun (M1 : MS) => M1 = N_) (m_C D cI cJ o sz) (m_A o)) args s 0 0 (m_A o) := ⟨_, rfl⟩
  rw [← hQ]
  suffices hmain : ∀ (H : Heap) (locs : List Loc), va_P D z_cls (m_W cI cJ o M) H → va_S (m_A o) s.heap H locs → W p l e (z_rm 3 135) s m args below meth c H locs 0 0 Q (F0 m 0 ls []) from hmain s.heap [] hP0 va_S.rf
  clear hP0
  intro H locs hP hS
  unfold f_X8_slope at h
  refine lv_aload_n hx hb dX8_slope_0 rfl (lv_at hl 0 rfl) ?_
  refine lv_aload_n hx hb dX8_slope_1 rfl (lv_at hl 0 rfl) ?_
  refine m_get (k := 24) (v := .ref (o + 20)) hc hP (by decide) wF_X8_72 rfl dX8_slope_2 ?_
  refine lv_iload_n hx hb dX8_slope_5 rfl (lv_at hl 3 rfl) ?_
  obtain ⟨c_6, h⟩ := z_chk_some h
  refine m_lald (k := 24) (j := 20) hc hP (ma_24 ..) c_6 dX8_slope_6 ?_
  refine lv_aload_n hx hb dX8_slope_7 rfl (lv_at hl 0 rfl) ?_
  refine m_get (k := 25) (v := .ref (o + 21)) hc hP (by decide) wF_X8_75 rfl dX8_slope_8 ?_
  refine lv_iload_n hx hb dX8_slope_11 rfl (lv_at hl 3 rfl) ?_
  obtain ⟨c_12, h⟩ := z_chk_some h
  refine m_lald (k := 25) (j := 21) hc hP (ma_25 ..) c_12 dX8_slope_12 ?_
  refine lv_aload_n hx hb dX8_slope_13 rfl (lv_at hl 0 rfl) ?_
  refine m_get (k := 24) (v := .ref (o + 20)) hc hP (by decide) wF_X8_72 rfl dX8_slope_14 ?_
  refine lv_iload_n hx hb dX8_slope_17 rfl (lv_at hl 2 rfl) ?_
  obtain ⟨c_18, h⟩ := z_chk_some h
  refine m_lald (k := 24) (j := 20) hc hP (ma_24 ..) c_18 dX8_slope_18 ?_
  refine lv_lneg hx hb dX8_slope_19 ?_
  refine lv_aload_n hx hb dX8_slope_20 rfl (lv_at hl 0 rfl) ?_
  refine m_get (k := 25) (v := .ref (o + 21)) hc hP (by decide) wF_X8_75 rfl dX8_slope_21 ?_
  refine lv_iload_n hx hb dX8_slope_24 rfl (lv_at hl 2 rfl) ?_
  obtain ⟨c_25, h⟩ := z_chk_some h
  refine m_lald (k := 25) (j := 21) hc hP (ma_25 ..) c_25 dX8_slope_25 ?_
  obtain ⟨M_1, eM_1, h⟩ := z_bd_some h
  refine m_callv (As := [.long (M.2 24 a2.toNatClampNeg), .long (M.2 25 a2.toNatClampNeg), .long (-(M.2 24 a1.toNatClampNeg)), .long (M.2 25 a1.toNatClampNeg)]) (M' := M_1) (n := 4) hc hP hS (mt_X8_plus l D cI cJ o H.size M (M.2 24 a2.toNatClampNeg) (M.2 25 a2.toNatClampNeg) (-(M.2 24 a1.toNatClampNeg)) (M.2 25 a1.toNatClampNeg) eM_1) wM_X8_164 wI_X8_plus wS_X8_plus wZ_X8 wC_X8_plus md_X8_plus ⟨rfl, rfl, Nat.le_of_ble_eq_true rfl, Nat.le_of_ble_eq_true rfl⟩ rfl hl.1 rfl (Nat.le_of_ble_eq_true rfl) dX8_slope_26 ⟨Nat.zero_le _, Nat.zero_le _⟩ (fun H locs hP hS => ?_)
  refine lv_aload_n hx hb dX8_slope_29 rfl (lv_at hl 0 rfl) ?_
  refine lv_aload_n hx hb dX8_slope_30 rfl (lv_at hl 0 rfl) ?_
  refine m_get (k := 21) (v := .long (M_1.2 21 0)) hc hP (by decide) wF_X8_108 rfl dX8_slope_31 ?_
  refine lv_aload_n hx hb dX8_slope_34 rfl (lv_at hl 0 rfl) ?_
  refine m_get (k := 22) (v := .long (M_1.2 22 0)) hc hP (by decide) wF_X8_65 rfl dX8_slope_35 ?_
  refine lv_lconst (v := 1) hx hb dX8_slope_38 (by decide) ?_
  refine lv_aload_n hx hb dX8_slope_39 rfl (lv_at hl 0 rfl) ?_
  refine lv_iload_n hx hb dX8_slope_40 rfl (lv_at hl 1 rfl) ?_
  refine lv_iload_n hx hb dX8_slope_41 rfl (lv_at hl 3 rfl) ?_
  obtain ⟨r_2, er_2, h⟩ := z_bd_some h
  refine m_calll (As := [.int a0, .int a2]) (r := r_2) (M' := M_1) (n := 2) hc hP hS (mt_X8_t l D cI cJ o H.size M_1 a0 a2 er_2) wM_X8_149 wI_X8_t wS_X8_t wZ_X8 wC_X8_t md_X8_t ⟨rfl, rfl, Nat.le_of_ble_eq_true rfl, Nat.le_of_ble_eq_true rfl⟩ rfl hl.1 rfl (Nat.le_of_ble_eq_true rfl) dX8_slope_42 ⟨Nat.zero_le _, Nat.zero_le _⟩ (fun H locs hP hS => ?_)
  refine lv_aload_n hx hb dX8_slope_45 rfl (lv_at hl 0 rfl) ?_
  refine lv_iload_n hx hb dX8_slope_46 rfl (lv_at hl 1 rfl) ?_
  refine lv_iload_n hx hb dX8_slope_47 rfl (lv_at hl 2 rfl) ?_
  obtain ⟨r_3, er_3, h⟩ := z_bd_some h
  refine m_calll (As := [.int a0, .int a1]) (r := r_3) (M' := M_1) (n := 2) hc hP hS (mt_X8_t l D cI cJ o H.size M_1 a0 a1 er_3) wM_X8_149 wI_X8_t wS_X8_t wZ_X8 wC_X8_t md_X8_t ⟨rfl, rfl, Nat.le_of_ble_eq_true rfl, Nat.le_of_ble_eq_true rfl⟩ rfl hl.1 rfl (Nat.le_of_ble_eq_true rfl) dX8_slope_48 ⟨Nat.zero_le _, Nat.zero_le _⟩ (fun H locs hP hS => ?_)
  refine lv_lsub hx hb dX8_slope_51 ?_
  obtain ⟨M_4, eM_4, h⟩ := z_bd_some h
  refine m_callv (As := [.long (M_1.2 21 0), .long (M_1.2 22 0), .long (1 : Int64), .long (r_2 - r_3)]) (M' := M_4) (n := 4) hc hP hS (mt_X8_times l D cI cJ o H.size M_1 (M_1.2 21 0) (M_1.2 22 0) (1 : Int64) (r_2 - r_3) eM_4) wM_X8_168 wI_X8_times wS_X8_times wZ_X8 wC_X8_times md_X8_times ⟨rfl, rfl, Nat.le_of_ble_eq_true rfl, Nat.le_of_ble_eq_true rfl⟩ rfl hl.1 rfl (Nat.le_of_ble_eq_true rfl) dX8_slope_52 ⟨Nat.zero_le _, Nat.zero_le _⟩ (fun H locs hP hS => ?_)
  cases h
  rw [hQ]
  exact m_retv hc hr hlocks hP hS hz dX8_slope_55
theorem md_X8_slope : yX8_slope.cls ≠ "java/lang/invoke/MethodHandle" ∧ yX8_slope.cls ≠ "java/lang/invoke/VarHandle" ∧ (parseMethodDescriptor yX8_slope.desc).map (fun d => d.parameters.length) = some 3 := by decide +kernel
