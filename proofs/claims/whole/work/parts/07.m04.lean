noncomputable def f_X8_hasPlace_L5 (M : MS) (a0 : Int32) (a1 : Int32) (x3_1 : Int32) (x4_2 : Int32) : Option ((Int32) ⊕ (Int32 × Int32)) :=
  z_chk (z_in a0 6) (if (M.1 0 a0.toNatClampNeg) ≤ x4_2 then some (.inl (x3_1)) else if x3_1 = 0 then z_chk (z_in (((12 : Int32) * a0) + x4_2) 72) (if (M.1 1 (((12 : Int32) * a0) + x4_2).toNatClampNeg) = a1 then some (.inr ((1 : Int32), (x4_2 + 1))) else some (.inr ((0 : Int32), (x4_2 + 1)))) else some (.inr ((1 : Int32), (x4_2 + 1))))
noncomputable def f_X8_hasPlace (M : MS) (a0 : Int32) (a1 : Int32) : Option (Int32) :=
  z_bd (z_lp (fun x => f_X8_hasPlace_L5 M a0 a1 x.1 x.2) ((0 : Int32), (0 : Int32))) fun y3_3 => z_chk (y3_3 = 0 ∨ y3_3 = 1) (some y3_3)
set_option maxHeartbeats 4000000 in
set_option maxRecDepth 100000 in
theorem mt_X8_hasPlace (l : Launch) (D : va_G) (cI cJ : ClassId) (o sz : Nat) (M : MS) (a0 : Int32) (a1 : Int32) {r_ : Int32} (h : f_X8_hasPlace M a0 a1 = some r_) : Met l yX8_hasPlace (z_wd yX8_hasPlace cX8_hasPlace 5 (some .boolean)) (z_rm 0 0) (va_Pc [.ref o, .int a0, .int a1] (m_C D cI cJ o sz M)) (va_Qi (fun (r1 : Int32) (M1 : MS) => r1 = r_ ∧ M1 = M) (m_C D cI cJ o sz) (m_A o)) 0 0 (m_A o) := by
  refine Met.ofW (cc := cX8_hasPlace) (maxL := 5) (ret := (some .boolean)) (by decide) rfl ?_
  intro p e s m args below meth c s₁ B hml hv
  obtain ⟨hav, hz, hP0, hK⟩ := hv
  have hx := B.exec
  have hb := B.bytes
  have hr := B.returns
  have hts := atoms_spec (ws := z_wd yX8_hasPlace cX8_hasPlace 5 (some .boolean)) B.pre
  have hown : s.vm.findClass RX8 = some m.cls := findClass_of_methodNamed B.named
  have hlocks := B.notSynchronized
  have hc : m_X p s m args c cX8_hasPlace 5 D cI cJ := ⟨hx, hb, hml, fun w hw => hts w (List.mem_cons_of_mem _ hw), hown, hK⟩
  have hl := lv_entry ([.ref o, .int a0, .int a1]) (n := 5) (Nat.le_of_ble_eq_true rfl)
  have hE : entryFrame m args 5 = F0 m 0 ((lg_sl ([.ref o, .int a0, .int a1]) ++ List.replicate (5 - (lg_sl ([.ref o, .int a0, .int a1])).length) Slot.unset).toArray) [] := by rw [hav]; exact lg_entry_eq m _ _
  rw [hE]
  clear hE hav
  generalize (lg_sl ([.ref o, .int a0, .int a1]) ++ List.replicate (5 - (lg_sl ([.ref o, .int a0, .int a1])).length) Slot.unset).toArray = ls at hl ⊢
  have hl : lv_has ls 5 [(0, .ref o), (1, .int a0), (2, .int a1)] := hl
  obtain ⟨Q, hQ⟩ : ∃ Q, Q = MQ below (va_Qi (fun (r1 : Int32) (M1 : MS) => r1 = r_ ∧ M1 = M) (m_C D cI cJ o sz) (m_A o)) args s 0 0 (m_A o) := ⟨_, rfl⟩
  rw [← hQ]
  suffices hmain : ∀ (H : Heap) (locs : List Loc), va_P D z_cls (m_W cI cJ o M) H → va_S (m_A o) s.heap H locs → W p l e (z_rm 0 0) s m args below meth c H locs 0 0 Q (F0 m 0 ls []) from hmain s.heap [] hP0 va_S.rf
  clear hP0
  intro H locs hP hS
  unfold f_X8_hasPlace at h
  refine lv_iconst (v := 0) hx hb dX8_hasPlace_0 (by decide) ?_
  refine lv_istore_n (lv' := [(3, .int (0 : Int32)), (0, .ref o), (1, .int a0), (2, .int a1)]) hx hb dX8_hasPlace_1 rfl hl (by decide) rfl (fun ls hl => ?_)
  refine lv_iconst (v := 0) hx hb dX8_hasPlace_2 (by decide) ?_
  refine lv_istore (lv' := [(4, .int (0 : Int32)), (3, .int (0 : Int32)), (0, .ref o), (1, .int a0), (2, .int a1)]) hx hb dX8_hasPlace_3 hl (by decide) rfl (fun ls hl => ?_)
  obtain ⟨y3_3, hlp, h⟩ := z_bd_some h
  refine z_lp_ind (P := fun x => ∀ (H : Heap) (locs : List Loc) (ls : Array Slot), va_P D z_cls (m_W cI cJ o M) H → va_S (m_A o) s.heap H locs → lv_has ls 5 [(0, .ref o), (1, .int a0), (2, .int a1), (3, .int x.1), (4, .int x.2)] → W p l e (z_rm 0 0) s m args below meth c H locs 0 0 Q (F0 m 5 ls [])) (Qe := fun y => ∀ (H : Heap) (locs : List Loc) (ls : Array Slot), va_P D z_cls (m_W cI cJ o M) H → va_S (m_A o) s.heap H locs → lv_has ls 5 [(3, .int y)] → W p l e (z_rm 0 0) s m args below meth c H locs 0 0 Q (F0 m 48 ls [])) ?_ hlp ?_ H locs ls hP hS (lv_sub hl [2, 3, 4, 1, 0] rfl)
  · clear h hlp hP hS hl
    rintro ⟨x3_1, x4_2⟩ oo h K_5 H locs ls hP hS hl
    have hP : va_P D z_cls (m_W cI cJ o M) H := hP
    have hl : lv_has ls 5 [(0, .ref o), (1, .int a0), (2, .int a1), (3, .int x3_1), (4, .int x4_2)] := hl
    have h : f_X8_hasPlace_L5 M a0 a1 x3_1 x4_2 = some oo := h
    unfold f_X8_hasPlace_L5 at h
    refine lv_iload hx hb dX8_hasPlace_5 (lv_at hl 4 rfl) ?_
    refine lv_aload_n hx hb dX8_hasPlace_7 rfl (lv_at hl 0 rfl) ?_
    refine m_get (k := 0) (v := .ref (o + 1)) hc hP (by decide) wF_X8_7 rfl dX8_hasPlace_8 ?_
    refine lv_iload_n hx hb dX8_hasPlace_11 rfl (lv_at hl 1 rfl) ?_
    obtain ⟨c_12, h⟩ := z_chk_some h
    refine m_iald (k := 0) (j := 1) hc hP (ma_0 ..) c_12 dX8_hasPlace_12 ?_
    refine lv_icmp_ge (tgt := 48) hx hb dX8_hasPlace_13 (by decide) (fun c_13 => ?_) (fun c_13 => ?_)
    · replace h := z_ip_ c_13 h
      cases h
      exact K_5 H locs ls hP hS (lv_sub hl [3] rfl)
    · replace h := z_in_ c_13 h
      refine lv_iload_n hx hb dX8_hasPlace_16 rfl (lv_at hl 3 rfl) ?_
      refine lv_if_ne (tgt := 36) hx hb dX8_hasPlace_17 (by decide) (fun c_17 => ?_) (fun c_17 => ?_)
      · replace h := z_in_ c_17 h
        refine lv_iconst (v := 1) hx hb dX8_hasPlace_36 (by decide) ?_
        refine lv_goto (tgt := 41) hx hb dX8_hasPlace_37 (by decide) ?_
        refine lv_istore_n (lv' := [(3, .int (1 : Int32)), (0, .ref o), (1, .int a0), (2, .int a1), (4, .int x4_2)]) hx hb dX8_hasPlace_41 rfl hl (by decide) rfl (fun ls hl => ?_)
        refine lv_iinc (v := (x4_2 + 1)) (lv' := [(4, .int (x4_2 + 1)), (3, .int (1 : Int32)), (0, .ref o), (1, .int a0), (2, .int a1)]) hx hb dX8_hasPlace_42 hl (k := 4) rfl rfl (by decide) rfl (fun ls hl => ?_)
        refine lv_goto (tgt := 5) hx hb dX8_hasPlace_45 (by decide) ?_
        cases h
        exact K_5 H locs ls hP hS (lv_sub hl [2, 3, 4, 1, 0] rfl)
      · replace h := z_ip_ c_17 h
        refine lv_aload_n hx hb dX8_hasPlace_20 rfl (lv_at hl 0 rfl) ?_
        refine m_get (k := 1) (v := .ref (o + 2)) hc hP (by decide) wF_X8_13 rfl dX8_hasPlace_21 ?_
        refine lv_bipush (v := 12) hx hb dX8_hasPlace_24 (by decide) ?_
        refine lv_iload_n hx hb dX8_hasPlace_26 rfl (lv_at hl 1 rfl) ?_
        refine lv_imul hx hb dX8_hasPlace_27 ?_
        refine lv_iload hx hb dX8_hasPlace_28 (lv_at hl 4 rfl) ?_
        refine lv_iadd hx hb dX8_hasPlace_30 ?_
        obtain ⟨c_31, h⟩ := z_chk_some h
        refine m_iald (k := 1) (j := 2) hc hP (ma_1 ..) c_31 dX8_hasPlace_31 ?_
        refine lv_iload_n hx hb dX8_hasPlace_32 rfl (lv_at hl 2 rfl) ?_
        refine lv_icmp_ne (tgt := 40) hx hb dX8_hasPlace_33 (by decide) (fun c_33 => ?_) (fun c_33 => ?_)
        · replace h := z_in_ c_33 h
          refine lv_iconst (v := 0) hx hb dX8_hasPlace_40 (by decide) ?_
          refine lv_istore_n (lv' := [(3, .int (0 : Int32)), (0, .ref o), (1, .int a0), (2, .int a1), (4, .int x4_2)]) hx hb dX8_hasPlace_41 rfl hl (by decide) rfl (fun ls hl => ?_)
          refine lv_iinc (v := (x4_2 + 1)) (lv' := [(4, .int (x4_2 + 1)), (3, .int (0 : Int32)), (0, .ref o), (1, .int a0), (2, .int a1)]) hx hb dX8_hasPlace_42 hl (k := 4) rfl rfl (by decide) rfl (fun ls hl => ?_)
          refine lv_goto (tgt := 5) hx hb dX8_hasPlace_45 (by decide) ?_
          cases h
          exact K_5 H locs ls hP hS (lv_sub hl [2, 3, 4, 1, 0] rfl)
        · replace h := z_ip_ c_33 h
          refine lv_iconst (v := 1) hx hb dX8_hasPlace_36 (by decide) ?_
          refine lv_goto (tgt := 41) hx hb dX8_hasPlace_37 (by decide) ?_
          refine lv_istore_n (lv' := [(3, .int (1 : Int32)), (0, .ref o), (1, .int a0), (2, .int a1), (4, .int x4_2)]) hx hb dX8_hasPlace_41 rfl hl (by decide) rfl (fun ls hl => ?_)
          refine lv_iinc (v := (x4_2 + 1)) (lv' := [(4, .int (x4_2 + 1)), (3, .int (1 : Int32)), (0, .ref o), (1, .int a0), (2, .int a1)]) hx hb dX8_hasPlace_42 hl (k := 4) rfl rfl (by decide) rfl (fun ls hl => ?_)
          refine lv_goto (tgt := 5) hx hb dX8_hasPlace_45 (by decide) ?_
          cases h
          exact K_5 H locs ls hP hS (lv_sub hl [2, 3, 4, 1, 0] rfl)
  · clear hlp hP hS hl
    intro H locs ls hP hS hl
    have hP : va_P D z_cls (m_W cI cJ o M) H := hP
    have hl : lv_has ls 5 [(3, .int y3_3)] := hl
    refine lv_iload_n hx hb dX8_hasPlace_48 rfl (lv_at hl 0 rfl) ?_
    obtain ⟨cb, h⟩ := z_chk_some h
    cases h
    rw [hQ]
    exact m_retz hc hr hlocks cb hP hS hz dX8_hasPlace_49
theorem md_X8_hasPlace : yX8_hasPlace.cls ≠ "java/lang/invoke/MethodHandle" ∧ yX8_hasPlace.cls ≠ "java/lang/invoke/VarHandle" ∧ (parseMethodDescriptor yX8_hasPlace.desc).map (fun d => d.parameters.length) = some 2 := by decide +kernel
noncomputable def f_X8_comes_L23 (a0 : Int32) (a1 : Int32) (x5_2 : Int32) (M_3 : MS) : Option ((Int32 × MS) ⊕ (Int32 × MS)) :=
  if x5_2 ≤ ((12 : Int32) * a0) then some (.inl (x5_2, M_3)) else z_chk (z_in (x5_2 - (1 : Int32)) 72) (if (M_3.1 1 (x5_2 - (1 : Int32)).toNatClampNeg) ≤ a1 then some (.inl (x5_2, M_3)) else z_chk (z_in (x5_2 - (1 : Int32)) 72) (z_chk (z_in x5_2 72) (z_lt (sI M_3 1 x5_2.toNatClampNeg (M_3.1 1 (x5_2 - (1 : Int32)).toNatClampNeg)) fun M_6 => z_chk (z_in (x5_2 - (1 : Int32)) 72) (z_chk (z_in x5_2 72) (z_lt (sI M_6 2 x5_2.toNatClampNeg (M_6.1 2 (x5_2 - (1 : Int32)).toNatClampNeg)) fun M_7 => z_chk (z_in (x5_2 - (1 : Int32)) 72) (z_chk (z_in x5_2 72) (z_lt (sI M_7 3 x5_2.toNatClampNeg (M_7.1 3 (x5_2 - (1 : Int32)).toNatClampNeg)) fun M_8 => some (.inr ((x5_2 + (-1)), M_8)))))))))
noncomputable def f_X8_comes (M : MS) (a0 : Int32) (a1 : Int32) (a2 : Int32) (a3 : Int32) : Option (Int32 × MS) :=
  z_chk (z_in a0 6) (z_chk (z_in a0 6) (z_chk (z_in a0 6) (z_lt (sI M 0 a0.toNatClampNeg ((M.1 0 a0.toNatClampNeg) + (1 : Int32))) fun M_1 => z_bd2 (z_lp (fun x => f_X8_comes_L23 a0 a1 x.1 x.2) ((((12 : Int32) * a0) + (M.1 0 a0.toNatClampNeg)), M_1)) fun y5_4 M_5 => z_chk (z_in y5_4 72) (z_lt (sI M_5 1 y5_4.toNatClampNeg a1) fun M_9 => z_chk (z_in y5_4 72) (z_lt (sI M_9 2 y5_4.toNatClampNeg a2) fun M_10 => z_chk (z_in y5_4 72) (z_lt (sI M_10 3 y5_4.toNatClampNeg a3) fun M_11 => z_chk (z_in a0 6) (z_bd2 (f_X8_done M_11 (M_11.1 0 a0.toNatClampNeg)) fun r_13 M_12 => some (r_13, M_12))))))))
set_option maxHeartbeats 4000000 in
set_option maxRecDepth 100000 in
theorem mt_X8_comes (l : Launch) (D : va_G) (cI cJ : ClassId) (o sz : Nat) (M : MS) (a0 : Int32) (a1 : Int32) (a2 : Int32) (a3 : Int32) {r_ : Int32} {N_ : MS} (h : f_X8_comes M a0 a1 a2 a3 = some (r_, N_)) : Met l yX8_comes (z_wd yX8_comes cX8_comes 6 (some .int)) (z_rm 1 37) (va_Pc [.ref o, .int a0, .int a1, .int a2, .int a3] (m_C D cI cJ o sz M)) (va_Qi (fun (r1 : Int32) (M1 : MS) => r1 = r_ ∧ M1 = N_) (m_C D cI cJ o sz) (m_A o)) 0 0 (m_A o) := by
  refine Met.ofW (cc := cX8_comes) (maxL := 6) (ret := (some .int)) (by decide) rfl ?_
  intro p e s m args below meth c s₁ B hml hv
  obtain ⟨hav, hz, hP0, hK⟩ := hv
  have hx := B.exec
  have hb := B.bytes
  have hr := B.returns
  have hts := atoms_spec (ws := z_wd yX8_comes cX8_comes 6 (some .int)) B.pre
  have hown : s.vm.findClass RX8 = some m.cls := findClass_of_methodNamed B.named
  have hlocks := B.notSynchronized
  have hc : m_X p s m args c cX8_comes 6 D cI cJ := ⟨hx, hb, hml, fun w hw => hts w (List.mem_cons_of_mem _ hw), hown, hK⟩
  have hl := lv_entry ([.ref o, .int a0, .int a1, .int a2, .int a3]) (n := 6) (Nat.le_of_ble_eq_true rfl)
  have hE : entryFrame m args 6 = F0 m 0 ((lg_sl ([.ref o, .int a0, .int a1, .int a2, .int a3]) ++ List.replicate (6 - (lg_sl ([.ref o, .int a0, .int a1, .int a2, .int a3])).length) Slot.unset).toArray) [] := by rw [hav]; exact lg_entry_eq m _ _
  rw [hE]
  clear hE hav
  generalize (lg_sl ([.ref o, .int a0, .int a1, .int a2, .int a3]) ++ List.replicate (6 - (lg_sl ([.ref o, .int a0, .int a1, .int a2, .int a3])).length) Slot.unset).toArray = ls at hl ⊢
  have hl : lv_has ls 6 [(0, .ref o), (1, .int a0), (2, .int a1), (3, .int a2), (4, .int a3)] := hl
  obtain ⟨Q, hQ⟩ : ∃ Q, Q = MQ below (va_Qi (fun (r1 : Int32) (M1 : MS) => r1 = r_ ∧ M1 = N_) (m_C D cI cJ o sz) (m_A o)) args s 0 0 (m_A o) := ⟨_, rfl⟩
  rw [← hQ]
  suffices hmain : ∀ (H : Heap) (locs : List Loc), va_P D z_cls (m_W cI cJ o M) H → va_S (m_A o) s.heap H locs → W p l e (z_rm 1 37) s m args below meth c H locs 0 0 Q (F0 m 0 ls []) from hmain s.heap [] hP0 va_S.rf
  clear hP0
  intro H locs hP hS
  unfold f_X8_comes at h
  refine lv_bipush (v := 12) hx hb dX8_comes_0 (by decide) ?_
  refine lv_iload_n hx hb dX8_comes_2 rfl (lv_at hl 1 rfl) ?_
  refine lv_imul hx hb dX8_comes_3 ?_
  refine lv_aload_n hx hb dX8_comes_4 rfl (lv_at hl 0 rfl) ?_
  refine m_get (k := 0) (v := .ref (o + 1)) hc hP (by decide) wF_X8_7 rfl dX8_comes_5 ?_
  refine lv_iload_n hx hb dX8_comes_8 rfl (lv_at hl 1 rfl) ?_
  obtain ⟨c_9, h⟩ := z_chk_some h
  refine m_iald (k := 0) (j := 1) hc hP (ma_0 ..) c_9 dX8_comes_9 ?_
  refine lv_iadd hx hb dX8_comes_10 ?_
  refine lv_istore (lv' := [(5, .int (((12 : Int32) * a0) + (M.1 0 a0.toNatClampNeg))), (0, .ref o), (1, .int a0), (2, .int a1), (3, .int a2), (4, .int a3)]) hx hb dX8_comes_11 hl (by decide) rfl (fun ls hl => ?_)
  refine lv_aload_n hx hb dX8_comes_13 rfl (lv_at hl 1 rfl) ?_
  refine m_get (k := 0) (v := .ref (o + 1)) hc hP (by decide) wF_X8_7 rfl dX8_comes_14 ?_
  refine lv_iload_n hx hb dX8_comes_17 rfl (lv_at hl 2 rfl) ?_
  refine lv_dup2_11 hx hb dX8_comes_18 rfl rfl ?_
  obtain ⟨c_19, h⟩ := z_chk_some h
  refine m_iald (k := 0) (j := 1) hc hP (ma_0 ..) c_19 dX8_comes_19 ?_
  refine lv_iconst (v := 1) hx hb dX8_comes_20 (by decide) ?_
  refine lv_iadd hx hb dX8_comes_21 ?_
  obtain ⟨c_22, h⟩ := z_chk_some h
  obtain ⟨M_1, eM_1, h⟩ := z_lt_some h
  refine m_iast (k := 0) (j := 1) (M' := M_1) hc hP hS (ma_0 ..) c_22 (by rw [eM_1]; exact mp_0 ..) dX8_comes_22 (fun H locs hP hS => ?_)
  obtain ⟨y5_4, M_5, hlp, h⟩ := z_bd2_some h
  refine z_lp_ind (P := fun x => ∀ (H : Heap) (locs : List Loc) (ls : Array Slot), va_P D z_cls (m_W cI cJ o x.2) H → va_S (m_A o) s.heap H locs → lv_has ls 6 [(0, .ref o), (1, .int a0), (2, .int a1), (3, .int a2), (4, .int a3), (5, .int x.1)] → W p l e (z_rm 1 37) s m args below meth c H locs 0 0 Q (F0 m 23 ls [])) (Qe := fun y => ∀ (H : Heap) (locs : List Loc) (ls : Array Slot), va_P D z_cls (m_W cI cJ o y.2) H → va_S (m_A o) s.heap H locs → lv_has ls 6 [(0, .ref o), (1, .int a0), (2, .int a1), (3, .int a2), (4, .int a3), (5, .int y.1)] → W p l e (z_rm 1 37) s m args below meth c H locs 0 0 Q (F0 m 99 ls [])) ?_ hlp ?_ H locs ls hP hS (lv_sub hl [1, 2, 3, 4, 5, 0] rfl)
  · clear h hlp hP hS hl
    rintro ⟨x5_2, M_3⟩ oo h K_23 H locs ls hP hS hl
    have hP : va_P D z_cls (m_W cI cJ o M_3) H := hP
    have hl : lv_has ls 6 [(0, .ref o), (1, .int a0), (2, .int a1), (3, .int a2), (4, .int a3), (5, .int x5_2)] := hl
    have h : f_X8_comes_L23 a0 a1 x5_2 M_3 = some oo := h
    unfold f_X8_comes_L23 at h
    refine lv_iload hx hb dX8_comes_23 (lv_at hl 5 rfl) ?_
    refine lv_bipush (v := 12) hx hb dX8_comes_25 (by decide) ?_
    refine lv_iload_n hx hb dX8_comes_27 rfl (lv_at hl 1 rfl) ?_
    refine lv_imul hx hb dX8_comes_28 ?_
    refine lv_icmp_le (tgt := 99) hx hb dX8_comes_29 (by decide) (fun c_29 => ?_) (fun c_29 => ?_)
    · replace h := z_ip_ c_29 h
      cases h
      exact K_23 H locs ls hP hS (lv_sub hl [0, 1, 2, 3, 4, 5] rfl)
    · replace h := z_in_ c_29 h
      refine lv_aload_n hx hb dX8_comes_32 rfl (lv_at hl 0 rfl) ?_
      refine m_get (k := 1) (v := .ref (o + 2)) hc hP (by decide) wF_X8_13 rfl dX8_comes_33 ?_
      refine lv_iload hx hb dX8_comes_36 (lv_at hl 5 rfl) ?_
      refine lv_iconst (v := 1) hx hb dX8_comes_38 (by decide) ?_
      refine lv_isub hx hb dX8_comes_39 ?_
      obtain ⟨c_40, h⟩ := z_chk_some h
      refine m_iald (k := 1) (j := 2) hc hP (ma_1 ..) c_40 dX8_comes_40 ?_
      refine lv_iload_n hx hb dX8_comes_41 rfl (lv_at hl 2 rfl) ?_
      refine lv_icmp_le (tgt := 99) hx hb dX8_comes_42 (by decide) (fun c_42 => ?_) (fun c_42 => ?_)
      · replace h := z_ip_ c_42 h
        cases h
        exact K_23 H locs ls hP hS (lv_sub hl [0, 1, 2, 3, 4, 5] rfl)
      · replace h := z_in_ c_42 h
        refine lv_aload_n hx hb dX8_comes_45 rfl (lv_at hl 0 rfl) ?_
        refine m_get (k := 1) (v := .ref (o + 2)) hc hP (by decide) wF_X8_13 rfl dX8_comes_46 ?_
        refine lv_iload hx hb dX8_comes_49 (lv_at hl 5 rfl) ?_
        refine lv_aload_n hx hb dX8_comes_51 rfl (lv_at hl 0 rfl) ?_
        refine m_get (k := 1) (v := .ref (o + 2)) hc hP (by decide) wF_X8_13 rfl dX8_comes_52 ?_
        refine lv_iload hx hb dX8_comes_55 (lv_at hl 5 rfl) ?_
        refine lv_iconst (v := 1) hx hb dX8_comes_57 (by decide) ?_
        refine lv_isub hx hb dX8_comes_58 ?_
        obtain ⟨c_59, h⟩ := z_chk_some h
        refine m_iald (k := 1) (j := 2) hc hP (ma_1 ..) c_59 dX8_comes_59 ?_
        obtain ⟨c_60, h⟩ := z_chk_some h
        obtain ⟨M_6, eM_6, h⟩ := z_lt_some h
        refine m_iast (k := 1) (j := 2) (M' := M_6) hc hP hS (ma_1 ..) c_60 (by rw [eM_6]; exact mp_1 ..) dX8_comes_60 (fun H locs hP hS => ?_)
        refine lv_aload_n hx hb dX8_comes_61 rfl (lv_at hl 0 rfl) ?_
        refine m_get (k := 2) (v := .ref (o + 3)) hc hP (by decide) wF_X8_16 rfl dX8_comes_62 ?_
        refine lv_iload hx hb dX8_comes_65 (lv_at hl 5 rfl) ?_
        refine lv_aload_n hx hb dX8_comes_67 rfl (lv_at hl 0 rfl) ?_
        refine m_get (k := 2) (v := .ref (o + 3)) hc hP (by decide) wF_X8_16 rfl dX8_comes_68 ?_
        refine lv_iload hx hb dX8_comes_71 (lv_at hl 5 rfl) ?_
        refine lv_iconst (v := 1) hx hb dX8_comes_73 (by decide) ?_
        refine lv_isub hx hb dX8_comes_74 ?_
        obtain ⟨c_75, h⟩ := z_chk_some h
        refine m_iald (k := 2) (j := 3) hc hP (ma_2 ..) c_75 dX8_comes_75 ?_
        obtain ⟨c_76, h⟩ := z_chk_some h
        obtain ⟨M_7, eM_7, h⟩ := z_lt_some h
        refine m_iast (k := 2) (j := 3) (M' := M_7) hc hP hS (ma_2 ..) c_76 (by rw [eM_7]; exact mp_2 ..) dX8_comes_76 (fun H locs hP hS => ?_)
        refine lv_aload_n hx hb dX8_comes_77 rfl (lv_at hl 0 rfl) ?_
        refine m_get (k := 3) (v := .ref (o + 4)) hc hP (by decide) wF_X8_19 rfl dX8_comes_78 ?_
        refine lv_iload hx hb dX8_comes_81 (lv_at hl 5 rfl) ?_
        refine lv_aload_n hx hb dX8_comes_83 rfl (lv_at hl 0 rfl) ?_
        refine m_get (k := 3) (v := .ref (o + 4)) hc hP (by decide) wF_X8_19 rfl dX8_comes_84 ?_
        refine lv_iload hx hb dX8_comes_87 (lv_at hl 5 rfl) ?_
        refine lv_iconst (v := 1) hx hb dX8_comes_89 (by decide) ?_
        refine lv_isub hx hb dX8_comes_90 ?_
        obtain ⟨c_91, h⟩ := z_chk_some h
        refine m_iald (k := 3) (j := 4) hc hP (ma_3 ..) c_91 dX8_comes_91 ?_
        obtain ⟨c_92, h⟩ := z_chk_some h
        obtain ⟨M_8, eM_8, h⟩ := z_lt_some h
        refine m_iast (k := 3) (j := 4) (M' := M_8) hc hP hS (ma_3 ..) c_92 (by rw [eM_8]; exact mp_3 ..) dX8_comes_92 (fun H locs hP hS => ?_)
        refine lv_iinc (v := (x5_2 + (-1))) (lv' := [(5, .int (x5_2 + (-1))), (0, .ref o), (1, .int a0), (2, .int a1), (3, .int a2), (4, .int a3)]) hx hb dX8_comes_93 hl (k := 5) rfl rfl (by decide) rfl (fun ls hl => ?_)
        refine lv_goto (tgt := 23) hx hb dX8_comes_96 (by decide) ?_
        cases h
        exact K_23 H locs ls hP hS (lv_sub hl [1, 2, 3, 4, 5, 0] rfl)
  · clear hlp hP hS hl
    intro H locs ls hP hS hl
    have hP : va_P D z_cls (m_W cI cJ o M_5) H := hP
    have hl : lv_has ls 6 [(0, .ref o), (1, .int a0), (2, .int a1), (3, .int a2), (4, .int a3), (5, .int y5_4)] := hl
    refine lv_aload_n hx hb dX8_comes_99 rfl (lv_at hl 0 rfl) ?_
    refine m_get (k := 1) (v := .ref (o + 2)) hc hP (by decide) wF_X8_13 rfl dX8_comes_100 ?_
    refine lv_iload hx hb dX8_comes_103 (lv_at hl 5 rfl) ?_
    refine lv_iload_n hx hb dX8_comes_105 rfl (lv_at hl 2 rfl) ?_
    obtain ⟨c_106, h⟩ := z_chk_some h
    obtain ⟨M_9, eM_9, h⟩ := z_lt_some h
    refine m_iast (k := 1) (j := 2) (M' := M_9) hc hP hS (ma_1 ..) c_106 (by rw [eM_9]; exact mp_1 ..) dX8_comes_106 (fun H locs hP hS => ?_)
    refine lv_aload_n hx hb dX8_comes_107 rfl (lv_at hl 0 rfl) ?_
    refine m_get (k := 2) (v := .ref (o + 3)) hc hP (by decide) wF_X8_16 rfl dX8_comes_108 ?_
    refine lv_iload hx hb dX8_comes_111 (lv_at hl 5 rfl) ?_
    refine lv_iload_n hx hb dX8_comes_113 rfl (lv_at hl 3 rfl) ?_
    obtain ⟨c_114, h⟩ := z_chk_some h
    obtain ⟨M_10, eM_10, h⟩ := z_lt_some h
    refine m_iast (k := 2) (j := 3) (M' := M_10) hc hP hS (ma_2 ..) c_114 (by rw [eM_10]; exact mp_2 ..) dX8_comes_114 (fun H locs hP hS => ?_)
    refine lv_aload_n hx hb dX8_comes_115 rfl (lv_at hl 0 rfl) ?_
    refine m_get (k := 3) (v := .ref (o + 4)) hc hP (by decide) wF_X8_19 rfl dX8_comes_116 ?_
    refine lv_iload hx hb dX8_comes_119 (lv_at hl 5 rfl) ?_
    refine lv_iload hx hb dX8_comes_121 (lv_at hl 4 rfl) ?_
    obtain ⟨c_123, h⟩ := z_chk_some h
    obtain ⟨M_11, eM_11, h⟩ := z_lt_some h
    refine m_iast (k := 3) (j := 4) (M' := M_11) hc hP hS (ma_3 ..) c_123 (by rw [eM_11]; exact mp_3 ..) dX8_comes_123 (fun H locs hP hS => ?_)
    refine lv_aload_n hx hb dX8_comes_124 rfl (lv_at hl 0 rfl) ?_
    refine lv_aload_n hx hb dX8_comes_125 rfl (lv_at hl 0 rfl) ?_
    refine m_get (k := 0) (v := .ref (o + 1)) hc hP (by decide) wF_X8_7 rfl dX8_comes_126 ?_
    refine lv_iload_n hx hb dX8_comes_129 rfl (lv_at hl 1 rfl) ?_
    obtain ⟨c_130, h⟩ := z_chk_some h
    refine m_iald (k := 0) (j := 1) hc hP (ma_0 ..) c_130 dX8_comes_130 ?_
    obtain ⟨r_13, M_12, er_13, h⟩ := z_bd2_some h
    refine m_calli (As := [.int (M_11.1 0 a0.toNatClampNeg)]) (r := r_13) (M' := M_12) (n := 1) hc hP hS (mt_X8_done l D cI cJ o H.size M_11 (M_11.1 0 a0.toNatClampNeg) er_13) wM_X8_130 wI_X8_done wS_X8_done wZ_X8 wC_X8_done md_X8_done ⟨rfl, rfl, Nat.le_of_ble_eq_true rfl, Nat.le_of_ble_eq_true rfl⟩ rfl hl.1 rfl (Nat.le_of_ble_eq_true rfl) dX8_comes_131 ⟨Nat.zero_le _, Nat.zero_le _⟩ (fun H locs hP hS => ?_)
    cases h
    rw [hQ]
    exact m_reti hc hr hlocks hP hS hz dX8_comes_134
theorem md_X8_comes : yX8_comes.cls ≠ "java/lang/invoke/MethodHandle" ∧ yX8_comes.cls ≠ "java/lang/invoke/VarHandle" ∧ (parseMethodDescriptor yX8_comes.desc).map (fun d => d.parameters.length) = some 4 := by decide +kernel
noncomputable def f_X8_point (M : MS) (a0 : Int32) (a1 : Int32) (a2 : Int32) (a3 : Int32) : Option (Int32 × MS) :=
  z_bd (f_X8_in a0 (0 : Int32) (5 : Int32)) fun r_1 => if r_1 = 0 then z_bd2 (f_X8_refused M (1 : Int32)) fun r_3 M_2 => some (r_3, M_2) else z_bd (f_X8_isPoint a1 a2 a3) fun r_4 => if r_4 = 0 then z_bd2 (f_X8_refused M (1 : Int32)) fun r_13 M_12 => some (r_13, M_12) else z_chk (z_in a0 6) (if (M.1 0 a0.toNatClampNeg) = (12 : Int32) then z_bd2 (f_X8_refused M (2 : Int32)) fun r_11 M_10 => some (r_11, M_10) else z_bd (f_X8_hasPlace M a0 a1) fun r_5 => if r_5 = 0 then z_bd2 (f_X8_comes M a0 a1 a2 a3) fun r_7 M_6 => some (r_7, M_6) else z_bd2 (f_X8_refused M (3 : Int32)) fun r_9 M_8 => some (r_9, M_8))
set_option maxHeartbeats 4000000 in
set_option maxRecDepth 100000 in
theorem mt_X8_point (l : Launch) (D : va_G) (cI cJ : ClassId) (o sz : Nat) (M : MS) (a0 : Int32) (a1 : Int32) (a2 : Int32) (a3 : Int32) {r_ : Int32} {N_ : MS} (h : f_X8_point M a0 a1 a2 a3 = some (r_, N_)) : Met l yX8_point (z_wd yX8_point cX8_point 5 (some .int)) (z_rm 2 78) (va_Pc [.ref o, .int a0, .int a1, .int a2, .int a3] (m_C D cI cJ o sz M)) (va_Qi (fun (r1 : Int32) (M1 : MS) => r1 = r_ ∧ M1 = N_) (m_C D cI cJ o sz) (m_A o)) 0 0 (m_A o) := by
  refine Met.ofW (cc := cX8_point) (maxL := 5) (ret := (some .int)) (by decide) rfl ?_
  intro p e s m args below meth c s₁ B hml hv
  obtain ⟨hav, hz, hP0, hK⟩ := hv
  have hx := B.exec
  have hb := B.bytes
  have hr := B.returns
  have hts := atoms_spec (ws := z_wd yX8_point cX8_point 5 (some .int)) B.pre
  have hown : s.vm.findClass RX8 = some m.cls := findClass_of_methodNamed B.named
  have hlocks := B.notSynchronized
  have hc : m_X p s m args c cX8_point 5 D cI cJ := ⟨hx, hb, hml, fun w hw => hts w (List.mem_cons_of_mem _ hw), hown, hK⟩
  have hl := lv_entry ([.ref o, .int a0, .int a1, .int a2, .int a3]) (n := 5) (Nat.le_of_ble_eq_true rfl)
  have hE : entryFrame m args 5 = F0 m 0 ((lg_sl ([.ref o, .int a0, .int a1, .int a2, .int a3]) ++ List.replicate (5 - (lg_sl ([.ref o, .int a0, .int a1, .int a2, .int a3])).length) Slot.unset).toArray) [] := by rw [hav]; exact lg_entry_eq m _ _
  rw [hE]
  clear hE hav
  generalize (lg_sl ([.ref o, .int a0, .int a1, .int a2, .int a3]) ++ List.replicate (5 - (lg_sl ([.ref o, .int a0, .int a1, .int a2, .int a3])).length) Slot.unset).toArray = ls at hl ⊢
  have hl : lv_has ls 5 [(0, .ref o), (1, .int a0), (2, .int a1), (3, .int a2), (4, .int a3)] := hl
  obtain ⟨Q, hQ⟩ : ∃ Q, Q = MQ below (va_Qi (fun (r1 : Int32) (M1 : MS) => r1 = r_ ∧ M1 = N_) (m_C D cI cJ o sz) (m_A o)) args s 0 0 (m_A o) := ⟨_, rfl⟩
  rw [← hQ]
  suffices hmain : ∀ (H : Heap) (locs : List Loc), va_P D z_cls (m_W cI cJ o M) H → va_S (m_A o) s.heap H locs → W p l e (z_rm 2 78) s m args below meth c H locs 0 0 Q (F0 m 0 ls []) from hmain s.heap [] hP0 va_S.rf
  clear hP0
  intro H locs hP hS
  unfold f_X8_point at h
  refine lv_iload_n hx hb dX8_point_0 rfl (lv_at hl 1 rfl) ?_
  refine lv_iconst (v := 0) hx hb dX8_point_1 (by decide) ?_
  refine lv_iconst (v := 5) hx hb dX8_point_2 (by decide) ?_
  obtain ⟨r_1, er_1, h⟩ := z_bd_some h
  refine s_calli (As := [.int a0, .int (0 : Int32), .int (5 : Int32)]) (r := r_1) (n := 3) hc.s (mt_X8_in l a0 (0 : Int32) (5 : Int32) er_1) wM_X8_100 wT_X8_in wZ_X8 wC_X8_in md_X8_in ⟨rfl, rfl, Nat.le_of_ble_eq_true rfl, Nat.le_of_ble_eq_true rfl⟩ rfl hl.1 rfl (Nat.le_of_ble_eq_true rfl) dX8_point_3 ⟨Nat.zero_le _, Nat.zero_le _⟩ ?_
  refine lv_if_eq (tgt := 19) hx hb dX8_point_6 (by decide) (fun c_6 => ?_) (fun c_6 => ?_)
  · replace h := z_ip_ c_6 h
    refine lv_aload_n hx hb dX8_point_19 rfl (lv_at hl 0 rfl) ?_
    refine lv_iconst (v := 1) hx hb dX8_point_20 (by decide) ?_
    obtain ⟨r_3, M_2, er_3, h⟩ := z_bd2_some h
    refine m_calli (As := [.int (1 : Int32)]) (r := r_3) (M' := M_2) (n := 1) hc hP hS (mt_X8_refused l D cI cJ o H.size M (1 : Int32) er_3) wM_X8_118 wI_X8_refused wS_X8_refused wZ_X8 wC_X8_refused md_X8_refused ⟨rfl, rfl, Nat.le_of_ble_eq_true rfl, Nat.le_of_ble_eq_true rfl⟩ rfl hl.1 rfl (Nat.le_of_ble_eq_true rfl) dX8_point_21 ⟨Nat.zero_le _, Nat.zero_le _⟩ (fun H locs hP hS => ?_)
    cases h
    rw [hQ]
    exact m_reti hc hr hlocks hP hS hz dX8_point_24
  · replace h := z_in_ c_6 h
    refine lv_iload_n hx hb dX8_point_9 rfl (lv_at hl 2 rfl) ?_
    refine lv_iload_n hx hb dX8_point_10 rfl (lv_at hl 3 rfl) ?_
    refine lv_iload hx hb dX8_point_11 (lv_at hl 4 rfl) ?_
    obtain ⟨r_4, er_4, h⟩ := z_bd_some h
    refine s_calli (As := [.int a1, .int a2, .int a3]) (r := r_4) (n := 3) hc.s (mt_X8_isPoint l a1 a2 a3 er_4) wM_X8_115 wT_X8_isPoint wZ_X8 wC_X8_isPoint md_X8_isPoint ⟨rfl, rfl, Nat.le_of_ble_eq_true rfl, Nat.le_of_ble_eq_true rfl⟩ rfl hl.1 rfl (Nat.le_of_ble_eq_true rfl) dX8_point_13 ⟨Nat.zero_le _, Nat.zero_le _⟩ ?_
    refine lv_if_ne (tgt := 25) hx hb dX8_point_16 (by decide) (fun c_16 => ?_) (fun c_16 => ?_)
    · replace h := z_in_ c_16 h
      refine lv_aload_n hx hb dX8_point_25 rfl (lv_at hl 0 rfl) ?_
      refine m_get (k := 0) (v := .ref (o + 1)) hc hP (by decide) wF_X8_7 rfl dX8_point_26 ?_
      refine lv_iload_n hx hb dX8_point_29 rfl (lv_at hl 1 rfl) ?_
      obtain ⟨c_30, h⟩ := z_chk_some h
      refine m_iald (k := 0) (j := 1) hc hP (ma_0 ..) c_30 dX8_point_30 ?_
      refine lv_bipush (v := 12) hx hb dX8_point_31 (by decide) ?_
      refine lv_icmp_ne (tgt := 44) hx hb dX8_point_33 (by decide) (fun c_33 => ?_) (fun c_33 => ?_)
      · replace h := z_in_ c_33 h
        refine lv_aload_n hx hb dX8_point_44 rfl (lv_at hl 0 rfl) ?_
        refine lv_iload_n hx hb dX8_point_45 rfl (lv_at hl 1 rfl) ?_
        refine lv_iload_n hx hb dX8_point_46 rfl (lv_at hl 2 rfl) ?_
        obtain ⟨r_5, er_5, h⟩ := z_bd_some h
        refine m_calli (As := [.int a0, .int a1]) (r := r_5) (M' := M) (n := 2) hc hP hS (mt_X8_hasPlace l D cI cJ o H.size M a0 a1 er_5) wM_X8_122 wI_X8_hasPlace wS_X8_hasPlace wZ_X8 wC_X8_hasPlace md_X8_hasPlace ⟨rfl, rfl, Nat.le_of_ble_eq_true rfl, Nat.le_of_ble_eq_true rfl⟩ rfl hl.1 rfl (Nat.le_of_ble_eq_true rfl) dX8_point_47 ⟨Nat.zero_le _, Nat.zero_le _⟩ (fun H locs hP hS => ?_)
        refine lv_if_eq (tgt := 61) hx hb dX8_point_50 (by decide) (fun c_50 => ?_) (fun c_50 => ?_)
        · replace h := z_ip_ c_50 h
          refine lv_aload_n hx hb dX8_point_61 rfl (lv_at hl 0 rfl) ?_
          refine lv_iload_n hx hb dX8_point_62 rfl (lv_at hl 1 rfl) ?_
          refine lv_iload_n hx hb dX8_point_63 rfl (lv_at hl 2 rfl) ?_
          refine lv_iload_n hx hb dX8_point_64 rfl (lv_at hl 3 rfl) ?_
          refine lv_iload hx hb dX8_point_65 (lv_at hl 4 rfl) ?_
          obtain ⟨r_7, M_6, er_7, h⟩ := z_bd2_some h
          refine m_calli (As := [.int a0, .int a1, .int a2, .int a3]) (r := r_7) (M' := M_6) (n := 4) hc hP hS (mt_X8_comes l D cI cJ o H.size M a0 a1 a2 a3 er_7) wM_X8_126 wI_X8_comes wS_X8_comes wZ_X8 wC_X8_comes md_X8_comes ⟨rfl, rfl, Nat.le_of_ble_eq_true rfl, Nat.le_of_ble_eq_true rfl⟩ rfl hl.1 rfl (Nat.le_of_ble_eq_true rfl) dX8_point_67 ⟨Nat.zero_le _, Nat.zero_le _⟩ (fun H locs hP hS => ?_)
          cases h
          rw [hQ]
          exact m_reti hc hr hlocks hP hS hz dX8_point_70
        · replace h := z_in_ c_50 h
          refine lv_aload_n hx hb dX8_point_53 rfl (lv_at hl 0 rfl) ?_
          refine lv_iconst (v := 3) hx hb dX8_point_54 (by decide) ?_
          obtain ⟨r_9, M_8, er_9, h⟩ := z_bd2_some h
          refine m_calli (As := [.int (3 : Int32)]) (r := r_9) (M' := M_8) (n := 1) hc hP hS (mt_X8_refused l D cI cJ o H.size M (3 : Int32) er_9) wM_X8_118 wI_X8_refused wS_X8_refused wZ_X8 wC_X8_refused md_X8_refused ⟨rfl, rfl, Nat.le_of_ble_eq_true rfl, Nat.le_of_ble_eq_true rfl⟩ rfl hl.1 rfl (Nat.le_of_ble_eq_true rfl) dX8_point_55 ⟨Nat.zero_le _, Nat.zero_le _⟩ (fun H locs hP hS => ?_)
          refine lv_goto (tgt := 70) hx hb dX8_point_58 (by decide) ?_
          cases h
          rw [hQ]
          exact m_reti hc hr hlocks hP hS hz dX8_point_70
      · replace h := z_ip_ c_33 h
        refine lv_aload_n hx hb dX8_point_36 rfl (lv_at hl 0 rfl) ?_
        refine lv_iconst (v := 2) hx hb dX8_point_37 (by decide) ?_
        obtain ⟨r_11, M_10, er_11, h⟩ := z_bd2_some h
        refine m_calli (As := [.int (2 : Int32)]) (r := r_11) (M' := M_10) (n := 1) hc hP hS (mt_X8_refused l D cI cJ o H.size M (2 : Int32) er_11) wM_X8_118 wI_X8_refused wS_X8_refused wZ_X8 wC_X8_refused md_X8_refused ⟨rfl, rfl, Nat.le_of_ble_eq_true rfl, Nat.le_of_ble_eq_true rfl⟩ rfl hl.1 rfl (Nat.le_of_ble_eq_true rfl) dX8_point_38 ⟨Nat.zero_le _, Nat.zero_le _⟩ (fun H locs hP hS => ?_)
        refine lv_goto (tgt := 70) hx hb dX8_point_41 (by decide) ?_
        cases h
        rw [hQ]
        exact m_reti hc hr hlocks hP hS hz dX8_point_70
    · replace h := z_ip_ c_16 h
      refine lv_aload_n hx hb dX8_point_19 rfl (lv_at hl 0 rfl) ?_
      refine lv_iconst (v := 1) hx hb dX8_point_20 (by decide) ?_
      obtain ⟨r_13, M_12, er_13, h⟩ := z_bd2_some h
      refine m_calli (As := [.int (1 : Int32)]) (r := r_13) (M' := M_12) (n := 1) hc hP hS (mt_X8_refused l D cI cJ o H.size M (1 : Int32) er_13) wM_X8_118 wI_X8_refused wS_X8_refused wZ_X8 wC_X8_refused md_X8_refused ⟨rfl, rfl, Nat.le_of_ble_eq_true rfl, Nat.le_of_ble_eq_true rfl⟩ rfl hl.1 rfl (Nat.le_of_ble_eq_true rfl) dX8_point_21 ⟨Nat.zero_le _, Nat.zero_le _⟩ (fun H locs hP hS => ?_)
      cases h
      rw [hQ]
      exact m_reti hc hr hlocks hP hS hz dX8_point_24
theorem md_X8_point : yX8_point.cls ≠ "java/lang/invoke/MethodHandle" ∧ yX8_point.cls ≠ "java/lang/invoke/VarHandle" ∧ (parseMethodDescriptor yX8_point.desc).map (fun d => d.parameters.length) = some 4 := by decide +kernel
