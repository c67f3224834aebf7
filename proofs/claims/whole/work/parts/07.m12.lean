noncomputable def f_X8_lineOf_L11 (M : MS) (a0 : Int32) (x5_1 : Int32) (M_2 : MS) : Option ((MS) ⊕ (Int32 × MS)) :=
  if (M.1 7 a0.toNatClampNeg) ≤ x5_1 then some (.inl (M_2)) else z_chk (z_in (((12 : Int32) * a0) + x5_1) 120) (z_chk (z_in x5_1 12) (z_lt (sI M_2 30 x5_1.toNatClampNeg (M_2.1 8 (((12 : Int32) * a0) + x5_1).toNatClampNeg)) fun M_4 => z_chk (z_in (((12 : Int32) * a0) + x5_1) 120) (z_chk (z_in x5_1 12) (z_lt (sI M_4 31 x5_1.toNatClampNeg (M_4.1 9 (((12 : Int32) * a0) + x5_1).toNatClampNeg)) fun M_5 => z_chk (z_in (((12 : Int32) * a0) + x5_1) 120) (z_chk (z_in x5_1 12) (z_lt (sI M_5 32 x5_1.toNatClampNeg (M_5.1 10 (((12 : Int32) * a0) + x5_1).toNatClampNeg)) fun M_6 => some (.inr ((x5_1 + 1), M_6))))))))
noncomputable def f_X8_lineOf_L84 (a0 : Int32) (a1 : Int32) (a2 : Int32) (x5_7 : Int32) (M_8 : MS) : Option ((MS) ⊕ (Int32 × MS)) :=
  if a2 ≤ x5_7 then some (.inl (M_8)) else z_chk (z_in (a1 + x5_7) 12) (z_chk (z_in (((12 : Int32) * a0) + x5_7) 120) (z_lt (sI M_8 8 (((12 : Int32) * a0) + x5_7).toNatClampNeg (M_8.1 30 (a1 + x5_7).toNatClampNeg)) fun M_10 => z_chk (z_in (a1 + x5_7) 12) (z_chk (z_in (((12 : Int32) * a0) + x5_7) 120) (z_lt (sI M_10 9 (((12 : Int32) * a0) + x5_7).toNatClampNeg (M_10.1 31 (a1 + x5_7).toNatClampNeg)) fun M_11 => z_chk (z_in (a1 + x5_7) 12) (z_chk (z_in (((12 : Int32) * a0) + x5_7) 120) (z_lt (sI M_11 10 (((12 : Int32) * a0) + x5_7).toNatClampNeg (M_11.1 32 (a1 + x5_7).toNatClampNeg)) fun M_12 => some (.inr ((x5_7 + 1), M_12))))))))
noncomputable def f_X8_lineOf_L199 (a0 : Int32) (a2 : Int32) (x6_18 : Int32) (M_19 : MS) : Option ((MS) ⊕ (Int32 × MS)) :=
  if a2 ≤ x6_18 then some (.inl (M_19)) else z_chk (z_in x6_18 12) (z_lt (sI M_19 23 x6_18.toNatClampNeg x6_18) fun M_21 => z_chk (z_in (((12 : Int32) * a0) + x6_18) 120) (z_chk (z_in x6_18 3) (z_lt (sJ M_21 24 x6_18.toNatClampNeg (M_21.1 9 (((12 : Int32) * a0) + x6_18).toNatClampNeg).toInt64) fun M_22 => z_chk (z_in x6_18 3) (z_lt (sJ M_22 25 x6_18.toNatClampNeg (1 : Int64)) fun M_23 => some (.inr ((x6_18 + 1), M_23))))))
noncomputable def f_X8_lineOf_L282 (M : MS) (a0 : Int32) (x6_30 : Int32) (M_31 : MS) : Option ((MS) ⊕ (Int32 × MS)) :=
  if (M.1 7 a0.toNatClampNeg) ≤ x6_30 then some (.inl (M_31)) else z_chk (z_in x6_30 12) (z_chk (z_in (((12 : Int32) * a0) + x6_30) 120) (z_lt (sI M_31 8 (((12 : Int32) * a0) + x6_30).toNatClampNeg (M_31.1 30 x6_30.toNatClampNeg)) fun M_33 => z_chk (z_in x6_30 12) (z_chk (z_in (((12 : Int32) * a0) + x6_30) 120) (z_lt (sI M_33 9 (((12 : Int32) * a0) + x6_30).toNatClampNeg (M_33.1 31 x6_30.toNatClampNeg)) fun M_34 => z_chk (z_in x6_30 12) (z_chk (z_in (((12 : Int32) * a0) + x6_30) 120) (z_lt (sI M_34 10 (((12 : Int32) * a0) + x6_30).toNatClampNeg (M_34.1 32 x6_30.toNatClampNeg)) fun M_35 => some (.inr ((x6_30 + 1), M_35))))))))
noncomputable def f_X8_lineOf (M : MS) (a0 : Int32) (a1 : Int32) (a2 : Int32) : Option (MS) :=
  z_chk (z_in a0 10) (z_bd (z_lp (fun x => f_X8_lineOf_L11 M a0 x.1 x.2) ((0 : Int32), M)) fun M_3 => z_bd (z_lp (fun x => f_X8_lineOf_L84 a0 a1 a2 x.1 x.2) ((0 : Int32), M_3)) fun M_9 => z_chk (z_in a0 10) (z_lt (sI M_9 7 a0.toNatClampNeg a2) fun M_13 => z_chk (z_in a0 10) (z_lt (sI M_13 5 a0.toNatClampNeg (1 : Int32)) fun M_14 => z_bd2 (f_X8_bestTurns M_14 a0) fun r_16 M_15 => z_bd (if r_16 = (-1 : Int32) then z_bd (z_lp (fun x => f_X8_lineOf_L199 a0 a2 x.1 x.2) ((0 : Int32), M_15)) fun M_20 => z_bd (f_X8_through M_20 a0 a2) fun M_24 => z_lt (sJ M_24 26 0 (0 : Int64)) fun M_25 => z_lt (sJ M_25 27 0 (1 : Int64)) fun M_26 => some (M_26) else z_bd (f_X8_study M_15 a0 r_16) fun M_27 => some (M_27)) fun M_17 => z_chk (z_in a0 10) (z_lt (sI M_17 5 a0.toNatClampNeg (4 : Int32)) fun M_28 => z_chk (z_in a0 10) (z_lt (sI M_28 7 a0.toNatClampNeg (M.1 7 a0.toNatClampNeg)) fun M_29 => z_bd (z_lp (fun x => f_X8_lineOf_L282 M a0 x.1 x.2) ((0 : Int32), M_29)) fun M_32 => some M_32)))))
set_option maxHeartbeats 4000000 in
set_option maxRecDepth 100000 in
theorem mt_X8_lineOf (l : Launch) (D : va_G) (cI cJ : ClassId) (o sz : Nat) (M : MS) (a0 : Int32) (a1 : Int32) (a2 : Int32) {N_ : MS} (h : f_X8_lineOf M a0 a1 a2 = some N_) : Met l yX8_lineOf (z_wd yX8_lineOf cX8_lineOf 7 none) (z_rm 7 307) (va_Pc [.ref o, .int a0, .int a1, .int a2] (m_C D cI cJ o sz M)) (va_Qv (fun (M1 : MS) => M1 = N_) (m_C D cI cJ o sz) (m_A o)) 0 0 (m_A o) := by
  refine Met.ofW (cc := cX8_lineOf) (maxL := 7) (ret := none) (by decide) rfl ?_
  intro p e s m args below meth c s₁ B hml hv
  obtain ⟨hav, hz, hP0, hK⟩ := hv
  have hx := B.exec
  have hb := B.bytes
  have hr := B.returns
  have hts := atoms_spec (ws := z_wd yX8_lineOf cX8_lineOf 7 none) B.pre
  have hown : s.vm.findClass RX8 = some m.cls := findClass_of_methodNamed B.named
  have hlocks := B.notSynchronized
  have hc : m_X p s m args c cX8_lineOf 7 D cI cJ := ⟨hx, hb, hml, fun w hw => hts w (List.mem_cons_of_mem _ hw), hown, hK⟩
  have hl := lv_entry ([.ref o, .int a0, .int a1, .int a2]) (n := 7) (Nat.le_of_ble_eq_true rfl)
  have hE : entryFrame m args 7 = F0 m 0 ((lg_sl ([.ref o, .int a0, .int a1, .int a2]) ++ List.replicate (7 - (lg_sl ([.ref o, .int a0, .int a1, .int a2])).length) Slot.unset).toArray) [] := by rw [hav]; exact lg_entry_eq m _ _
  rw [hE]
  clear hE hav
  generalize (lg_sl ([.ref o, .int a0, .int a1, .int a2]) ++ List.replicate (7 - (lg_sl ([.ref o, .int a0, .int a1, .int a2])).length) Slot.unset).toArray = ls at hl ⊢
  have hl : lv_has ls 7 [(0, .ref o), (1, .int a0), (2, .int a1), (3, .int a2)] := hl
  obtain ⟨Q, hQ⟩ : ∃ Q, Q = MQ below (va_Qv (fun (M1 : MS) => M1 = N_) (m_C D cI cJ o sz) (m_A o)) args s 0 0 (m_A o) := ⟨_, rfl⟩
  rw [← hQ]
  suffices hmain : ∀ (H : Heap) (locs : List Loc), va_P D z_cls (m_W cI cJ o M) H → va_S (m_A o) s.heap H locs → W p l e (z_rm 7 307) s m args below meth c H locs 0 0 Q (F0 m 0 ls []) from hmain s.heap [] hP0 va_S.rf
  clear hP0
  intro H locs hP hS
  unfold f_X8_lineOf at h
  refine lv_aload_n hx hb dX8_lineOf_0 rfl (lv_at hl 0 rfl) ?_
  refine m_get (k := 7) (v := .ref (o + 7)) hc hP (by decide) wF_X8_28 rfl dX8_lineOf_1 ?_
  refine lv_iload_n hx hb dX8_lineOf_4 rfl (lv_at hl 1 rfl) ?_
  obtain ⟨c_5, h⟩ := z_chk_some h
  refine m_iald (k := 7) (j := 7) hc hP (ma_7 ..) c_5 dX8_lineOf_5 ?_
  refine lv_istore (lv' := [(4, .int (M.1 7 a0.toNatClampNeg)), (0, .ref o), (1, .int a0), (2, .int a1), (3, .int a2)]) hx hb dX8_lineOf_6 hl (by decide) rfl (fun ls hl => ?_)
  refine lv_iconst (v := 0) hx hb dX8_lineOf_8 (by decide) ?_
  refine lv_istore (lv' := [(5, .int (0 : Int32)), (4, .int (M.1 7 a0.toNatClampNeg)), (0, .ref o), (1, .int a0), (2, .int a1), (3, .int a2)]) hx hb dX8_lineOf_9 hl (by decide) rfl (fun ls hl => ?_)
  obtain ⟨M_3, hlp, h⟩ := z_bd_some h
  refine z_lp_ind (P := fun x => ∀ (H : Heap) (locs : List Loc) (ls : Array Slot), va_P D z_cls (m_W cI cJ o x.2) H → va_S (m_A o) s.heap H locs → lv_has ls 7 [(0, .ref o), (1, .int a0), (2, .int a1), (3, .int a2), (4, .int (M.1 7 a0.toNatClampNeg)), (5, .int x.1)] → W p l e (z_rm 7 307) s m args below meth c H locs 0 0 Q (F0 m 11 ls [])) (Qe := fun y => ∀ (H : Heap) (locs : List Loc) (ls : Array Slot), va_P D z_cls (m_W cI cJ o y) H → va_S (m_A o) s.heap H locs → lv_has ls 7 [(0, .ref o), (1, .int a0), (2, .int a1), (3, .int a2), (4, .int (M.1 7 a0.toNatClampNeg))] → W p l e (z_rm 7 307) s m args below meth c H locs 0 0 Q (F0 m 81 ls [])) ?_ hlp ?_ H locs ls hP hS (lv_sub hl [2, 3, 4, 5, 1, 0] rfl)
  · clear h hlp hP hS hl
    rintro ⟨x5_1, M_2⟩ oo h K_11 H locs ls hP hS hl
    have hP : va_P D z_cls (m_W cI cJ o M_2) H := hP
    have hl : lv_has ls 7 [(0, .ref o), (1, .int a0), (2, .int a1), (3, .int a2), (4, .int (M.1 7 a0.toNatClampNeg)), (5, .int x5_1)] := hl
    have h : f_X8_lineOf_L11 M a0 x5_1 M_2 = some oo := h
    unfold f_X8_lineOf_L11 at h
    refine lv_iload hx hb dX8_lineOf_11 (lv_at hl 5 rfl) ?_
    refine lv_iload hx hb dX8_lineOf_13 (lv_at hl 4 rfl) ?_
    refine lv_icmp_ge (tgt := 81) hx hb dX8_lineOf_15 (by decide) (fun c_15 => ?_) (fun c_15 => ?_)
    · replace h := z_ip_ c_15 h
      cases h
      exact K_11 H locs ls hP hS (lv_sub hl [0, 1, 2, 3, 4] rfl)
    · replace h := z_in_ c_15 h
      refine lv_aload_n hx hb dX8_lineOf_18 rfl (lv_at hl 0 rfl) ?_
      refine m_get (k := 30) (v := .ref (o + 24)) hc hP (by decide) wF_X8_84 rfl dX8_lineOf_19 ?_
      refine lv_iload hx hb dX8_lineOf_22 (lv_at hl 5 rfl) ?_
      refine lv_aload_n hx hb dX8_lineOf_24 rfl (lv_at hl 0 rfl) ?_
      refine m_get (k := 8) (v := .ref (o + 8)) hc hP (by decide) wF_X8_31 rfl dX8_lineOf_25 ?_
      refine lv_bipush (v := 12) hx hb dX8_lineOf_28 (by decide) ?_
      refine lv_iload_n hx hb dX8_lineOf_30 rfl (lv_at hl 1 rfl) ?_
      refine lv_imul hx hb dX8_lineOf_31 ?_
      refine lv_iload hx hb dX8_lineOf_32 (lv_at hl 5 rfl) ?_
      refine lv_iadd hx hb dX8_lineOf_34 ?_
      obtain ⟨c_35, h⟩ := z_chk_some h
      refine m_iald (k := 8) (j := 8) hc hP (ma_8 ..) c_35 dX8_lineOf_35 ?_
      obtain ⟨c_36, h⟩ := z_chk_some h
      obtain ⟨M_4, eM_4, h⟩ := z_lt_some h
      refine m_iast (k := 30) (j := 24) (M' := M_4) hc hP hS (ma_30 ..) c_36 (by rw [eM_4]; exact mp_30 ..) dX8_lineOf_36 (fun H locs hP hS => ?_)
      refine lv_aload_n hx hb dX8_lineOf_37 rfl (lv_at hl 0 rfl) ?_
      refine m_get (k := 31) (v := .ref (o + 25)) hc hP (by decide) wF_X8_87 rfl dX8_lineOf_38 ?_
      refine lv_iload hx hb dX8_lineOf_41 (lv_at hl 5 rfl) ?_
      refine lv_aload_n hx hb dX8_lineOf_43 rfl (lv_at hl 0 rfl) ?_
      refine m_get (k := 9) (v := .ref (o + 9)) hc hP (by decide) wF_X8_34 rfl dX8_lineOf_44 ?_
      refine lv_bipush (v := 12) hx hb dX8_lineOf_47 (by decide) ?_
      refine lv_iload_n hx hb dX8_lineOf_49 rfl (lv_at hl 1 rfl) ?_
      refine lv_imul hx hb dX8_lineOf_50 ?_
      refine lv_iload hx hb dX8_lineOf_51 (lv_at hl 5 rfl) ?_
      refine lv_iadd hx hb dX8_lineOf_53 ?_
      obtain ⟨c_54, h⟩ := z_chk_some h
      refine m_iald (k := 9) (j := 9) hc hP (ma_9 ..) c_54 dX8_lineOf_54 ?_
      obtain ⟨c_55, h⟩ := z_chk_some h
      obtain ⟨M_5, eM_5, h⟩ := z_lt_some h
      refine m_iast (k := 31) (j := 25) (M' := M_5) hc hP hS (ma_31 ..) c_55 (by rw [eM_5]; exact mp_31 ..) dX8_lineOf_55 (fun H locs hP hS => ?_)
      refine lv_aload_n hx hb dX8_lineOf_56 rfl (lv_at hl 0 rfl) ?_
      refine m_get (k := 32) (v := .ref (o + 26)) hc hP (by decide) wF_X8_90 rfl dX8_lineOf_57 ?_
      refine lv_iload hx hb dX8_lineOf_60 (lv_at hl 5 rfl) ?_
      refine lv_aload_n hx hb dX8_lineOf_62 rfl (lv_at hl 0 rfl) ?_
      refine m_get (k := 10) (v := .ref (o + 10)) hc hP (by decide) wF_X8_37 rfl dX8_lineOf_63 ?_
      refine lv_bipush (v := 12) hx hb dX8_lineOf_66 (by decide) ?_
      refine lv_iload_n hx hb dX8_lineOf_68 rfl (lv_at hl 1 rfl) ?_
      refine lv_imul hx hb dX8_lineOf_69 ?_
      refine lv_iload hx hb dX8_lineOf_70 (lv_at hl 5 rfl) ?_
      refine lv_iadd hx hb dX8_lineOf_72 ?_
      obtain ⟨c_73, h⟩ := z_chk_some h
      refine m_iald (k := 10) (j := 10) hc hP (ma_10 ..) c_73 dX8_lineOf_73 ?_
      obtain ⟨c_74, h⟩ := z_chk_some h
      obtain ⟨M_6, eM_6, h⟩ := z_lt_some h
      refine m_iast (k := 32) (j := 26) (M' := M_6) hc hP hS (ma_32 ..) c_74 (by rw [eM_6]; exact mp_32 ..) dX8_lineOf_74 (fun H locs hP hS => ?_)
      refine lv_iinc (v := (x5_1 + 1)) (lv' := [(5, .int (x5_1 + 1)), (0, .ref o), (1, .int a0), (2, .int a1), (3, .int a2), (4, .int (M.1 7 a0.toNatClampNeg))]) hx hb dX8_lineOf_75 hl (k := 5) rfl rfl (by decide) rfl (fun ls hl => ?_)
      refine lv_goto (tgt := 11) hx hb dX8_lineOf_78 (by decide) ?_
      cases h
      exact K_11 H locs ls hP hS (lv_sub hl [1, 2, 3, 4, 5, 0] rfl)
  · clear hlp hP hS hl
    intro H locs ls hP hS hl
    have hP : va_P D z_cls (m_W cI cJ o M_3) H := hP
    have hl : lv_has ls 7 [(0, .ref o), (1, .int a0), (2, .int a1), (3, .int a2), (4, .int (M.1 7 a0.toNatClampNeg))] := hl
    refine lv_iconst (v := 0) hx hb dX8_lineOf_81 (by decide) ?_
    refine lv_istore (lv' := [(5, .int (0 : Int32)), (0, .ref o), (1, .int a0), (2, .int a1), (3, .int a2), (4, .int (M.1 7 a0.toNatClampNeg))]) hx hb dX8_lineOf_82 hl (by decide) rfl (fun ls hl => ?_)
    obtain ⟨M_9, hlp, h⟩ := z_bd_some h
    refine z_lp_ind (P := fun x => ∀ (H : Heap) (locs : List Loc) (ls : Array Slot), va_P D z_cls (m_W cI cJ o x.2) H → va_S (m_A o) s.heap H locs → lv_has ls 7 [(0, .ref o), (1, .int a0), (2, .int a1), (3, .int a2), (4, .int (M.1 7 a0.toNatClampNeg)), (5, .int x.1)] → W p l e (z_rm 7 307) s m args below meth c H locs 0 0 Q (F0 m 84 ls [])) (Qe := fun y => ∀ (H : Heap) (locs : List Loc) (ls : Array Slot), va_P D z_cls (m_W cI cJ o y) H → va_S (m_A o) s.heap H locs → lv_has ls 7 [(0, .ref o), (1, .int a0), (3, .int a2), (4, .int (M.1 7 a0.toNatClampNeg))] → W p l e (z_rm 7 307) s m args below meth c H locs 0 0 Q (F0 m 159 ls [])) ?_ hlp ?_ H locs ls hP hS (lv_sub hl [1, 2, 3, 4, 5, 0] rfl)
    · clear h hlp hP hS hl
      rintro ⟨x5_7, M_8⟩ oo h K_84 H locs ls hP hS hl
      have hP : va_P D z_cls (m_W cI cJ o M_8) H := hP
      have hl : lv_has ls 7 [(0, .ref o), (1, .int a0), (2, .int a1), (3, .int a2), (4, .int (M.1 7 a0.toNatClampNeg)), (5, .int x5_7)] := hl
      have h : f_X8_lineOf_L84 a0 a1 a2 x5_7 M_8 = some oo := h
      unfold f_X8_lineOf_L84 at h
      refine lv_iload hx hb dX8_lineOf_84 (lv_at hl 5 rfl) ?_
      refine lv_iload_n hx hb dX8_lineOf_86 rfl (lv_at hl 3 rfl) ?_
      refine lv_icmp_ge (tgt := 159) hx hb dX8_lineOf_87 (by decide) (fun c_87 => ?_) (fun c_87 => ?_)
      · replace h := z_ip_ c_87 h
        cases h
        exact K_84 H locs ls hP hS (lv_sub hl [0, 1, 3, 4] rfl)
      · replace h := z_in_ c_87 h
        refine lv_aload_n hx hb dX8_lineOf_90 rfl (lv_at hl 0 rfl) ?_
        refine m_get (k := 8) (v := .ref (o + 8)) hc hP (by decide) wF_X8_31 rfl dX8_lineOf_91 ?_
        refine lv_bipush (v := 12) hx hb dX8_lineOf_94 (by decide) ?_
        refine lv_iload_n hx hb dX8_lineOf_96 rfl (lv_at hl 1 rfl) ?_
        refine lv_imul hx hb dX8_lineOf_97 ?_
        refine lv_iload hx hb dX8_lineOf_98 (lv_at hl 5 rfl) ?_
        refine lv_iadd hx hb dX8_lineOf_100 ?_
        refine lv_aload_n hx hb dX8_lineOf_101 rfl (lv_at hl 0 rfl) ?_
        refine m_get (k := 30) (v := .ref (o + 24)) hc hP (by decide) wF_X8_84 rfl dX8_lineOf_102 ?_
        refine lv_iload_n hx hb dX8_lineOf_105 rfl (lv_at hl 2 rfl) ?_
        refine lv_iload hx hb dX8_lineOf_106 (lv_at hl 5 rfl) ?_
        refine lv_iadd hx hb dX8_lineOf_108 ?_
        obtain ⟨c_109, h⟩ := z_chk_some h
        refine m_iald (k := 30) (j := 24) hc hP (ma_30 ..) c_109 dX8_lineOf_109 ?_
        obtain ⟨c_110, h⟩ := z_chk_some h
        obtain ⟨M_10, eM_10, h⟩ := z_lt_some h
        refine m_iast (k := 8) (j := 8) (M' := M_10) hc hP hS (ma_8 ..) c_110 (by rw [eM_10]; exact mp_8 ..) dX8_lineOf_110 (fun H locs hP hS => ?_)
        refine lv_aload_n hx hb dX8_lineOf_111 rfl (lv_at hl 0 rfl) ?_
        refine m_get (k := 9) (v := .ref (o + 9)) hc hP (by decide) wF_X8_34 rfl dX8_lineOf_112 ?_
        refine lv_bipush (v := 12) hx hb dX8_lineOf_115 (by decide) ?_
        refine lv_iload_n hx hb dX8_lineOf_117 rfl (lv_at hl 1 rfl) ?_
        refine lv_imul hx hb dX8_lineOf_118 ?_
        refine lv_iload hx hb dX8_lineOf_119 (lv_at hl 5 rfl) ?_
        refine lv_iadd hx hb dX8_lineOf_121 ?_
        refine lv_aload_n hx hb dX8_lineOf_122 rfl (lv_at hl 0 rfl) ?_
        refine m_get (k := 31) (v := .ref (o + 25)) hc hP (by decide) wF_X8_87 rfl dX8_lineOf_123 ?_
        refine lv_iload_n hx hb dX8_lineOf_126 rfl (lv_at hl 2 rfl) ?_
        refine lv_iload hx hb dX8_lineOf_127 (lv_at hl 5 rfl) ?_
        refine lv_iadd hx hb dX8_lineOf_129 ?_
        obtain ⟨c_130, h⟩ := z_chk_some h
        refine m_iald (k := 31) (j := 25) hc hP (ma_31 ..) c_130 dX8_lineOf_130 ?_
        obtain ⟨c_131, h⟩ := z_chk_some h
        obtain ⟨M_11, eM_11, h⟩ := z_lt_some h
        refine m_iast (k := 9) (j := 9) (M' := M_11) hc hP hS (ma_9 ..) c_131 (by rw [eM_11]; exact mp_9 ..) dX8_lineOf_131 (fun H locs hP hS => ?_)
        refine lv_aload_n hx hb dX8_lineOf_132 rfl (lv_at hl 0 rfl) ?_
        refine m_get (k := 10) (v := .ref (o + 10)) hc hP (by decide) wF_X8_37 rfl dX8_lineOf_133 ?_
        refine lv_bipush (v := 12) hx hb dX8_lineOf_136 (by decide) ?_
        refine lv_iload_n hx hb dX8_lineOf_138 rfl (lv_at hl 1 rfl) ?_
        refine lv_imul hx hb dX8_lineOf_139 ?_
        refine lv_iload hx hb dX8_lineOf_140 (lv_at hl 5 rfl) ?_
        refine lv_iadd hx hb dX8_lineOf_142 ?_
        refine lv_aload_n hx hb dX8_lineOf_143 rfl (lv_at hl 0 rfl) ?_
        refine m_get (k := 32) (v := .ref (o + 26)) hc hP (by decide) wF_X8_90 rfl dX8_lineOf_144 ?_
        refine lv_iload_n hx hb dX8_lineOf_147 rfl (lv_at hl 2 rfl) ?_
        refine lv_iload hx hb dX8_lineOf_148 (lv_at hl 5 rfl) ?_
        refine lv_iadd hx hb dX8_lineOf_150 ?_
        obtain ⟨c_151, h⟩ := z_chk_some h
        refine m_iald (k := 32) (j := 26) hc hP (ma_32 ..) c_151 dX8_lineOf_151 ?_
        obtain ⟨c_152, h⟩ := z_chk_some h
        obtain ⟨M_12, eM_12, h⟩ := z_lt_some h
        refine m_iast (k := 10) (j := 10) (M' := M_12) hc hP hS (ma_10 ..) c_152 (by rw [eM_12]; exact mp_10 ..) dX8_lineOf_152 (fun H locs hP hS => ?_)
        refine lv_iinc (v := (x5_7 + 1)) (lv' := [(5, .int (x5_7 + 1)), (0, .ref o), (1, .int a0), (2, .int a1), (3, .int a2), (4, .int (M.1 7 a0.toNatClampNeg))]) hx hb dX8_lineOf_153 hl (k := 5) rfl rfl (by decide) rfl (fun ls hl => ?_)
        refine lv_goto (tgt := 84) hx hb dX8_lineOf_156 (by decide) ?_
        cases h
        exact K_84 H locs ls hP hS (lv_sub hl [1, 2, 3, 4, 5, 0] rfl)
    · clear hlp hP hS hl
      intro H locs ls hP hS hl
      have hP : va_P D z_cls (m_W cI cJ o M_9) H := hP
      have hl : lv_has ls 7 [(0, .ref o), (1, .int a0), (3, .int a2), (4, .int (M.1 7 a0.toNatClampNeg))] := hl
      refine lv_aload_n hx hb dX8_lineOf_159 rfl (lv_at hl 0 rfl) ?_
      refine m_get (k := 7) (v := .ref (o + 7)) hc hP (by decide) wF_X8_28 rfl dX8_lineOf_160 ?_
      refine lv_iload_n hx hb dX8_lineOf_163 rfl (lv_at hl 1 rfl) ?_
      refine lv_iload_n hx hb dX8_lineOf_164 rfl (lv_at hl 2 rfl) ?_
      obtain ⟨c_165, h⟩ := z_chk_some h
      obtain ⟨M_13, eM_13, h⟩ := z_lt_some h
      refine m_iast (k := 7) (j := 7) (M' := M_13) hc hP hS (ma_7 ..) c_165 (by rw [eM_13]; exact mp_7 ..) dX8_lineOf_165 (fun H locs hP hS => ?_)
      refine lv_aload_n hx hb dX8_lineOf_166 rfl (lv_at hl 0 rfl) ?_
      refine m_get (k := 5) (v := .ref (o + 5)) hc hP (by decide) wF_X8_22 rfl dX8_lineOf_167 ?_
      refine lv_iload_n hx hb dX8_lineOf_170 rfl (lv_at hl 1 rfl) ?_
      refine lv_iconst (v := 1) hx hb dX8_lineOf_171 (by decide) ?_
      obtain ⟨c_172, h⟩ := z_chk_some h
      obtain ⟨M_14, eM_14, h⟩ := z_lt_some h
      refine m_iast (k := 5) (j := 5) (M' := M_14) hc hP hS (ma_5 ..) c_172 (by rw [eM_14]; exact mp_5 ..) dX8_lineOf_172 (fun H locs hP hS => ?_)
      refine lv_aload_n hx hb dX8_lineOf_173 rfl (lv_at hl 0 rfl) ?_
      refine lv_iload_n hx hb dX8_lineOf_174 rfl (lv_at hl 1 rfl) ?_
      obtain ⟨r_16, M_15, er_16, h⟩ := z_bd2_some h
      refine m_calli (As := [.int a0]) (r := r_16) (M' := M_15) (n := 1) hc hP hS (mt_X8_bestTurns l D cI cJ o H.size M_14 a0 er_16) wM_X8_208 wI_X8_bestTurns wS_X8_bestTurns wZ_X8 wC_X8_bestTurns md_X8_bestTurns ⟨rfl, rfl, Nat.le_of_ble_eq_true rfl, Nat.le_of_ble_eq_true rfl⟩ rfl hl.1 rfl (Nat.le_of_ble_eq_true rfl) dX8_lineOf_175 ⟨Nat.zero_le _, Nat.zero_le _⟩ (fun H locs hP hS => ?_)
      refine lv_istore (lv' := [(5, .int r_16), (0, .ref o), (1, .int a0), (3, .int a2), (4, .int (M.1 7 a0.toNatClampNeg))]) hx hb dX8_lineOf_178 hl (by decide) rfl (fun ls hl => ?_)
      refine lv_iload hx hb dX8_lineOf_180 (lv_at hl 0 rfl) ?_
      refine lv_iconst (v := -1) hx hb dX8_lineOf_182 (by decide) ?_
      obtain ⟨M_17, hJ, h⟩ := z_bd_some h
      have J_264 : ∀ (H : Heap) (locs : List Loc) (ls : Array Slot), va_P D z_cls (m_W cI cJ o M_17) H → va_S (m_A o) s.heap H locs → lv_has ls 7 [(0, .ref o), (1, .int a0), (4, .int (M.1 7 a0.toNatClampNeg))] → W p l e (z_rm 7 307) s m args below meth c H locs 0 0 Q (F0 m 264 ls []) := by
        intro H locs ls hP hS hl
        refine lv_aload_n hx hb dX8_lineOf_264 rfl (lv_at hl 0 rfl) ?_
        refine m_get (k := 5) (v := .ref (o + 5)) hc hP (by decide) wF_X8_22 rfl dX8_lineOf_265 ?_
        refine lv_iload_n hx hb dX8_lineOf_268 rfl (lv_at hl 1 rfl) ?_
        refine lv_iconst (v := 4) hx hb dX8_lineOf_269 (by decide) ?_
        obtain ⟨c_270, h⟩ := z_chk_some h
        obtain ⟨M_28, eM_28, h⟩ := z_lt_some h
        refine m_iast (k := 5) (j := 5) (M' := M_28) hc hP hS (ma_5 ..) c_270 (by rw [eM_28]; exact mp_5 ..) dX8_lineOf_270 (fun H locs hP hS => ?_)
        refine lv_aload_n hx hb dX8_lineOf_271 rfl (lv_at hl 0 rfl) ?_
        refine m_get (k := 7) (v := .ref (o + 7)) hc hP (by decide) wF_X8_28 rfl dX8_lineOf_272 ?_
        refine lv_iload_n hx hb dX8_lineOf_275 rfl (lv_at hl 1 rfl) ?_
        refine lv_iload hx hb dX8_lineOf_276 (lv_at hl 2 rfl) ?_
        obtain ⟨c_278, h⟩ := z_chk_some h
        obtain ⟨M_29, eM_29, h⟩ := z_lt_some h
        refine m_iast (k := 7) (j := 7) (M' := M_29) hc hP hS (ma_7 ..) c_278 (by rw [eM_29]; exact mp_7 ..) dX8_lineOf_278 (fun H locs hP hS => ?_)
        refine lv_iconst (v := 0) hx hb dX8_lineOf_279 (by decide) ?_
        refine lv_istore (lv' := [(6, .int (0 : Int32)), (0, .ref o), (1, .int a0), (4, .int (M.1 7 a0.toNatClampNeg))]) hx hb dX8_lineOf_280 hl (by decide) rfl (fun ls hl => ?_)
        obtain ⟨M_32, hlp, h⟩ := z_bd_some h
        refine z_lp_ind (P := fun x => ∀ (H : Heap) (locs : List Loc) (ls : Array Slot), va_P D z_cls (m_W cI cJ o x.2) H → va_S (m_A o) s.heap H locs → lv_has ls 7 [(0, .ref o), (1, .int a0), (4, .int (M.1 7 a0.toNatClampNeg)), (6, .int x.1)] → W p l e (z_rm 7 307) s m args below meth c H locs 0 0 Q (F0 m 282 ls [])) (Qe := fun y => ∀ (H : Heap) (locs : List Loc) (ls : Array Slot), va_P D z_cls (m_W cI cJ o y) H → va_S (m_A o) s.heap H locs → lv_has ls 7 [] → W p l e (z_rm 7 307) s m args below meth c H locs 0 0 Q (F0 m 352 ls [])) ?_ hlp ?_ H locs ls hP hS (lv_sub hl [1, 2, 3, 0] rfl)
        · clear h hlp hP hS hl
          rintro ⟨x6_30, M_31⟩ oo h K_282 H locs ls hP hS hl
          have hP : va_P D z_cls (m_W cI cJ o M_31) H := hP
          have hl : lv_has ls 7 [(0, .ref o), (1, .int a0), (4, .int (M.1 7 a0.toNatClampNeg)), (6, .int x6_30)] := hl
          have h : f_X8_lineOf_L282 M a0 x6_30 M_31 = some oo := h
          unfold f_X8_lineOf_L282 at h
          refine lv_iload hx hb dX8_lineOf_282 (lv_at hl 3 rfl) ?_
          refine lv_iload hx hb dX8_lineOf_284 (lv_at hl 2 rfl) ?_
          refine lv_icmp_ge (tgt := 352) hx hb dX8_lineOf_286 (by decide) (fun c_286 => ?_) (fun c_286 => ?_)
          · replace h := z_ip_ c_286 h
            cases h
            exact K_282 H locs ls hP hS (lv_sub hl [] rfl)
          · replace h := z_in_ c_286 h
            refine lv_aload_n hx hb dX8_lineOf_289 rfl (lv_at hl 0 rfl) ?_
            refine m_get (k := 8) (v := .ref (o + 8)) hc hP (by decide) wF_X8_31 rfl dX8_lineOf_290 ?_
            refine lv_bipush (v := 12) hx hb dX8_lineOf_293 (by decide) ?_
            refine lv_iload_n hx hb dX8_lineOf_295 rfl (lv_at hl 1 rfl) ?_
            refine lv_imul hx hb dX8_lineOf_296 ?_
            refine lv_iload hx hb dX8_lineOf_297 (lv_at hl 3 rfl) ?_
            refine lv_iadd hx hb dX8_lineOf_299 ?_
            refine lv_aload_n hx hb dX8_lineOf_300 rfl (lv_at hl 0 rfl) ?_
            refine m_get (k := 30) (v := .ref (o + 24)) hc hP (by decide) wF_X8_84 rfl dX8_lineOf_301 ?_
            refine lv_iload hx hb dX8_lineOf_304 (lv_at hl 3 rfl) ?_
            obtain ⟨c_306, h⟩ := z_chk_some h
            refine m_iald (k := 30) (j := 24) hc hP (ma_30 ..) c_306 dX8_lineOf_306 ?_
            obtain ⟨c_307, h⟩ := z_chk_some h
            obtain ⟨M_33, eM_33, h⟩ := z_lt_some h
            refine m_iast (k := 8) (j := 8) (M' := M_33) hc hP hS (ma_8 ..) c_307 (by rw [eM_33]; exact mp_8 ..) dX8_lineOf_307 (fun H locs hP hS => ?_)
            refine lv_aload_n hx hb dX8_lineOf_308 rfl (lv_at hl 0 rfl) ?_
            refine m_get (k := 9) (v := .ref (o + 9)) hc hP (by decide) wF_X8_34 rfl dX8_lineOf_309 ?_
            refine lv_bipush (v := 12) hx hb dX8_lineOf_312 (by decide) ?_
            refine lv_iload_n hx hb dX8_lineOf_314 rfl (lv_at hl 1 rfl) ?_
            refine lv_imul hx hb dX8_lineOf_315 ?_
            refine lv_iload hx hb dX8_lineOf_316 (lv_at hl 3 rfl) ?_
            refine lv_iadd hx hb dX8_lineOf_318 ?_
            refine lv_aload_n hx hb dX8_lineOf_319 rfl (lv_at hl 0 rfl) ?_
            refine m_get (k := 31) (v := .ref (o + 25)) hc hP (by decide) wF_X8_87 rfl dX8_lineOf_320 ?_
            refine lv_iload hx hb dX8_lineOf_323 (lv_at hl 3 rfl) ?_
            obtain ⟨c_325, h⟩ := z_chk_some h
            refine m_iald (k := 31) (j := 25) hc hP (ma_31 ..) c_325 dX8_lineOf_325 ?_
            obtain ⟨c_326, h⟩ := z_chk_some h
            obtain ⟨M_34, eM_34, h⟩ := z_lt_some h
            refine m_iast (k := 9) (j := 9) (M' := M_34) hc hP hS (ma_9 ..) c_326 (by rw [eM_34]; exact mp_9 ..) dX8_lineOf_326 (fun H locs hP hS => ?_)
            refine lv_aload_n hx hb dX8_lineOf_327 rfl (lv_at hl 0 rfl) ?_
            refine m_get (k := 10) (v := .ref (o + 10)) hc hP (by decide) wF_X8_37 rfl dX8_lineOf_328 ?_
            refine lv_bipush (v := 12) hx hb dX8_lineOf_331 (by decide) ?_
            refine lv_iload_n hx hb dX8_lineOf_333 rfl (lv_at hl 1 rfl) ?_
            refine lv_imul hx hb dX8_lineOf_334 ?_
            refine lv_iload hx hb dX8_lineOf_335 (lv_at hl 3 rfl) ?_
            refine lv_iadd hx hb dX8_lineOf_337 ?_
            refine lv_aload_n hx hb dX8_lineOf_338 rfl (lv_at hl 0 rfl) ?_
            refine m_get (k := 32) (v := .ref (o + 26)) hc hP (by decide) wF_X8_90 rfl dX8_lineOf_339 ?_
            refine lv_iload hx hb dX8_lineOf_342 (lv_at hl 3 rfl) ?_
            obtain ⟨c_344, h⟩ := z_chk_some h
            refine m_iald (k := 32) (j := 26) hc hP (ma_32 ..) c_344 dX8_lineOf_344 ?_
            obtain ⟨c_345, h⟩ := z_chk_some h
            obtain ⟨M_35, eM_35, h⟩ := z_lt_some h
            refine m_iast (k := 10) (j := 10) (M' := M_35) hc hP hS (ma_10 ..) c_345 (by rw [eM_35]; exact mp_10 ..) dX8_lineOf_345 (fun H locs hP hS => ?_)
            refine lv_iinc (v := (x6_30 + 1)) (lv' := [(6, .int (x6_30 + 1)), (0, .ref o), (1, .int a0), (4, .int (M.1 7 a0.toNatClampNeg))]) hx hb dX8_lineOf_346 hl (k := 3) rfl rfl (by decide) rfl (fun ls hl => ?_)
            refine lv_goto (tgt := 282) hx hb dX8_lineOf_349 (by decide) ?_
            cases h
            exact K_282 H locs ls hP hS (lv_sub hl [1, 2, 3, 0] rfl)
        · clear hlp hP hS hl
          intro H locs ls hP hS hl
          have hP : va_P D z_cls (m_W cI cJ o M_32) H := hP
          have hl : lv_has ls 7 [] := hl
          cases h
          rw [hQ]
          exact m_retv hc hr hlocks hP hS hz dX8_lineOf_352
      clear h
      have h := hJ
      clear hJ
      refine lv_icmp_eq (tgt := 196) hx hb dX8_lineOf_183 (by decide) (fun c_183 => ?_) (fun c_183 => ?_)
      · replace h := z_ip_ c_183 h
        refine lv_iconst (v := 0) hx hb dX8_lineOf_196 (by decide) ?_
        refine lv_istore (lv' := [(6, .int (0 : Int32)), (5, .int r_16), (0, .ref o), (1, .int a0), (3, .int a2), (4, .int (M.1 7 a0.toNatClampNeg))]) hx hb dX8_lineOf_197 hl (by decide) rfl (fun ls hl => ?_)
        obtain ⟨M_20, hlp, h⟩ := z_bd_some h
        refine z_lp_ind (P := fun x => ∀ (H : Heap) (locs : List Loc) (ls : Array Slot), va_P D z_cls (m_W cI cJ o x.2) H → va_S (m_A o) s.heap H locs → lv_has ls 7 [(0, .ref o), (1, .int a0), (3, .int a2), (4, .int (M.1 7 a0.toNatClampNeg)), (6, .int x.1)] → W p l e (z_rm 7 307) s m args below meth c H locs 0 0 Q (F0 m 199 ls [])) (Qe := fun y => ∀ (H : Heap) (locs : List Loc) (ls : Array Slot), va_P D z_cls (m_W cI cJ o y) H → va_S (m_A o) s.heap H locs → lv_has ls 7 [(0, .ref o), (1, .int a0), (3, .int a2), (4, .int (M.1 7 a0.toNatClampNeg))] → W p l e (z_rm 7 307) s m args below meth c H locs 0 0 Q (F0 m 248 ls [])) ?_ hlp ?_ H locs ls hP hS (lv_sub hl [2, 3, 4, 5, 0] rfl)
        · clear h hlp hP hS hl
          rintro ⟨x6_18, M_19⟩ oo h K_199 H locs ls hP hS hl
          have hP : va_P D z_cls (m_W cI cJ o M_19) H := hP
          have hl : lv_has ls 7 [(0, .ref o), (1, .int a0), (3, .int a2), (4, .int (M.1 7 a0.toNatClampNeg)), (6, .int x6_18)] := hl
          have h : f_X8_lineOf_L199 a0 a2 x6_18 M_19 = some oo := h
          unfold f_X8_lineOf_L199 at h
          refine lv_iload hx hb dX8_lineOf_199 (lv_at hl 4 rfl) ?_
          refine lv_iload_n hx hb dX8_lineOf_201 rfl (lv_at hl 2 rfl) ?_
          refine lv_icmp_ge (tgt := 248) hx hb dX8_lineOf_202 (by decide) (fun c_202 => ?_) (fun c_202 => ?_)
          · replace h := z_ip_ c_202 h
            cases h
            exact K_199 H locs ls hP hS (lv_sub hl [0, 1, 2, 3] rfl)
          · replace h := z_in_ c_202 h
            refine lv_aload_n hx hb dX8_lineOf_205 rfl (lv_at hl 0 rfl) ?_
            refine m_get (k := 23) (v := .ref (o + 19)) hc hP (by decide) wF_X8_69 rfl dX8_lineOf_206 ?_
            refine lv_iload hx hb dX8_lineOf_209 (lv_at hl 4 rfl) ?_
            refine lv_iload hx hb dX8_lineOf_211 (lv_at hl 4 rfl) ?_
            obtain ⟨c_213, h⟩ := z_chk_some h
            obtain ⟨M_21, eM_21, h⟩ := z_lt_some h
            refine m_iast (k := 23) (j := 19) (M' := M_21) hc hP hS (ma_23 ..) c_213 (by rw [eM_21]; exact mp_23 ..) dX8_lineOf_213 (fun H locs hP hS => ?_)
            refine lv_aload_n hx hb dX8_lineOf_214 rfl (lv_at hl 0 rfl) ?_
            refine m_get (k := 24) (v := .ref (o + 20)) hc hP (by decide) wF_X8_72 rfl dX8_lineOf_215 ?_
            refine lv_iload hx hb dX8_lineOf_218 (lv_at hl 4 rfl) ?_
            refine lv_aload_n hx hb dX8_lineOf_220 rfl (lv_at hl 0 rfl) ?_
            refine m_get (k := 9) (v := .ref (o + 9)) hc hP (by decide) wF_X8_34 rfl dX8_lineOf_221 ?_
            refine lv_bipush (v := 12) hx hb dX8_lineOf_224 (by decide) ?_
            refine lv_iload_n hx hb dX8_lineOf_226 rfl (lv_at hl 1 rfl) ?_
            refine lv_imul hx hb dX8_lineOf_227 ?_
            refine lv_iload hx hb dX8_lineOf_228 (lv_at hl 4 rfl) ?_
            refine lv_iadd hx hb dX8_lineOf_230 ?_
            obtain ⟨c_231, h⟩ := z_chk_some h
            refine m_iald (k := 9) (j := 9) hc hP (ma_9 ..) c_231 dX8_lineOf_231 ?_
            refine lv_i2l (v := (M_21.1 9 (((12 : Int32) * a0) + x6_18).toNatClampNeg).toInt64) hx hb dX8_lineOf_232 rfl ?_
            obtain ⟨c_233, h⟩ := z_chk_some h
            obtain ⟨M_22, eM_22, h⟩ := z_lt_some h
            refine m_last (k := 24) (j := 20) (M' := M_22) hc hP hS (ma_24 ..) c_233 (by rw [eM_22]; exact mp_24 ..) dX8_lineOf_233 (fun H locs hP hS => ?_)
            refine lv_aload_n hx hb dX8_lineOf_234 rfl (lv_at hl 0 rfl) ?_
            refine m_get (k := 25) (v := .ref (o + 21)) hc hP (by decide) wF_X8_75 rfl dX8_lineOf_235 ?_
            refine lv_iload hx hb dX8_lineOf_238 (lv_at hl 4 rfl) ?_
            refine lv_lconst (v := 1) hx hb dX8_lineOf_240 (by decide) ?_
            obtain ⟨c_241, h⟩ := z_chk_some h
            obtain ⟨M_23, eM_23, h⟩ := z_lt_some h
            refine m_last (k := 25) (j := 21) (M' := M_23) hc hP hS (ma_25 ..) c_241 (by rw [eM_23]; exact mp_25 ..) dX8_lineOf_241 (fun H locs hP hS => ?_)
            refine lv_iinc (v := (x6_18 + 1)) (lv' := [(6, .int (x6_18 + 1)), (0, .ref o), (1, .int a0), (3, .int a2), (4, .int (M.1 7 a0.toNatClampNeg))]) hx hb dX8_lineOf_242 hl (k := 4) rfl rfl (by decide) rfl (fun ls hl => ?_)
            refine lv_goto (tgt := 199) hx hb dX8_lineOf_245 (by decide) ?_
            cases h
            exact K_199 H locs ls hP hS (lv_sub hl [1, 2, 3, 4, 0] rfl)
        · clear hlp hP hS hl
          intro H locs ls hP hS hl
          have hP : va_P D z_cls (m_W cI cJ o M_20) H := hP
          have hl : lv_has ls 7 [(0, .ref o), (1, .int a0), (3, .int a2), (4, .int (M.1 7 a0.toNatClampNeg))] := hl
          refine lv_aload_n hx hb dX8_lineOf_248 rfl (lv_at hl 0 rfl) ?_
          refine lv_iload_n hx hb dX8_lineOf_249 rfl (lv_at hl 1 rfl) ?_
          refine lv_iload_n hx hb dX8_lineOf_250 rfl (lv_at hl 2 rfl) ?_
          obtain ⟨M_24, eM_24, h⟩ := z_bd_some h
          refine m_callv (As := [.int a0, .int a2]) (M' := M_24) (n := 2) hc hP hS (mt_X8_through l D cI cJ o H.size M_20 a0 a2 eM_24) wM_X8_178 wI_X8_through wS_X8_through wZ_X8 wC_X8_through md_X8_through ⟨rfl, rfl, Nat.le_of_ble_eq_true rfl, Nat.le_of_ble_eq_true rfl⟩ rfl hl.1 rfl (Nat.le_of_ble_eq_true rfl) dX8_lineOf_251 ⟨Nat.zero_le _, Nat.zero_le _⟩ (fun H locs hP hS => ?_)
          refine lv_aload_n hx hb dX8_lineOf_254 rfl (lv_at hl 0 rfl) ?_
          refine lv_lconst (v := 0) hx hb dX8_lineOf_255 (by decide) ?_
          obtain ⟨M_25, eM_25, h⟩ := z_lt_some h
          refine m_put (k := 26) (M' := M_25) (ty := .long) hc hP hS (by decide) wF_X8_154 rfl (by decide +kernel) rfl rfl (by rw [eM_25]; exact mp_26 ..) dX8_lineOf_256 (fun H locs hP hS => ?_)
          refine lv_aload_n hx hb dX8_lineOf_259 rfl (lv_at hl 0 rfl) ?_
          refine lv_lconst (v := 1) hx hb dX8_lineOf_260 (by decide) ?_
          obtain ⟨M_26, eM_26, h⟩ := z_lt_some h
          refine m_put (k := 27) (M' := M_26) (ty := .long) hc hP hS (by decide) wF_X8_157 rfl (by decide +kernel) rfl rfl (by rw [eM_26]; exact mp_27 ..) dX8_lineOf_261 (fun H locs hP hS => ?_)
          cases h
          exact J_264 H locs ls hP hS (lv_sub hl [0, 1, 3] rfl)
      · replace h := z_in_ c_183 h
        refine lv_aload_n hx hb dX8_lineOf_186 rfl (lv_at hl 1 rfl) ?_
        refine lv_iload_n hx hb dX8_lineOf_187 rfl (lv_at hl 2 rfl) ?_
        refine lv_iload hx hb dX8_lineOf_188 (lv_at hl 0 rfl) ?_
        obtain ⟨M_27, eM_27, h⟩ := z_bd_some h
        refine m_callv (As := [.int a0, .int r_16]) (M' := M_27) (n := 2) hc hP hS (mt_X8_study l D cI cJ o H.size M_15 a0 r_16 eM_27) wM_X8_198 wI_X8_study wS_X8_study wZ_X8 wC_X8_study md_X8_study ⟨rfl, rfl, Nat.le_of_ble_eq_true rfl, Nat.le_of_ble_eq_true rfl⟩ rfl hl.1 rfl (Nat.le_of_ble_eq_true rfl) dX8_lineOf_190 ⟨Nat.zero_le _, Nat.zero_le _⟩ (fun H locs hP hS => ?_)
        refine lv_goto (tgt := 264) hx hb dX8_lineOf_193 (by decide) ?_
        cases h
        exact J_264 H locs ls hP hS (lv_sub hl [1, 2, 4] rfl)
theorem md_X8_lineOf : yX8_lineOf.cls ≠ "java/lang/invoke/MethodHandle" ∧ yX8_lineOf.cls ≠ "java/lang/invoke/VarHandle" ∧ (parseMethodDescriptor yX8_lineOf.desc).map (fun d => d.parameters.length) = some 3 := by decide +kernel
noncomputable def f_X8_pieces_L110 (a2 : Int32) (a3 : Int32) (r_7 : Int32) (x7_9 : Int32) (x8_13 : Int32) (M_14 : MS) : Option ((Int32 × MS) ⊕ (Int32 × MS)) :=
  z_bd (if 0 ≤ (lg_cmp (M_14.2 26 0) (0 : Int64)) then some ((M_14.2 26 0)) else some ((-(M_14.2 26 0)))) fun v_17 => z_bd (f_X8_compare v_17 (M_14.2 27 0) a2.toInt64 a3.toInt64) fun r_18 => if r_18 ≤ 0 then some (.inl (x8_13, M_14)) else z_bd (f_X8_lineOf M_14 r_7 x7_9 (x8_13 + (-1))) fun M_19 => some (.inr ((x8_13 + (-1)), M_19))
noncomputable def f_X8_pieces_L76 (a2 : Int32) (a3 : Int32) (r_7 : Int32) (x7_9 : Int32) (M_10 : MS) : Option ((MS) ⊕ (Int32 × MS)) :=
  z_chk (z_in r_7 10) (if (M_10.1 7 r_7.toNatClampNeg) ≤ x7_9 then some (.inl (M_10)) else z_chk (z_in r_7 10) (z_bd (f_X8_lineOf M_10 r_7 x7_9 ((M_10.1 7 r_7.toNatClampNeg) - x7_9)) fun M_12 => z_bd2 (z_lp (fun x => f_X8_pieces_L110 a2 a3 r_7 x7_9 x.1 x.2) (((M_10.1 7 r_7.toNatClampNeg) - x7_9), M_12)) fun y8_15 M_16 => z_chk (z_in r_7 10) (z_chk (z_in (((12 : Int32) * r_7) + (M_16.1 11 r_7.toNatClampNeg)) 120) (z_lt (sI M_16 12 (((12 : Int32) * r_7) + (M_16.1 11 r_7.toNatClampNeg)).toNatClampNeg x7_9) fun M_20 => z_chk (z_in r_7 10) (z_bd (f_X8_keep M_20 r_7 (M_20.1 11 r_7.toNatClampNeg)) fun M_21 => z_chk (z_in r_7 10) (z_chk (z_in r_7 10) (z_lt (sI M_21 11 r_7.toNatClampNeg ((M_21.1 11 r_7.toNatClampNeg) + (1 : Int32))) fun M_22 => some (.inr ((x7_9 + y8_15), M_22)))))))))
noncomputable def f_X8_pieces (M : MS) (a0 : Int32) (a1 : Int32) (a2 : Int32) (a3 : Int32) : Option (Int32 × MS) :=
  z_bd (f_X8_in a1 (0 : Int32) (2 : Int32)) fun r_1 => z_bd (if r_1 = 0 then some ((0 : Int32)) else z_bd (f_X8_in a2 (0 : Int32) (10000 : Int32)) fun r_3 => if r_3 = 0 then some ((0 : Int32)) else z_bd (f_X8_in a3 (1 : Int32) (1000 : Int32)) fun r_4 => if r_4 = 0 then some ((0 : Int32)) else some ((1 : Int32))) fun v_2 => z_bd (f_X8_whyNot M a0 v_2) fun r_5 => if r_5 = 0 then z_bd2 (f_X8_newFit M a0 (4 : Int32) a1) fun r_7 M_6 => z_chk (z_in r_7 10) (z_lt (sI M_6 11 r_7.toNatClampNeg (0 : Int32)) fun M_8 => z_bd (z_lp (fun x => f_X8_pieces_L76 a2 a3 r_7 x.1 x.2) ((0 : Int32), M_8)) fun M_11 => z_bd2 (f_X8_done M_11 r_7) fun r_24 M_23 => some (r_24, M_23)) else z_bd2 (f_X8_refused M r_5) fun r_26 M_25 => some (r_26, M_25)
set_option maxHeartbeats 4000000 in
set_option maxRecDepth 100000 in
theorem mt_X8_pieces (l : Launch) (D : va_G) (cI cJ : ClassId) (o sz : Nat) (M : MS) (a0 : Int32) (a1 : Int32) (a2 : Int32) (a3 : Int32) {r_ : Int32} {N_ : MS} (h : f_X8_pieces M a0 a1 a2 a3 = some (r_, N_)) : Met l yX8_pieces (z_wd yX8_pieces cX8_pieces 9 (some .int)) (z_rm 8 349) (va_Pc [.ref o, .int a0, .int a1, .int a2, .int a3] (m_C D cI cJ o sz M)) (va_Qi (fun (r1 : Int32) (M1 : MS) => r1 = r_ ∧ M1 = N_) (m_C D cI cJ o sz) (m_A o)) 0 0 (m_A o) := by
  refine Met.ofW (cc := cX8_pieces) (maxL := 9) (ret := (some .int)) (by decide) rfl ?_
  intro p e s m args below meth c s₁ B hml hv
  obtain ⟨hav, hz, hP0, hK⟩ := hv
  have hx := B.exec
  have hb := B.bytes
  have hr := B.returns
  have hts := atoms_spec (ws := z_wd yX8_pieces cX8_pieces 9 (some .int)) B.pre
  have hown : s.vm.findClass RX8 = some m.cls := findClass_of_methodNamed B.named
  have hlocks := B.notSynchronized
  have hc : m_X p s m args c cX8_pieces 9 D cI cJ := ⟨hx, hb, hml, fun w hw => hts w (List.mem_cons_of_mem _ hw), hown, hK⟩
  have hl := lv_entry ([.ref o, .int a0, .int a1, .int a2, .int a3]) (n := 9) (Nat.le_of_ble_eq_true rfl)
  have hE : entryFrame m args 9 = F0 m 0 ((lg_sl ([.ref o, .int a0, .int a1, .int a2, .int a3]) ++ List.replicate (9 - (lg_sl ([.ref o, .int a0, .int a1, .int a2, .int a3])).length) Slot.unset).toArray) [] := by rw [hav]; exact lg_entry_eq m _ _
  rw [hE]
  clear hE hav
  generalize (lg_sl ([.ref o, .int a0, .int a1, .int a2, .int a3]) ++ List.replicate (9 - (lg_sl ([.ref o, .int a0, .int a1, .int a2, .int a3])).length) Slot.unset).toArray = ls at hl ⊢
  have hl : lv_has ls 9 [(0, .ref o), (1, .int a0), (2, .int a1), (3, .int a2), (4, .int a3)] := hl
  obtain ⟨Q, hQ⟩ : ∃ Q, Q = MQ below (va_Qi (fun (r1 : Int32) (M1 : MS) => r1 = r_ ∧ M1 = N_) (m_C D cI cJ o sz) (m_A o)) args s 0 0 (m_A o) := ⟨_, rfl⟩
  rw [← hQ]
  suffices hmain : ∀ (H : Heap) (locs : List Loc), va_P D z_cls (m_W cI cJ o M) H → va_S (m_A o) s.heap H locs → W p l e (z_rm 8 349) s m args below meth c H locs 0 0 Q (F0 m 0 ls []) from hmain s.heap [] hP0 va_S.rf
  clear hP0
  intro H locs hP hS
  unfold f_X8_pieces at h
  refine lv_aload_n hx hb dX8_pieces_0 rfl (lv_at hl 0 rfl) ?_
  refine lv_iload_n hx hb dX8_pieces_1 rfl (lv_at hl 1 rfl) ?_
  refine lv_iload_n hx hb dX8_pieces_2 rfl (lv_at hl 2 rfl) ?_
  refine lv_iconst (v := 0) hx hb dX8_pieces_3 (by decide) ?_
  refine lv_iconst (v := 2) hx hb dX8_pieces_4 (by decide) ?_
  obtain ⟨r_1, er_1, h⟩ := z_bd_some h
  refine s_calli (As := [.int a1, .int (0 : Int32), .int (2 : Int32)]) (r := r_1) (n := 3) hc.s (mt_X8_in l a1 (0 : Int32) (2 : Int32) er_1) wM_X8_100 wT_X8_in wZ_X8 wC_X8_in md_X8_in ⟨rfl, rfl, Nat.le_of_ble_eq_true rfl, Nat.le_of_ble_eq_true rfl⟩ rfl hl.1 rfl (Nat.le_of_ble_eq_true rfl) dX8_pieces_5 ⟨Nat.zero_le _, Nat.zero_le _⟩ ?_
  obtain ⟨v_2, hJ, h⟩ := z_bd_some h
  have J_39 : ∀ (H : Heap) (locs : List Loc) (ls : Array Slot), va_P D z_cls (m_W cI cJ o M) H → va_S (m_A o) s.heap H locs → lv_has ls 9 [(0, .ref o), (1, .int a0), (2, .int a1), (3, .int a2), (4, .int a3)] → W p l e (z_rm 8 349) s m args below meth c H locs 0 0 Q (F0 m 39 ls [.int v_2, .int a0, .ref o]) := by
    intro H locs ls hP hS hl
    obtain ⟨r_5, er_5, h⟩ := z_bd_some h
    refine m_calli (As := [.int a0, .int v_2]) (r := r_5) (M' := M) (n := 2) hc hP hS (mt_X8_whyNot l D cI cJ o H.size M a0 v_2 er_5) wM_X8_137 wI_X8_whyNot wS_X8_whyNot wZ_X8 wC_X8_whyNot md_X8_whyNot ⟨rfl, rfl, Nat.le_of_ble_eq_true rfl, Nat.le_of_ble_eq_true rfl⟩ rfl hl.1 rfl (Nat.le_of_ble_eq_true rfl) dX8_pieces_39 ⟨Nat.zero_le _, Nat.zero_le _⟩ (fun H locs hP hS => ?_)
    refine lv_istore (lv' := [(5, .int r_5), (0, .ref o), (1, .int a0), (2, .int a1), (3, .int a2), (4, .int a3)]) hx hb dX8_pieces_42 hl (by decide) rfl (fun ls hl => ?_)
    refine lv_iload hx hb dX8_pieces_44 (lv_at hl 0 rfl) ?_
    refine lv_if_eq (tgt := 56) hx hb dX8_pieces_46 (by decide) (fun c_46 => ?_) (fun c_46 => ?_)
    · replace h := z_ip_ c_46 h
      refine lv_aload_n hx hb dX8_pieces_56 rfl (lv_at hl 1 rfl) ?_
      refine lv_iload_n hx hb dX8_pieces_57 rfl (lv_at hl 2 rfl) ?_
      refine lv_iconst (v := 4) hx hb dX8_pieces_58 (by decide) ?_
      refine lv_iload_n hx hb dX8_pieces_59 rfl (lv_at hl 3 rfl) ?_
      obtain ⟨r_7, M_6, er_7, h⟩ := z_bd2_some h
      refine m_calli (As := [.int a0, .int (4 : Int32), .int a1]) (r := r_7) (M' := M_6) (n := 3) hc hP hS (mt_X8_newFit l D cI cJ o H.size M a0 (4 : Int32) a1 er_7) wM_X8_141 wI_X8_newFit wS_X8_newFit wZ_X8 wC_X8_newFit md_X8_newFit ⟨rfl, rfl, Nat.le_of_ble_eq_true rfl, Nat.le_of_ble_eq_true rfl⟩ rfl hl.1 rfl (Nat.le_of_ble_eq_true rfl) dX8_pieces_60 ⟨Nat.zero_le _, Nat.zero_le _⟩ (fun H locs hP hS => ?_)
      refine lv_istore (lv' := [(6, .int r_7), (5, .int r_5), (0, .ref o), (1, .int a0), (2, .int a1), (3, .int a2), (4, .int a3)]) hx hb dX8_pieces_63 hl (by decide) rfl (fun ls hl => ?_)
      refine lv_aload_n hx hb dX8_pieces_65 rfl (lv_at hl 2 rfl) ?_
      refine m_get (k := 11) (v := .ref (o + 11)) hc hP (by decide) wF_X8_40 rfl dX8_pieces_66 ?_
      refine lv_iload hx hb dX8_pieces_69 (lv_at hl 0 rfl) ?_
      refine lv_iconst (v := 0) hx hb dX8_pieces_71 (by decide) ?_
      obtain ⟨c_72, h⟩ := z_chk_some h
      obtain ⟨M_8, eM_8, h⟩ := z_lt_some h
      refine m_iast (k := 11) (j := 11) (M' := M_8) hc hP hS (ma_11 ..) c_72 (by rw [eM_8]; exact mp_11 ..) dX8_pieces_72 (fun H locs hP hS => ?_)
      refine lv_iconst (v := 0) hx hb dX8_pieces_73 (by decide) ?_
      refine lv_istore (lv' := [(7, .int (0 : Int32)), (6, .int r_7), (5, .int r_5), (0, .ref o), (1, .int a0), (2, .int a1), (3, .int a2), (4, .int a3)]) hx hb dX8_pieces_74 hl (by decide) rfl (fun ls hl => ?_)
      obtain ⟨M_11, hlp, h⟩ := z_bd_some h
      refine z_lp_ind (P := fun x => ∀ (H : Heap) (locs : List Loc) (ls : Array Slot), va_P D z_cls (m_W cI cJ o x.2) H → va_S (m_A o) s.heap H locs → lv_has ls 9 [(0, .ref o), (3, .int a2), (4, .int a3), (6, .int r_7), (7, .int x.1)] → W p l e (z_rm 8 349) s m args below meth c H locs 0 0 Q (F0 m 76 ls [])) (Qe := fun y => ∀ (H : Heap) (locs : List Loc) (ls : Array Slot), va_P D z_cls (m_W cI cJ o y) H → va_S (m_A o) s.heap H locs → lv_has ls 9 [(0, .ref o), (6, .int r_7)] → W p l e (z_rm 8 349) s m args below meth c H locs 0 0 Q (F0 m 216 ls [])) ?_ hlp ?_ H locs ls hP hS (lv_sub hl [3, 6, 7, 1, 0] rfl)
      · clear h hlp hP hS hl
        rintro ⟨x7_9, M_10⟩ oo h K_76 H locs ls hP hS hl
        have hP : va_P D z_cls (m_W cI cJ o M_10) H := hP
        have hl : lv_has ls 9 [(0, .ref o), (3, .int a2), (4, .int a3), (6, .int r_7), (7, .int x7_9)] := hl
        have h : f_X8_pieces_L76 a2 a3 r_7 x7_9 M_10 = some oo := h
        unfold f_X8_pieces_L76 at h
        refine lv_iload hx hb dX8_pieces_76 (lv_at hl 4 rfl) ?_
        refine lv_aload_n hx hb dX8_pieces_78 rfl (lv_at hl 0 rfl) ?_
        refine m_get (k := 7) (v := .ref (o + 7)) hc hP (by decide) wF_X8_28 rfl dX8_pieces_79 ?_
        refine lv_iload hx hb dX8_pieces_82 (lv_at hl 3 rfl) ?_
        obtain ⟨c_84, h⟩ := z_chk_some h
        refine m_iald (k := 7) (j := 7) hc hP (ma_7 ..) c_84 dX8_pieces_84 ?_
        refine lv_icmp_ge (tgt := 216) hx hb dX8_pieces_85 (by decide) (fun c_85 => ?_) (fun c_85 => ?_)
        · replace h := z_ip_ c_85 h
          cases h
          exact K_76 H locs ls hP hS (lv_sub hl [0, 3] rfl)
        · replace h := z_in_ c_85 h
          refine lv_aload_n hx hb dX8_pieces_88 rfl (lv_at hl 0 rfl) ?_
          refine m_get (k := 7) (v := .ref (o + 7)) hc hP (by decide) wF_X8_28 rfl dX8_pieces_89 ?_
          refine lv_iload hx hb dX8_pieces_92 (lv_at hl 3 rfl) ?_
          obtain ⟨c_94, h⟩ := z_chk_some h
          refine m_iald (k := 7) (j := 7) hc hP (ma_7 ..) c_94 dX8_pieces_94 ?_
          refine lv_iload hx hb dX8_pieces_95 (lv_at hl 4 rfl) ?_
          refine lv_isub hx hb dX8_pieces_97 ?_
          refine lv_istore (lv' := [(8, .int ((M_10.1 7 r_7.toNatClampNeg) - x7_9)), (0, .ref o), (3, .int a2), (4, .int a3), (6, .int r_7), (7, .int x7_9)]) hx hb dX8_pieces_98 hl (by decide) rfl (fun ls hl => ?_)
          refine lv_aload_n hx hb dX8_pieces_100 rfl (lv_at hl 1 rfl) ?_
          refine lv_iload hx hb dX8_pieces_101 (lv_at hl 4 rfl) ?_
          refine lv_iload hx hb dX8_pieces_103 (lv_at hl 5 rfl) ?_
          refine lv_iload hx hb dX8_pieces_105 (lv_at hl 0 rfl) ?_
          obtain ⟨M_12, eM_12, h⟩ := z_bd_some h
          refine m_callv (As := [.int r_7, .int x7_9, .int ((M_10.1 7 r_7.toNatClampNeg) - x7_9)]) (M' := M_12) (n := 3) hc hP hS (mt_X8_lineOf l D cI cJ o H.size M_10 r_7 x7_9 ((M_10.1 7 r_7.toNatClampNeg) - x7_9) eM_12) wM_X8_217 wI_X8_lineOf wS_X8_lineOf wZ_X8 wC_X8_lineOf md_X8_lineOf ⟨rfl, rfl, Nat.le_of_ble_eq_true rfl, Nat.le_of_ble_eq_true rfl⟩ rfl hl.1 rfl (Nat.le_of_ble_eq_true rfl) dX8_pieces_107 ⟨Nat.zero_le _, Nat.zero_le _⟩ (fun H locs hP hS => ?_)
          obtain ⟨y8_15, M_16, hlp, h⟩ := z_bd2_some h
          refine z_lp_ind (P := fun x => ∀ (H : Heap) (locs : List Loc) (ls : Array Slot), va_P D z_cls (m_W cI cJ o x.2) H → va_S (m_A o) s.heap H locs → lv_has ls 9 [(0, .ref o), (3, .int a2), (4, .int a3), (6, .int r_7), (7, .int x7_9), (8, .int x.1)] → W p l e (z_rm 8 349) s m args below meth c H locs 0 0 Q (F0 m 110 ls [])) (Qe := fun y => ∀ (H : Heap) (locs : List Loc) (ls : Array Slot), va_P D z_cls (m_W cI cJ o y.2) H → va_S (m_A o) s.heap H locs → lv_has ls 9 [(0, .ref o), (3, .int a2), (4, .int a3), (6, .int r_7), (7, .int x7_9), (8, .int y.1)] → W p l e (z_rm 8 349) s m args below meth c H locs 0 0 Q (F0 m 162 ls [])) ?_ hlp ?_ H locs ls hP hS (lv_sub hl [1, 2, 3, 4, 5, 0] rfl)
          · clear h hlp hP hS hl
            rintro ⟨x8_13, M_14⟩ oo h K_110 H locs ls hP hS hl
            have hP : va_P D z_cls (m_W cI cJ o M_14) H := hP
            have hl : lv_has ls 9 [(0, .ref o), (3, .int a2), (4, .int a3), (6, .int r_7), (7, .int x7_9), (8, .int x8_13)] := hl
            have h : f_X8_pieces_L110 a2 a3 r_7 x7_9 x8_13 M_14 = some oo := h
            unfold f_X8_pieces_L110 at h
            refine lv_aload_n hx hb dX8_pieces_110 rfl (lv_at hl 0 rfl) ?_
            refine m_get (k := 26) (v := .long (M_14.2 26 0)) hc hP (by decide) wF_X8_154 rfl dX8_pieces_111 ?_
            refine lv_lconst (v := 0) hx hb dX8_pieces_114 (by decide) ?_
            refine W.lcmp hx hb dX8_pieces_115 ?_
            obtain ⟨v_17, hJ, h⟩ := z_bd_some h
            have J_131 : ∀ (H : Heap) (locs : List Loc) (ls : Array Slot), va_P D z_cls (m_W cI cJ o M_14) H → va_S (m_A o) s.heap H locs → lv_has ls 9 [(0, .ref o), (3, .int a2), (4, .int a3), (6, .int r_7), (7, .int x7_9), (8, .int x8_13)] → W p l e (z_rm 8 349) s m args below meth c H locs 0 0 Q (F0 m 131 ls [.long v_17]) := by
              intro H locs ls hP hS hl
              refine lv_aload_n hx hb dX8_pieces_131 rfl (lv_at hl 0 rfl) ?_
              refine m_get (k := 27) (v := .long (M_14.2 27 0)) hc hP (by decide) wF_X8_157 rfl dX8_pieces_132 ?_
              refine lv_iload_n hx hb dX8_pieces_135 rfl (lv_at hl 1 rfl) ?_
              refine lv_i2l (v := a2.toInt64) hx hb dX8_pieces_136 rfl ?_
              refine lv_iload hx hb dX8_pieces_137 (lv_at hl 2 rfl) ?_
              refine lv_i2l (v := a3.toInt64) hx hb dX8_pieces_139 rfl ?_
              obtain ⟨r_18, er_18, h⟩ := z_bd_some h
              refine s_calli (As := [.long v_17, .long (M_14.2 27 0), .long a2.toInt64, .long a3.toInt64]) (r := r_18) (n := 4) hc.s (mt_X8_compare l v_17 (M_14.2 27 0) a2.toInt64 a3.toInt64 er_18) wM_X8_201 wT_X8_compare wZ_X8 wC_X8_compare md_X8_compare ⟨rfl, rfl, Nat.le_of_ble_eq_true rfl, Nat.le_of_ble_eq_true rfl⟩ rfl hl.1 rfl (Nat.le_of_ble_eq_true rfl) dX8_pieces_140 ⟨Nat.zero_le _, Nat.zero_le _⟩ ?_
              refine lv_if_le (tgt := 162) hx hb dX8_pieces_143 (by decide) (fun c_143 => ?_) (fun c_143 => ?_)
              · replace h := z_ip_ c_143 h
                cases h
                exact K_110 H locs ls hP hS (lv_sub hl [0, 1, 2, 3, 4, 5] rfl)
              · replace h := z_in_ c_143 h
                refine lv_iinc (v := (x8_13 + (-1))) (lv' := [(8, .int (x8_13 + (-1))), (0, .ref o), (3, .int a2), (4, .int a3), (6, .int r_7), (7, .int x7_9)]) hx hb dX8_pieces_146 hl (k := 5) rfl rfl (by decide) rfl (fun ls hl => ?_)
                refine lv_aload_n hx hb dX8_pieces_149 rfl (lv_at hl 1 rfl) ?_
                refine lv_iload hx hb dX8_pieces_150 (lv_at hl 4 rfl) ?_
                refine lv_iload hx hb dX8_pieces_152 (lv_at hl 5 rfl) ?_
                refine lv_iload hx hb dX8_pieces_154 (lv_at hl 0 rfl) ?_
                obtain ⟨M_19, eM_19, h⟩ := z_bd_some h
                refine m_callv (As := [.int r_7, .int x7_9, .int (x8_13 + (-1))]) (M' := M_19) (n := 3) hc hP hS (mt_X8_lineOf l D cI cJ o H.size M_14 r_7 x7_9 (x8_13 + (-1)) eM_19) wM_X8_217 wI_X8_lineOf wS_X8_lineOf wZ_X8 wC_X8_lineOf md_X8_lineOf ⟨rfl, rfl, Nat.le_of_ble_eq_true rfl, Nat.le_of_ble_eq_true rfl⟩ rfl hl.1 rfl (Nat.le_of_ble_eq_true rfl) dX8_pieces_156 ⟨Nat.zero_le _, Nat.zero_le _⟩ (fun H locs hP hS => ?_)
                refine lv_goto (tgt := 110) hx hb dX8_pieces_159 (by decide) ?_
                cases h
                exact K_110 H locs ls hP hS (lv_sub hl [1, 2, 3, 4, 5, 0] rfl)
            clear h
            have h := hJ
            clear hJ
            refine lv_if_ge (tgt := 127) hx hb dX8_pieces_116 (by decide) (fun c_116 => ?_) (fun c_116 => ?_)
            · replace h := z_ip_ c_116 h
              refine lv_aload_n hx hb dX8_pieces_127 rfl (lv_at hl 0 rfl) ?_
              refine m_get (k := 26) (v := .long (M_14.2 26 0)) hc hP (by decide) wF_X8_154 rfl dX8_pieces_128 ?_
              cases h
              exact J_131 H locs ls hP hS (lv_sub hl [0, 1, 2, 3, 4, 5] rfl)
            · replace h := z_in_ c_116 h
              refine lv_aload_n hx hb dX8_pieces_119 rfl (lv_at hl 0 rfl) ?_
              refine m_get (k := 26) (v := .long (M_14.2 26 0)) hc hP (by decide) wF_X8_154 rfl dX8_pieces_120 ?_
              refine lv_lneg hx hb dX8_pieces_123 ?_
              refine lv_goto (tgt := 131) hx hb dX8_pieces_124 (by decide) ?_
              cases h
              exact J_131 H locs ls hP hS (lv_sub hl [0, 1, 2, 3, 4, 5] rfl)
          · clear hlp hP hS hl
            intro H locs ls hP hS hl
            have hP : va_P D z_cls (m_W cI cJ o M_16) H := hP
            have hl : lv_has ls 9 [(0, .ref o), (3, .int a2), (4, .int a3), (6, .int r_7), (7, .int x7_9), (8, .int y8_15)] := hl
            refine lv_aload_n hx hb dX8_pieces_162 rfl (lv_at hl 0 rfl) ?_
            refine m_get (k := 12) (v := .ref (o + 12)) hc hP (by decide) wF_X8_43 rfl dX8_pieces_163 ?_
            refine lv_bipush (v := 12) hx hb dX8_pieces_166 (by decide) ?_
            refine lv_iload hx hb dX8_pieces_168 (lv_at hl 3 rfl) ?_
            refine lv_imul hx hb dX8_pieces_170 ?_
            refine lv_aload_n hx hb dX8_pieces_171 rfl (lv_at hl 0 rfl) ?_
            refine m_get (k := 11) (v := .ref (o + 11)) hc hP (by decide) wF_X8_40 rfl dX8_pieces_172 ?_
            refine lv_iload hx hb dX8_pieces_175 (lv_at hl 3 rfl) ?_
            obtain ⟨c_177, h⟩ := z_chk_some h
            refine m_iald (k := 11) (j := 11) hc hP (ma_11 ..) c_177 dX8_pieces_177 ?_
            refine lv_iadd hx hb dX8_pieces_178 ?_
            refine lv_iload hx hb dX8_pieces_179 (lv_at hl 4 rfl) ?_
            obtain ⟨c_181, h⟩ := z_chk_some h
            obtain ⟨M_20, eM_20, h⟩ := z_lt_some h
            refine m_iast (k := 12) (j := 12) (M' := M_20) hc hP hS (ma_12 ..) c_181 (by rw [eM_20]; exact mp_12 ..) dX8_pieces_181 (fun H locs hP hS => ?_)
            refine lv_aload_n hx hb dX8_pieces_182 rfl (lv_at hl 0 rfl) ?_
            refine lv_iload hx hb dX8_pieces_183 (lv_at hl 3 rfl) ?_
            refine lv_aload_n hx hb dX8_pieces_185 rfl (lv_at hl 0 rfl) ?_
            refine m_get (k := 11) (v := .ref (o + 11)) hc hP (by decide) wF_X8_40 rfl dX8_pieces_186 ?_
            refine lv_iload hx hb dX8_pieces_189 (lv_at hl 3 rfl) ?_
            obtain ⟨c_191, h⟩ := z_chk_some h
            refine m_iald (k := 11) (j := 11) hc hP (ma_11 ..) c_191 dX8_pieces_191 ?_
            obtain ⟨M_21, eM_21, h⟩ := z_bd_some h
            refine m_callv (As := [.int r_7, .int (M_20.1 11 r_7.toNatClampNeg)]) (M' := M_21) (n := 2) hc hP hS (mt_X8_keep l D cI cJ o H.size M_20 r_7 (M_20.1 11 r_7.toNatClampNeg) eM_21) wM_X8_211 wI_X8_keep wS_X8_keep wZ_X8 wC_X8_keep md_X8_keep ⟨rfl, rfl, Nat.le_of_ble_eq_true rfl, Nat.le_of_ble_eq_true rfl⟩ rfl hl.1 rfl (Nat.le_of_ble_eq_true rfl) dX8_pieces_192 ⟨Nat.zero_le _, Nat.zero_le _⟩ (fun H locs hP hS => ?_)
            refine lv_aload_n hx hb dX8_pieces_195 rfl (lv_at hl 0 rfl) ?_
            refine m_get (k := 11) (v := .ref (o + 11)) hc hP (by decide) wF_X8_40 rfl dX8_pieces_196 ?_
            refine lv_iload hx hb dX8_pieces_199 (lv_at hl 3 rfl) ?_
            refine lv_dup2_11 hx hb dX8_pieces_201 rfl rfl ?_
            obtain ⟨c_202, h⟩ := z_chk_some h
            refine m_iald (k := 11) (j := 11) hc hP (ma_11 ..) c_202 dX8_pieces_202 ?_
            refine lv_iconst (v := 1) hx hb dX8_pieces_203 (by decide) ?_
            refine lv_iadd hx hb dX8_pieces_204 ?_
            obtain ⟨c_205, h⟩ := z_chk_some h
            obtain ⟨M_22, eM_22, h⟩ := z_lt_some h
            refine m_iast (k := 11) (j := 11) (M' := M_22) hc hP hS (ma_11 ..) c_205 (by rw [eM_22]; exact mp_11 ..) dX8_pieces_205 (fun H locs hP hS => ?_)
            refine lv_iload hx hb dX8_pieces_206 (lv_at hl 4 rfl) ?_
            refine lv_iload hx hb dX8_pieces_208 (lv_at hl 5 rfl) ?_
            refine lv_iadd hx hb dX8_pieces_210 ?_
            refine lv_istore (lv' := [(7, .int (x7_9 + y8_15)), (0, .ref o), (3, .int a2), (4, .int a3), (6, .int r_7), (8, .int y8_15)]) hx hb dX8_pieces_211 hl (by decide) rfl (fun ls hl => ?_)
            refine lv_goto (tgt := 76) hx hb dX8_pieces_213 (by decide) ?_
            cases h
            exact K_76 H locs ls hP hS (lv_sub hl [1, 2, 3, 4, 0] rfl)
      · clear hlp hP hS hl
        intro H locs ls hP hS hl
        have hP : va_P D z_cls (m_W cI cJ o M_11) H := hP
        have hl : lv_has ls 9 [(0, .ref o), (6, .int r_7)] := hl
        refine lv_aload_n hx hb dX8_pieces_216 rfl (lv_at hl 0 rfl) ?_
        refine lv_iload hx hb dX8_pieces_217 (lv_at hl 1 rfl) ?_
        obtain ⟨r_24, M_23, er_24, h⟩ := z_bd2_some h
        refine m_calli (As := [.int r_7]) (r := r_24) (M' := M_23) (n := 1) hc hP hS (mt_X8_done l D cI cJ o H.size M_11 r_7 er_24) wM_X8_130 wI_X8_done wS_X8_done wZ_X8 wC_X8_done md_X8_done ⟨rfl, rfl, Nat.le_of_ble_eq_true rfl, Nat.le_of_ble_eq_true rfl⟩ rfl hl.1 rfl (Nat.le_of_ble_eq_true rfl) dX8_pieces_219 ⟨Nat.zero_le _, Nat.zero_le _⟩ (fun H locs hP hS => ?_)
        cases h
        rw [hQ]
        exact m_reti hc hr hlocks hP hS hz dX8_pieces_222
    · replace h := z_in_ c_46 h
      refine lv_aload_n hx hb dX8_pieces_49 rfl (lv_at hl 1 rfl) ?_
      refine lv_iload hx hb dX8_pieces_50 (lv_at hl 0 rfl) ?_
      obtain ⟨r_26, M_25, er_26, h⟩ := z_bd2_some h
      refine m_calli (As := [.int r_5]) (r := r_26) (M' := M_25) (n := 1) hc hP hS (mt_X8_refused l D cI cJ o H.size M r_5 er_26) wM_X8_118 wI_X8_refused wS_X8_refused wZ_X8 wC_X8_refused md_X8_refused ⟨rfl, rfl, Nat.le_of_ble_eq_true rfl, Nat.le_of_ble_eq_true rfl⟩ rfl hl.1 rfl (Nat.le_of_ble_eq_true rfl) dX8_pieces_52 ⟨Nat.zero_le _, Nat.zero_le _⟩ (fun H locs hP hS => ?_)
      cases h
      rw [hQ]
      exact m_reti hc hr hlocks hP hS hz dX8_pieces_55
  clear h
  have h := hJ
  clear hJ
  refine lv_if_eq (tgt := 38) hx hb dX8_pieces_8 (by decide) (fun c_8 => ?_) (fun c_8 => ?_)
  · replace h := z_ip_ c_8 h
    refine lv_iconst (v := 0) hx hb dX8_pieces_38 (by decide) ?_
    cases h
    exact J_39 H locs ls hP hS (lv_sub hl [0, 1, 2, 3, 4] rfl)
  · replace h := z_in_ c_8 h
    refine lv_iload_n hx hb dX8_pieces_11 rfl (lv_at hl 3 rfl) ?_
    refine lv_iconst (v := 0) hx hb dX8_pieces_12 (by decide) ?_
    refine lv_sipush (v := 10000) hx hb dX8_pieces_13 (by decide) ?_
    obtain ⟨r_3, er_3, h⟩ := z_bd_some h
    refine s_calli (As := [.int a2, .int (0 : Int32), .int (10000 : Int32)]) (r := r_3) (n := 3) hc.s (mt_X8_in l a2 (0 : Int32) (10000 : Int32) er_3) wM_X8_100 wT_X8_in wZ_X8 wC_X8_in md_X8_in ⟨rfl, rfl, Nat.le_of_ble_eq_true rfl, Nat.le_of_ble_eq_true rfl⟩ rfl hl.1 rfl (Nat.le_of_ble_eq_true rfl) dX8_pieces_16 ⟨Nat.zero_le _, Nat.zero_le _⟩ ?_
    refine lv_if_eq (tgt := 38) hx hb dX8_pieces_19 (by decide) (fun c_19 => ?_) (fun c_19 => ?_)
    · replace h := z_ip_ c_19 h
      refine lv_iconst (v := 0) hx hb dX8_pieces_38 (by decide) ?_
      cases h
      exact J_39 H locs ls hP hS (lv_sub hl [0, 1, 2, 3, 4] rfl)
    · replace h := z_in_ c_19 h
      refine lv_iload hx hb dX8_pieces_22 (lv_at hl 4 rfl) ?_
      refine lv_iconst (v := 1) hx hb dX8_pieces_24 (by decide) ?_
      refine lv_sipush (v := 1000) hx hb dX8_pieces_25 (by decide) ?_
      obtain ⟨r_4, er_4, h⟩ := z_bd_some h
      refine s_calli (As := [.int a3, .int (1 : Int32), .int (1000 : Int32)]) (r := r_4) (n := 3) hc.s (mt_X8_in l a3 (1 : Int32) (1000 : Int32) er_4) wM_X8_100 wT_X8_in wZ_X8 wC_X8_in md_X8_in ⟨rfl, rfl, Nat.le_of_ble_eq_true rfl, Nat.le_of_ble_eq_true rfl⟩ rfl hl.1 rfl (Nat.le_of_ble_eq_true rfl) dX8_pieces_28 ⟨Nat.zero_le _, Nat.zero_le _⟩ ?_
      refine lv_if_eq (tgt := 38) hx hb dX8_pieces_31 (by decide) (fun c_31 => ?_) (fun c_31 => ?_)
      · replace h := z_ip_ c_31 h
        refine lv_iconst (v := 0) hx hb dX8_pieces_38 (by decide) ?_
        cases h
        exact J_39 H locs ls hP hS (lv_sub hl [0, 1, 2, 3, 4] rfl)
      · replace h := z_in_ c_31 h
        refine lv_iconst (v := 1) hx hb dX8_pieces_34 (by decide) ?_
        refine lv_goto (tgt := 39) hx hb dX8_pieces_35 (by decide) ?_
        cases h
        exact J_39 H locs ls hP hS (lv_sub hl [0, 1, 2, 3, 4] rfl)
theorem md_X8_pieces : yX8_pieces.cls ≠ "java/lang/invoke/MethodHandle" ∧ yX8_pieces.cls ≠ "java/lang/invoke/VarHandle" ∧ (parseMethodDescriptor yX8_pieces.desc).map (fun d => d.parameters.length) = some 4 := by decide +kernel
noncomputable def f_X8_drop (M : MS)  : Option (Int32 × MS) :=
  if (M.1 4 0) = 0 then z_bd2 (f_X8_refused M (3 : Int32)) fun r_5 M_4 => some (r_5, M_4) else z_lt (sI M 4 0 ((M.1 4 0) - (1 : Int32))) fun M_1 => z_bd2 (f_X8_done M_1 (M_1.1 4 0)) fun r_3 M_2 => some (r_3, M_2)
set_option maxHeartbeats 4000000 in
set_option maxRecDepth 100000 in
theorem mt_X8_drop (l : Launch) (D : va_G) (cI cJ : ClassId) (o sz : Nat) (M : MS)  {r_ : Int32} {N_ : MS} (h : f_X8_drop M  = some (r_, N_)) : Met l yX8_drop (z_wd yX8_drop cX8_drop 1 (some .int)) (z_rm 1 37) (va_Pc [.ref o] (m_C D cI cJ o sz M)) (va_Qi (fun (r1 : Int32) (M1 : MS) => r1 = r_ ∧ M1 = N_) (m_C D cI cJ o sz) (m_A o)) 0 0 (m_A o) := by
  refine Met.ofW (cc := cX8_drop) (maxL := 1) (ret := (some .int)) (by decide) rfl ?_
  intro p e s m args below meth c s₁ B hml hv
  obtain ⟨hav, hz, hP0, hK⟩ := hv
  have hx := B.exec
  have hb := B.bytes
  have hr := B.returns
  have hts := atoms_spec (ws := z_wd yX8_drop cX8_drop 1 (some .int)) B.pre
  have hown : s.vm.findClass RX8 = some m.cls := findClass_of_methodNamed B.named
  have hlocks := B.notSynchronized
  have hc : m_X p s m args c cX8_drop 1 D cI cJ := ⟨hx, hb, hml, fun w hw => hts w (List.mem_cons_of_mem _ hw), hown, hK⟩
  have hl := lv_entry ([.ref o]) (n := 1) (Nat.le_of_ble_eq_true rfl)
  have hE : entryFrame m args 1 = F0 m 0 ((lg_sl ([.ref o]) ++ List.replicate (1 - (lg_sl ([.ref o])).length) Slot.unset).toArray) [] := by rw [hav]; exact lg_entry_eq m _ _
  rw [hE]
  clear hE hav
  generalize (lg_sl ([.ref o]) ++ List.replicate (1 - (lg_sl ([.ref o])).length) Slot.unset).toArray = ls at hl ⊢
  have hl : lv_has ls 1 [(0, .ref o)] := hl
  obtain ⟨Q, hQ⟩ : ∃ Q, Q = MQ below (va_Qi (fun (r1 : Int32) (M1 : MS) => r1 = r_ ∧ M1 = N_) (m_C D cI cJ o sz) (m_A o)) args s 0 0 (m_A o) := ⟨_, rfl⟩
  rw [← hQ]
  suffices hmain : ∀ (H : Heap) (locs : List Loc), va_P D z_cls (m_W cI cJ o M) H → va_S (m_A o) s.heap H locs → W p l e (z_rm 1 37) s m args below meth c H locs 0 0 Q (F0 m 0 ls []) from hmain s.heap [] hP0 va_S.rf
  clear hP0
  intro H locs hP hS
  unfold f_X8_drop at h
  refine lv_aload_n hx hb dX8_drop_0 rfl (lv_at hl 0 rfl) ?_
  refine m_get (k := 4) (v := .int (M.1 4 0)) hc hP (by decide) wF_X8_97 rfl dX8_drop_1 ?_
  refine lv_if_ne (tgt := 13) hx hb dX8_drop_4 (by decide) (fun c_4 => ?_) (fun c_4 => ?_)
  · replace h := z_in_ c_4 h
    refine lv_aload_n hx hb dX8_drop_13 rfl (lv_at hl 0 rfl) ?_
    refine lv_dup hx hb dX8_drop_14 rfl ?_
    refine m_get (k := 4) (v := .int (M.1 4 0)) hc hP (by decide) wF_X8_97 rfl dX8_drop_15 ?_
    refine lv_iconst (v := 1) hx hb dX8_drop_18 (by decide) ?_
    refine lv_isub hx hb dX8_drop_19 ?_
    obtain ⟨M_1, eM_1, h⟩ := z_lt_some h
    refine m_put (k := 4) (M' := M_1) (ty := .int) hc hP hS (by decide) wF_X8_97 rfl (by decide +kernel) rfl rfl (by rw [eM_1]; exact mp_4 ..) dX8_drop_20 (fun H locs hP hS => ?_)
    refine lv_aload_n hx hb dX8_drop_23 rfl (lv_at hl 0 rfl) ?_
    refine lv_aload_n hx hb dX8_drop_24 rfl (lv_at hl 0 rfl) ?_
    refine m_get (k := 4) (v := .int (M_1.1 4 0)) hc hP (by decide) wF_X8_97 rfl dX8_drop_25 ?_
    obtain ⟨r_3, M_2, er_3, h⟩ := z_bd2_some h
    refine m_calli (As := [.int (M_1.1 4 0)]) (r := r_3) (M' := M_2) (n := 1) hc hP hS (mt_X8_done l D cI cJ o H.size M_1 (M_1.1 4 0) er_3) wM_X8_130 wI_X8_done wS_X8_done wZ_X8 wC_X8_done md_X8_done ⟨rfl, rfl, Nat.le_of_ble_eq_true rfl, Nat.le_of_ble_eq_true rfl⟩ rfl hl.1 rfl (Nat.le_of_ble_eq_true rfl) dX8_drop_28 ⟨Nat.zero_le _, Nat.zero_le _⟩ (fun H locs hP hS => ?_)
    cases h
    rw [hQ]
    exact m_reti hc hr hlocks hP hS hz dX8_drop_31
  · replace h := z_ip_ c_4 h
    refine lv_aload_n hx hb dX8_drop_7 rfl (lv_at hl 0 rfl) ?_
    refine lv_iconst (v := 3) hx hb dX8_drop_8 (by decide) ?_
    obtain ⟨r_5, M_4, er_5, h⟩ := z_bd2_some h
    refine m_calli (As := [.int (3 : Int32)]) (r := r_5) (M' := M_4) (n := 1) hc hP hS (mt_X8_refused l D cI cJ o H.size M (3 : Int32) er_5) wM_X8_118 wI_X8_refused wS_X8_refused wZ_X8 wC_X8_refused md_X8_refused ⟨rfl, rfl, Nat.le_of_ble_eq_true rfl, Nat.le_of_ble_eq_true rfl⟩ rfl hl.1 rfl (Nat.le_of_ble_eq_true rfl) dX8_drop_9 ⟨Nat.zero_le _, Nat.zero_le _⟩ (fun H locs hP hS => ?_)
    cases h
    rw [hQ]
    exact m_reti hc hr hlocks hP hS hz dX8_drop_12
theorem md_X8_drop : yX8_drop.cls ≠ "java/lang/invoke/MethodHandle" ∧ yX8_drop.cls ≠ "java/lang/invoke/VarHandle" ∧ (parseMethodDescriptor yX8_drop.desc).map (fun d => d.parameters.length) = some 0 := by decide +kernel
