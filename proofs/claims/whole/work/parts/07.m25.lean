noncomputable def f_X8_sheet_L65 (a0 : Int32) (x4_10 : Int32) (M_11 : MS) : Option ((MS) ⊕ (Int32 × MS)) :=
  if (40 : Int32) ≤ x4_10 then some (.inl (M_11)) else z_chk (z_in (((40 : Int32) * a0) + x4_10) 160) (z_lt (sI M_11 17 (((40 : Int32) * a0) + x4_10).toNatClampNeg (0 : Int32)) fun M_13 => some (.inr ((x4_10 + 1), M_13)))
noncomputable def f_X8_sheet_L65x (a0 : Int32) (x4_20 : Int32) (M_21 : MS) : Option ((MS) ⊕ (Int32 × MS)) :=
  if (40 : Int32) ≤ x4_20 then some (.inl (M_21)) else z_chk (z_in (((40 : Int32) * a0) + x4_20) 160) (z_lt (sI M_21 17 (((40 : Int32) * a0) + x4_20).toNatClampNeg (0 : Int32)) fun M_23 => some (.inr ((x4_20 + 1), M_23)))
noncomputable def f_X8_sheet (M : MS) (a0 : Int32) (a1 : Int32) (a2 : Int32) : Option (Int32 × MS) :=
  z_bd (f_X8_in a0 (0 : Int32) (3 : Int32)) fun r_1 => if r_1 = 0 then z_bd2 (f_X8_refused M (1 : Int32)) fun r_3 M_2 => some (r_3, M_2) else z_bd (f_X8_in a1 (-1 : Int32) (2 : Int32)) fun r_4 => if r_4 = 0 then z_bd2 (f_X8_refused M (1 : Int32)) fun r_6 M_5 => some (r_6, M_5) else if a1 = (-1 : Int32) then z_chk (z_in a0 4) (z_lt (sI M 15 a0.toNatClampNeg a1) fun M_7 => z_bd (if a1 = (-1 : Int32) then some ((0 : Int32)) else some (a2)) fun v_8 => z_chk (z_in a0 4) (z_lt (sI M_7 16 a0.toNatClampNeg v_8) fun M_9 => z_bd (z_lp (fun x => f_X8_sheet_L65 a0 x.1 x.2) ((0 : Int32), M_9)) fun M_12 => z_bd2 (f_X8_done M_12 (1 : Int32)) fun r_15 M_14 => some (r_15, M_14))) else z_bd (f_X8_in a2 (0 : Int32) (40 : Int32)) fun r_16 => if r_16 = 0 then z_bd2 (f_X8_refused M (1 : Int32)) fun r_27 M_26 => some (r_27, M_26) else z_chk (z_in a0 4) (z_lt (sI M 15 a0.toNatClampNeg a1) fun M_17 => z_bd (if a1 = (-1 : Int32) then some ((0 : Int32)) else some (a2)) fun v_18 => z_chk (z_in a0 4) (z_lt (sI M_17 16 a0.toNatClampNeg v_18) fun M_19 => z_bd (z_lp (fun x => f_X8_sheet_L65x a0 x.1 x.2) ((0 : Int32), M_19)) fun M_22 => z_bd2 (f_X8_done M_22 (1 : Int32)) fun r_25 M_24 => some (r_25, M_24)))
set_option maxHeartbeats 4000000 in
set_option maxRecDepth 100000 in
theorem mt_X8_sheet (l : Launch) (D : va_G) (cI cJ : ClassId) (o sz : Nat) (M : MS) (a0 : Int32) (a1 : Int32) (a2 : Int32) {r_ : Int32} {N_ : MS} (h : f_X8_sheet M a0 a1 a2 = some (r_, N_)) : Met l yX8_sheet (z_wd yX8_sheet cX8_sheet 5 (some .int)) (z_rm 1 38) (va_Pc [.ref o, .int a0, .int a1, .int a2] (m_C D cI cJ o sz M)) (va_Qi (fun (r1 : Int32) (M1 : MS) => r1 = r_ ∧ M1 = N_) (m_C D cI cJ o sz) (m_A o)) 0 0 (m_A o) := by
  refine Met.ofW (cc := cX8_sheet) (maxL := 5) (ret := (some .int)) (by decide) rfl ?_
  intro p e s m args below meth c s₁ B hml hv
  obtain ⟨hav, hz, hP0, hK⟩ := hv
  have hx := B.exec
  have hb := B.bytes
  have hr := B.returns
  have hts := atoms_spec (ws := z_wd yX8_sheet cX8_sheet 5 (some .int)) B.pre
  have hown : s.vm.findClass RX8 = some m.cls := findClass_of_methodNamed B.named
  have hlocks := B.notSynchronized
  have hc : m_X p s m args c cX8_sheet 5 D cI cJ := ⟨hx, hb, hml, fun w hw => hts w (List.mem_cons_of_mem _ hw), hown, hK⟩
  have hl := lv_entry ([.ref o, .int a0, .int a1, .int a2]) (n := 5) (Nat.le_of_ble_eq_true rfl)
  have hE : entryFrame m args 5 = F0 m 0 ((lg_sl ([.ref o, .int a0, .int a1, .int a2]) ++ List.replicate (5 - (lg_sl ([.ref o, .int a0, .int a1, .int a2])).length) Slot.unset).toArray) [] := by rw [hav]; exact lg_entry_eq m _ _
  rw [hE]
  clear hE hav
  generalize (lg_sl ([.ref o, .int a0, .int a1, .int a2]) ++ List.replicate (5 - (lg_sl ([.ref o, .int a0, .int a1, .int a2])).length) Slot.unset).toArray = ls at hl ⊢
  have hl : lv_has ls 5 [(0, .ref o), (1, .int a0), (2, .int a1), (3, .int a2)] := hl
  obtain ⟨Q, hQ⟩ : ∃ Q, Q = MQ below (va_Qi (fun (r1 : Int32) (M1 : MS) => r1 = r_ ∧ M1 = N_) (m_C D cI cJ o sz) (m_A o)) args s 0 0 (m_A o) := ⟨_, rfl⟩
  rw [← hQ]
  suffices hmain : ∀ (H : Heap) (locs : List Loc), va_P D z_cls (m_W cI cJ o M) H → va_S (m_A o) s.heap H locs → W p l e (z_rm 1 38) s m args below meth c H locs 0 0 Q (F0 m 0 ls []) from hmain s.heap [] hP0 va_S.rf
  clear hP0
  intro H locs hP hS
  unfold f_X8_sheet at h
  refine lv_iload_n hx hb dX8_sheet_0 rfl (lv_at hl 1 rfl) ?_
  refine lv_iconst (v := 0) hx hb dX8_sheet_1 (by decide) ?_
  refine lv_iconst (v := 3) hx hb dX8_sheet_2 (by decide) ?_
  obtain ⟨r_1, er_1, h⟩ := z_bd_some h
  refine s_calli (As := [.int a0, .int (0 : Int32), .int (3 : Int32)]) (r := r_1) (n := 3) hc.s (mt_X8_in l a0 (0 : Int32) (3 : Int32) er_1) wM_X8_100 wT_X8_in wZ_X8 wC_X8_in md_X8_in ⟨rfl, rfl, Nat.le_of_ble_eq_true rfl, Nat.le_of_ble_eq_true rfl⟩ rfl hl.1 rfl (Nat.le_of_ble_eq_true rfl) dX8_sheet_3 ⟨Nat.zero_le _, Nat.zero_le _⟩ ?_
  refine lv_if_eq (tgt := 33) hx hb dX8_sheet_6 (by decide) (fun c_6 => ?_) (fun c_6 => ?_)
  · replace h := z_ip_ c_6 h
    refine lv_aload_n hx hb dX8_sheet_33 rfl (lv_at hl 0 rfl) ?_
    refine lv_iconst (v := 1) hx hb dX8_sheet_34 (by decide) ?_
    obtain ⟨r_3, M_2, er_3, h⟩ := z_bd2_some h
    refine m_calli (As := [.int (1 : Int32)]) (r := r_3) (M' := M_2) (n := 1) hc hP hS (mt_X8_refused l D cI cJ o H.size M (1 : Int32) er_3) wM_X8_118 wI_X8_refused wS_X8_refused wZ_X8 wC_X8_refused md_X8_refused ⟨rfl, rfl, Nat.le_of_ble_eq_true rfl, Nat.le_of_ble_eq_true rfl⟩ rfl hl.1 rfl (Nat.le_of_ble_eq_true rfl) dX8_sheet_35 ⟨Nat.zero_le _, Nat.zero_le _⟩ (fun H locs hP hS => ?_)
    cases h
    rw [hQ]
    exact m_reti hc hr hlocks hP hS hz dX8_sheet_38
  · replace h := z_in_ c_6 h
    refine lv_iload_n hx hb dX8_sheet_9 rfl (lv_at hl 2 rfl) ?_
    refine lv_iconst (v := -1) hx hb dX8_sheet_10 (by decide) ?_
    refine lv_iconst (v := 2) hx hb dX8_sheet_11 (by decide) ?_
    obtain ⟨r_4, er_4, h⟩ := z_bd_some h
    refine s_calli (As := [.int a1, .int (-1 : Int32), .int (2 : Int32)]) (r := r_4) (n := 3) hc.s (mt_X8_in l a1 (-1 : Int32) (2 : Int32) er_4) wM_X8_100 wT_X8_in wZ_X8 wC_X8_in md_X8_in ⟨rfl, rfl, Nat.le_of_ble_eq_true rfl, Nat.le_of_ble_eq_true rfl⟩ rfl hl.1 rfl (Nat.le_of_ble_eq_true rfl) dX8_sheet_12 ⟨Nat.zero_le _, Nat.zero_le _⟩ ?_
    refine lv_if_eq (tgt := 33) hx hb dX8_sheet_15 (by decide) (fun c_15 => ?_) (fun c_15 => ?_)
    · replace h := z_ip_ c_15 h
      refine lv_aload_n hx hb dX8_sheet_33 rfl (lv_at hl 0 rfl) ?_
      refine lv_iconst (v := 1) hx hb dX8_sheet_34 (by decide) ?_
      obtain ⟨r_6, M_5, er_6, h⟩ := z_bd2_some h
      refine m_calli (As := [.int (1 : Int32)]) (r := r_6) (M' := M_5) (n := 1) hc hP hS (mt_X8_refused l D cI cJ o H.size M (1 : Int32) er_6) wM_X8_118 wI_X8_refused wS_X8_refused wZ_X8 wC_X8_refused md_X8_refused ⟨rfl, rfl, Nat.le_of_ble_eq_true rfl, Nat.le_of_ble_eq_true rfl⟩ rfl hl.1 rfl (Nat.le_of_ble_eq_true rfl) dX8_sheet_35 ⟨Nat.zero_le _, Nat.zero_le _⟩ (fun H locs hP hS => ?_)
      cases h
      rw [hQ]
      exact m_reti hc hr hlocks hP hS hz dX8_sheet_38
    · replace h := z_in_ c_15 h
      refine lv_iload_n hx hb dX8_sheet_18 rfl (lv_at hl 2 rfl) ?_
      refine lv_iconst (v := -1) hx hb dX8_sheet_19 (by decide) ?_
      refine lv_icmp_eq (tgt := 39) hx hb dX8_sheet_20 (by decide) (fun c_20 => ?_) (fun c_20 => ?_)
      · replace h := z_ip_ c_20 h
        refine lv_aload_n hx hb dX8_sheet_39 rfl (lv_at hl 0 rfl) ?_
        refine m_get (k := 15) (v := .ref (o + 15)) hc hP (by decide) wF_X8_53 rfl dX8_sheet_40 ?_
        refine lv_iload_n hx hb dX8_sheet_43 rfl (lv_at hl 1 rfl) ?_
        refine lv_iload_n hx hb dX8_sheet_44 rfl (lv_at hl 2 rfl) ?_
        obtain ⟨c_45, h⟩ := z_chk_some h
        obtain ⟨M_7, eM_7, h⟩ := z_lt_some h
        refine m_iast (k := 15) (j := 15) (M' := M_7) hc hP hS (ma_15 ..) c_45 (by rw [eM_7]; exact mp_15 ..) dX8_sheet_45 (fun H locs hP hS => ?_)
        refine lv_aload_n hx hb dX8_sheet_46 rfl (lv_at hl 0 rfl) ?_
        refine m_get (k := 16) (v := .ref (o + 16)) hc hP (by decide) wF_X8_56 rfl dX8_sheet_47 ?_
        refine lv_iload_n hx hb dX8_sheet_50 rfl (lv_at hl 1 rfl) ?_
        refine lv_iload_n hx hb dX8_sheet_51 rfl (lv_at hl 2 rfl) ?_
        refine lv_iconst (v := -1) hx hb dX8_sheet_52 (by decide) ?_
        obtain ⟨v_8, hJ, h⟩ := z_bd_some h
        have J_61 : ∀ (H : Heap) (locs : List Loc) (ls : Array Slot), va_P D z_cls (m_W cI cJ o M_7) H → va_S (m_A o) s.heap H locs → lv_has ls 5 [(0, .ref o), (1, .int a0)] → W p l e (z_rm 1 38) s m args below meth c H locs 0 0 Q (F0 m 61 ls [.int v_8, .int a0, .ref (o + 16)]) := by
          intro H locs ls hP hS hl
          obtain ⟨c_61, h⟩ := z_chk_some h
          obtain ⟨M_9, eM_9, h⟩ := z_lt_some h
          refine m_iast (k := 16) (j := 16) (M' := M_9) hc hP hS (ma_16 ..) c_61 (by rw [eM_9]; exact mp_16 ..) dX8_sheet_61 (fun H locs hP hS => ?_)
          refine lv_iconst (v := 0) hx hb dX8_sheet_62 (by decide) ?_
          refine lv_istore (lv' := [(4, .int (0 : Int32)), (0, .ref o), (1, .int a0)]) hx hb dX8_sheet_63 hl (by decide) rfl (fun ls hl => ?_)
          obtain ⟨M_12, hlp, h⟩ := z_bd_some h
          refine z_lp_ind (P := fun x => ∀ (H : Heap) (locs : List Loc) (ls : Array Slot), va_P D z_cls (m_W cI cJ o x.2) H → va_S (m_A o) s.heap H locs → lv_has ls 5 [(0, .ref o), (1, .int a0), (4, .int x.1)] → W p l e (z_rm 1 38) s m args below meth c H locs 0 0 Q (F0 m 65 ls [])) (Qe := fun y => ∀ (H : Heap) (locs : List Loc) (ls : Array Slot), va_P D z_cls (m_W cI cJ o y) H → va_S (m_A o) s.heap H locs → lv_has ls 5 [(0, .ref o)] → W p l e (z_rm 1 38) s m args below meth c H locs 0 0 Q (F0 m 91 ls [])) ?_ hlp ?_ H locs ls hP hS (lv_sub hl [1, 2, 0] rfl)
          · clear h hlp hP hS hl
            rintro ⟨x4_10, M_11⟩ oo h K_65 H locs ls hP hS hl
            have hP : va_P D z_cls (m_W cI cJ o M_11) H := hP
            have hl : lv_has ls 5 [(0, .ref o), (1, .int a0), (4, .int x4_10)] := hl
            have h : f_X8_sheet_L65 a0 x4_10 M_11 = some oo := h
            unfold f_X8_sheet_L65 at h
            refine lv_iload hx hb dX8_sheet_65 (lv_at hl 2 rfl) ?_
            refine lv_bipush (v := 40) hx hb dX8_sheet_67 (by decide) ?_
            refine lv_icmp_ge (tgt := 91) hx hb dX8_sheet_69 (by decide) (fun c_69 => ?_) (fun c_69 => ?_)
            · replace h := z_ip_ c_69 h
              cases h
              exact K_65 H locs ls hP hS (lv_sub hl [0] rfl)
            · replace h := z_in_ c_69 h
              refine lv_aload_n hx hb dX8_sheet_72 rfl (lv_at hl 0 rfl) ?_
              refine m_get (k := 17) (v := .ref (o + 17)) hc hP (by decide) wF_X8_59 rfl dX8_sheet_73 ?_
              refine lv_bipush (v := 40) hx hb dX8_sheet_76 (by decide) ?_
              refine lv_iload_n hx hb dX8_sheet_78 rfl (lv_at hl 1 rfl) ?_
              refine lv_imul hx hb dX8_sheet_79 ?_
              refine lv_iload hx hb dX8_sheet_80 (lv_at hl 2 rfl) ?_
              refine lv_iadd hx hb dX8_sheet_82 ?_
              refine lv_iconst (v := 0) hx hb dX8_sheet_83 (by decide) ?_
              obtain ⟨c_84, h⟩ := z_chk_some h
              obtain ⟨M_13, eM_13, h⟩ := z_lt_some h
              refine m_iast (k := 17) (j := 17) (M' := M_13) hc hP hS (ma_17 ..) c_84 (by rw [eM_13]; exact mp_17 ..) dX8_sheet_84 (fun H locs hP hS => ?_)
              refine lv_iinc (v := (x4_10 + 1)) (lv' := [(4, .int (x4_10 + 1)), (0, .ref o), (1, .int a0)]) hx hb dX8_sheet_85 hl (k := 2) rfl rfl (by decide) rfl (fun ls hl => ?_)
              refine lv_goto (tgt := 65) hx hb dX8_sheet_88 (by decide) ?_
              cases h
              exact K_65 H locs ls hP hS (lv_sub hl [1, 2, 0] rfl)
          · clear hlp hP hS hl
            intro H locs ls hP hS hl
            have hP : va_P D z_cls (m_W cI cJ o M_12) H := hP
            have hl : lv_has ls 5 [(0, .ref o)] := hl
            refine lv_aload_n hx hb dX8_sheet_91 rfl (lv_at hl 0 rfl) ?_
            refine lv_iconst (v := 1) hx hb dX8_sheet_92 (by decide) ?_
            obtain ⟨r_15, M_14, er_15, h⟩ := z_bd2_some h
            refine m_calli (As := [.int (1 : Int32)]) (r := r_15) (M' := M_14) (n := 1) hc hP hS (mt_X8_done l D cI cJ o H.size M_12 (1 : Int32) er_15) wM_X8_130 wI_X8_done wS_X8_done wZ_X8 wC_X8_done md_X8_done ⟨rfl, rfl, Nat.le_of_ble_eq_true rfl, Nat.le_of_ble_eq_true rfl⟩ rfl hl.1 rfl (Nat.le_of_ble_eq_true rfl) dX8_sheet_93 ⟨Nat.zero_le _, Nat.zero_le _⟩ (fun H locs hP hS => ?_)
            cases h
            rw [hQ]
            exact m_reti hc hr hlocks hP hS hz dX8_sheet_96
        clear h
        have h := hJ
        clear hJ
        refine lv_icmp_ne (tgt := 60) hx hb dX8_sheet_53 (by decide) (fun c_53 => ?_) (fun c_53 => ?_)
        · replace h := z_in_ c_53 h
          refine lv_iload_n hx hb dX8_sheet_60 rfl (lv_at hl 3 rfl) ?_
          cases h
          exact J_61 H locs ls hP hS (lv_sub hl [0, 1] rfl)
        · replace h := z_ip_ c_53 h
          refine lv_iconst (v := 0) hx hb dX8_sheet_56 (by decide) ?_
          refine lv_goto (tgt := 61) hx hb dX8_sheet_57 (by decide) ?_
          cases h
          exact J_61 H locs ls hP hS (lv_sub hl [0, 1] rfl)
      · replace h := z_in_ c_20 h
        refine lv_iload_n hx hb dX8_sheet_23 rfl (lv_at hl 3 rfl) ?_
        refine lv_iconst (v := 0) hx hb dX8_sheet_24 (by decide) ?_
        refine lv_bipush (v := 40) hx hb dX8_sheet_25 (by decide) ?_
        obtain ⟨r_16, er_16, h⟩ := z_bd_some h
        refine s_calli (As := [.int a2, .int (0 : Int32), .int (40 : Int32)]) (r := r_16) (n := 3) hc.s (mt_X8_in l a2 (0 : Int32) (40 : Int32) er_16) wM_X8_100 wT_X8_in wZ_X8 wC_X8_in md_X8_in ⟨rfl, rfl, Nat.le_of_ble_eq_true rfl, Nat.le_of_ble_eq_true rfl⟩ rfl hl.1 rfl (Nat.le_of_ble_eq_true rfl) dX8_sheet_27 ⟨Nat.zero_le _, Nat.zero_le _⟩ ?_
        refine lv_if_ne (tgt := 39) hx hb dX8_sheet_30 (by decide) (fun c_30 => ?_) (fun c_30 => ?_)
        · replace h := z_in_ c_30 h
          refine lv_aload_n hx hb dX8_sheet_39 rfl (lv_at hl 0 rfl) ?_
          refine m_get (k := 15) (v := .ref (o + 15)) hc hP (by decide) wF_X8_53 rfl dX8_sheet_40 ?_
          refine lv_iload_n hx hb dX8_sheet_43 rfl (lv_at hl 1 rfl) ?_
          refine lv_iload_n hx hb dX8_sheet_44 rfl (lv_at hl 2 rfl) ?_
          obtain ⟨c_45, h⟩ := z_chk_some h
          obtain ⟨M_17, eM_17, h⟩ := z_lt_some h
          refine m_iast (k := 15) (j := 15) (M' := M_17) hc hP hS (ma_15 ..) c_45 (by rw [eM_17]; exact mp_15 ..) dX8_sheet_45 (fun H locs hP hS => ?_)
          refine lv_aload_n hx hb dX8_sheet_46 rfl (lv_at hl 0 rfl) ?_
          refine m_get (k := 16) (v := .ref (o + 16)) hc hP (by decide) wF_X8_56 rfl dX8_sheet_47 ?_
          refine lv_iload_n hx hb dX8_sheet_50 rfl (lv_at hl 1 rfl) ?_
          refine lv_iload_n hx hb dX8_sheet_51 rfl (lv_at hl 2 rfl) ?_
          refine lv_iconst (v := -1) hx hb dX8_sheet_52 (by decide) ?_
          obtain ⟨v_18, hJ, h⟩ := z_bd_some h
          have J_61 : ∀ (H : Heap) (locs : List Loc) (ls : Array Slot), va_P D z_cls (m_W cI cJ o M_17) H → va_S (m_A o) s.heap H locs → lv_has ls 5 [(0, .ref o), (1, .int a0)] → W p l e (z_rm 1 38) s m args below meth c H locs 0 0 Q (F0 m 61 ls [.int v_18, .int a0, .ref (o + 16)]) := by
            intro H locs ls hP hS hl
            obtain ⟨c_61, h⟩ := z_chk_some h
            obtain ⟨M_19, eM_19, h⟩ := z_lt_some h
            refine m_iast (k := 16) (j := 16) (M' := M_19) hc hP hS (ma_16 ..) c_61 (by rw [eM_19]; exact mp_16 ..) dX8_sheet_61 (fun H locs hP hS => ?_)
            refine lv_iconst (v := 0) hx hb dX8_sheet_62 (by decide) ?_
            refine lv_istore (lv' := [(4, .int (0 : Int32)), (0, .ref o), (1, .int a0)]) hx hb dX8_sheet_63 hl (by decide) rfl (fun ls hl => ?_)
            obtain ⟨M_22, hlp, h⟩ := z_bd_some h
            refine z_lp_ind (P := fun x => ∀ (H : Heap) (locs : List Loc) (ls : Array Slot), va_P D z_cls (m_W cI cJ o x.2) H → va_S (m_A o) s.heap H locs → lv_has ls 5 [(0, .ref o), (1, .int a0), (4, .int x.1)] → W p l e (z_rm 1 38) s m args below meth c H locs 0 0 Q (F0 m 65 ls [])) (Qe := fun y => ∀ (H : Heap) (locs : List Loc) (ls : Array Slot), va_P D z_cls (m_W cI cJ o y) H → va_S (m_A o) s.heap H locs → lv_has ls 5 [(0, .ref o)] → W p l e (z_rm 1 38) s m args below meth c H locs 0 0 Q (F0 m 91 ls [])) ?_ hlp ?_ H locs ls hP hS (lv_sub hl [1, 2, 0] rfl)
            · clear h hlp hP hS hl
              rintro ⟨x4_20, M_21⟩ oo h K_65 H locs ls hP hS hl
              have hP : va_P D z_cls (m_W cI cJ o M_21) H := hP
              have hl : lv_has ls 5 [(0, .ref o), (1, .int a0), (4, .int x4_20)] := hl
              have h : f_X8_sheet_L65x a0 x4_20 M_21 = some oo := h
              unfold f_X8_sheet_L65x at h
              refine lv_iload hx hb dX8_sheet_65 (lv_at hl 2 rfl) ?_
              refine lv_bipush (v := 40) hx hb dX8_sheet_67 (by decide) ?_
              refine lv_icmp_ge (tgt := 91) hx hb dX8_sheet_69 (by decide) (fun c_69 => ?_) (fun c_69 => ?_)
              · replace h := z_ip_ c_69 h
                cases h
                exact K_65 H locs ls hP hS (lv_sub hl [0] rfl)
              · replace h := z_in_ c_69 h
                refine lv_aload_n hx hb dX8_sheet_72 rfl (lv_at hl 0 rfl) ?_
                refine m_get (k := 17) (v := .ref (o + 17)) hc hP (by decide) wF_X8_59 rfl dX8_sheet_73 ?_
                refine lv_bipush (v := 40) hx hb dX8_sheet_76 (by decide) ?_
                refine lv_iload_n hx hb dX8_sheet_78 rfl (lv_at hl 1 rfl) ?_
                refine lv_imul hx hb dX8_sheet_79 ?_
                refine lv_iload hx hb dX8_sheet_80 (lv_at hl 2 rfl) ?_
                refine lv_iadd hx hb dX8_sheet_82 ?_
                refine lv_iconst (v := 0) hx hb dX8_sheet_83 (by decide) ?_
                obtain ⟨c_84, h⟩ := z_chk_some h
                obtain ⟨M_23, eM_23, h⟩ := z_lt_some h
                refine m_iast (k := 17) (j := 17) (M' := M_23) hc hP hS (ma_17 ..) c_84 (by rw [eM_23]; exact mp_17 ..) dX8_sheet_84 (fun H locs hP hS => ?_)
                refine lv_iinc (v := (x4_20 + 1)) (lv' := [(4, .int (x4_20 + 1)), (0, .ref o), (1, .int a0)]) hx hb dX8_sheet_85 hl (k := 2) rfl rfl (by decide) rfl (fun ls hl => ?_)
                refine lv_goto (tgt := 65) hx hb dX8_sheet_88 (by decide) ?_
                cases h
                exact K_65 H locs ls hP hS (lv_sub hl [1, 2, 0] rfl)
            · clear hlp hP hS hl
              intro H locs ls hP hS hl
              have hP : va_P D z_cls (m_W cI cJ o M_22) H := hP
              have hl : lv_has ls 5 [(0, .ref o)] := hl
              refine lv_aload_n hx hb dX8_sheet_91 rfl (lv_at hl 0 rfl) ?_
              refine lv_iconst (v := 1) hx hb dX8_sheet_92 (by decide) ?_
              obtain ⟨r_25, M_24, er_25, h⟩ := z_bd2_some h
              refine m_calli (As := [.int (1 : Int32)]) (r := r_25) (M' := M_24) (n := 1) hc hP hS (mt_X8_done l D cI cJ o H.size M_22 (1 : Int32) er_25) wM_X8_130 wI_X8_done wS_X8_done wZ_X8 wC_X8_done md_X8_done ⟨rfl, rfl, Nat.le_of_ble_eq_true rfl, Nat.le_of_ble_eq_true rfl⟩ rfl hl.1 rfl (Nat.le_of_ble_eq_true rfl) dX8_sheet_93 ⟨Nat.zero_le _, Nat.zero_le _⟩ (fun H locs hP hS => ?_)
              cases h
              rw [hQ]
              exact m_reti hc hr hlocks hP hS hz dX8_sheet_96
          clear h
          have h := hJ
          clear hJ
          refine lv_icmp_ne (tgt := 60) hx hb dX8_sheet_53 (by decide) (fun c_53 => ?_) (fun c_53 => ?_)
          · replace h := z_in_ c_53 h
            refine lv_iload_n hx hb dX8_sheet_60 rfl (lv_at hl 3 rfl) ?_
            cases h
            exact J_61 H locs ls hP hS (lv_sub hl [0, 1] rfl)
          · replace h := z_ip_ c_53 h
            refine lv_iconst (v := 0) hx hb dX8_sheet_56 (by decide) ?_
            refine lv_goto (tgt := 61) hx hb dX8_sheet_57 (by decide) ?_
            cases h
            exact J_61 H locs ls hP hS (lv_sub hl [0, 1] rfl)
        · replace h := z_ip_ c_30 h
          refine lv_aload_n hx hb dX8_sheet_33 rfl (lv_at hl 0 rfl) ?_
          refine lv_iconst (v := 1) hx hb dX8_sheet_34 (by decide) ?_
          obtain ⟨r_27, M_26, er_27, h⟩ := z_bd2_some h
          refine m_calli (As := [.int (1 : Int32)]) (r := r_27) (M' := M_26) (n := 1) hc hP hS (mt_X8_refused l D cI cJ o H.size M (1 : Int32) er_27) wM_X8_118 wI_X8_refused wS_X8_refused wZ_X8 wC_X8_refused md_X8_refused ⟨rfl, rfl, Nat.le_of_ble_eq_true rfl, Nat.le_of_ble_eq_true rfl⟩ rfl hl.1 rfl (Nat.le_of_ble_eq_true rfl) dX8_sheet_35 ⟨Nat.zero_le _, Nat.zero_le _⟩ (fun H locs hP hS => ?_)
          cases h
          rw [hQ]
          exact m_reti hc hr hlocks hP hS hz dX8_sheet_38
theorem md_X8_sheet : yX8_sheet.cls ≠ "java/lang/invoke/MethodHandle" ∧ yX8_sheet.cls ≠ "java/lang/invoke/VarHandle" ∧ (parseMethodDescriptor yX8_sheet.desc).map (fun d => d.parameters.length) = some 3 := by decide +kernel
noncomputable def f_X8_cell (M : MS) (a0 : Int32) (a1 : Int32) (a2 : Int32) : Option (Int32 × MS) :=
  z_bd (f_X8_in a0 (0 : Int32) (3 : Int32)) fun r_1 => if r_1 = 0 then z_bd2 (f_X8_refused M (1 : Int32)) fun r_3 M_2 => some (r_3, M_2) else z_bd (f_X8_in a2 (-100 : Int32) (100 : Int32)) fun r_4 => if r_4 = 0 then z_bd2 (f_X8_refused M (1 : Int32)) fun r_14 M_13 => some (r_14, M_13) else z_chk (z_in a0 4) (if (M.1 15 a0.toNatClampNeg) = (-1 : Int32) then z_bd2 (f_X8_refused M (10 : Int32)) fun r_12 M_11 => some (r_12, M_11) else z_chk (z_in a0 4) (z_bd (f_X8_in a1 (0 : Int32) ((M.1 16 a0.toNatClampNeg) - (1 : Int32))) fun r_5 => if r_5 = 0 then z_bd2 (f_X8_refused M (12 : Int32)) fun r_10 M_9 => some (r_10, M_9) else z_chk (z_in (((40 : Int32) * a0) + a1) 160) (z_lt (sI M 17 (((40 : Int32) * a0) + a1).toNatClampNeg a2) fun M_6 => z_bd2 (f_X8_done M_6 (1 : Int32)) fun r_8 M_7 => some (r_8, M_7))))
set_option maxHeartbeats 4000000 in
set_option maxRecDepth 100000 in
theorem mt_X8_cell (l : Launch) (D : va_G) (cI cJ : ClassId) (o sz : Nat) (M : MS) (a0 : Int32) (a1 : Int32) (a2 : Int32) {r_ : Int32} {N_ : MS} (h : f_X8_cell M a0 a1 a2 = some (r_, N_)) : Met l yX8_cell (z_wd yX8_cell cX8_cell 4 (some .int)) (z_rm 1 38) (va_Pc [.ref o, .int a0, .int a1, .int a2] (m_C D cI cJ o sz M)) (va_Qi (fun (r1 : Int32) (M1 : MS) => r1 = r_ ∧ M1 = N_) (m_C D cI cJ o sz) (m_A o)) 0 0 (m_A o) := by
  refine Met.ofW (cc := cX8_cell) (maxL := 4) (ret := (some .int)) (by decide) rfl ?_
  intro p e s m args below meth c s₁ B hml hv
  obtain ⟨hav, hz, hP0, hK⟩ := hv
  have hx := B.exec
  have hb := B.bytes
  have hr := B.returns
  have hts := atoms_spec (ws := z_wd yX8_cell cX8_cell 4 (some .int)) B.pre
  have hown : s.vm.findClass RX8 = some m.cls := findClass_of_methodNamed B.named
  have hlocks := B.notSynchronized
  have hc : m_X p s m args c cX8_cell 4 D cI cJ := ⟨hx, hb, hml, fun w hw => hts w (List.mem_cons_of_mem _ hw), hown, hK⟩
  have hl := lv_entry ([.ref o, .int a0, .int a1, .int a2]) (n := 4) (Nat.le_of_ble_eq_true rfl)
  have hE : entryFrame m args 4 = F0 m 0 ((lg_sl ([.ref o, .int a0, .int a1, .int a2]) ++ List.replicate (4 - (lg_sl ([.ref o, .int a0, .int a1, .int a2])).length) Slot.unset).toArray) [] := by rw [hav]; exact lg_entry_eq m _ _
  rw [hE]
  clear hE hav
  generalize (lg_sl ([.ref o, .int a0, .int a1, .int a2]) ++ List.replicate (4 - (lg_sl ([.ref o, .int a0, .int a1, .int a2])).length) Slot.unset).toArray = ls at hl ⊢
  have hl : lv_has ls 4 [(0, .ref o), (1, .int a0), (2, .int a1), (3, .int a2)] := hl
  obtain ⟨Q, hQ⟩ : ∃ Q, Q = MQ below (va_Qi (fun (r1 : Int32) (M1 : MS) => r1 = r_ ∧ M1 = N_) (m_C D cI cJ o sz) (m_A o)) args s 0 0 (m_A o) := ⟨_, rfl⟩
  rw [← hQ]
  suffices hmain : ∀ (H : Heap) (locs : List Loc), va_P D z_cls (m_W cI cJ o M) H → va_S (m_A o) s.heap H locs → W p l e (z_rm 1 38) s m args below meth c H locs 0 0 Q (F0 m 0 ls []) from hmain s.heap [] hP0 va_S.rf
  clear hP0
  intro H locs hP hS
  unfold f_X8_cell at h
  refine lv_iload_n hx hb dX8_cell_0 rfl (lv_at hl 1 rfl) ?_
  refine lv_iconst (v := 0) hx hb dX8_cell_1 (by decide) ?_
  refine lv_iconst (v := 3) hx hb dX8_cell_2 (by decide) ?_
  obtain ⟨r_1, er_1, h⟩ := z_bd_some h
  refine s_calli (As := [.int a0, .int (0 : Int32), .int (3 : Int32)]) (r := r_1) (n := 3) hc.s (mt_X8_in l a0 (0 : Int32) (3 : Int32) er_1) wM_X8_100 wT_X8_in wZ_X8 wC_X8_in md_X8_in ⟨rfl, rfl, Nat.le_of_ble_eq_true rfl, Nat.le_of_ble_eq_true rfl⟩ rfl hl.1 rfl (Nat.le_of_ble_eq_true rfl) dX8_cell_3 ⟨Nat.zero_le _, Nat.zero_le _⟩ ?_
  refine lv_if_eq (tgt := 20) hx hb dX8_cell_6 (by decide) (fun c_6 => ?_) (fun c_6 => ?_)
  · replace h := z_ip_ c_6 h
    refine lv_aload_n hx hb dX8_cell_20 rfl (lv_at hl 0 rfl) ?_
    refine lv_iconst (v := 1) hx hb dX8_cell_21 (by decide) ?_
    obtain ⟨r_3, M_2, er_3, h⟩ := z_bd2_some h
    refine m_calli (As := [.int (1 : Int32)]) (r := r_3) (M' := M_2) (n := 1) hc hP hS (mt_X8_refused l D cI cJ o H.size M (1 : Int32) er_3) wM_X8_118 wI_X8_refused wS_X8_refused wZ_X8 wC_X8_refused md_X8_refused ⟨rfl, rfl, Nat.le_of_ble_eq_true rfl, Nat.le_of_ble_eq_true rfl⟩ rfl hl.1 rfl (Nat.le_of_ble_eq_true rfl) dX8_cell_22 ⟨Nat.zero_le _, Nat.zero_le _⟩ (fun H locs hP hS => ?_)
    cases h
    rw [hQ]
    exact m_reti hc hr hlocks hP hS hz dX8_cell_25
  · replace h := z_in_ c_6 h
    refine lv_iload_n hx hb dX8_cell_9 rfl (lv_at hl 3 rfl) ?_
    refine lv_bipush (v := -100) hx hb dX8_cell_10 (by decide) ?_
    refine lv_bipush (v := 100) hx hb dX8_cell_12 (by decide) ?_
    obtain ⟨r_4, er_4, h⟩ := z_bd_some h
    refine s_calli (As := [.int a2, .int (-100 : Int32), .int (100 : Int32)]) (r := r_4) (n := 3) hc.s (mt_X8_in l a2 (-100 : Int32) (100 : Int32) er_4) wM_X8_100 wT_X8_in wZ_X8 wC_X8_in md_X8_in ⟨rfl, rfl, Nat.le_of_ble_eq_true rfl, Nat.le_of_ble_eq_true rfl⟩ rfl hl.1 rfl (Nat.le_of_ble_eq_true rfl) dX8_cell_14 ⟨Nat.zero_le _, Nat.zero_le _⟩ ?_
    refine lv_if_ne (tgt := 26) hx hb dX8_cell_17 (by decide) (fun c_17 => ?_) (fun c_17 => ?_)
    · replace h := z_in_ c_17 h
      refine lv_aload_n hx hb dX8_cell_26 rfl (lv_at hl 0 rfl) ?_
      refine m_get (k := 15) (v := .ref (o + 15)) hc hP (by decide) wF_X8_53 rfl dX8_cell_27 ?_
      refine lv_iload_n hx hb dX8_cell_30 rfl (lv_at hl 1 rfl) ?_
      obtain ⟨c_31, h⟩ := z_chk_some h
      refine m_iald (k := 15) (j := 15) hc hP (ma_15 ..) c_31 dX8_cell_31 ?_
      refine lv_iconst (v := -1) hx hb dX8_cell_32 (by decide) ?_
      refine lv_icmp_ne (tgt := 43) hx hb dX8_cell_33 (by decide) (fun c_33 => ?_) (fun c_33 => ?_)
      · replace h := z_in_ c_33 h
        refine lv_iload_n hx hb dX8_cell_43 rfl (lv_at hl 2 rfl) ?_
        refine lv_iconst (v := 0) hx hb dX8_cell_44 (by decide) ?_
        refine lv_aload_n hx hb dX8_cell_45 rfl (lv_at hl 0 rfl) ?_
        refine m_get (k := 16) (v := .ref (o + 16)) hc hP (by decide) wF_X8_56 rfl dX8_cell_46 ?_
        refine lv_iload_n hx hb dX8_cell_49 rfl (lv_at hl 1 rfl) ?_
        obtain ⟨c_50, h⟩ := z_chk_some h
        refine m_iald (k := 16) (j := 16) hc hP (ma_16 ..) c_50 dX8_cell_50 ?_
        refine lv_iconst (v := 1) hx hb dX8_cell_51 (by decide) ?_
        refine lv_isub hx hb dX8_cell_52 ?_
        obtain ⟨r_5, er_5, h⟩ := z_bd_some h
        refine s_calli (As := [.int a1, .int (0 : Int32), .int ((M.1 16 a0.toNatClampNeg) - (1 : Int32))]) (r := r_5) (n := 3) hc.s (mt_X8_in l a1 (0 : Int32) ((M.1 16 a0.toNatClampNeg) - (1 : Int32)) er_5) wM_X8_100 wT_X8_in wZ_X8 wC_X8_in md_X8_in ⟨rfl, rfl, Nat.le_of_ble_eq_true rfl, Nat.le_of_ble_eq_true rfl⟩ rfl hl.1 rfl (Nat.le_of_ble_eq_true rfl) dX8_cell_53 ⟨Nat.zero_le _, Nat.zero_le _⟩ ?_
        refine lv_if_ne (tgt := 66) hx hb dX8_cell_56 (by decide) (fun c_56 => ?_) (fun c_56 => ?_)
        · replace h := z_in_ c_56 h
          refine lv_aload_n hx hb dX8_cell_66 rfl (lv_at hl 0 rfl) ?_
          refine m_get (k := 17) (v := .ref (o + 17)) hc hP (by decide) wF_X8_59 rfl dX8_cell_67 ?_
          refine lv_bipush (v := 40) hx hb dX8_cell_70 (by decide) ?_
          refine lv_iload_n hx hb dX8_cell_72 rfl (lv_at hl 1 rfl) ?_
          refine lv_imul hx hb dX8_cell_73 ?_
          refine lv_iload_n hx hb dX8_cell_74 rfl (lv_at hl 2 rfl) ?_
          refine lv_iadd hx hb dX8_cell_75 ?_
          refine lv_iload_n hx hb dX8_cell_76 rfl (lv_at hl 3 rfl) ?_
          obtain ⟨c_77, h⟩ := z_chk_some h
          obtain ⟨M_6, eM_6, h⟩ := z_lt_some h
          refine m_iast (k := 17) (j := 17) (M' := M_6) hc hP hS (ma_17 ..) c_77 (by rw [eM_6]; exact mp_17 ..) dX8_cell_77 (fun H locs hP hS => ?_)
          refine lv_aload_n hx hb dX8_cell_78 rfl (lv_at hl 0 rfl) ?_
          refine lv_iconst (v := 1) hx hb dX8_cell_79 (by decide) ?_
          obtain ⟨r_8, M_7, er_8, h⟩ := z_bd2_some h
          refine m_calli (As := [.int (1 : Int32)]) (r := r_8) (M' := M_7) (n := 1) hc hP hS (mt_X8_done l D cI cJ o H.size M_6 (1 : Int32) er_8) wM_X8_130 wI_X8_done wS_X8_done wZ_X8 wC_X8_done md_X8_done ⟨rfl, rfl, Nat.le_of_ble_eq_true rfl, Nat.le_of_ble_eq_true rfl⟩ rfl hl.1 rfl (Nat.le_of_ble_eq_true rfl) dX8_cell_80 ⟨Nat.zero_le _, Nat.zero_le _⟩ (fun H locs hP hS => ?_)
          cases h
          rw [hQ]
          exact m_reti hc hr hlocks hP hS hz dX8_cell_83
        · replace h := z_ip_ c_56 h
          refine lv_aload_n hx hb dX8_cell_59 rfl (lv_at hl 0 rfl) ?_
          refine lv_bipush (v := 12) hx hb dX8_cell_60 (by decide) ?_
          obtain ⟨r_10, M_9, er_10, h⟩ := z_bd2_some h
          refine m_calli (As := [.int (12 : Int32)]) (r := r_10) (M' := M_9) (n := 1) hc hP hS (mt_X8_refused l D cI cJ o H.size M (12 : Int32) er_10) wM_X8_118 wI_X8_refused wS_X8_refused wZ_X8 wC_X8_refused md_X8_refused ⟨rfl, rfl, Nat.le_of_ble_eq_true rfl, Nat.le_of_ble_eq_true rfl⟩ rfl hl.1 rfl (Nat.le_of_ble_eq_true rfl) dX8_cell_62 ⟨Nat.zero_le _, Nat.zero_le _⟩ (fun H locs hP hS => ?_)
          cases h
          rw [hQ]
          exact m_reti hc hr hlocks hP hS hz dX8_cell_65
      · replace h := z_ip_ c_33 h
        refine lv_aload_n hx hb dX8_cell_36 rfl (lv_at hl 0 rfl) ?_
        refine lv_bipush (v := 10) hx hb dX8_cell_37 (by decide) ?_
        obtain ⟨r_12, M_11, er_12, h⟩ := z_bd2_some h
        refine m_calli (As := [.int (10 : Int32)]) (r := r_12) (M' := M_11) (n := 1) hc hP hS (mt_X8_refused l D cI cJ o H.size M (10 : Int32) er_12) wM_X8_118 wI_X8_refused wS_X8_refused wZ_X8 wC_X8_refused md_X8_refused ⟨rfl, rfl, Nat.le_of_ble_eq_true rfl, Nat.le_of_ble_eq_true rfl⟩ rfl hl.1 rfl (Nat.le_of_ble_eq_true rfl) dX8_cell_39 ⟨Nat.zero_le _, Nat.zero_le _⟩ (fun H locs hP hS => ?_)
        cases h
        rw [hQ]
        exact m_reti hc hr hlocks hP hS hz dX8_cell_42
    · replace h := z_ip_ c_17 h
      refine lv_aload_n hx hb dX8_cell_20 rfl (lv_at hl 0 rfl) ?_
      refine lv_iconst (v := 1) hx hb dX8_cell_21 (by decide) ?_
      obtain ⟨r_14, M_13, er_14, h⟩ := z_bd2_some h
      refine m_calli (As := [.int (1 : Int32)]) (r := r_14) (M' := M_13) (n := 1) hc hP hS (mt_X8_refused l D cI cJ o H.size M (1 : Int32) er_14) wM_X8_118 wI_X8_refused wS_X8_refused wZ_X8 wC_X8_refused md_X8_refused ⟨rfl, rfl, Nat.le_of_ble_eq_true rfl, Nat.le_of_ble_eq_true rfl⟩ rfl hl.1 rfl (Nat.le_of_ble_eq_true rfl) dX8_cell_22 ⟨Nat.zero_le _, Nat.zero_le _⟩ (fun H locs hP hS => ?_)
      cases h
      rw [hQ]
      exact m_reti hc hr hlocks hP hS hz dX8_cell_25
theorem md_X8_cell : yX8_cell.cls ≠ "java/lang/invoke/MethodHandle" ∧ yX8_cell.cls ≠ "java/lang/invoke/VarHandle" ∧ (parseMethodDescriptor yX8_cell.desc).map (fun d => d.parameters.length) = some 3 := by decide +kernel
noncomputable def f_X8_points (M : MS) (a0 : Int32) (a1 : Int32) (a2 : Int32) (a3 : Int32) : Option (Int32 × MS) :=
  z_bd (f_X8_in a0 (0 : Int32) (5 : Int32)) fun r_1 => if r_1 = 0 then z_bd2 (f_X8_refused M (1 : Int32)) fun r_3 M_2 => some (r_3, M_2) else z_bd (f_X8_in a1 (0 : Int32) (3 : Int32)) fun r_4 => if r_4 = 0 then z_bd2 (f_X8_refused M (1 : Int32)) fun r_6 M_5 => some (r_6, M_5) else z_bd (f_X8_in a2 (0 : Int32) (2 : Int32)) fun r_7 => if r_7 = 0 then z_bd2 (f_X8_refused M (1 : Int32)) fun r_26 M_25 => some (r_26, M_25) else z_chk (z_in a0 6) (if (M.1 0 a0.toNatClampNeg) = (12 : Int32) then z_bd2 (f_X8_refused M (2 : Int32)) fun r_24 M_23 => some (r_24, M_23) else z_chk (z_in a1 4) (if (M.1 15 a1.toNatClampNeg) = (-1 : Int32) then z_bd2 (f_X8_refused M (10 : Int32)) fun r_22 M_21 => some (r_22, M_21) else z_chk (z_in a1 4) (if (M.1 15 a1.toNatClampNeg) = a2 then if a3 < 0 then z_bd2 (f_X8_refused M (12 : Int32)) fun r_9 M_8 => some (r_9, M_8) else z_chk (z_in a1 4) (if a3 ≤ ((M.1 16 a1.toNatClampNeg) - (3 : Int32)) then z_chk (z_in (((40 : Int32) * a1) + a3) 160) (z_chk (z_in ((((40 : Int32) * a1) + a3) + (1 : Int32)) 160) (z_chk (z_in ((((40 : Int32) * a1) + a3) + (2 : Int32)) 160) (z_bd (f_X8_isPoint (M.1 17 (((40 : Int32) * a1) + a3).toNatClampNeg) (M.1 17 ((((40 : Int32) * a1) + a3) + (1 : Int32)).toNatClampNeg) (M.1 17 ((((40 : Int32) * a1) + a3) + (2 : Int32)).toNatClampNeg)) fun r_10 => z_bd (if r_10 = 0 then some ((0 : Int32)) else z_chk (z_in (((40 : Int32) * a1) + a3) 160) (z_bd (f_X8_hasPlace M a0 (M.1 17 (((40 : Int32) * a1) + a3).toNatClampNeg)) fun r_12 => if r_12 = 0 then some ((1 : Int32)) else some ((0 : Int32)))) fun v_11 => if v_11 = 0 then z_bd2 (f_X8_refused M (3 : Int32)) fun r_14 M_13 => some (r_14, M_13) else z_chk (z_in (((40 : Int32) * a1) + a3) 160) (z_chk (z_in ((((40 : Int32) * a1) + a3) + (1 : Int32)) 160) (z_chk (z_in ((((40 : Int32) * a1) + a3) + (2 : Int32)) 160) (z_bd2 (f_X8_comes M a0 (M.1 17 (((40 : Int32) * a1) + a3).toNatClampNeg) (M.1 17 ((((40 : Int32) * a1) + a3) + (1 : Int32)).toNatClampNeg) (M.1 17 ((((40 : Int32) * a1) + a3) + (2 : Int32)).toNatClampNeg)) fun r_16 M_15 => some (r_16, M_15))))))) else z_bd2 (f_X8_refused M (12 : Int32)) fun r_18 M_17 => some (r_18, M_17)) else z_bd2 (f_X8_refused M (11 : Int32)) fun r_20 M_19 => some (r_20, M_19))))
set_option maxHeartbeats 4000000 in
set_option maxRecDepth 100000 in
theorem mt_X8_points (l : Launch) (D : va_G) (cI cJ : ClassId) (o sz : Nat) (M : MS) (a0 : Int32) (a1 : Int32) (a2 : Int32) (a3 : Int32) {r_ : Int32} {N_ : MS} (h : f_X8_points M a0 a1 a2 a3 = some (r_, N_)) : Met l yX8_points (z_wd yX8_points cX8_points 7 (some .int)) (z_rm 2 78) (va_Pc [.ref o, .int a0, .int a1, .int a2, .int a3] (m_C D cI cJ o sz M)) (va_Qi (fun (r1 : Int32) (M1 : MS) => r1 = r_ ∧ M1 = N_) (m_C D cI cJ o sz) (m_A o)) 0 0 (m_A o) := by
  refine Met.ofW (cc := cX8_points) (maxL := 7) (ret := (some .int)) (by decide) rfl ?_
  intro p e s m args below meth c s₁ B hml hv
  obtain ⟨hav, hz, hP0, hK⟩ := hv
  have hx := B.exec
  have hb := B.bytes
  have hr := B.returns
  have hts := atoms_spec (ws := z_wd yX8_points cX8_points 7 (some .int)) B.pre
  have hown : s.vm.findClass RX8 = some m.cls := findClass_of_methodNamed B.named
  have hlocks := B.notSynchronized
  have hc : m_X p s m args c cX8_points 7 D cI cJ := ⟨hx, hb, hml, fun w hw => hts w (List.mem_cons_of_mem _ hw), hown, hK⟩
  have hl := lv_entry ([.ref o, .int a0, .int a1, .int a2, .int a3]) (n := 7) (Nat.le_of_ble_eq_true rfl)
  have hE : entryFrame m args 7 = F0 m 0 ((lg_sl ([.ref o, .int a0, .int a1, .int a2, .int a3]) ++ List.replicate (7 - (lg_sl ([.ref o, .int a0, .int a1, .int a2, .int a3])).length) Slot.unset).toArray) [] := by rw [hav]; exact lg_entry_eq m _ _
  rw [hE]
  clear hE hav
  generalize (lg_sl ([.ref o, .int a0, .int a1, .int a2, .int a3]) ++ List.replicate (7 - (lg_sl ([.ref o, .int a0, .int a1, .int a2, .int a3])).length) Slot.unset).toArray = ls at hl ⊢
  have hl : lv_has ls 7 [(0, .ref o), (1, .int a0), (2, .int a1), (3, .int a2), (4, .int a3)] := hl
  obtain ⟨Q, hQ⟩ : ∃ Q, Q = MQ below (va_Qi (fun (r1 : Int32) (M1 : MS) => r1 = r_ ∧ M1 = N_) (m_C D cI cJ o sz) (m_A o)) args s 0 0 (m_A o) := ⟨_, rfl⟩
  rw [← hQ]
  suffices hmain : ∀ (H : Heap) (locs : List Loc), va_P D z_cls (m_W cI cJ o M) H → va_S (m_A o) s.heap H locs → W p l e (z_rm 2 78) s m args below meth c H locs 0 0 Q (F0 m 0 ls []) from hmain s.heap [] hP0 va_S.rf
  clear hP0
  intro H locs hP hS
  unfold f_X8_points at h
  refine lv_iload_n hx hb dX8_points_0 rfl (lv_at hl 1 rfl) ?_
  refine lv_iconst (v := 0) hx hb dX8_points_1 (by decide) ?_
  refine lv_iconst (v := 5) hx hb dX8_points_2 (by decide) ?_
  obtain ⟨r_1, er_1, h⟩ := z_bd_some h
  refine s_calli (As := [.int a0, .int (0 : Int32), .int (5 : Int32)]) (r := r_1) (n := 3) hc.s (mt_X8_in l a0 (0 : Int32) (5 : Int32) er_1) wM_X8_100 wT_X8_in wZ_X8 wC_X8_in md_X8_in ⟨rfl, rfl, Nat.le_of_ble_eq_true rfl, Nat.le_of_ble_eq_true rfl⟩ rfl hl.1 rfl (Nat.le_of_ble_eq_true rfl) dX8_points_3 ⟨Nat.zero_le _, Nat.zero_le _⟩ ?_
  refine lv_if_eq (tgt := 27) hx hb dX8_points_6 (by decide) (fun c_6 => ?_) (fun c_6 => ?_)
  · replace h := z_ip_ c_6 h
    refine lv_aload_n hx hb dX8_points_27 rfl (lv_at hl 0 rfl) ?_
    refine lv_iconst (v := 1) hx hb dX8_points_28 (by decide) ?_
    obtain ⟨r_3, M_2, er_3, h⟩ := z_bd2_some h
    refine m_calli (As := [.int (1 : Int32)]) (r := r_3) (M' := M_2) (n := 1) hc hP hS (mt_X8_refused l D cI cJ o H.size M (1 : Int32) er_3) wM_X8_118 wI_X8_refused wS_X8_refused wZ_X8 wC_X8_refused md_X8_refused ⟨rfl, rfl, Nat.le_of_ble_eq_true rfl, Nat.le_of_ble_eq_true rfl⟩ rfl hl.1 rfl (Nat.le_of_ble_eq_true rfl) dX8_points_29 ⟨Nat.zero_le _, Nat.zero_le _⟩ (fun H locs hP hS => ?_)
    cases h
    rw [hQ]
    exact m_reti hc hr hlocks hP hS hz dX8_points_32
  · replace h := z_in_ c_6 h
    refine lv_iload_n hx hb dX8_points_9 rfl (lv_at hl 2 rfl) ?_
    refine lv_iconst (v := 0) hx hb dX8_points_10 (by decide) ?_
    refine lv_iconst (v := 3) hx hb dX8_points_11 (by decide) ?_
    obtain ⟨r_4, er_4, h⟩ := z_bd_some h
    refine s_calli (As := [.int a1, .int (0 : Int32), .int (3 : Int32)]) (r := r_4) (n := 3) hc.s (mt_X8_in l a1 (0 : Int32) (3 : Int32) er_4) wM_X8_100 wT_X8_in wZ_X8 wC_X8_in md_X8_in ⟨rfl, rfl, Nat.le_of_ble_eq_true rfl, Nat.le_of_ble_eq_true rfl⟩ rfl hl.1 rfl (Nat.le_of_ble_eq_true rfl) dX8_points_12 ⟨Nat.zero_le _, Nat.zero_le _⟩ ?_
    refine lv_if_eq (tgt := 27) hx hb dX8_points_15 (by decide) (fun c_15 => ?_) (fun c_15 => ?_)
    · replace h := z_ip_ c_15 h
      refine lv_aload_n hx hb dX8_points_27 rfl (lv_at hl 0 rfl) ?_
      refine lv_iconst (v := 1) hx hb dX8_points_28 (by decide) ?_
      obtain ⟨r_6, M_5, er_6, h⟩ := z_bd2_some h
      refine m_calli (As := [.int (1 : Int32)]) (r := r_6) (M' := M_5) (n := 1) hc hP hS (mt_X8_refused l D cI cJ o H.size M (1 : Int32) er_6) wM_X8_118 wI_X8_refused wS_X8_refused wZ_X8 wC_X8_refused md_X8_refused ⟨rfl, rfl, Nat.le_of_ble_eq_true rfl, Nat.le_of_ble_eq_true rfl⟩ rfl hl.1 rfl (Nat.le_of_ble_eq_true rfl) dX8_points_29 ⟨Nat.zero_le _, Nat.zero_le _⟩ (fun H locs hP hS => ?_)
      cases h
      rw [hQ]
      exact m_reti hc hr hlocks hP hS hz dX8_points_32
    · replace h := z_in_ c_15 h
      refine lv_iload_n hx hb dX8_points_18 rfl (lv_at hl 3 rfl) ?_
      refine lv_iconst (v := 0) hx hb dX8_points_19 (by decide) ?_
      refine lv_iconst (v := 2) hx hb dX8_points_20 (by decide) ?_
      obtain ⟨r_7, er_7, h⟩ := z_bd_some h
      refine s_calli (As := [.int a2, .int (0 : Int32), .int (2 : Int32)]) (r := r_7) (n := 3) hc.s (mt_X8_in l a2 (0 : Int32) (2 : Int32) er_7) wM_X8_100 wT_X8_in wZ_X8 wC_X8_in md_X8_in ⟨rfl, rfl, Nat.le_of_ble_eq_true rfl, Nat.le_of_ble_eq_true rfl⟩ rfl hl.1 rfl (Nat.le_of_ble_eq_true rfl) dX8_points_21 ⟨Nat.zero_le _, Nat.zero_le _⟩ ?_
      refine lv_if_ne (tgt := 33) hx hb dX8_points_24 (by decide) (fun c_24 => ?_) (fun c_24 => ?_)
      · replace h := z_in_ c_24 h
        refine lv_aload_n hx hb dX8_points_33 rfl (lv_at hl 0 rfl) ?_
        refine m_get (k := 0) (v := .ref (o + 1)) hc hP (by decide) wF_X8_7 rfl dX8_points_34 ?_
        refine lv_iload_n hx hb dX8_points_37 rfl (lv_at hl 1 rfl) ?_
        obtain ⟨c_38, h⟩ := z_chk_some h
        refine m_iald (k := 0) (j := 1) hc hP (ma_0 ..) c_38 dX8_points_38 ?_
        refine lv_bipush (v := 12) hx hb dX8_points_39 (by decide) ?_
        refine lv_icmp_ne (tgt := 50) hx hb dX8_points_41 (by decide) (fun c_41 => ?_) (fun c_41 => ?_)
        · replace h := z_in_ c_41 h
          refine lv_aload_n hx hb dX8_points_50 rfl (lv_at hl 0 rfl) ?_
          refine m_get (k := 15) (v := .ref (o + 15)) hc hP (by decide) wF_X8_53 rfl dX8_points_51 ?_
          refine lv_iload_n hx hb dX8_points_54 rfl (lv_at hl 2 rfl) ?_
          obtain ⟨c_55, h⟩ := z_chk_some h
          refine m_iald (k := 15) (j := 15) hc hP (ma_15 ..) c_55 dX8_points_55 ?_
          refine lv_iconst (v := -1) hx hb dX8_points_56 (by decide) ?_
          refine lv_icmp_ne (tgt := 67) hx hb dX8_points_57 (by decide) (fun c_57 => ?_) (fun c_57 => ?_)
          · replace h := z_in_ c_57 h
            refine lv_aload_n hx hb dX8_points_67 rfl (lv_at hl 0 rfl) ?_
            refine m_get (k := 15) (v := .ref (o + 15)) hc hP (by decide) wF_X8_53 rfl dX8_points_68 ?_
            refine lv_iload_n hx hb dX8_points_71 rfl (lv_at hl 2 rfl) ?_
            obtain ⟨c_72, h⟩ := z_chk_some h
            refine m_iald (k := 15) (j := 15) hc hP (ma_15 ..) c_72 dX8_points_72 ?_
            refine lv_iload_n hx hb dX8_points_73 rfl (lv_at hl 3 rfl) ?_
            refine lv_icmp_eq (tgt := 84) hx hb dX8_points_74 (by decide) (fun c_74 => ?_) (fun c_74 => ?_)
            · replace h := z_ip_ c_74 h
              refine lv_iload hx hb dX8_points_84 (lv_at hl 4 rfl) ?_
              refine lv_if_lt (tgt := 102) hx hb dX8_points_86 (by decide) (fun c_86 => ?_) (fun c_86 => ?_)
              · replace h := z_ip_ c_86 h
                refine lv_aload_n hx hb dX8_points_102 rfl (lv_at hl 0 rfl) ?_
                refine lv_bipush (v := 12) hx hb dX8_points_103 (by decide) ?_
                obtain ⟨r_9, M_8, er_9, h⟩ := z_bd2_some h
                refine m_calli (As := [.int (12 : Int32)]) (r := r_9) (M' := M_8) (n := 1) hc hP hS (mt_X8_refused l D cI cJ o H.size M (12 : Int32) er_9) wM_X8_118 wI_X8_refused wS_X8_refused wZ_X8 wC_X8_refused md_X8_refused ⟨rfl, rfl, Nat.le_of_ble_eq_true rfl, Nat.le_of_ble_eq_true rfl⟩ rfl hl.1 rfl (Nat.le_of_ble_eq_true rfl) dX8_points_105 ⟨Nat.zero_le _, Nat.zero_le _⟩ (fun H locs hP hS => ?_)
                cases h
                rw [hQ]
                exact m_reti hc hr hlocks hP hS hz dX8_points_108
              · replace h := z_in_ c_86 h
                refine lv_iload hx hb dX8_points_89 (lv_at hl 4 rfl) ?_
                refine lv_aload_n hx hb dX8_points_91 rfl (lv_at hl 0 rfl) ?_
                refine m_get (k := 16) (v := .ref (o + 16)) hc hP (by decide) wF_X8_56 rfl dX8_points_92 ?_
                refine lv_iload_n hx hb dX8_points_95 rfl (lv_at hl 2 rfl) ?_
                obtain ⟨c_96, h⟩ := z_chk_some h
                refine m_iald (k := 16) (j := 16) hc hP (ma_16 ..) c_96 dX8_points_96 ?_
                refine lv_iconst (v := 3) hx hb dX8_points_97 (by decide) ?_
                refine lv_isub hx hb dX8_points_98 ?_
                refine lv_icmp_le (tgt := 109) hx hb dX8_points_99 (by decide) (fun c_99 => ?_) (fun c_99 => ?_)
                · replace h := z_ip_ c_99 h
                  refine lv_bipush (v := 40) hx hb dX8_points_109 (by decide) ?_
                  refine lv_iload_n hx hb dX8_points_111 rfl (lv_at hl 2 rfl) ?_
                  refine lv_imul hx hb dX8_points_112 ?_
                  refine lv_iload hx hb dX8_points_113 (lv_at hl 4 rfl) ?_
                  refine lv_iadd hx hb dX8_points_115 ?_
                  refine lv_istore (lv' := [(5, .int (((40 : Int32) * a1) + a3)), (0, .ref o), (1, .int a0), (2, .int a1), (3, .int a2), (4, .int a3)]) hx hb dX8_points_116 hl (by decide) rfl (fun ls hl => ?_)
                  refine lv_aload_n hx hb dX8_points_118 rfl (lv_at hl 1 rfl) ?_
                  refine m_get (k := 17) (v := .ref (o + 17)) hc hP (by decide) wF_X8_59 rfl dX8_points_119 ?_
                  refine lv_iload hx hb dX8_points_122 (lv_at hl 0 rfl) ?_
                  obtain ⟨c_124, h⟩ := z_chk_some h
                  refine m_iald (k := 17) (j := 17) hc hP (ma_17 ..) c_124 dX8_points_124 ?_
                  refine lv_aload_n hx hb dX8_points_125 rfl (lv_at hl 1 rfl) ?_
                  refine m_get (k := 17) (v := .ref (o + 17)) hc hP (by decide) wF_X8_59 rfl dX8_points_126 ?_
                  refine lv_iload hx hb dX8_points_129 (lv_at hl 0 rfl) ?_
                  refine lv_iconst (v := 1) hx hb dX8_points_131 (by decide) ?_
                  refine lv_iadd hx hb dX8_points_132 ?_
                  obtain ⟨c_133, h⟩ := z_chk_some h
                  refine m_iald (k := 17) (j := 17) hc hP (ma_17 ..) c_133 dX8_points_133 ?_
                  refine lv_aload_n hx hb dX8_points_134 rfl (lv_at hl 1 rfl) ?_
                  refine m_get (k := 17) (v := .ref (o + 17)) hc hP (by decide) wF_X8_59 rfl dX8_points_135 ?_
                  refine lv_iload hx hb dX8_points_138 (lv_at hl 0 rfl) ?_
                  refine lv_iconst (v := 2) hx hb dX8_points_140 (by decide) ?_
                  refine lv_iadd hx hb dX8_points_141 ?_
                  obtain ⟨c_142, h⟩ := z_chk_some h
                  refine m_iald (k := 17) (j := 17) hc hP (ma_17 ..) c_142 dX8_points_142 ?_
                  obtain ⟨r_10, er_10, h⟩ := z_bd_some h
                  refine s_calli (As := [.int (M.1 17 (((40 : Int32) * a1) + a3).toNatClampNeg), .int (M.1 17 ((((40 : Int32) * a1) + a3) + (1 : Int32)).toNatClampNeg), .int (M.1 17 ((((40 : Int32) * a1) + a3) + (2 : Int32)).toNatClampNeg)]) (r := r_10) (n := 3) hc.s (mt_X8_isPoint l (M.1 17 (((40 : Int32) * a1) + a3).toNatClampNeg) (M.1 17 ((((40 : Int32) * a1) + a3) + (1 : Int32)).toNatClampNeg) (M.1 17 ((((40 : Int32) * a1) + a3) + (2 : Int32)).toNatClampNeg) er_10) wM_X8_115 wT_X8_isPoint wZ_X8 wC_X8_isPoint md_X8_isPoint ⟨rfl, rfl, Nat.le_of_ble_eq_true rfl, Nat.le_of_ble_eq_true rfl⟩ rfl hl.1 rfl (Nat.le_of_ble_eq_true rfl) dX8_points_143 ⟨Nat.zero_le _, Nat.zero_le _⟩ ?_
                  obtain ⟨v_11, hJ, h⟩ := z_bd_some h
                  have J_169 : ∀ (H : Heap) (locs : List Loc) (ls : Array Slot), va_P D z_cls (m_W cI cJ o M) H → va_S (m_A o) s.heap H locs → lv_has ls 7 [(0, .ref o), (1, .int a0), (5, .int (((40 : Int32) * a1) + a3))] → W p l e (z_rm 2 78) s m args below meth c H locs 0 0 Q (F0 m 169 ls [.int v_11]) := by
                    intro H locs ls hP hS hl
                    refine lv_istore (lv' := [(6, .int v_11), (0, .ref o), (1, .int a0), (5, .int (((40 : Int32) * a1) + a3))]) hx hb dX8_points_169 hl (by decide) rfl (fun ls hl => ?_)
                    refine lv_iload hx hb dX8_points_171 (lv_at hl 0 rfl) ?_
                    refine lv_if_eq (tgt := 209) hx hb dX8_points_173 (by decide) (fun c_173 => ?_) (fun c_173 => ?_)
                    · replace h := z_ip_ c_173 h
                      refine lv_aload_n hx hb dX8_points_209 rfl (lv_at hl 1 rfl) ?_
                      refine lv_iconst (v := 3) hx hb dX8_points_210 (by decide) ?_
                      obtain ⟨r_14, M_13, er_14, h⟩ := z_bd2_some h
                      refine m_calli (As := [.int (3 : Int32)]) (r := r_14) (M' := M_13) (n := 1) hc hP hS (mt_X8_refused l D cI cJ o H.size M (3 : Int32) er_14) wM_X8_118 wI_X8_refused wS_X8_refused wZ_X8 wC_X8_refused md_X8_refused ⟨rfl, rfl, Nat.le_of_ble_eq_true rfl, Nat.le_of_ble_eq_true rfl⟩ rfl hl.1 rfl (Nat.le_of_ble_eq_true rfl) dX8_points_211 ⟨Nat.zero_le _, Nat.zero_le _⟩ (fun H locs hP hS => ?_)
                      cases h
                      rw [hQ]
                      exact m_reti hc hr hlocks hP hS hz dX8_points_214
                    · replace h := z_in_ c_173 h
                      refine lv_aload_n hx hb dX8_points_176 rfl (lv_at hl 1 rfl) ?_
                      refine lv_iload_n hx hb dX8_points_177 rfl (lv_at hl 2 rfl) ?_
                      refine lv_aload_n hx hb dX8_points_178 rfl (lv_at hl 1 rfl) ?_
                      refine m_get (k := 17) (v := .ref (o + 17)) hc hP (by decide) wF_X8_59 rfl dX8_points_179 ?_
                      refine lv_iload hx hb dX8_points_182 (lv_at hl 3 rfl) ?_
                      obtain ⟨c_184, h⟩ := z_chk_some h
                      refine m_iald (k := 17) (j := 17) hc hP (ma_17 ..) c_184 dX8_points_184 ?_
                      refine lv_aload_n hx hb dX8_points_185 rfl (lv_at hl 1 rfl) ?_
                      refine m_get (k := 17) (v := .ref (o + 17)) hc hP (by decide) wF_X8_59 rfl dX8_points_186 ?_
                      refine lv_iload hx hb dX8_points_189 (lv_at hl 3 rfl) ?_
                      refine lv_iconst (v := 1) hx hb dX8_points_191 (by decide) ?_
                      refine lv_iadd hx hb dX8_points_192 ?_
                      obtain ⟨c_193, h⟩ := z_chk_some h
                      refine m_iald (k := 17) (j := 17) hc hP (ma_17 ..) c_193 dX8_points_193 ?_
                      refine lv_aload_n hx hb dX8_points_194 rfl (lv_at hl 1 rfl) ?_
                      refine m_get (k := 17) (v := .ref (o + 17)) hc hP (by decide) wF_X8_59 rfl dX8_points_195 ?_
                      refine lv_iload hx hb dX8_points_198 (lv_at hl 3 rfl) ?_
                      refine lv_iconst (v := 2) hx hb dX8_points_200 (by decide) ?_
                      refine lv_iadd hx hb dX8_points_201 ?_
                      obtain ⟨c_202, h⟩ := z_chk_some h
                      refine m_iald (k := 17) (j := 17) hc hP (ma_17 ..) c_202 dX8_points_202 ?_
                      obtain ⟨r_16, M_15, er_16, h⟩ := z_bd2_some h
                      refine m_calli (As := [.int a0, .int (M.1 17 (((40 : Int32) * a1) + a3).toNatClampNeg), .int (M.1 17 ((((40 : Int32) * a1) + a3) + (1 : Int32)).toNatClampNeg), .int (M.1 17 ((((40 : Int32) * a1) + a3) + (2 : Int32)).toNatClampNeg)]) (r := r_16) (M' := M_15) (n := 4) hc hP hS (mt_X8_comes l D cI cJ o H.size M a0 (M.1 17 (((40 : Int32) * a1) + a3).toNatClampNeg) (M.1 17 ((((40 : Int32) * a1) + a3) + (1 : Int32)).toNatClampNeg) (M.1 17 ((((40 : Int32) * a1) + a3) + (2 : Int32)).toNatClampNeg) er_16) wM_X8_126 wI_X8_comes wS_X8_comes wZ_X8 wC_X8_comes md_X8_comes ⟨rfl, rfl, Nat.le_of_ble_eq_true rfl, Nat.le_of_ble_eq_true rfl⟩ rfl hl.1 rfl (Nat.le_of_ble_eq_true rfl) dX8_points_203 ⟨Nat.zero_le _, Nat.zero_le _⟩ (fun H locs hP hS => ?_)
                      refine lv_goto (tgt := 214) hx hb dX8_points_206 (by decide) ?_
                      cases h
                      rw [hQ]
                      exact m_reti hc hr hlocks hP hS hz dX8_points_214
                  clear h
                  have h := hJ
                  clear hJ
                  refine lv_if_eq (tgt := 168) hx hb dX8_points_146 (by decide) (fun c_146 => ?_) (fun c_146 => ?_)
                  · replace h := z_ip_ c_146 h
                    refine lv_iconst (v := 0) hx hb dX8_points_168 (by decide) ?_
                    cases h
                    exact J_169 H locs ls hP hS (lv_sub hl [1, 2, 0] rfl)
                  · replace h := z_in_ c_146 h
                    refine lv_aload_n hx hb dX8_points_149 rfl (lv_at hl 1 rfl) ?_
                    refine lv_iload_n hx hb dX8_points_150 rfl (lv_at hl 2 rfl) ?_
                    refine lv_aload_n hx hb dX8_points_151 rfl (lv_at hl 1 rfl) ?_
                    refine m_get (k := 17) (v := .ref (o + 17)) hc hP (by decide) wF_X8_59 rfl dX8_points_152 ?_
                    refine lv_iload hx hb dX8_points_155 (lv_at hl 0 rfl) ?_
                    obtain ⟨c_157, h⟩ := z_chk_some h
                    refine m_iald (k := 17) (j := 17) hc hP (ma_17 ..) c_157 dX8_points_157 ?_
                    obtain ⟨r_12, er_12, h⟩ := z_bd_some h
                    refine m_calli (As := [.int a0, .int (M.1 17 (((40 : Int32) * a1) + a3).toNatClampNeg)]) (r := r_12) (M' := M) (n := 2) hc hP hS (mt_X8_hasPlace l D cI cJ o H.size M a0 (M.1 17 (((40 : Int32) * a1) + a3).toNatClampNeg) er_12) wM_X8_122 wI_X8_hasPlace wS_X8_hasPlace wZ_X8 wC_X8_hasPlace md_X8_hasPlace ⟨rfl, rfl, Nat.le_of_ble_eq_true rfl, Nat.le_of_ble_eq_true rfl⟩ rfl hl.1 rfl (Nat.le_of_ble_eq_true rfl) dX8_points_158 ⟨Nat.zero_le _, Nat.zero_le _⟩ (fun H locs hP hS => ?_)
                    refine lv_if_ne (tgt := 168) hx hb dX8_points_161 (by decide) (fun c_161 => ?_) (fun c_161 => ?_)
                    · replace h := z_in_ c_161 h
                      refine lv_iconst (v := 0) hx hb dX8_points_168 (by decide) ?_
                      cases h
                      exact J_169 H locs ls hP hS (lv_sub hl [1, 2, 0] rfl)
                    · replace h := z_ip_ c_161 h
                      refine lv_iconst (v := 1) hx hb dX8_points_164 (by decide) ?_
                      refine lv_goto (tgt := 169) hx hb dX8_points_165 (by decide) ?_
                      cases h
                      exact J_169 H locs ls hP hS (lv_sub hl [1, 2, 0] rfl)
                · replace h := z_in_ c_99 h
                  refine lv_aload_n hx hb dX8_points_102 rfl (lv_at hl 0 rfl) ?_
                  refine lv_bipush (v := 12) hx hb dX8_points_103 (by decide) ?_
                  obtain ⟨r_18, M_17, er_18, h⟩ := z_bd2_some h
                  refine m_calli (As := [.int (12 : Int32)]) (r := r_18) (M' := M_17) (n := 1) hc hP hS (mt_X8_refused l D cI cJ o H.size M (12 : Int32) er_18) wM_X8_118 wI_X8_refused wS_X8_refused wZ_X8 wC_X8_refused md_X8_refused ⟨rfl, rfl, Nat.le_of_ble_eq_true rfl, Nat.le_of_ble_eq_true rfl⟩ rfl hl.1 rfl (Nat.le_of_ble_eq_true rfl) dX8_points_105 ⟨Nat.zero_le _, Nat.zero_le _⟩ (fun H locs hP hS => ?_)
                  cases h
                  rw [hQ]
                  exact m_reti hc hr hlocks hP hS hz dX8_points_108
            · replace h := z_in_ c_74 h
              refine lv_aload_n hx hb dX8_points_77 rfl (lv_at hl 0 rfl) ?_
              refine lv_bipush (v := 11) hx hb dX8_points_78 (by decide) ?_
              obtain ⟨r_20, M_19, er_20, h⟩ := z_bd2_some h
              refine m_calli (As := [.int (11 : Int32)]) (r := r_20) (M' := M_19) (n := 1) hc hP hS (mt_X8_refused l D cI cJ o H.size M (11 : Int32) er_20) wM_X8_118 wI_X8_refused wS_X8_refused wZ_X8 wC_X8_refused md_X8_refused ⟨rfl, rfl, Nat.le_of_ble_eq_true rfl, Nat.le_of_ble_eq_true rfl⟩ rfl hl.1 rfl (Nat.le_of_ble_eq_true rfl) dX8_points_80 ⟨Nat.zero_le _, Nat.zero_le _⟩ (fun H locs hP hS => ?_)
              cases h
              rw [hQ]
              exact m_reti hc hr hlocks hP hS hz dX8_points_83
          · replace h := z_ip_ c_57 h
            refine lv_aload_n hx hb dX8_points_60 rfl (lv_at hl 0 rfl) ?_
            refine lv_bipush (v := 10) hx hb dX8_points_61 (by decide) ?_
            obtain ⟨r_22, M_21, er_22, h⟩ := z_bd2_some h
            refine m_calli (As := [.int (10 : Int32)]) (r := r_22) (M' := M_21) (n := 1) hc hP hS (mt_X8_refused l D cI cJ o H.size M (10 : Int32) er_22) wM_X8_118 wI_X8_refused wS_X8_refused wZ_X8 wC_X8_refused md_X8_refused ⟨rfl, rfl, Nat.le_of_ble_eq_true rfl, Nat.le_of_ble_eq_true rfl⟩ rfl hl.1 rfl (Nat.le_of_ble_eq_true rfl) dX8_points_63 ⟨Nat.zero_le _, Nat.zero_le _⟩ (fun H locs hP hS => ?_)
            cases h
            rw [hQ]
            exact m_reti hc hr hlocks hP hS hz dX8_points_66
        · replace h := z_ip_ c_41 h
          refine lv_aload_n hx hb dX8_points_44 rfl (lv_at hl 0 rfl) ?_
          refine lv_iconst (v := 2) hx hb dX8_points_45 (by decide) ?_
          obtain ⟨r_24, M_23, er_24, h⟩ := z_bd2_some h
          refine m_calli (As := [.int (2 : Int32)]) (r := r_24) (M' := M_23) (n := 1) hc hP hS (mt_X8_refused l D cI cJ o H.size M (2 : Int32) er_24) wM_X8_118 wI_X8_refused wS_X8_refused wZ_X8 wC_X8_refused md_X8_refused ⟨rfl, rfl, Nat.le_of_ble_eq_true rfl, Nat.le_of_ble_eq_true rfl⟩ rfl hl.1 rfl (Nat.le_of_ble_eq_true rfl) dX8_points_46 ⟨Nat.zero_le _, Nat.zero_le _⟩ (fun H locs hP hS => ?_)
          cases h
          rw [hQ]
          exact m_reti hc hr hlocks hP hS hz dX8_points_49
      · replace h := z_ip_ c_24 h
        refine lv_aload_n hx hb dX8_points_27 rfl (lv_at hl 0 rfl) ?_
        refine lv_iconst (v := 1) hx hb dX8_points_28 (by decide) ?_
        obtain ⟨r_26, M_25, er_26, h⟩ := z_bd2_some h
        refine m_calli (As := [.int (1 : Int32)]) (r := r_26) (M' := M_25) (n := 1) hc hP hS (mt_X8_refused l D cI cJ o H.size M (1 : Int32) er_26) wM_X8_118 wI_X8_refused wS_X8_refused wZ_X8 wC_X8_refused md_X8_refused ⟨rfl, rfl, Nat.le_of_ble_eq_true rfl, Nat.le_of_ble_eq_true rfl⟩ rfl hl.1 rfl (Nat.le_of_ble_eq_true rfl) dX8_points_29 ⟨Nat.zero_le _, Nat.zero_le _⟩ (fun H locs hP hS => ?_)
        cases h
        rw [hQ]
        exact m_reti hc hr hlocks hP hS hz dX8_points_32
theorem md_X8_points : yX8_points.cls ≠ "java/lang/invoke/MethodHandle" ∧ yX8_points.cls ≠ "java/lang/invoke/VarHandle" ∧ (parseMethodDescriptor yX8_points.desc).map (fun d => d.parameters.length) = some 4 := by decide +kernel
