noncomputable def f_X8_forge (M : MS) (a0 : Int32) (a1 : Int32) (a2 : Int32) : Option (Int32 × MS) :=
  z_bd (f_X8_in a0 (0 : Int32) (6 : Int32)) fun r_1 => if r_1 = 0 then z_bd2 (f_X8_refused M (1 : Int32)) fun r_3 M_2 => some (r_3, M_2) else z_bd (f_X8_in a1 (-100 : Int32) (100 : Int32)) fun r_4 => if r_4 = 0 then z_bd2 (f_X8_refused M (1 : Int32)) fun r_6 M_5 => some (r_6, M_5) else z_bd (f_X8_in a2 (-100 : Int32) (100 : Int32)) fun r_7 => if r_7 = 0 then z_bd2 (f_X8_refused M (1 : Int32)) fun r_55 M_54 => some (r_55, M_54) else z_bd (f_X8_modulo a2 (10 : Int32)) fun r_8 => z_bd (f_X8_modulo a2 (4 : Int32)) fun r_9 => if a0 = 0 then z_bd (f_X8_modulo a1 (5 : Int32)) fun r_10 => z_bd2 (f_X8_fitTaken M r_8 r_10) fun r_12 M_11 => some (r_12, M_11) else if a0 = 1 then if 0 ≤ a1 then z_bd2 (f_X8_done M a1) fun r_14 M_13 => some (r_14, M_13) else z_bd2 (f_X8_refused M (13 : Int32)) fun r_16 M_15 => some (r_16, M_15) else if a0 = 2 then z_chk (z_in r_9 4) (if (M.1 15 r_9.toNatClampNeg) = (-1 : Int32) then z_bd2 (f_X8_refused M (10 : Int32)) fun r_25 M_24 => some (r_25, M_24) else z_chk (z_in r_9 4) (if (M.1 15 r_9.toNatClampNeg) = (1 : Int32) then z_chk (z_in r_9 4) (z_bd (f_X8_in a1 (0 : Int32) ((M.1 16 r_9.toNatClampNeg) - (1 : Int32))) fun r_17 => if r_17 = 0 then z_bd2 (f_X8_refused M (12 : Int32)) fun r_19 M_18 => some (r_19, M_18) else z_chk (z_in (((40 : Int32) * r_9) + a1) 160) (z_bd2 (f_X8_done M (M.1 17 (((40 : Int32) * r_9) + a1).toNatClampNeg)) fun r_21 M_20 => some (r_21, M_20))) else z_bd2 (f_X8_refused M (11 : Int32)) fun r_23 M_22 => some (r_23, M_22))) else if a0 = 3 then z_chk (z_in r_9 4) (if (M.1 15 r_9.toNatClampNeg) = (-1 : Int32) then z_bd2 (f_X8_refused M (10 : Int32)) fun r_37 M_36 => some (r_37, M_36) else z_chk (z_in r_9 4) (if (M.1 15 r_9.toNatClampNeg) = 0 then z_bd (f_X8_in a1 (0 : Int32) (3 : Int32)) fun r_26 => if r_26 = 0 then z_bd2 (f_X8_refused M (12 : Int32)) fun r_28 M_27 => some (r_28, M_27) else z_chk (z_in r_9 4) (if (M.1 16 r_9.toNatClampNeg) < ((1 : Int32) + a1) then z_bd2 (f_X8_refused M (12 : Int32)) fun r_30 M_29 => some (r_30, M_29) else z_bd (f_X8_copied M r_9 a1) fun r_31 => z_bd2 (f_X8_done M r_31) fun r_33 M_32 => some (r_33, M_32)) else z_bd2 (f_X8_refused M (11 : Int32)) fun r_35 M_34 => some (r_35, M_34))) else if a0 = 4 then z_bd (f_X8_isFit M r_8) fun r_38 => if r_38 = 0 then z_bd2 (f_X8_done M (0 : Int32)) fun r_45 M_44 => some (r_45, M_44) else z_bd (f_X8_isLine M r_8) fun r_39 => if r_39 = 0 then z_bd2 (f_X8_refused M (14 : Int32)) fun r_41 M_40 => some (r_41, M_40) else z_chk (z_in r_8 10) (z_bd2 (f_X8_done M (M.1 5 r_8.toNatClampNeg)) fun r_43 M_42 => some (r_43, M_42)) else if a0 = 5 then if a1 = 0 then z_bd2 (f_X8_refused M (15 : Int32)) fun r_49 M_48 => some (r_49, M_48) else z_chk (¬ a1 = 0) (z_bd2 (f_X8_done M ((1000 : Int32) / a1)) fun r_47 M_46 => some (r_47, M_46)) else if (a1 &&& (1 : Int32)) = 0 then z_bd2 (f_X8_refused M (10 : Int32)) fun r_53 M_52 => some (r_53, M_52) else z_bd2 (f_X8_done M (1 : Int32)) fun r_51 M_50 => some (r_51, M_50)
set_option maxHeartbeats 4000000 in
set_option maxRecDepth 100000 in
theorem mt_X8_forge (l : Launch) (D : va_G) (cI cJ : ClassId) (o sz : Nat) (M : MS) (a0 : Int32) (a1 : Int32) (a2 : Int32) {r_ : Int32} {N_ : MS} (h : f_X8_forge M a0 a1 a2 = some (r_, N_)) : Met l yX8_forge (z_wd yX8_forge cX8_forge 6 (some .int)) (z_rm 3 113) (va_Pc [.ref o, .int a0, .int a1, .int a2] (m_C D cI cJ o sz M)) (va_Qi (fun (r1 : Int32) (M1 : MS) => r1 = r_ ∧ M1 = N_) (m_C D cI cJ o sz) (m_A o)) 0 0 (m_A o) := by
  refine Met.ofW (cc := cX8_forge) (maxL := 6) (ret := (some .int)) (by decide) rfl ?_
  intro p e s m args below meth c s₁ B hml hv
  obtain ⟨hav, hz, hP0, hK⟩ := hv
  have hx := B.exec
  have hb := B.bytes
  have hr := B.returns
  have hts := atoms_spec (ws := z_wd yX8_forge cX8_forge 6 (some .int)) B.pre
  have hown : s.vm.findClass RX8 = some m.cls := findClass_of_methodNamed B.named
  have hlocks := B.notSynchronized
  have hc : m_X p s m args c cX8_forge 6 D cI cJ := ⟨hx, hb, hml, fun w hw => hts w (List.mem_cons_of_mem _ hw), hown, hK⟩
  have hl := lv_entry ([.ref o, .int a0, .int a1, .int a2]) (n := 6) (Nat.le_of_ble_eq_true rfl)
  have hE : entryFrame m args 6 = F0 m 0 ((lg_sl ([.ref o, .int a0, .int a1, .int a2]) ++ List.replicate (6 - (lg_sl ([.ref o, .int a0, .int a1, .int a2])).length) Slot.unset).toArray) [] := by rw [hav]; exact lg_entry_eq m _ _
  rw [hE]
  clear hE hav
  generalize (lg_sl ([.ref o, .int a0, .int a1, .int a2]) ++ List.replicate (6 - (lg_sl ([.ref o, .int a0, .int a1, .int a2])).length) Slot.unset).toArray = ls at hl ⊢
  have hl : lv_has ls 6 [(0, .ref o), (1, .int a0), (2, .int a1), (3, .int a2)] := hl
  obtain ⟨Q, hQ⟩ : ∃ Q, Q = MQ below (va_Qi (fun (r1 : Int32) (M1 : MS) => r1 = r_ ∧ M1 = N_) (m_C D cI cJ o sz) (m_A o)) args s 0 0 (m_A o) := ⟨_, rfl⟩
  rw [← hQ]
  suffices hmain : ∀ (H : Heap) (locs : List Loc), va_P D z_cls (m_W cI cJ o M) H → va_S (m_A o) s.heap H locs → W p l e (z_rm 3 113) s m args below meth c H locs 0 0 Q (F0 m 0 ls []) from hmain s.heap [] hP0 va_S.rf
  clear hP0
  intro H locs hP hS
  unfold f_X8_forge at h
  refine lv_iload_n hx hb dX8_forge_0 rfl (lv_at hl 1 rfl) ?_
  refine lv_iconst (v := 0) hx hb dX8_forge_1 (by decide) ?_
  refine lv_bipush (v := 6) hx hb dX8_forge_2 (by decide) ?_
  obtain ⟨r_1, er_1, h⟩ := z_bd_some h
  refine s_calli (As := [.int a0, .int (0 : Int32), .int (6 : Int32)]) (r := r_1) (n := 3) hc.s (mt_X8_in l a0 (0 : Int32) (6 : Int32) er_1) wM_X8_100 wT_X8_in wZ_X8 wC_X8_in md_X8_in ⟨rfl, rfl, Nat.le_of_ble_eq_true rfl, Nat.le_of_ble_eq_true rfl⟩ rfl hl.1 rfl (Nat.le_of_ble_eq_true rfl) dX8_forge_4 ⟨Nat.zero_le _, Nat.zero_le _⟩ ?_
  refine lv_if_eq (tgt := 32) hx hb dX8_forge_7 (by decide) (fun c_7 => ?_) (fun c_7 => ?_)
  · replace h := z_ip_ c_7 h
    refine lv_aload_n hx hb dX8_forge_32 rfl (lv_at hl 0 rfl) ?_
    refine lv_iconst (v := 1) hx hb dX8_forge_33 (by decide) ?_
    obtain ⟨r_3, M_2, er_3, h⟩ := z_bd2_some h
    refine m_calli (As := [.int (1 : Int32)]) (r := r_3) (M' := M_2) (n := 1) hc hP hS (mt_X8_refused l D cI cJ o H.size M (1 : Int32) er_3) wM_X8_118 wI_X8_refused wS_X8_refused wZ_X8 wC_X8_refused md_X8_refused ⟨rfl, rfl, Nat.le_of_ble_eq_true rfl, Nat.le_of_ble_eq_true rfl⟩ rfl hl.1 rfl (Nat.le_of_ble_eq_true rfl) dX8_forge_34 ⟨Nat.zero_le _, Nat.zero_le _⟩ (fun H locs hP hS => ?_)
    cases h
    rw [hQ]
    exact m_reti hc hr hlocks hP hS hz dX8_forge_37
  · replace h := z_in_ c_7 h
    refine lv_iload_n hx hb dX8_forge_10 rfl (lv_at hl 2 rfl) ?_
    refine lv_bipush (v := -100) hx hb dX8_forge_11 (by decide) ?_
    refine lv_bipush (v := 100) hx hb dX8_forge_13 (by decide) ?_
    obtain ⟨r_4, er_4, h⟩ := z_bd_some h
    refine s_calli (As := [.int a1, .int (-100 : Int32), .int (100 : Int32)]) (r := r_4) (n := 3) hc.s (mt_X8_in l a1 (-100 : Int32) (100 : Int32) er_4) wM_X8_100 wT_X8_in wZ_X8 wC_X8_in md_X8_in ⟨rfl, rfl, Nat.le_of_ble_eq_true rfl, Nat.le_of_ble_eq_true rfl⟩ rfl hl.1 rfl (Nat.le_of_ble_eq_true rfl) dX8_forge_15 ⟨Nat.zero_le _, Nat.zero_le _⟩ ?_
    refine lv_if_eq (tgt := 32) hx hb dX8_forge_18 (by decide) (fun c_18 => ?_) (fun c_18 => ?_)
    · replace h := z_ip_ c_18 h
      refine lv_aload_n hx hb dX8_forge_32 rfl (lv_at hl 0 rfl) ?_
      refine lv_iconst (v := 1) hx hb dX8_forge_33 (by decide) ?_
      obtain ⟨r_6, M_5, er_6, h⟩ := z_bd2_some h
      refine m_calli (As := [.int (1 : Int32)]) (r := r_6) (M' := M_5) (n := 1) hc hP hS (mt_X8_refused l D cI cJ o H.size M (1 : Int32) er_6) wM_X8_118 wI_X8_refused wS_X8_refused wZ_X8 wC_X8_refused md_X8_refused ⟨rfl, rfl, Nat.le_of_ble_eq_true rfl, Nat.le_of_ble_eq_true rfl⟩ rfl hl.1 rfl (Nat.le_of_ble_eq_true rfl) dX8_forge_34 ⟨Nat.zero_le _, Nat.zero_le _⟩ (fun H locs hP hS => ?_)
      cases h
      rw [hQ]
      exact m_reti hc hr hlocks hP hS hz dX8_forge_37
    · replace h := z_in_ c_18 h
      refine lv_iload_n hx hb dX8_forge_21 rfl (lv_at hl 3 rfl) ?_
      refine lv_bipush (v := -100) hx hb dX8_forge_22 (by decide) ?_
      refine lv_bipush (v := 100) hx hb dX8_forge_24 (by decide) ?_
      obtain ⟨r_7, er_7, h⟩ := z_bd_some h
      refine s_calli (As := [.int a2, .int (-100 : Int32), .int (100 : Int32)]) (r := r_7) (n := 3) hc.s (mt_X8_in l a2 (-100 : Int32) (100 : Int32) er_7) wM_X8_100 wT_X8_in wZ_X8 wC_X8_in md_X8_in ⟨rfl, rfl, Nat.le_of_ble_eq_true rfl, Nat.le_of_ble_eq_true rfl⟩ rfl hl.1 rfl (Nat.le_of_ble_eq_true rfl) dX8_forge_26 ⟨Nat.zero_le _, Nat.zero_le _⟩ ?_
      refine lv_if_ne (tgt := 38) hx hb dX8_forge_29 (by decide) (fun c_29 => ?_) (fun c_29 => ?_)
      · replace h := z_in_ c_29 h
        refine lv_iload_n hx hb dX8_forge_38 rfl (lv_at hl 3 rfl) ?_
        refine lv_bipush (v := 10) hx hb dX8_forge_39 (by decide) ?_
        obtain ⟨r_8, er_8, h⟩ := z_bd_some h
        refine s_calli (As := [.int a2, .int (10 : Int32)]) (r := r_8) (n := 2) hc.s (mt_X8_modulo l a2 (10 : Int32) er_8) wM_X8_291 wT_X8_modulo wZ_X8 wC_X8_modulo md_X8_modulo ⟨rfl, rfl, Nat.le_of_ble_eq_true rfl, Nat.le_of_ble_eq_true rfl⟩ rfl hl.1 rfl (Nat.le_of_ble_eq_true rfl) dX8_forge_41 ⟨Nat.zero_le _, Nat.zero_le _⟩ ?_
        refine lv_istore (lv' := [(4, .int r_8), (0, .ref o), (1, .int a0), (2, .int a1), (3, .int a2)]) hx hb dX8_forge_44 hl (by decide) rfl (fun ls hl => ?_)
        refine lv_iload_n hx hb dX8_forge_46 rfl (lv_at hl 4 rfl) ?_
        refine lv_iconst (v := 4) hx hb dX8_forge_47 (by decide) ?_
        obtain ⟨r_9, er_9, h⟩ := z_bd_some h
        refine s_calli (As := [.int a2, .int (4 : Int32)]) (r := r_9) (n := 2) hc.s (mt_X8_modulo l a2 (4 : Int32) er_9) wM_X8_291 wT_X8_modulo wZ_X8 wC_X8_modulo md_X8_modulo ⟨rfl, rfl, Nat.le_of_ble_eq_true rfl, Nat.le_of_ble_eq_true rfl⟩ rfl hl.1 rfl (Nat.le_of_ble_eq_true rfl) dX8_forge_48 ⟨Nat.zero_le _, Nat.zero_le _⟩ ?_
        refine lv_istore (lv' := [(5, .int r_9), (4, .int r_8), (0, .ref o), (1, .int a0), (2, .int a1), (3, .int a2)]) hx hb dX8_forge_51 hl (by decide) rfl (fun ls hl => ?_)
        refine lv_iload_n hx hb dX8_forge_53 rfl (lv_at hl 3 rfl) ?_
        by_cases c_54_0 : a0 = 0
        · replace h := z_ip_ c_54_0 h
          refine lv_tableIn (off := 38) (tgt := 92) hx hb dX8_forge_54 (by rw [c_54_0]; decide) (by rw [c_54_0]; decide) (by rw [c_54_0]; rfl) (by decide) ?_
          refine lv_aload_n hx hb dX8_forge_92 rfl (lv_at hl 2 rfl) ?_
          refine lv_iload hx hb dX8_forge_93 (lv_at hl 1 rfl) ?_
          refine lv_iload_n hx hb dX8_forge_95 rfl (lv_at hl 4 rfl) ?_
          refine lv_iconst (v := 5) hx hb dX8_forge_96 (by decide) ?_
          obtain ⟨r_10, er_10, h⟩ := z_bd_some h
          refine s_calli (As := [.int a1, .int (5 : Int32)]) (r := r_10) (n := 2) hc.s (mt_X8_modulo l a1 (5 : Int32) er_10) wM_X8_291 wT_X8_modulo wZ_X8 wC_X8_modulo md_X8_modulo ⟨rfl, rfl, Nat.le_of_ble_eq_true rfl, Nat.le_of_ble_eq_true rfl⟩ rfl hl.1 rfl (Nat.le_of_ble_eq_true rfl) dX8_forge_97 ⟨Nat.zero_le _, Nat.zero_le _⟩ ?_
          obtain ⟨r_12, M_11, er_12, h⟩ := z_bd2_some h
          refine m_calli (As := [.int r_8, .int r_10]) (r := r_12) (M' := M_11) (n := 2) hc hP hS (mt_X8_fitTaken l D cI cJ o H.size M r_8 r_10 er_12) wM_X8_294 wI_X8_fitTaken wS_X8_fitTaken wZ_X8 wC_X8_fitTaken md_X8_fitTaken ⟨rfl, rfl, Nat.le_of_ble_eq_true rfl, Nat.le_of_ble_eq_true rfl⟩ rfl hl.1 rfl (Nat.le_of_ble_eq_true rfl) dX8_forge_100 ⟨Nat.zero_le _, Nat.zero_le _⟩ (fun H locs hP hS => ?_)
          cases h
          rw [hQ]
          exact m_reti hc hr hlocks hP hS hz dX8_forge_103
        · replace h := z_in_ c_54_0 h
          by_cases c_54_1 : a0 = 1
          · replace h := z_ip_ c_54_1 h
            refine lv_tableIn (off := 50) (tgt := 104) hx hb dX8_forge_54 (by rw [c_54_1]; decide) (by rw [c_54_1]; decide) (by rw [c_54_1]; rfl) (by decide) ?_
            refine lv_iload_n hx hb dX8_forge_104 rfl (lv_at hl 4 rfl) ?_
            refine lv_if_ge (tgt := 117) hx hb dX8_forge_105 (by decide) (fun c_105 => ?_) (fun c_105 => ?_)
            · replace h := z_ip_ c_105 h
              refine lv_aload_n hx hb dX8_forge_117 rfl (lv_at hl 2 rfl) ?_
              refine lv_iload_n hx hb dX8_forge_118 rfl (lv_at hl 4 rfl) ?_
              obtain ⟨r_14, M_13, er_14, h⟩ := z_bd2_some h
              refine m_calli (As := [.int a1]) (r := r_14) (M' := M_13) (n := 1) hc hP hS (mt_X8_done l D cI cJ o H.size M a1 er_14) wM_X8_130 wI_X8_done wS_X8_done wZ_X8 wC_X8_done md_X8_done ⟨rfl, rfl, Nat.le_of_ble_eq_true rfl, Nat.le_of_ble_eq_true rfl⟩ rfl hl.1 rfl (Nat.le_of_ble_eq_true rfl) dX8_forge_119 ⟨Nat.zero_le _, Nat.zero_le _⟩ (fun H locs hP hS => ?_)
              cases h
              rw [hQ]
              exact m_reti hc hr hlocks hP hS hz dX8_forge_122
            · replace h := z_in_ c_105 h
              refine lv_aload_n hx hb dX8_forge_108 rfl (lv_at hl 2 rfl) ?_
              refine lv_bipush (v := 13) hx hb dX8_forge_109 (by decide) ?_
              obtain ⟨r_16, M_15, er_16, h⟩ := z_bd2_some h
              refine m_calli (As := [.int (13 : Int32)]) (r := r_16) (M' := M_15) (n := 1) hc hP hS (mt_X8_refused l D cI cJ o H.size M (13 : Int32) er_16) wM_X8_118 wI_X8_refused wS_X8_refused wZ_X8 wC_X8_refused md_X8_refused ⟨rfl, rfl, Nat.le_of_ble_eq_true rfl, Nat.le_of_ble_eq_true rfl⟩ rfl hl.1 rfl (Nat.le_of_ble_eq_true rfl) dX8_forge_111 ⟨Nat.zero_le _, Nat.zero_le _⟩ (fun H locs hP hS => ?_)
              refine lv_goto (tgt := 122) hx hb dX8_forge_114 (by decide) ?_
              cases h
              rw [hQ]
              exact m_reti hc hr hlocks hP hS hz dX8_forge_122
          · replace h := z_in_ c_54_1 h
            by_cases c_54_2 : a0 = 2
            · replace h := z_ip_ c_54_2 h
              refine lv_tableIn (off := 69) (tgt := 123) hx hb dX8_forge_54 (by rw [c_54_2]; decide) (by rw [c_54_2]; decide) (by rw [c_54_2]; rfl) (by decide) ?_
              refine lv_aload_n hx hb dX8_forge_123 rfl (lv_at hl 2 rfl) ?_
              refine m_get (k := 15) (v := .ref (o + 15)) hc hP (by decide) wF_X8_53 rfl dX8_forge_124 ?_
              refine lv_iload hx hb dX8_forge_127 (lv_at hl 0 rfl) ?_
              obtain ⟨c_129, h⟩ := z_chk_some h
              refine m_iald (k := 15) (j := 15) hc hP (ma_15 ..) c_129 dX8_forge_129 ?_
              refine lv_iconst (v := -1) hx hb dX8_forge_130 (by decide) ?_
              refine lv_icmp_ne (tgt := 143) hx hb dX8_forge_131 (by decide) (fun c_131 => ?_) (fun c_131 => ?_)
              · replace h := z_in_ c_131 h
                refine lv_aload_n hx hb dX8_forge_143 rfl (lv_at hl 2 rfl) ?_
                refine m_get (k := 15) (v := .ref (o + 15)) hc hP (by decide) wF_X8_53 rfl dX8_forge_144 ?_
                refine lv_iload hx hb dX8_forge_147 (lv_at hl 0 rfl) ?_
                obtain ⟨c_149, h⟩ := z_chk_some h
                refine m_iald (k := 15) (j := 15) hc hP (ma_15 ..) c_149 dX8_forge_149 ?_
                refine lv_iconst (v := 1) hx hb dX8_forge_150 (by decide) ?_
                refine lv_icmp_eq (tgt := 163) hx hb dX8_forge_151 (by decide) (fun c_151 => ?_) (fun c_151 => ?_)
                · replace h := z_ip_ c_151 h
                  refine lv_iload_n hx hb dX8_forge_163 rfl (lv_at hl 4 rfl) ?_
                  refine lv_iconst (v := 0) hx hb dX8_forge_164 (by decide) ?_
                  refine lv_aload_n hx hb dX8_forge_165 rfl (lv_at hl 2 rfl) ?_
                  refine m_get (k := 16) (v := .ref (o + 16)) hc hP (by decide) wF_X8_56 rfl dX8_forge_166 ?_
                  refine lv_iload hx hb dX8_forge_169 (lv_at hl 0 rfl) ?_
                  obtain ⟨c_171, h⟩ := z_chk_some h
                  refine m_iald (k := 16) (j := 16) hc hP (ma_16 ..) c_171 dX8_forge_171 ?_
                  refine lv_iconst (v := 1) hx hb dX8_forge_172 (by decide) ?_
                  refine lv_isub hx hb dX8_forge_173 ?_
                  obtain ⟨r_17, er_17, h⟩ := z_bd_some h
                  refine s_calli (As := [.int a1, .int (0 : Int32), .int ((M.1 16 r_9.toNatClampNeg) - (1 : Int32))]) (r := r_17) (n := 3) hc.s (mt_X8_in l a1 (0 : Int32) ((M.1 16 r_9.toNatClampNeg) - (1 : Int32)) er_17) wM_X8_100 wT_X8_in wZ_X8 wC_X8_in md_X8_in ⟨rfl, rfl, Nat.le_of_ble_eq_true rfl, Nat.le_of_ble_eq_true rfl⟩ rfl hl.1 rfl (Nat.le_of_ble_eq_true rfl) dX8_forge_174 ⟨Nat.zero_le _, Nat.zero_le _⟩ ?_
                  refine lv_if_eq (tgt := 199) hx hb dX8_forge_177 (by decide) (fun c_177 => ?_) (fun c_177 => ?_)
                  · replace h := z_ip_ c_177 h
                    refine lv_aload_n hx hb dX8_forge_199 rfl (lv_at hl 2 rfl) ?_
                    refine lv_bipush (v := 12) hx hb dX8_forge_200 (by decide) ?_
                    obtain ⟨r_19, M_18, er_19, h⟩ := z_bd2_some h
                    refine m_calli (As := [.int (12 : Int32)]) (r := r_19) (M' := M_18) (n := 1) hc hP hS (mt_X8_refused l D cI cJ o H.size M (12 : Int32) er_19) wM_X8_118 wI_X8_refused wS_X8_refused wZ_X8 wC_X8_refused md_X8_refused ⟨rfl, rfl, Nat.le_of_ble_eq_true rfl, Nat.le_of_ble_eq_true rfl⟩ rfl hl.1 rfl (Nat.le_of_ble_eq_true rfl) dX8_forge_202 ⟨Nat.zero_le _, Nat.zero_le _⟩ (fun H locs hP hS => ?_)
                    cases h
                    rw [hQ]
                    exact m_reti hc hr hlocks hP hS hz dX8_forge_205
                  · replace h := z_in_ c_177 h
                    refine lv_aload_n hx hb dX8_forge_180 rfl (lv_at hl 2 rfl) ?_
                    refine lv_aload_n hx hb dX8_forge_181 rfl (lv_at hl 2 rfl) ?_
                    refine m_get (k := 17) (v := .ref (o + 17)) hc hP (by decide) wF_X8_59 rfl dX8_forge_182 ?_
                    refine lv_bipush (v := 40) hx hb dX8_forge_185 (by decide) ?_
                    refine lv_iload hx hb dX8_forge_187 (lv_at hl 0 rfl) ?_
                    refine lv_imul hx hb dX8_forge_189 ?_
                    refine lv_iload_n hx hb dX8_forge_190 rfl (lv_at hl 4 rfl) ?_
                    refine lv_iadd hx hb dX8_forge_191 ?_
                    obtain ⟨c_192, h⟩ := z_chk_some h
                    refine m_iald (k := 17) (j := 17) hc hP (ma_17 ..) c_192 dX8_forge_192 ?_
                    obtain ⟨r_21, M_20, er_21, h⟩ := z_bd2_some h
                    refine m_calli (As := [.int (M.1 17 (((40 : Int32) * r_9) + a1).toNatClampNeg)]) (r := r_21) (M' := M_20) (n := 1) hc hP hS (mt_X8_done l D cI cJ o H.size M (M.1 17 (((40 : Int32) * r_9) + a1).toNatClampNeg) er_21) wM_X8_130 wI_X8_done wS_X8_done wZ_X8 wC_X8_done md_X8_done ⟨rfl, rfl, Nat.le_of_ble_eq_true rfl, Nat.le_of_ble_eq_true rfl⟩ rfl hl.1 rfl (Nat.le_of_ble_eq_true rfl) dX8_forge_193 ⟨Nat.zero_le _, Nat.zero_le _⟩ (fun H locs hP hS => ?_)
                    refine lv_goto (tgt := 205) hx hb dX8_forge_196 (by decide) ?_
                    cases h
                    rw [hQ]
                    exact m_reti hc hr hlocks hP hS hz dX8_forge_205
                · replace h := z_in_ c_151 h
                  refine lv_aload_n hx hb dX8_forge_154 rfl (lv_at hl 2 rfl) ?_
                  refine lv_bipush (v := 11) hx hb dX8_forge_155 (by decide) ?_
                  obtain ⟨r_23, M_22, er_23, h⟩ := z_bd2_some h
                  refine m_calli (As := [.int (11 : Int32)]) (r := r_23) (M' := M_22) (n := 1) hc hP hS (mt_X8_refused l D cI cJ o H.size M (11 : Int32) er_23) wM_X8_118 wI_X8_refused wS_X8_refused wZ_X8 wC_X8_refused md_X8_refused ⟨rfl, rfl, Nat.le_of_ble_eq_true rfl, Nat.le_of_ble_eq_true rfl⟩ rfl hl.1 rfl (Nat.le_of_ble_eq_true rfl) dX8_forge_157 ⟨Nat.zero_le _, Nat.zero_le _⟩ (fun H locs hP hS => ?_)
                  refine lv_goto (tgt := 205) hx hb dX8_forge_160 (by decide) ?_
                  cases h
                  rw [hQ]
                  exact m_reti hc hr hlocks hP hS hz dX8_forge_205
              · replace h := z_ip_ c_131 h
                refine lv_aload_n hx hb dX8_forge_134 rfl (lv_at hl 2 rfl) ?_
                refine lv_bipush (v := 10) hx hb dX8_forge_135 (by decide) ?_
                obtain ⟨r_25, M_24, er_25, h⟩ := z_bd2_some h
                refine m_calli (As := [.int (10 : Int32)]) (r := r_25) (M' := M_24) (n := 1) hc hP hS (mt_X8_refused l D cI cJ o H.size M (10 : Int32) er_25) wM_X8_118 wI_X8_refused wS_X8_refused wZ_X8 wC_X8_refused md_X8_refused ⟨rfl, rfl, Nat.le_of_ble_eq_true rfl, Nat.le_of_ble_eq_true rfl⟩ rfl hl.1 rfl (Nat.le_of_ble_eq_true rfl) dX8_forge_137 ⟨Nat.zero_le _, Nat.zero_le _⟩ (fun H locs hP hS => ?_)
                refine lv_goto (tgt := 205) hx hb dX8_forge_140 (by decide) ?_
                cases h
                rw [hQ]
                exact m_reti hc hr hlocks hP hS hz dX8_forge_205
            · replace h := z_in_ c_54_2 h
              by_cases c_54_3 : a0 = 3
              · replace h := z_ip_ c_54_3 h
                refine lv_tableIn (off := 152) (tgt := 206) hx hb dX8_forge_54 (by rw [c_54_3]; decide) (by rw [c_54_3]; decide) (by rw [c_54_3]; rfl) (by decide) ?_
                refine lv_aload_n hx hb dX8_forge_206 rfl (lv_at hl 2 rfl) ?_
                refine m_get (k := 15) (v := .ref (o + 15)) hc hP (by decide) wF_X8_53 rfl dX8_forge_207 ?_
                refine lv_iload hx hb dX8_forge_210 (lv_at hl 0 rfl) ?_
                obtain ⟨c_212, h⟩ := z_chk_some h
                refine m_iald (k := 15) (j := 15) hc hP (ma_15 ..) c_212 dX8_forge_212 ?_
                refine lv_iconst (v := -1) hx hb dX8_forge_213 (by decide) ?_
                refine lv_icmp_ne (tgt := 226) hx hb dX8_forge_214 (by decide) (fun c_214 => ?_) (fun c_214 => ?_)
                · replace h := z_in_ c_214 h
                  refine lv_aload_n hx hb dX8_forge_226 rfl (lv_at hl 2 rfl) ?_
                  refine m_get (k := 15) (v := .ref (o + 15)) hc hP (by decide) wF_X8_53 rfl dX8_forge_227 ?_
                  refine lv_iload hx hb dX8_forge_230 (lv_at hl 0 rfl) ?_
                  obtain ⟨c_232, h⟩ := z_chk_some h
                  refine m_iald (k := 15) (j := 15) hc hP (ma_15 ..) c_232 dX8_forge_232 ?_
                  refine lv_if_eq (tgt := 245) hx hb dX8_forge_233 (by decide) (fun c_233 => ?_) (fun c_233 => ?_)
                  · replace h := z_ip_ c_233 h
                    refine lv_iload_n hx hb dX8_forge_245 rfl (lv_at hl 4 rfl) ?_
                    refine lv_iconst (v := 0) hx hb dX8_forge_246 (by decide) ?_
                    refine lv_iconst (v := 3) hx hb dX8_forge_247 (by decide) ?_
                    obtain ⟨r_26, er_26, h⟩ := z_bd_some h
                    refine s_calli (As := [.int a1, .int (0 : Int32), .int (3 : Int32)]) (r := r_26) (n := 3) hc.s (mt_X8_in l a1 (0 : Int32) (3 : Int32) er_26) wM_X8_100 wT_X8_in wZ_X8 wC_X8_in md_X8_in ⟨rfl, rfl, Nat.le_of_ble_eq_true rfl, Nat.le_of_ble_eq_true rfl⟩ rfl hl.1 rfl (Nat.le_of_ble_eq_true rfl) dX8_forge_248 ⟨Nat.zero_le _, Nat.zero_le _⟩ ?_
                    refine lv_if_eq (tgt := 281) hx hb dX8_forge_251 (by decide) (fun c_251 => ?_) (fun c_251 => ?_)
                    · replace h := z_ip_ c_251 h
                      refine lv_aload_n hx hb dX8_forge_281 rfl (lv_at hl 2 rfl) ?_
                      refine lv_bipush (v := 12) hx hb dX8_forge_282 (by decide) ?_
                      obtain ⟨r_28, M_27, er_28, h⟩ := z_bd2_some h
                      refine m_calli (As := [.int (12 : Int32)]) (r := r_28) (M' := M_27) (n := 1) hc hP hS (mt_X8_refused l D cI cJ o H.size M (12 : Int32) er_28) wM_X8_118 wI_X8_refused wS_X8_refused wZ_X8 wC_X8_refused md_X8_refused ⟨rfl, rfl, Nat.le_of_ble_eq_true rfl, Nat.le_of_ble_eq_true rfl⟩ rfl hl.1 rfl (Nat.le_of_ble_eq_true rfl) dX8_forge_284 ⟨Nat.zero_le _, Nat.zero_le _⟩ (fun H locs hP hS => ?_)
                      cases h
                      rw [hQ]
                      exact m_reti hc hr hlocks hP hS hz dX8_forge_287
                    · replace h := z_in_ c_251 h
                      refine lv_iconst (v := 1) hx hb dX8_forge_254 (by decide) ?_
                      refine lv_iload_n hx hb dX8_forge_255 rfl (lv_at hl 4 rfl) ?_
                      refine lv_iadd hx hb dX8_forge_256 ?_
                      refine lv_aload_n hx hb dX8_forge_257 rfl (lv_at hl 2 rfl) ?_
                      refine m_get (k := 16) (v := .ref (o + 16)) hc hP (by decide) wF_X8_56 rfl dX8_forge_258 ?_
                      refine lv_iload hx hb dX8_forge_261 (lv_at hl 0 rfl) ?_
                      obtain ⟨c_263, h⟩ := z_chk_some h
                      refine m_iald (k := 16) (j := 16) hc hP (ma_16 ..) c_263 dX8_forge_263 ?_
                      refine lv_icmp_gt (tgt := 281) hx hb dX8_forge_264 (by decide) (fun c_264 => ?_) (fun c_264 => ?_)
                      · replace h := z_ip_ c_264 h
                        refine lv_aload_n hx hb dX8_forge_281 rfl (lv_at hl 2 rfl) ?_
                        refine lv_bipush (v := 12) hx hb dX8_forge_282 (by decide) ?_
                        obtain ⟨r_30, M_29, er_30, h⟩ := z_bd2_some h
                        refine m_calli (As := [.int (12 : Int32)]) (r := r_30) (M' := M_29) (n := 1) hc hP hS (mt_X8_refused l D cI cJ o H.size M (12 : Int32) er_30) wM_X8_118 wI_X8_refused wS_X8_refused wZ_X8 wC_X8_refused md_X8_refused ⟨rfl, rfl, Nat.le_of_ble_eq_true rfl, Nat.le_of_ble_eq_true rfl⟩ rfl hl.1 rfl (Nat.le_of_ble_eq_true rfl) dX8_forge_284 ⟨Nat.zero_le _, Nat.zero_le _⟩ (fun H locs hP hS => ?_)
                        cases h
                        rw [hQ]
                        exact m_reti hc hr hlocks hP hS hz dX8_forge_287
                      · replace h := z_in_ c_264 h
                        refine lv_aload_n hx hb dX8_forge_267 rfl (lv_at hl 2 rfl) ?_
                        refine lv_aload_n hx hb dX8_forge_268 rfl (lv_at hl 2 rfl) ?_
                        refine lv_iload hx hb dX8_forge_269 (lv_at hl 0 rfl) ?_
                        refine lv_iload_n hx hb dX8_forge_271 rfl (lv_at hl 4 rfl) ?_
                        obtain ⟨r_31, er_31, h⟩ := z_bd_some h
                        refine m_calli (As := [.int r_9, .int a1]) (r := r_31) (M' := M) (n := 2) hc hP hS (mt_X8_copied l D cI cJ o H.size M r_9 a1 er_31) wM_X8_297 wI_X8_copied wS_X8_copied wZ_X8 wC_X8_copied md_X8_copied ⟨rfl, rfl, Nat.le_of_ble_eq_true rfl, Nat.le_of_ble_eq_true rfl⟩ rfl hl.1 rfl (Nat.le_of_ble_eq_true rfl) dX8_forge_272 ⟨Nat.zero_le _, Nat.zero_le _⟩ (fun H locs hP hS => ?_)
                        obtain ⟨r_33, M_32, er_33, h⟩ := z_bd2_some h
                        refine m_calli (As := [.int r_31]) (r := r_33) (M' := M_32) (n := 1) hc hP hS (mt_X8_done l D cI cJ o H.size M r_31 er_33) wM_X8_130 wI_X8_done wS_X8_done wZ_X8 wC_X8_done md_X8_done ⟨rfl, rfl, Nat.le_of_ble_eq_true rfl, Nat.le_of_ble_eq_true rfl⟩ rfl hl.1 rfl (Nat.le_of_ble_eq_true rfl) dX8_forge_275 ⟨Nat.zero_le _, Nat.zero_le _⟩ (fun H locs hP hS => ?_)
                        refine lv_goto (tgt := 287) hx hb dX8_forge_278 (by decide) ?_
                        cases h
                        rw [hQ]
                        exact m_reti hc hr hlocks hP hS hz dX8_forge_287
                  · replace h := z_in_ c_233 h
                    refine lv_aload_n hx hb dX8_forge_236 rfl (lv_at hl 2 rfl) ?_
                    refine lv_bipush (v := 11) hx hb dX8_forge_237 (by decide) ?_
                    obtain ⟨r_35, M_34, er_35, h⟩ := z_bd2_some h
                    refine m_calli (As := [.int (11 : Int32)]) (r := r_35) (M' := M_34) (n := 1) hc hP hS (mt_X8_refused l D cI cJ o H.size M (11 : Int32) er_35) wM_X8_118 wI_X8_refused wS_X8_refused wZ_X8 wC_X8_refused md_X8_refused ⟨rfl, rfl, Nat.le_of_ble_eq_true rfl, Nat.le_of_ble_eq_true rfl⟩ rfl hl.1 rfl (Nat.le_of_ble_eq_true rfl) dX8_forge_239 ⟨Nat.zero_le _, Nat.zero_le _⟩ (fun H locs hP hS => ?_)
                    refine lv_goto (tgt := 287) hx hb dX8_forge_242 (by decide) ?_
                    cases h
                    rw [hQ]
                    exact m_reti hc hr hlocks hP hS hz dX8_forge_287
                · replace h := z_ip_ c_214 h
                  refine lv_aload_n hx hb dX8_forge_217 rfl (lv_at hl 2 rfl) ?_
                  refine lv_bipush (v := 10) hx hb dX8_forge_218 (by decide) ?_
                  obtain ⟨r_37, M_36, er_37, h⟩ := z_bd2_some h
                  refine m_calli (As := [.int (10 : Int32)]) (r := r_37) (M' := M_36) (n := 1) hc hP hS (mt_X8_refused l D cI cJ o H.size M (10 : Int32) er_37) wM_X8_118 wI_X8_refused wS_X8_refused wZ_X8 wC_X8_refused md_X8_refused ⟨rfl, rfl, Nat.le_of_ble_eq_true rfl, Nat.le_of_ble_eq_true rfl⟩ rfl hl.1 rfl (Nat.le_of_ble_eq_true rfl) dX8_forge_220 ⟨Nat.zero_le _, Nat.zero_le _⟩ (fun H locs hP hS => ?_)
                  refine lv_goto (tgt := 287) hx hb dX8_forge_223 (by decide) ?_
                  cases h
                  rw [hQ]
                  exact m_reti hc hr hlocks hP hS hz dX8_forge_287
              · replace h := z_in_ c_54_3 h
                by_cases c_54_4 : a0 = 4
                · replace h := z_ip_ c_54_4 h
                  refine lv_tableIn (off := 234) (tgt := 288) hx hb dX8_forge_54 (by rw [c_54_4]; decide) (by rw [c_54_4]; decide) (by rw [c_54_4]; rfl) (by decide) ?_
                  refine lv_aload_n hx hb dX8_forge_288 rfl (lv_at hl 2 rfl) ?_
                  refine lv_iload hx hb dX8_forge_289 (lv_at hl 1 rfl) ?_
                  obtain ⟨r_38, er_38, h⟩ := z_bd_some h
                  refine m_calli (As := [.int r_8]) (r := r_38) (M' := M) (n := 1) hc hP hS (mt_X8_isFit l D cI cJ o H.size M r_8 er_38) wM_X8_185 wI_X8_isFit wS_X8_isFit wZ_X8 wC_X8_isFit md_X8_isFit ⟨rfl, rfl, Nat.le_of_ble_eq_true rfl, Nat.le_of_ble_eq_true rfl⟩ rfl hl.1 rfl (Nat.le_of_ble_eq_true rfl) dX8_forge_291 ⟨Nat.zero_le _, Nat.zero_le _⟩ (fun H locs hP hS => ?_)
                  refine lv_if_ne (tgt := 305) hx hb dX8_forge_294 (by decide) (fun c_294 => ?_) (fun c_294 => ?_)
                  · replace h := z_in_ c_294 h
                    refine lv_aload_n hx hb dX8_forge_305 rfl (lv_at hl 2 rfl) ?_
                    refine lv_iload hx hb dX8_forge_306 (lv_at hl 1 rfl) ?_
                    obtain ⟨r_39, er_39, h⟩ := z_bd_some h
                    refine m_calli (As := [.int r_8]) (r := r_39) (M' := M) (n := 1) hc hP hS (mt_X8_isLine l D cI cJ o H.size M r_8 er_39) wM_X8_267 wI_X8_isLine wS_X8_isLine wZ_X8 wC_X8_isLine md_X8_isLine ⟨rfl, rfl, Nat.le_of_ble_eq_true rfl, Nat.le_of_ble_eq_true rfl⟩ rfl hl.1 rfl (Nat.le_of_ble_eq_true rfl) dX8_forge_308 ⟨Nat.zero_le _, Nat.zero_le _⟩ (fun H locs hP hS => ?_)
                    refine lv_if_eq (tgt := 328) hx hb dX8_forge_311 (by decide) (fun c_311 => ?_) (fun c_311 => ?_)
                    · replace h := z_ip_ c_311 h
                      refine lv_aload_n hx hb dX8_forge_328 rfl (lv_at hl 2 rfl) ?_
                      refine lv_bipush (v := 14) hx hb dX8_forge_329 (by decide) ?_
                      obtain ⟨r_41, M_40, er_41, h⟩ := z_bd2_some h
                      refine m_calli (As := [.int (14 : Int32)]) (r := r_41) (M' := M_40) (n := 1) hc hP hS (mt_X8_refused l D cI cJ o H.size M (14 : Int32) er_41) wM_X8_118 wI_X8_refused wS_X8_refused wZ_X8 wC_X8_refused md_X8_refused ⟨rfl, rfl, Nat.le_of_ble_eq_true rfl, Nat.le_of_ble_eq_true rfl⟩ rfl hl.1 rfl (Nat.le_of_ble_eq_true rfl) dX8_forge_331 ⟨Nat.zero_le _, Nat.zero_le _⟩ (fun H locs hP hS => ?_)
                      cases h
                      rw [hQ]
                      exact m_reti hc hr hlocks hP hS hz dX8_forge_334
                    · replace h := z_in_ c_311 h
                      refine lv_aload_n hx hb dX8_forge_314 rfl (lv_at hl 2 rfl) ?_
                      refine lv_aload_n hx hb dX8_forge_315 rfl (lv_at hl 2 rfl) ?_
                      refine m_get (k := 5) (v := .ref (o + 5)) hc hP (by decide) wF_X8_22 rfl dX8_forge_316 ?_
                      refine lv_iload hx hb dX8_forge_319 (lv_at hl 1 rfl) ?_
                      obtain ⟨c_321, h⟩ := z_chk_some h
                      refine m_iald (k := 5) (j := 5) hc hP (ma_5 ..) c_321 dX8_forge_321 ?_
                      obtain ⟨r_43, M_42, er_43, h⟩ := z_bd2_some h
                      refine m_calli (As := [.int (M.1 5 r_8.toNatClampNeg)]) (r := r_43) (M' := M_42) (n := 1) hc hP hS (mt_X8_done l D cI cJ o H.size M (M.1 5 r_8.toNatClampNeg) er_43) wM_X8_130 wI_X8_done wS_X8_done wZ_X8 wC_X8_done md_X8_done ⟨rfl, rfl, Nat.le_of_ble_eq_true rfl, Nat.le_of_ble_eq_true rfl⟩ rfl hl.1 rfl (Nat.le_of_ble_eq_true rfl) dX8_forge_322 ⟨Nat.zero_le _, Nat.zero_le _⟩ (fun H locs hP hS => ?_)
                      refine lv_goto (tgt := 334) hx hb dX8_forge_325 (by decide) ?_
                      cases h
                      rw [hQ]
                      exact m_reti hc hr hlocks hP hS hz dX8_forge_334
                  · replace h := z_ip_ c_294 h
                    refine lv_aload_n hx hb dX8_forge_297 rfl (lv_at hl 2 rfl) ?_
                    refine lv_iconst (v := 0) hx hb dX8_forge_298 (by decide) ?_
                    obtain ⟨r_45, M_44, er_45, h⟩ := z_bd2_some h
                    refine m_calli (As := [.int (0 : Int32)]) (r := r_45) (M' := M_44) (n := 1) hc hP hS (mt_X8_done l D cI cJ o H.size M (0 : Int32) er_45) wM_X8_130 wI_X8_done wS_X8_done wZ_X8 wC_X8_done md_X8_done ⟨rfl, rfl, Nat.le_of_ble_eq_true rfl, Nat.le_of_ble_eq_true rfl⟩ rfl hl.1 rfl (Nat.le_of_ble_eq_true rfl) dX8_forge_299 ⟨Nat.zero_le _, Nat.zero_le _⟩ (fun H locs hP hS => ?_)
                    refine lv_goto (tgt := 334) hx hb dX8_forge_302 (by decide) ?_
                    cases h
                    rw [hQ]
                    exact m_reti hc hr hlocks hP hS hz dX8_forge_334
                · replace h := z_in_ c_54_4 h
                  by_cases c_54_5 : a0 = 5
                  · replace h := z_ip_ c_54_5 h
                    refine lv_tableIn (off := 281) (tgt := 335) hx hb dX8_forge_54 (by rw [c_54_5]; decide) (by rw [c_54_5]; decide) (by rw [c_54_5]; rfl) (by decide) ?_
                    refine lv_iload_n hx hb dX8_forge_335 rfl (lv_at hl 4 rfl) ?_
                    refine lv_if_ne (tgt := 348) hx hb dX8_forge_336 (by decide) (fun c_336 => ?_) (fun c_336 => ?_)
                    · replace h := z_in_ c_336 h
                      refine lv_aload_n hx hb dX8_forge_348 rfl (lv_at hl 2 rfl) ?_
                      refine lv_sipush (v := 1000) hx hb dX8_forge_349 (by decide) ?_
                      refine lv_iload_n hx hb dX8_forge_352 rfl (lv_at hl 4 rfl) ?_
                      obtain ⟨c_353, h⟩ := z_chk_some h
                      refine lv_idiv hx hb dX8_forge_353 c_353 ?_
                      obtain ⟨r_47, M_46, er_47, h⟩ := z_bd2_some h
                      refine m_calli (As := [.int ((1000 : Int32) / a1)]) (r := r_47) (M' := M_46) (n := 1) hc hP hS (mt_X8_done l D cI cJ o H.size M ((1000 : Int32) / a1) er_47) wM_X8_130 wI_X8_done wS_X8_done wZ_X8 wC_X8_done md_X8_done ⟨rfl, rfl, Nat.le_of_ble_eq_true rfl, Nat.le_of_ble_eq_true rfl⟩ rfl hl.1 rfl (Nat.le_of_ble_eq_true rfl) dX8_forge_354 ⟨Nat.zero_le _, Nat.zero_le _⟩ (fun H locs hP hS => ?_)
                      cases h
                      rw [hQ]
                      exact m_reti hc hr hlocks hP hS hz dX8_forge_357
                    · replace h := z_ip_ c_336 h
                      refine lv_aload_n hx hb dX8_forge_339 rfl (lv_at hl 2 rfl) ?_
                      refine lv_bipush (v := 15) hx hb dX8_forge_340 (by decide) ?_
                      obtain ⟨r_49, M_48, er_49, h⟩ := z_bd2_some h
                      refine m_calli (As := [.int (15 : Int32)]) (r := r_49) (M' := M_48) (n := 1) hc hP hS (mt_X8_refused l D cI cJ o H.size M (15 : Int32) er_49) wM_X8_118 wI_X8_refused wS_X8_refused wZ_X8 wC_X8_refused md_X8_refused ⟨rfl, rfl, Nat.le_of_ble_eq_true rfl, Nat.le_of_ble_eq_true rfl⟩ rfl hl.1 rfl (Nat.le_of_ble_eq_true rfl) dX8_forge_342 ⟨Nat.zero_le _, Nat.zero_le _⟩ (fun H locs hP hS => ?_)
                      refine lv_goto (tgt := 357) hx hb dX8_forge_345 (by decide) ?_
                      cases h
                      rw [hQ]
                      exact m_reti hc hr hlocks hP hS hz dX8_forge_357
                  · replace h := z_in_ c_54_5 h
                    refine lv_tableOut (tgt := 358) hx hb dX8_forge_54 (z_out_0_5 c_54_0 c_54_1 c_54_2 c_54_3 c_54_4 c_54_5) (by decide) ?_
                    refine lv_iload_n hx hb dX8_forge_358 rfl (lv_at hl 4 rfl) ?_
                    refine lv_iconst (v := 1) hx hb dX8_forge_359 (by decide) ?_
                    refine lv_iand hx hb dX8_forge_360 ?_
                    refine lv_if_ne (tgt := 373) hx hb dX8_forge_361 (by decide) (fun c_361 => ?_) (fun c_361 => ?_)
                    · replace h := z_in_ c_361 h
                      refine lv_aload_n hx hb dX8_forge_373 rfl (lv_at hl 2 rfl) ?_
                      refine lv_iconst (v := 1) hx hb dX8_forge_374 (by decide) ?_
                      obtain ⟨r_51, M_50, er_51, h⟩ := z_bd2_some h
                      refine m_calli (As := [.int (1 : Int32)]) (r := r_51) (M' := M_50) (n := 1) hc hP hS (mt_X8_done l D cI cJ o H.size M (1 : Int32) er_51) wM_X8_130 wI_X8_done wS_X8_done wZ_X8 wC_X8_done md_X8_done ⟨rfl, rfl, Nat.le_of_ble_eq_true rfl, Nat.le_of_ble_eq_true rfl⟩ rfl hl.1 rfl (Nat.le_of_ble_eq_true rfl) dX8_forge_375 ⟨Nat.zero_le _, Nat.zero_le _⟩ (fun H locs hP hS => ?_)
                      cases h
                      rw [hQ]
                      exact m_reti hc hr hlocks hP hS hz dX8_forge_378
                    · replace h := z_ip_ c_361 h
                      refine lv_aload_n hx hb dX8_forge_364 rfl (lv_at hl 2 rfl) ?_
                      refine lv_bipush (v := 10) hx hb dX8_forge_365 (by decide) ?_
                      obtain ⟨r_53, M_52, er_53, h⟩ := z_bd2_some h
                      refine m_calli (As := [.int (10 : Int32)]) (r := r_53) (M' := M_52) (n := 1) hc hP hS (mt_X8_refused l D cI cJ o H.size M (10 : Int32) er_53) wM_X8_118 wI_X8_refused wS_X8_refused wZ_X8 wC_X8_refused md_X8_refused ⟨rfl, rfl, Nat.le_of_ble_eq_true rfl, Nat.le_of_ble_eq_true rfl⟩ rfl hl.1 rfl (Nat.le_of_ble_eq_true rfl) dX8_forge_367 ⟨Nat.zero_le _, Nat.zero_le _⟩ (fun H locs hP hS => ?_)
                      refine lv_goto (tgt := 378) hx hb dX8_forge_370 (by decide) ?_
                      cases h
                      rw [hQ]
                      exact m_reti hc hr hlocks hP hS hz dX8_forge_378
      · replace h := z_ip_ c_29 h
        refine lv_aload_n hx hb dX8_forge_32 rfl (lv_at hl 0 rfl) ?_
        refine lv_iconst (v := 1) hx hb dX8_forge_33 (by decide) ?_
        obtain ⟨r_55, M_54, er_55, h⟩ := z_bd2_some h
        refine m_calli (As := [.int (1 : Int32)]) (r := r_55) (M' := M_54) (n := 1) hc hP hS (mt_X8_refused l D cI cJ o H.size M (1 : Int32) er_55) wM_X8_118 wI_X8_refused wS_X8_refused wZ_X8 wC_X8_refused md_X8_refused ⟨rfl, rfl, Nat.le_of_ble_eq_true rfl, Nat.le_of_ble_eq_true rfl⟩ rfl hl.1 rfl (Nat.le_of_ble_eq_true rfl) dX8_forge_34 ⟨Nat.zero_le _, Nat.zero_le _⟩ (fun H locs hP hS => ?_)
        cases h
        rw [hQ]
        exact m_reti hc hr hlocks hP hS hz dX8_forge_37
theorem md_X8_forge : yX8_forge.cls ≠ "java/lang/invoke/MethodHandle" ∧ yX8_forge.cls ≠ "java/lang/invoke/VarHandle" ∧ (parseMethodDescriptor yX8_forge.desc).map (fun d => d.parameters.length) = some 3 := by decide +kernel
noncomputable def f_X8_status (M : MS)  : Option (Int32) :=
  some (M.1 18 0)
set_option maxHeartbeats 4000000 in
set_option maxRecDepth 100000 in
theorem mt_X8_status (l : Launch) (D : va_G) (cI cJ : ClassId) (o sz : Nat) (M : MS)  {r_ : Int32} (h : f_X8_status M  = some r_) : Met l yX8_status (z_wd yX8_status cX8_status 1 (some .int)) (z_rm 0 0) (va_Pc [.ref o] (m_C D cI cJ o sz M)) (va_Qi (fun (r1 : Int32) (M1 : MS) => r1 = r_ ∧ M1 = M) (m_C D cI cJ o sz) (m_A o)) 0 0 (m_A o) := by
  refine Met.ofW (cc := cX8_status) (maxL := 1) (ret := (some .int)) (by decide) rfl ?_
  intro p e s m args below meth c s₁ B hml hv
  obtain ⟨hav, hz, hP0, hK⟩ := hv
  have hx := B.exec
  have hb := B.bytes
  have hr := B.returns
  have hts := atoms_spec (ws := z_wd yX8_status cX8_status 1 (some .int)) B.pre
  have hown : s.vm.findClass RX8 = some m.cls := findClass_of_methodNamed B.named
  have hlocks := B.notSynchronized
  have hc : m_X p s m args c cX8_status 1 D cI cJ := ⟨hx, hb, hml, fun w hw => hts w (List.mem_cons_of_mem _ hw), hown, hK⟩
  have hl := lv_entry ([.ref o]) (n := 1) (Nat.le_of_ble_eq_true rfl)
  have hE : entryFrame m args 1 = F0 m 0 ((lg_sl ([.ref o]) ++ List.replicate (1 - (lg_sl ([.ref o])).length) Slot.unset).toArray) [] := by rw [hav]; exact lg_entry_eq m _ _
  rw [hE]
  clear hE hav
  generalize (lg_sl ([.ref o]) ++ List.replicate (1 - (lg_sl ([.ref o])).length) Slot.unset).toArray = ls at hl ⊢
  have hl : lv_has ls 1 [(0, .ref o)] := hl
  obtain ⟨Q, hQ⟩ : ∃ Q, Q = MQ below (va_Qi (fun (r1 : Int32) (M1 : MS) => r1 = r_ ∧ M1 = M) (m_C D cI cJ o sz) (m_A o)) args s 0 0 (m_A o) := ⟨_, rfl⟩
  rw [← hQ]
  suffices hmain : ∀ (H : Heap) (locs : List Loc), va_P D z_cls (m_W cI cJ o M) H → va_S (m_A o) s.heap H locs → W p l e (z_rm 0 0) s m args below meth c H locs 0 0 Q (F0 m 0 ls []) from hmain s.heap [] hP0 va_S.rf
  clear hP0
  intro H locs hP hS
  unfold f_X8_status at h
  refine lv_aload_n hx hb dX8_status_0 rfl (lv_at hl 0 rfl) ?_
  refine m_get (k := 18) (v := .int (M.1 18 0)) hc hP (by decide) wF_X8_93 rfl dX8_status_1 ?_
  cases h
  rw [hQ]
  exact m_reti hc hr hlocks hP hS hz dX8_status_4
theorem md_X8_status : yX8_status.cls ≠ "java/lang/invoke/MethodHandle" ∧ yX8_status.cls ≠ "java/lang/invoke/VarHandle" ∧ (parseMethodDescriptor yX8_status.desc).map (fun d => d.parameters.length) = some 0 := by decide +kernel
