noncomputable def f_X8_number_ (M : MS) (a0 : Int32) (a1 : Int32) (a2 : Int32) (a3 : Int32) : Option (Int64) :=
  z_bd (f_X8_isFit M a0) fun r_1 => if r_1 = 0 then some (-1000000000000 : Int64) else z_bd (f_X8_in a2 (0 : Int32) (2 : Int32)) fun r_2 => if r_2 = 0 then some (-1000000000000 : Int64) else z_bd (f_X8_in a3 (0 : Int32) (1 : Int32)) fun r_3 => if r_3 = 0 then some (-1000000000000 : Int64) else z_chk (z_in a0 10) (if (M.1 5 a0.toNatClampNeg) = (4 : Int32) then z_chk (z_in a0 10) (z_bd (f_X8_in a1 (0 : Int32) ((M.1 11 a0.toNatClampNeg) - (1 : Int32))) fun r_5 => if r_5 = 0 then some (-1000000000000 : Int64) else z_chk (z_in a0 10) (z_bd (if (M.1 5 a0.toNatClampNeg) = (4 : Int32) then some (((3 : Int32) * a1)) else some ((0 : Int32))) fun v_6 => if a3 = 0 then z_chk (z_in ((((36 : Int32) * a0) + v_6) + a2) 360) (some (M.2 13 ((((36 : Int32) * a0) + v_6) + a2).toNatClampNeg)) else z_chk (z_in ((((36 : Int32) * a0) + v_6) + a2) 360) (some (M.2 14 ((((36 : Int32) * a0) + v_6) + a2).toNatClampNeg)))) else z_chk (z_in a0 10) (z_bd (if (M.1 5 a0.toNatClampNeg) = (4 : Int32) then some (((3 : Int32) * a1)) else some ((0 : Int32))) fun v_4 => if a3 = 0 then z_chk (z_in ((((36 : Int32) * a0) + v_4) + a2) 360) (some (M.2 13 ((((36 : Int32) * a0) + v_4) + a2).toNatClampNeg)) else z_chk (z_in ((((36 : Int32) * a0) + v_4) + a2) 360) (some (M.2 14 ((((36 : Int32) * a0) + v_4) + a2).toNatClampNeg))))
set_option maxHeartbeats 4000000 in
set_option maxRecDepth 100000 in
theorem mt_X8_number_ (l : Launch) (D : va_G) (cI cJ : ClassId) (o sz : Nat) (M : MS) (a0 : Int32) (a1 : Int32) (a2 : Int32) (a3 : Int32) {r_ : Int64} (h : f_X8_number_ M a0 a1 a2 a3 = some r_) : Met l yX8_number_ (z_wd yX8_number_ cX8_number_ 6 (some .long)) (z_rm 2 75) (va_Pc [.ref o, .int a0, .int a1, .int a2, .int a3] (m_C D cI cJ o sz M)) (va_Ql (fun (r1 : Int64) (M1 : MS) => r1 = r_ ∧ M1 = M) (m_C D cI cJ o sz) (m_A o)) 0 0 (m_A o) := by
  refine Met.ofW (cc := cX8_number_) (maxL := 6) (ret := (some .long)) (by decide) rfl ?_
  intro p e s m args below meth c s₁ B hml hv
  obtain ⟨hav, hz, hP0, hK⟩ := hv
  have hx := B.exec
  have hb := B.bytes
  have hr := B.returns
  have hts := atoms_spec (ws := z_wd yX8_number_ cX8_number_ 6 (some .long)) B.pre
  have hown : s.vm.findClass RX8 = some m.cls := findClass_of_methodNamed B.named
  have hlocks := B.notSynchronized
  have hc : m_X p s m args c cX8_number_ 6 D cI cJ := ⟨hx, hb, hml, fun w hw => hts w (List.mem_cons_of_mem _ hw), hown, hK⟩
  have hl := lv_entry ([.ref o, .int a0, .int a1, .int a2, .int a3]) (n := 6) (Nat.le_of_ble_eq_true rfl)
  have hE : entryFrame m args 6 = F0 m 0 ((lg_sl ([.ref o, .int a0, .int a1, .int a2, .int a3]) ++ List.replicate (6 - (lg_sl ([.ref o, .int a0, .int a1, .int a2, .int a3])).length) Slot.unset).toArray) [] := by rw [hav]; exact lg_entry_eq m _ _
  rw [hE]
  clear hE hav
  generalize (lg_sl ([.ref o, .int a0, .int a1, .int a2, .int a3]) ++ List.replicate (6 - (lg_sl ([.ref o, .int a0, .int a1, .int a2, .int a3])).length) Slot.unset).toArray = ls at hl ⊢
  have hl : lv_has ls 6 [(0, .ref o), (1, .int a0), (2, .int a1), (3, .int a2), (4, .int a3)] := hl
  obtain ⟨Q, hQ⟩ : ∃ Q, Q = MQ below (va_Ql (fun (r1 : Int64) (M1 : MS) => r1 = r_ ∧ M1 = M) (m_C D cI cJ o sz) (m_A o)) args s 0 0 (m_A o) := ⟨_, rfl⟩
  rw [← hQ]
  suffices hmain : ∀ (H : Heap) (locs : List Loc), va_P D z_cls (m_W cI cJ o M) H → va_S (m_A o) s.heap H locs → W p l e (z_rm 2 75) s m args below meth c H locs 0 0 Q (F0 m 0 ls []) from hmain s.heap [] hP0 va_S.rf
  clear hP0
  intro H locs hP hS
  unfold f_X8_number_ at h
  refine lv_aload_n hx hb dX8_number__0 rfl (lv_at hl 0 rfl) ?_
  refine lv_iload_n hx hb dX8_number__1 rfl (lv_at hl 1 rfl) ?_
  obtain ⟨r_1, er_1, h⟩ := z_bd_some h
  refine m_calli (As := [.int a0]) (r := r_1) (M' := M) (n := 1) hc hP hS (mt_X8_isFit l D cI cJ o H.size M a0 er_1) wM_X8_185 wI_X8_isFit wS_X8_isFit wZ_X8 wC_X8_isFit md_X8_isFit ⟨rfl, rfl, Nat.le_of_ble_eq_true rfl, Nat.le_of_ble_eq_true rfl⟩ rfl hl.1 rfl (Nat.le_of_ble_eq_true rfl) dX8_number__2 ⟨Nat.zero_le _, Nat.zero_le _⟩ (fun H locs hP hS => ?_)
  refine lv_if_eq (tgt := 53) hx hb dX8_number__5 (by decide) (fun c_5 => ?_) (fun c_5 => ?_)
  · replace h := z_ip_ c_5 h
    refine lv_ldc2 (v := -1000000000000) hx hb hc.s.2.2.2.2 (hc.s.2.2.2.1 _ wL_X8_220) dX8_number__53 ?_
    cases h
    rw [hQ]
    exact m_retl hc hr hlocks hP hS hz dX8_number__56
  · replace h := z_in_ c_5 h
    refine lv_iload_n hx hb dX8_number__8 rfl (lv_at hl 3 rfl) ?_
    refine lv_iconst (v := 0) hx hb dX8_number__9 (by decide) ?_
    refine lv_iconst (v := 2) hx hb dX8_number__10 (by decide) ?_
    obtain ⟨r_2, er_2, h⟩ := z_bd_some h
    refine s_calli (As := [.int a2, .int (0 : Int32), .int (2 : Int32)]) (r := r_2) (n := 3) hc.s (mt_X8_in l a2 (0 : Int32) (2 : Int32) er_2) wM_X8_100 wT_X8_in wZ_X8 wC_X8_in md_X8_in ⟨rfl, rfl, Nat.le_of_ble_eq_true rfl, Nat.le_of_ble_eq_true rfl⟩ rfl hl.1 rfl (Nat.le_of_ble_eq_true rfl) dX8_number__11 ⟨Nat.zero_le _, Nat.zero_le _⟩ ?_
    refine lv_if_eq (tgt := 53) hx hb dX8_number__14 (by decide) (fun c_14 => ?_) (fun c_14 => ?_)
    · replace h := z_ip_ c_14 h
      refine lv_ldc2 (v := -1000000000000) hx hb hc.s.2.2.2.2 (hc.s.2.2.2.1 _ wL_X8_220) dX8_number__53 ?_
      cases h
      rw [hQ]
      exact m_retl hc hr hlocks hP hS hz dX8_number__56
    · replace h := z_in_ c_14 h
      refine lv_iload hx hb dX8_number__17 (lv_at hl 4 rfl) ?_
      refine lv_iconst (v := 0) hx hb dX8_number__19 (by decide) ?_
      refine lv_iconst (v := 1) hx hb dX8_number__20 (by decide) ?_
      obtain ⟨r_3, er_3, h⟩ := z_bd_some h
      refine s_calli (As := [.int a3, .int (0 : Int32), .int (1 : Int32)]) (r := r_3) (n := 3) hc.s (mt_X8_in l a3 (0 : Int32) (1 : Int32) er_3) wM_X8_100 wT_X8_in wZ_X8 wC_X8_in md_X8_in ⟨rfl, rfl, Nat.le_of_ble_eq_true rfl, Nat.le_of_ble_eq_true rfl⟩ rfl hl.1 rfl (Nat.le_of_ble_eq_true rfl) dX8_number__21 ⟨Nat.zero_le _, Nat.zero_le _⟩ ?_
      refine lv_if_eq (tgt := 53) hx hb dX8_number__24 (by decide) (fun c_24 => ?_) (fun c_24 => ?_)
      · replace h := z_ip_ c_24 h
        refine lv_ldc2 (v := -1000000000000) hx hb hc.s.2.2.2.2 (hc.s.2.2.2.1 _ wL_X8_220) dX8_number__53 ?_
        cases h
        rw [hQ]
        exact m_retl hc hr hlocks hP hS hz dX8_number__56
      · replace h := z_in_ c_24 h
        refine lv_aload_n hx hb dX8_number__27 rfl (lv_at hl 0 rfl) ?_
        refine m_get (k := 5) (v := .ref (o + 5)) hc hP (by decide) wF_X8_22 rfl dX8_number__28 ?_
        refine lv_iload_n hx hb dX8_number__31 rfl (lv_at hl 1 rfl) ?_
        obtain ⟨c_32, h⟩ := z_chk_some h
        refine m_iald (k := 5) (j := 5) hc hP (ma_5 ..) c_32 dX8_number__32 ?_
        refine lv_iconst (v := 4) hx hb dX8_number__33 (by decide) ?_
        refine lv_icmp_ne (tgt := 57) hx hb dX8_number__34 (by decide) (fun c_34 => ?_) (fun c_34 => ?_)
        · replace h := z_in_ c_34 h
          refine lv_bipush (v := 36) hx hb dX8_number__57 (by decide) ?_
          refine lv_iload_n hx hb dX8_number__59 rfl (lv_at hl 1 rfl) ?_
          refine lv_imul hx hb dX8_number__60 ?_
          refine lv_aload_n hx hb dX8_number__61 rfl (lv_at hl 0 rfl) ?_
          refine m_get (k := 5) (v := .ref (o + 5)) hc hP (by decide) wF_X8_22 rfl dX8_number__62 ?_
          refine lv_iload_n hx hb dX8_number__65 rfl (lv_at hl 1 rfl) ?_
          obtain ⟨c_66, h⟩ := z_chk_some h
          refine m_iald (k := 5) (j := 5) hc hP (ma_5 ..) c_66 dX8_number__66 ?_
          refine lv_iconst (v := 4) hx hb dX8_number__67 (by decide) ?_
          obtain ⟨v_4, hJ, h⟩ := z_bd_some h
          have J_78 : ∀ (H : Heap) (locs : List Loc) (ls : Array Slot), va_P D z_cls (m_W cI cJ o M) H → va_S (m_A o) s.heap H locs → lv_has ls 6 [(0, .ref o), (3, .int a2), (4, .int a3)] → W p l e (z_rm 2 75) s m args below meth c H locs 0 0 Q (F0 m 78 ls [.int v_4, .int ((36 : Int32) * a0)]) := by
            intro H locs ls hP hS hl
            refine lv_iadd hx hb dX8_number__78 ?_
            refine lv_iload_n hx hb dX8_number__79 rfl (lv_at hl 1 rfl) ?_
            refine lv_iadd hx hb dX8_number__80 ?_
            refine lv_istore (lv' := [(5, .int ((((36 : Int32) * a0) + v_4) + a2)), (0, .ref o), (3, .int a2), (4, .int a3)]) hx hb dX8_number__81 hl (by decide) rfl (fun ls hl => ?_)
            refine lv_iload hx hb dX8_number__83 (lv_at hl 3 rfl) ?_
            refine lv_if_ne (tgt := 98) hx hb dX8_number__85 (by decide) (fun c_85 => ?_) (fun c_85 => ?_)
            · replace h := z_in_ c_85 h
              refine lv_aload_n hx hb dX8_number__98 rfl (lv_at hl 1 rfl) ?_
              refine m_get (k := 14) (v := .ref (o + 14)) hc hP (by decide) wF_X8_50 rfl dX8_number__99 ?_
              refine lv_iload hx hb dX8_number__102 (lv_at hl 0 rfl) ?_
              obtain ⟨c_104, h⟩ := z_chk_some h
              refine m_lald (k := 14) (j := 14) hc hP (ma_14 ..) c_104 dX8_number__104 ?_
              cases h
              rw [hQ]
              exact m_retl hc hr hlocks hP hS hz dX8_number__105
            · replace h := z_ip_ c_85 h
              refine lv_aload_n hx hb dX8_number__88 rfl (lv_at hl 1 rfl) ?_
              refine m_get (k := 13) (v := .ref (o + 13)) hc hP (by decide) wF_X8_46 rfl dX8_number__89 ?_
              refine lv_iload hx hb dX8_number__92 (lv_at hl 0 rfl) ?_
              obtain ⟨c_94, h⟩ := z_chk_some h
              refine m_lald (k := 13) (j := 13) hc hP (ma_13 ..) c_94 dX8_number__94 ?_
              refine lv_goto (tgt := 105) hx hb dX8_number__95 (by decide) ?_
              cases h
              rw [hQ]
              exact m_retl hc hr hlocks hP hS hz dX8_number__105
          clear h
          have h := hJ
          clear hJ
          refine lv_icmp_ne (tgt := 77) hx hb dX8_number__68 (by decide) (fun c_68 => ?_) (fun c_68 => ?_)
          · replace h := z_in_ c_68 h
            refine lv_iconst (v := 0) hx hb dX8_number__77 (by decide) ?_
            cases h
            exact J_78 H locs ls hP hS (lv_sub hl [0, 3, 4] rfl)
          · replace h := z_ip_ c_68 h
            refine lv_iconst (v := 3) hx hb dX8_number__71 (by decide) ?_
            refine lv_iload_n hx hb dX8_number__72 rfl (lv_at hl 2 rfl) ?_
            refine lv_imul hx hb dX8_number__73 ?_
            refine lv_goto (tgt := 78) hx hb dX8_number__74 (by decide) ?_
            cases h
            exact J_78 H locs ls hP hS (lv_sub hl [0, 3, 4] rfl)
        · replace h := z_ip_ c_34 h
          refine lv_iload_n hx hb dX8_number__37 rfl (lv_at hl 2 rfl) ?_
          refine lv_iconst (v := 0) hx hb dX8_number__38 (by decide) ?_
          refine lv_aload_n hx hb dX8_number__39 rfl (lv_at hl 0 rfl) ?_
          refine m_get (k := 11) (v := .ref (o + 11)) hc hP (by decide) wF_X8_40 rfl dX8_number__40 ?_
          refine lv_iload_n hx hb dX8_number__43 rfl (lv_at hl 1 rfl) ?_
          obtain ⟨c_44, h⟩ := z_chk_some h
          refine m_iald (k := 11) (j := 11) hc hP (ma_11 ..) c_44 dX8_number__44 ?_
          refine lv_iconst (v := 1) hx hb dX8_number__45 (by decide) ?_
          refine lv_isub hx hb dX8_number__46 ?_
          obtain ⟨r_5, er_5, h⟩ := z_bd_some h
          refine s_calli (As := [.int a1, .int (0 : Int32), .int ((M.1 11 a0.toNatClampNeg) - (1 : Int32))]) (r := r_5) (n := 3) hc.s (mt_X8_in l a1 (0 : Int32) ((M.1 11 a0.toNatClampNeg) - (1 : Int32)) er_5) wM_X8_100 wT_X8_in wZ_X8 wC_X8_in md_X8_in ⟨rfl, rfl, Nat.le_of_ble_eq_true rfl, Nat.le_of_ble_eq_true rfl⟩ rfl hl.1 rfl (Nat.le_of_ble_eq_true rfl) dX8_number__47 ⟨Nat.zero_le _, Nat.zero_le _⟩ ?_
          refine lv_if_ne (tgt := 57) hx hb dX8_number__50 (by decide) (fun c_50 => ?_) (fun c_50 => ?_)
          · replace h := z_in_ c_50 h
            refine lv_bipush (v := 36) hx hb dX8_number__57 (by decide) ?_
            refine lv_iload_n hx hb dX8_number__59 rfl (lv_at hl 1 rfl) ?_
            refine lv_imul hx hb dX8_number__60 ?_
            refine lv_aload_n hx hb dX8_number__61 rfl (lv_at hl 0 rfl) ?_
            refine m_get (k := 5) (v := .ref (o + 5)) hc hP (by decide) wF_X8_22 rfl dX8_number__62 ?_
            refine lv_iload_n hx hb dX8_number__65 rfl (lv_at hl 1 rfl) ?_
            obtain ⟨c_66, h⟩ := z_chk_some h
            refine m_iald (k := 5) (j := 5) hc hP (ma_5 ..) c_66 dX8_number__66 ?_
            refine lv_iconst (v := 4) hx hb dX8_number__67 (by decide) ?_
            obtain ⟨v_6, hJ, h⟩ := z_bd_some h
            have J_78 : ∀ (H : Heap) (locs : List Loc) (ls : Array Slot), va_P D z_cls (m_W cI cJ o M) H → va_S (m_A o) s.heap H locs → lv_has ls 6 [(0, .ref o), (3, .int a2), (4, .int a3)] → W p l e (z_rm 2 75) s m args below meth c H locs 0 0 Q (F0 m 78 ls [.int v_6, .int ((36 : Int32) * a0)]) := by
              intro H locs ls hP hS hl
              refine lv_iadd hx hb dX8_number__78 ?_
              refine lv_iload_n hx hb dX8_number__79 rfl (lv_at hl 1 rfl) ?_
              refine lv_iadd hx hb dX8_number__80 ?_
              refine lv_istore (lv' := [(5, .int ((((36 : Int32) * a0) + v_6) + a2)), (0, .ref o), (3, .int a2), (4, .int a3)]) hx hb dX8_number__81 hl (by decide) rfl (fun ls hl => ?_)
              refine lv_iload hx hb dX8_number__83 (lv_at hl 3 rfl) ?_
              refine lv_if_ne (tgt := 98) hx hb dX8_number__85 (by decide) (fun c_85 => ?_) (fun c_85 => ?_)
              · replace h := z_in_ c_85 h
                refine lv_aload_n hx hb dX8_number__98 rfl (lv_at hl 1 rfl) ?_
                refine m_get (k := 14) (v := .ref (o + 14)) hc hP (by decide) wF_X8_50 rfl dX8_number__99 ?_
                refine lv_iload hx hb dX8_number__102 (lv_at hl 0 rfl) ?_
                obtain ⟨c_104, h⟩ := z_chk_some h
                refine m_lald (k := 14) (j := 14) hc hP (ma_14 ..) c_104 dX8_number__104 ?_
                cases h
                rw [hQ]
                exact m_retl hc hr hlocks hP hS hz dX8_number__105
              · replace h := z_ip_ c_85 h
                refine lv_aload_n hx hb dX8_number__88 rfl (lv_at hl 1 rfl) ?_
                refine m_get (k := 13) (v := .ref (o + 13)) hc hP (by decide) wF_X8_46 rfl dX8_number__89 ?_
                refine lv_iload hx hb dX8_number__92 (lv_at hl 0 rfl) ?_
                obtain ⟨c_94, h⟩ := z_chk_some h
                refine m_lald (k := 13) (j := 13) hc hP (ma_13 ..) c_94 dX8_number__94 ?_
                refine lv_goto (tgt := 105) hx hb dX8_number__95 (by decide) ?_
                cases h
                rw [hQ]
                exact m_retl hc hr hlocks hP hS hz dX8_number__105
            clear h
            have h := hJ
            clear hJ
            refine lv_icmp_ne (tgt := 77) hx hb dX8_number__68 (by decide) (fun c_68 => ?_) (fun c_68 => ?_)
            · replace h := z_in_ c_68 h
              refine lv_iconst (v := 0) hx hb dX8_number__77 (by decide) ?_
              cases h
              exact J_78 H locs ls hP hS (lv_sub hl [0, 3, 4] rfl)
            · replace h := z_ip_ c_68 h
              refine lv_iconst (v := 3) hx hb dX8_number__71 (by decide) ?_
              refine lv_iload_n hx hb dX8_number__72 rfl (lv_at hl 2 rfl) ?_
              refine lv_imul hx hb dX8_number__73 ?_
              refine lv_goto (tgt := 78) hx hb dX8_number__74 (by decide) ?_
              cases h
              exact J_78 H locs ls hP hS (lv_sub hl [0, 3, 4] rfl)
          · replace h := z_ip_ c_50 h
            refine lv_ldc2 (v := -1000000000000) hx hb hc.s.2.2.2.2 (hc.s.2.2.2.1 _ wL_X8_220) dX8_number__53 ?_
            cases h
            rw [hQ]
            exact m_retl hc hr hlocks hP hS hz dX8_number__56
theorem md_X8_number_ : yX8_number_.cls ≠ "java/lang/invoke/MethodHandle" ∧ yX8_number_.cls ≠ "java/lang/invoke/VarHandle" ∧ (parseMethodDescriptor yX8_number_.desc).map (fun d => d.parameters.length) = some 4 := by decide +kernel
noncomputable def f_X8_told_ (M : MS) (a0 : Int32) : Option (Int64) :=
  if a0 = 0 then some (M.2 21 0) else some (M.2 22 0)
set_option maxHeartbeats 4000000 in
set_option maxRecDepth 100000 in
theorem mt_X8_told_ (l : Launch) (D : va_G) (cI cJ : ClassId) (o sz : Nat) (M : MS) (a0 : Int32) {r_ : Int64} (h : f_X8_told_ M a0 = some r_) : Met l yX8_told_ (z_wd yX8_told_ cX8_told_ 2 (some .long)) (z_rm 0 0) (va_Pc [.ref o, .int a0] (m_C D cI cJ o sz M)) (va_Ql (fun (r1 : Int64) (M1 : MS) => r1 = r_ ∧ M1 = M) (m_C D cI cJ o sz) (m_A o)) 0 0 (m_A o) := by
  refine Met.ofW (cc := cX8_told_) (maxL := 2) (ret := (some .long)) (by decide) rfl ?_
  intro p e s m args below meth c s₁ B hml hv
  obtain ⟨hav, hz, hP0, hK⟩ := hv
  have hx := B.exec
  have hb := B.bytes
  have hr := B.returns
  have hts := atoms_spec (ws := z_wd yX8_told_ cX8_told_ 2 (some .long)) B.pre
  have hown : s.vm.findClass RX8 = some m.cls := findClass_of_methodNamed B.named
  have hlocks := B.notSynchronized
  have hc : m_X p s m args c cX8_told_ 2 D cI cJ := ⟨hx, hb, hml, fun w hw => hts w (List.mem_cons_of_mem _ hw), hown, hK⟩
  have hl := lv_entry ([.ref o, .int a0]) (n := 2) (Nat.le_of_ble_eq_true rfl)
  have hE : entryFrame m args 2 = F0 m 0 ((lg_sl ([.ref o, .int a0]) ++ List.replicate (2 - (lg_sl ([.ref o, .int a0])).length) Slot.unset).toArray) [] := by rw [hav]; exact lg_entry_eq m _ _
  rw [hE]
  clear hE hav
  generalize (lg_sl ([.ref o, .int a0]) ++ List.replicate (2 - (lg_sl ([.ref o, .int a0])).length) Slot.unset).toArray = ls at hl ⊢
  have hl : lv_has ls 2 [(0, .ref o), (1, .int a0)] := hl
  obtain ⟨Q, hQ⟩ : ∃ Q, Q = MQ below (va_Ql (fun (r1 : Int64) (M1 : MS) => r1 = r_ ∧ M1 = M) (m_C D cI cJ o sz) (m_A o)) args s 0 0 (m_A o) := ⟨_, rfl⟩
  rw [← hQ]
  suffices hmain : ∀ (H : Heap) (locs : List Loc), va_P D z_cls (m_W cI cJ o M) H → va_S (m_A o) s.heap H locs → W p l e (z_rm 0 0) s m args below meth c H locs 0 0 Q (F0 m 0 ls []) from hmain s.heap [] hP0 va_S.rf
  clear hP0
  intro H locs hP hS
  unfold f_X8_told_ at h
  refine lv_iload_n hx hb dX8_told__0 rfl (lv_at hl 1 rfl) ?_
  refine lv_if_ne (tgt := 11) hx hb dX8_told__1 (by decide) (fun c_1 => ?_) (fun c_1 => ?_)
  · replace h := z_in_ c_1 h
    refine lv_aload_n hx hb dX8_told__11 rfl (lv_at hl 0 rfl) ?_
    refine m_get (k := 22) (v := .long (M.2 22 0)) hc hP (by decide) wF_X8_65 rfl dX8_told__12 ?_
    cases h
    rw [hQ]
    exact m_retl hc hr hlocks hP hS hz dX8_told__15
  · replace h := z_ip_ c_1 h
    refine lv_aload_n hx hb dX8_told__4 rfl (lv_at hl 0 rfl) ?_
    refine m_get (k := 21) (v := .long (M.2 21 0)) hc hP (by decide) wF_X8_108 rfl dX8_told__5 ?_
    refine lv_goto (tgt := 15) hx hb dX8_told__8 (by decide) ?_
    cases h
    rw [hQ]
    exact m_retl hc hr hlocks hP hS hz dX8_told__15
theorem md_X8_told_ : yX8_told_.cls ≠ "java/lang/invoke/MethodHandle" ∧ yX8_told_.cls ≠ "java/lang/invoke/VarHandle" ∧ (parseMethodDescriptor yX8_told_.desc).map (fun d => d.parameters.length) = some 1 := by decide +kernel
noncomputable def f_X8_value (M : MS) (a0 : Int32) (a1 : Int32) (a2 : Int32) : Option (Int64 × MS) :=
  z_bd (f_X8_isFit M a0) fun r_1 => if r_1 = 0 then some ((-1000000000000 : Int64), M) else z_bd (f_X8_in a1 (-100 : Int32) (100 : Int32)) fun r_2 => if r_2 = 0 then some ((-1000000000000 : Int64), M) else z_bd (f_X8_in a2 (0 : Int32) (1 : Int32)) fun r_3 => if r_3 = 0 then some ((-1000000000000 : Int64), M) else z_bd (f_X8_valueAt M a0 a1) fun M_4 => z_bd (f_X8_told_ M_4 a2) fun r_5 => some (r_5, M_4)
set_option maxHeartbeats 4000000 in
set_option maxRecDepth 100000 in
theorem mt_X8_value (l : Launch) (D : va_G) (cI cJ : ClassId) (o sz : Nat) (M : MS) (a0 : Int32) (a1 : Int32) (a2 : Int32) {r_ : Int64} {N_ : MS} (h : f_X8_value M a0 a1 a2 = some (r_, N_)) : Met l yX8_value (z_wd yX8_value cX8_value 4 (some .long)) (z_rm 5 224) (va_Pc [.ref o, .int a0, .int a1, .int a2] (m_C D cI cJ o sz M)) (va_Ql (fun (r1 : Int64) (M1 : MS) => r1 = r_ ∧ M1 = N_) (m_C D cI cJ o sz) (m_A o)) 0 0 (m_A o) := by
  refine Met.ofW (cc := cX8_value) (maxL := 4) (ret := (some .long)) (by decide) rfl ?_
  intro p e s m args below meth c s₁ B hml hv
  obtain ⟨hav, hz, hP0, hK⟩ := hv
  have hx := B.exec
  have hb := B.bytes
  have hr := B.returns
  have hts := atoms_spec (ws := z_wd yX8_value cX8_value 4 (some .long)) B.pre
  have hown : s.vm.findClass RX8 = some m.cls := findClass_of_methodNamed B.named
  have hlocks := B.notSynchronized
  have hc : m_X p s m args c cX8_value 4 D cI cJ := ⟨hx, hb, hml, fun w hw => hts w (List.mem_cons_of_mem _ hw), hown, hK⟩
  have hl := lv_entry ([.ref o, .int a0, .int a1, .int a2]) (n := 4) (Nat.le_of_ble_eq_true rfl)
  have hE : entryFrame m args 4 = F0 m 0 ((lg_sl ([.ref o, .int a0, .int a1, .int a2]) ++ List.replicate (4 - (lg_sl ([.ref o, .int a0, .int a1, .int a2])).length) Slot.unset).toArray) [] := by rw [hav]; exact lg_entry_eq m _ _
  rw [hE]
  clear hE hav
  generalize (lg_sl ([.ref o, .int a0, .int a1, .int a2]) ++ List.replicate (4 - (lg_sl ([.ref o, .int a0, .int a1, .int a2])).length) Slot.unset).toArray = ls at hl ⊢
  have hl : lv_has ls 4 [(0, .ref o), (1, .int a0), (2, .int a1), (3, .int a2)] := hl
  obtain ⟨Q, hQ⟩ : ∃ Q, Q = MQ below (va_Ql (fun (r1 : Int64) (M1 : MS) => r1 = r_ ∧ M1 = N_) (m_C D cI cJ o sz) (m_A o)) args s 0 0 (m_A o) := ⟨_, rfl⟩
  rw [← hQ]
  suffices hmain : ∀ (H : Heap) (locs : List Loc), va_P D z_cls (m_W cI cJ o M) H → va_S (m_A o) s.heap H locs → W p l e (z_rm 5 224) s m args below meth c H locs 0 0 Q (F0 m 0 ls []) from hmain s.heap [] hP0 va_S.rf
  clear hP0
  intro H locs hP hS
  unfold f_X8_value at h
  refine lv_aload_n hx hb dX8_value_0 rfl (lv_at hl 0 rfl) ?_
  refine lv_iload_n hx hb dX8_value_1 rfl (lv_at hl 1 rfl) ?_
  obtain ⟨r_1, er_1, h⟩ := z_bd_some h
  refine m_calli (As := [.int a0]) (r := r_1) (M' := M) (n := 1) hc hP hS (mt_X8_isFit l D cI cJ o H.size M a0 er_1) wM_X8_185 wI_X8_isFit wS_X8_isFit wZ_X8 wC_X8_isFit md_X8_isFit ⟨rfl, rfl, Nat.le_of_ble_eq_true rfl, Nat.le_of_ble_eq_true rfl⟩ rfl hl.1 rfl (Nat.le_of_ble_eq_true rfl) dX8_value_2 ⟨Nat.zero_le _, Nat.zero_le _⟩ (fun H locs hP hS => ?_)
  refine lv_if_eq (tgt := 28) hx hb dX8_value_5 (by decide) (fun c_5 => ?_) (fun c_5 => ?_)
  · replace h := z_ip_ c_5 h
    refine lv_ldc2 (v := -1000000000000) hx hb hc.s.2.2.2.2 (hc.s.2.2.2.1 _ wL_X8_220) dX8_value_28 ?_
    cases h
    rw [hQ]
    exact m_retl hc hr hlocks hP hS hz dX8_value_31
  · replace h := z_in_ c_5 h
    refine lv_iload_n hx hb dX8_value_8 rfl (lv_at hl 2 rfl) ?_
    refine lv_bipush (v := -100) hx hb dX8_value_9 (by decide) ?_
    refine lv_bipush (v := 100) hx hb dX8_value_11 (by decide) ?_
    obtain ⟨r_2, er_2, h⟩ := z_bd_some h
    refine s_calli (As := [.int a1, .int (-100 : Int32), .int (100 : Int32)]) (r := r_2) (n := 3) hc.s (mt_X8_in l a1 (-100 : Int32) (100 : Int32) er_2) wM_X8_100 wT_X8_in wZ_X8 wC_X8_in md_X8_in ⟨rfl, rfl, Nat.le_of_ble_eq_true rfl, Nat.le_of_ble_eq_true rfl⟩ rfl hl.1 rfl (Nat.le_of_ble_eq_true rfl) dX8_value_13 ⟨Nat.zero_le _, Nat.zero_le _⟩ ?_
    refine lv_if_eq (tgt := 28) hx hb dX8_value_16 (by decide) (fun c_16 => ?_) (fun c_16 => ?_)
    · replace h := z_ip_ c_16 h
      refine lv_ldc2 (v := -1000000000000) hx hb hc.s.2.2.2.2 (hc.s.2.2.2.1 _ wL_X8_220) dX8_value_28 ?_
      cases h
      rw [hQ]
      exact m_retl hc hr hlocks hP hS hz dX8_value_31
    · replace h := z_in_ c_16 h
      refine lv_iload_n hx hb dX8_value_19 rfl (lv_at hl 3 rfl) ?_
      refine lv_iconst (v := 0) hx hb dX8_value_20 (by decide) ?_
      refine lv_iconst (v := 1) hx hb dX8_value_21 (by decide) ?_
      obtain ⟨r_3, er_3, h⟩ := z_bd_some h
      refine s_calli (As := [.int a2, .int (0 : Int32), .int (1 : Int32)]) (r := r_3) (n := 3) hc.s (mt_X8_in l a2 (0 : Int32) (1 : Int32) er_3) wM_X8_100 wT_X8_in wZ_X8 wC_X8_in md_X8_in ⟨rfl, rfl, Nat.le_of_ble_eq_true rfl, Nat.le_of_ble_eq_true rfl⟩ rfl hl.1 rfl (Nat.le_of_ble_eq_true rfl) dX8_value_22 ⟨Nat.zero_le _, Nat.zero_le _⟩ ?_
      refine lv_if_ne (tgt := 32) hx hb dX8_value_25 (by decide) (fun c_25 => ?_) (fun c_25 => ?_)
      · replace h := z_in_ c_25 h
        refine lv_aload_n hx hb dX8_value_32 rfl (lv_at hl 0 rfl) ?_
        refine lv_iload_n hx hb dX8_value_33 rfl (lv_at hl 1 rfl) ?_
        refine lv_iload_n hx hb dX8_value_34 rfl (lv_at hl 2 rfl) ?_
        obtain ⟨M_4, eM_4, h⟩ := z_bd_some h
        refine m_callv (As := [.int a0, .int a1]) (M' := M_4) (n := 2) hc hP hS (mt_X8_valueAt l D cI cJ o H.size M a0 a1 eM_4) wM_X8_229 wI_X8_valueAt wS_X8_valueAt wZ_X8 wC_X8_valueAt md_X8_valueAt ⟨rfl, rfl, Nat.le_of_ble_eq_true rfl, Nat.le_of_ble_eq_true rfl⟩ rfl hl.1 rfl (Nat.le_of_ble_eq_true rfl) dX8_value_35 ⟨Nat.zero_le _, Nat.zero_le _⟩ (fun H locs hP hS => ?_)
        refine lv_aload_n hx hb dX8_value_38 rfl (lv_at hl 0 rfl) ?_
        refine lv_iload_n hx hb dX8_value_39 rfl (lv_at hl 3 rfl) ?_
        obtain ⟨r_5, er_5, h⟩ := z_bd_some h
        refine m_calll (As := [.int a2]) (r := r_5) (M' := M_4) (n := 1) hc hP hS (mt_X8_told_ l D cI cJ o H.size M_4 a2 er_5) wM_X8_250 wI_X8_told_ wS_X8_told_ wZ_X8 wC_X8_told_ md_X8_told_ ⟨rfl, rfl, Nat.le_of_ble_eq_true rfl, Nat.le_of_ble_eq_true rfl⟩ rfl hl.1 rfl (Nat.le_of_ble_eq_true rfl) dX8_value_40 ⟨Nat.zero_le _, Nat.zero_le _⟩ (fun H locs hP hS => ?_)
        cases h
        rw [hQ]
        exact m_retl hc hr hlocks hP hS hz dX8_value_43
      · replace h := z_ip_ c_25 h
        refine lv_ldc2 (v := -1000000000000) hx hb hc.s.2.2.2.2 (hc.s.2.2.2.1 _ wL_X8_220) dX8_value_28 ?_
        cases h
        rw [hQ]
        exact m_retl hc hr hlocks hP hS hz dX8_value_31
theorem md_X8_value : yX8_value.cls ≠ "java/lang/invoke/MethodHandle" ∧ yX8_value.cls ≠ "java/lang/invoke/VarHandle" ∧ (parseMethodDescriptor yX8_value.desc).map (fun d => d.parameters.length) = some 3 := by decide +kernel
