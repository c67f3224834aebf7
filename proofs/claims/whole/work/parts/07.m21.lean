noncomputable def f_X8_same_L43 (M : MS) (a0 : Int32) (a1 : Int32) (x3_3 : Int32) (x4_4 : Int32) : Option ((Int32) ⊕ (Int32 × Int32)) :=
  if (3 : Int32) ≤ x4_4 then some (.inl (x3_3)) else if x3_3 = 0 then some (.inr ((0 : Int32), (x4_4 + 1))) else z_chk (z_in (((36 : Int32) * a0) + x4_4) 360) (z_chk (z_in (((36 : Int32) * a1) + x4_4) 360) (if (lg_cmp (M.2 13 (((36 : Int32) * a0) + x4_4).toNatClampNeg) (M.2 13 (((36 : Int32) * a1) + x4_4).toNatClampNeg)) = 0 then z_chk (z_in (((36 : Int32) * a0) + x4_4) 360) (z_chk (z_in (((36 : Int32) * a1) + x4_4) 360) (if (lg_cmp (M.2 14 (((36 : Int32) * a0) + x4_4).toNatClampNeg) (M.2 14 (((36 : Int32) * a1) + x4_4).toNatClampNeg)) = 0 then some (.inr ((1 : Int32), (x4_4 + 1))) else some (.inr ((0 : Int32), (x4_4 + 1))))) else some (.inr ((0 : Int32), (x4_4 + 1)))))
noncomputable def f_X8_same (M : MS) (a0 : Int32) (a1 : Int32) : Option (Int32) :=
  z_bd (f_X8_isFit M a0) fun r_1 => if r_1 = 0 then some (-1 : Int32) else z_bd (f_X8_isFit M a1) fun r_2 => if r_2 = 0 then some (-1 : Int32) else z_chk (z_in a0 10) (if (M.1 5 a0.toNatClampNeg) = (4 : Int32) then some (-1 : Int32) else z_chk (z_in a1 10) (if (M.1 5 a1.toNatClampNeg) = (4 : Int32) then some (-1 : Int32) else z_bd (z_lp (fun x => f_X8_same_L43 M a0 a1 x.1 x.2) ((1 : Int32), (0 : Int32))) fun y3_5 => if y3_5 = 0 then some (0 : Int32) else some (1 : Int32)))
set_option maxHeartbeats 4000000 in
set_option maxRecDepth 100000 in
theorem mt_X8_same (l : Launch) (D : va_G) (cI cJ : ClassId) (o sz : Nat) (M : MS) (a0 : Int32) (a1 : Int32) {r_ : Int32} (h : f_X8_same M a0 a1 = some r_) : Met l yX8_same (z_wd yX8_same cX8_same 5 (some .int)) (z_rm 2 75) (va_Pc [.ref o, .int a0, .int a1] (m_C D cI cJ o sz M)) (va_Qi (fun (r1 : Int32) (M1 : MS) => r1 = r_ ∧ M1 = M) (m_C D cI cJ o sz) (m_A o)) 0 0 (m_A o) := by
  refine Met.ofW (cc := cX8_same) (maxL := 5) (ret := (some .int)) (by decide) rfl ?_
  intro p e s m args below meth c s₁ B hml hv
  obtain ⟨hav, hz, hP0, hK⟩ := hv
  have hx := B.exec
  have hb := B.bytes
  have hr := B.returns
  have hts := atoms_spec (ws := z_wd yX8_same cX8_same 5 (some .int)) B.pre
  have hown : s.vm.findClass RX8 = some m.cls := findClass_of_methodNamed B.named
  have hlocks := B.notSynchronized
  have hc : m_X p s m args c cX8_same 5 D cI cJ := ⟨hx, hb, hml, fun w hw => hts w (List.mem_cons_of_mem _ hw), hown, hK⟩
  have hl := lv_entry ([.ref o, .int a0, .int a1]) (n := 5) (Nat.le_of_ble_eq_true rfl)
  have hE : entryFrame m args 5 = F0 m 0 ((lg_sl ([.ref o, .int a0, .int a1]) ++ List.replicate (5 - (lg_sl ([.ref o, .int a0, .int a1])).length) Slot.unset).toArray) [] := by rw [hav]; exact lg_entry_eq m _ _
  rw [hE]
  clear hE hav
  generalize (lg_sl ([.ref o, .int a0, .int a1]) ++ List.replicate (5 - (lg_sl ([.ref o, .int a0, .int a1])).length) Slot.unset).toArray = ls at hl ⊢
  have hl : lv_has ls 5 [(0, .ref o), (1, .int a0), (2, .int a1)] := hl
  obtain ⟨Q, hQ⟩ : ∃ Q, Q = MQ below (va_Qi (fun (r1 : Int32) (M1 : MS) => r1 = r_ ∧ M1 = M) (m_C D cI cJ o sz) (m_A o)) args s 0 0 (m_A o) := ⟨_, rfl⟩
  rw [← hQ]
  suffices hmain : ∀ (H : Heap) (locs : List Loc), va_P D z_cls (m_W cI cJ o M) H → va_S (m_A o) s.heap H locs → W p l e (z_rm 2 75) s m args below meth c H locs 0 0 Q (F0 m 0 ls []) from hmain s.heap [] hP0 va_S.rf
  clear hP0
  intro H locs hP hS
  unfold f_X8_same at h
  refine lv_aload_n hx hb dX8_same_0 rfl (lv_at hl 0 rfl) ?_
  refine lv_iload_n hx hb dX8_same_1 rfl (lv_at hl 1 rfl) ?_
  obtain ⟨r_1, er_1, h⟩ := z_bd_some h
  refine m_calli (As := [.int a0]) (r := r_1) (M' := M) (n := 1) hc hP hS (mt_X8_isFit l D cI cJ o H.size M a0 er_1) wM_X8_185 wI_X8_isFit wS_X8_isFit wZ_X8 wC_X8_isFit md_X8_isFit ⟨rfl, rfl, Nat.le_of_ble_eq_true rfl, Nat.le_of_ble_eq_true rfl⟩ rfl hl.1 rfl (Nat.le_of_ble_eq_true rfl) dX8_same_2 ⟨Nat.zero_le _, Nat.zero_le _⟩ (fun H locs hP hS => ?_)
  refine lv_if_eq (tgt := 36) hx hb dX8_same_5 (by decide) (fun c_5 => ?_) (fun c_5 => ?_)
  · replace h := z_ip_ c_5 h
    refine lv_iconst (v := -1) hx hb dX8_same_36 (by decide) ?_
    cases h
    rw [hQ]
    exact m_reti hc hr hlocks hP hS hz dX8_same_37
  · replace h := z_in_ c_5 h
    refine lv_aload_n hx hb dX8_same_8 rfl (lv_at hl 0 rfl) ?_
    refine lv_iload_n hx hb dX8_same_9 rfl (lv_at hl 2 rfl) ?_
    obtain ⟨r_2, er_2, h⟩ := z_bd_some h
    refine m_calli (As := [.int a1]) (r := r_2) (M' := M) (n := 1) hc hP hS (mt_X8_isFit l D cI cJ o H.size M a1 er_2) wM_X8_185 wI_X8_isFit wS_X8_isFit wZ_X8 wC_X8_isFit md_X8_isFit ⟨rfl, rfl, Nat.le_of_ble_eq_true rfl, Nat.le_of_ble_eq_true rfl⟩ rfl hl.1 rfl (Nat.le_of_ble_eq_true rfl) dX8_same_10 ⟨Nat.zero_le _, Nat.zero_le _⟩ (fun H locs hP hS => ?_)
    refine lv_if_eq (tgt := 36) hx hb dX8_same_13 (by decide) (fun c_13 => ?_) (fun c_13 => ?_)
    · replace h := z_ip_ c_13 h
      refine lv_iconst (v := -1) hx hb dX8_same_36 (by decide) ?_
      cases h
      rw [hQ]
      exact m_reti hc hr hlocks hP hS hz dX8_same_37
    · replace h := z_in_ c_13 h
      refine lv_aload_n hx hb dX8_same_16 rfl (lv_at hl 0 rfl) ?_
      refine m_get (k := 5) (v := .ref (o + 5)) hc hP (by decide) wF_X8_22 rfl dX8_same_17 ?_
      refine lv_iload_n hx hb dX8_same_20 rfl (lv_at hl 1 rfl) ?_
      obtain ⟨c_21, h⟩ := z_chk_some h
      refine m_iald (k := 5) (j := 5) hc hP (ma_5 ..) c_21 dX8_same_21 ?_
      refine lv_iconst (v := 4) hx hb dX8_same_22 (by decide) ?_
      refine lv_icmp_eq (tgt := 36) hx hb dX8_same_23 (by decide) (fun c_23 => ?_) (fun c_23 => ?_)
      · replace h := z_ip_ c_23 h
        refine lv_iconst (v := -1) hx hb dX8_same_36 (by decide) ?_
        cases h
        rw [hQ]
        exact m_reti hc hr hlocks hP hS hz dX8_same_37
      · replace h := z_in_ c_23 h
        refine lv_aload_n hx hb dX8_same_26 rfl (lv_at hl 0 rfl) ?_
        refine m_get (k := 5) (v := .ref (o + 5)) hc hP (by decide) wF_X8_22 rfl dX8_same_27 ?_
        refine lv_iload_n hx hb dX8_same_30 rfl (lv_at hl 2 rfl) ?_
        obtain ⟨c_31, h⟩ := z_chk_some h
        refine m_iald (k := 5) (j := 5) hc hP (ma_5 ..) c_31 dX8_same_31 ?_
        refine lv_iconst (v := 4) hx hb dX8_same_32 (by decide) ?_
        refine lv_icmp_ne (tgt := 38) hx hb dX8_same_33 (by decide) (fun c_33 => ?_) (fun c_33 => ?_)
        · replace h := z_in_ c_33 h
          refine lv_iconst (v := 1) hx hb dX8_same_38 (by decide) ?_
          refine lv_istore_n (lv' := [(3, .int (1 : Int32)), (0, .ref o), (1, .int a0), (2, .int a1)]) hx hb dX8_same_39 rfl hl (by decide) rfl (fun ls hl => ?_)
          refine lv_iconst (v := 0) hx hb dX8_same_40 (by decide) ?_
          refine lv_istore (lv' := [(4, .int (0 : Int32)), (3, .int (1 : Int32)), (0, .ref o), (1, .int a0), (2, .int a1)]) hx hb dX8_same_41 hl (by decide) rfl (fun ls hl => ?_)
          obtain ⟨y3_5, hlp, h⟩ := z_bd_some h
          refine z_lp_ind (P := fun x => ∀ (H : Heap) (locs : List Loc) (ls : Array Slot), va_P D z_cls (m_W cI cJ o M) H → va_S (m_A o) s.heap H locs → lv_has ls 5 [(0, .ref o), (1, .int a0), (2, .int a1), (3, .int x.1), (4, .int x.2)] → W p l e (z_rm 2 75) s m args below meth c H locs 0 0 Q (F0 m 43 ls [])) (Qe := fun y => ∀ (H : Heap) (locs : List Loc) (ls : Array Slot), va_P D z_cls (m_W cI cJ o M) H → va_S (m_A o) s.heap H locs → lv_has ls 5 [(3, .int y)] → W p l e (z_rm 2 75) s m args below meth c H locs 0 0 Q (F0 m 121 ls [])) ?_ hlp ?_ H locs ls hP hS (lv_sub hl [2, 3, 4, 1, 0] rfl)
          · clear h hlp hP hS hl
            rintro ⟨x3_3, x4_4⟩ oo h K_43 H locs ls hP hS hl
            have hP : va_P D z_cls (m_W cI cJ o M) H := hP
            have hl : lv_has ls 5 [(0, .ref o), (1, .int a0), (2, .int a1), (3, .int x3_3), (4, .int x4_4)] := hl
            have h : f_X8_same_L43 M a0 a1 x3_3 x4_4 = some oo := h
            unfold f_X8_same_L43 at h
            refine lv_iload hx hb dX8_same_43 (lv_at hl 4 rfl) ?_
            refine lv_iconst (v := 3) hx hb dX8_same_45 (by decide) ?_
            refine lv_icmp_ge (tgt := 121) hx hb dX8_same_46 (by decide) (fun c_46 => ?_) (fun c_46 => ?_)
            · replace h := z_ip_ c_46 h
              cases h
              exact K_43 H locs ls hP hS (lv_sub hl [3] rfl)
            · replace h := z_in_ c_46 h
              refine lv_iload_n hx hb dX8_same_49 rfl (lv_at hl 3 rfl) ?_
              refine lv_if_eq (tgt := 113) hx hb dX8_same_50 (by decide) (fun c_50 => ?_) (fun c_50 => ?_)
              · replace h := z_ip_ c_50 h
                refine lv_iconst (v := 0) hx hb dX8_same_113 (by decide) ?_
                refine lv_istore_n (lv' := [(3, .int (0 : Int32)), (0, .ref o), (1, .int a0), (2, .int a1), (4, .int x4_4)]) hx hb dX8_same_114 rfl hl (by decide) rfl (fun ls hl => ?_)
                refine lv_iinc (v := (x4_4 + 1)) (lv' := [(4, .int (x4_4 + 1)), (3, .int (0 : Int32)), (0, .ref o), (1, .int a0), (2, .int a1)]) hx hb dX8_same_115 hl (k := 4) rfl rfl (by decide) rfl (fun ls hl => ?_)
                refine lv_goto (tgt := 43) hx hb dX8_same_118 (by decide) ?_
                cases h
                exact K_43 H locs ls hP hS (lv_sub hl [2, 3, 4, 1, 0] rfl)
              · replace h := z_in_ c_50 h
                refine lv_aload_n hx hb dX8_same_53 rfl (lv_at hl 0 rfl) ?_
                refine m_get (k := 13) (v := .ref (o + 13)) hc hP (by decide) wF_X8_46 rfl dX8_same_54 ?_
                refine lv_bipush (v := 36) hx hb dX8_same_57 (by decide) ?_
                refine lv_iload_n hx hb dX8_same_59 rfl (lv_at hl 1 rfl) ?_
                refine lv_imul hx hb dX8_same_60 ?_
                refine lv_iload hx hb dX8_same_61 (lv_at hl 4 rfl) ?_
                refine lv_iadd hx hb dX8_same_63 ?_
                obtain ⟨c_64, h⟩ := z_chk_some h
                refine m_lald (k := 13) (j := 13) hc hP (ma_13 ..) c_64 dX8_same_64 ?_
                refine lv_aload_n hx hb dX8_same_65 rfl (lv_at hl 0 rfl) ?_
                refine m_get (k := 13) (v := .ref (o + 13)) hc hP (by decide) wF_X8_46 rfl dX8_same_66 ?_
                refine lv_bipush (v := 36) hx hb dX8_same_69 (by decide) ?_
                refine lv_iload_n hx hb dX8_same_71 rfl (lv_at hl 2 rfl) ?_
                refine lv_imul hx hb dX8_same_72 ?_
                refine lv_iload hx hb dX8_same_73 (lv_at hl 4 rfl) ?_
                refine lv_iadd hx hb dX8_same_75 ?_
                obtain ⟨c_76, h⟩ := z_chk_some h
                refine m_lald (k := 13) (j := 13) hc hP (ma_13 ..) c_76 dX8_same_76 ?_
                refine W.lcmp hx hb dX8_same_77 ?_
                refine lv_if_ne (tgt := 113) hx hb dX8_same_78 (by decide) (fun c_78 => ?_) (fun c_78 => ?_)
                · replace h := z_in_ c_78 h
                  refine lv_iconst (v := 0) hx hb dX8_same_113 (by decide) ?_
                  refine lv_istore_n (lv' := [(3, .int (0 : Int32)), (0, .ref o), (1, .int a0), (2, .int a1), (4, .int x4_4)]) hx hb dX8_same_114 rfl hl (by decide) rfl (fun ls hl => ?_)
                  refine lv_iinc (v := (x4_4 + 1)) (lv' := [(4, .int (x4_4 + 1)), (3, .int (0 : Int32)), (0, .ref o), (1, .int a0), (2, .int a1)]) hx hb dX8_same_115 hl (k := 4) rfl rfl (by decide) rfl (fun ls hl => ?_)
                  refine lv_goto (tgt := 43) hx hb dX8_same_118 (by decide) ?_
                  cases h
                  exact K_43 H locs ls hP hS (lv_sub hl [2, 3, 4, 1, 0] rfl)
                · replace h := z_ip_ c_78 h
                  refine lv_aload_n hx hb dX8_same_81 rfl (lv_at hl 0 rfl) ?_
                  refine m_get (k := 14) (v := .ref (o + 14)) hc hP (by decide) wF_X8_50 rfl dX8_same_82 ?_
                  refine lv_bipush (v := 36) hx hb dX8_same_85 (by decide) ?_
                  refine lv_iload_n hx hb dX8_same_87 rfl (lv_at hl 1 rfl) ?_
                  refine lv_imul hx hb dX8_same_88 ?_
                  refine lv_iload hx hb dX8_same_89 (lv_at hl 4 rfl) ?_
                  refine lv_iadd hx hb dX8_same_91 ?_
                  obtain ⟨c_92, h⟩ := z_chk_some h
                  refine m_lald (k := 14) (j := 14) hc hP (ma_14 ..) c_92 dX8_same_92 ?_
                  refine lv_aload_n hx hb dX8_same_93 rfl (lv_at hl 0 rfl) ?_
                  refine m_get (k := 14) (v := .ref (o + 14)) hc hP (by decide) wF_X8_50 rfl dX8_same_94 ?_
                  refine lv_bipush (v := 36) hx hb dX8_same_97 (by decide) ?_
                  refine lv_iload_n hx hb dX8_same_99 rfl (lv_at hl 2 rfl) ?_
                  refine lv_imul hx hb dX8_same_100 ?_
                  refine lv_iload hx hb dX8_same_101 (lv_at hl 4 rfl) ?_
                  refine lv_iadd hx hb dX8_same_103 ?_
                  obtain ⟨c_104, h⟩ := z_chk_some h
                  refine m_lald (k := 14) (j := 14) hc hP (ma_14 ..) c_104 dX8_same_104 ?_
                  refine W.lcmp hx hb dX8_same_105 ?_
                  refine lv_if_ne (tgt := 113) hx hb dX8_same_106 (by decide) (fun c_106 => ?_) (fun c_106 => ?_)
                  · replace h := z_in_ c_106 h
                    refine lv_iconst (v := 0) hx hb dX8_same_113 (by decide) ?_
                    refine lv_istore_n (lv' := [(3, .int (0 : Int32)), (0, .ref o), (1, .int a0), (2, .int a1), (4, .int x4_4)]) hx hb dX8_same_114 rfl hl (by decide) rfl (fun ls hl => ?_)
                    refine lv_iinc (v := (x4_4 + 1)) (lv' := [(4, .int (x4_4 + 1)), (3, .int (0 : Int32)), (0, .ref o), (1, .int a0), (2, .int a1)]) hx hb dX8_same_115 hl (k := 4) rfl rfl (by decide) rfl (fun ls hl => ?_)
                    refine lv_goto (tgt := 43) hx hb dX8_same_118 (by decide) ?_
                    cases h
                    exact K_43 H locs ls hP hS (lv_sub hl [2, 3, 4, 1, 0] rfl)
                  · replace h := z_ip_ c_106 h
                    refine lv_iconst (v := 1) hx hb dX8_same_109 (by decide) ?_
                    refine lv_goto (tgt := 114) hx hb dX8_same_110 (by decide) ?_
                    refine lv_istore_n (lv' := [(3, .int (1 : Int32)), (0, .ref o), (1, .int a0), (2, .int a1), (4, .int x4_4)]) hx hb dX8_same_114 rfl hl (by decide) rfl (fun ls hl => ?_)
                    refine lv_iinc (v := (x4_4 + 1)) (lv' := [(4, .int (x4_4 + 1)), (3, .int (1 : Int32)), (0, .ref o), (1, .int a0), (2, .int a1)]) hx hb dX8_same_115 hl (k := 4) rfl rfl (by decide) rfl (fun ls hl => ?_)
                    refine lv_goto (tgt := 43) hx hb dX8_same_118 (by decide) ?_
                    cases h
                    exact K_43 H locs ls hP hS (lv_sub hl [2, 3, 4, 1, 0] rfl)
          · clear hlp hP hS hl
            intro H locs ls hP hS hl
            have hP : va_P D z_cls (m_W cI cJ o M) H := hP
            have hl : lv_has ls 5 [(3, .int y3_5)] := hl
            refine lv_iload_n hx hb dX8_same_121 rfl (lv_at hl 0 rfl) ?_
            refine lv_if_eq (tgt := 129) hx hb dX8_same_122 (by decide) (fun c_122 => ?_) (fun c_122 => ?_)
            · replace h := z_ip_ c_122 h
              refine lv_iconst (v := 0) hx hb dX8_same_129 (by decide) ?_
              cases h
              rw [hQ]
              exact m_reti hc hr hlocks hP hS hz dX8_same_130
            · replace h := z_in_ c_122 h
              refine lv_iconst (v := 1) hx hb dX8_same_125 (by decide) ?_
              refine lv_goto (tgt := 130) hx hb dX8_same_126 (by decide) ?_
              cases h
              rw [hQ]
              exact m_reti hc hr hlocks hP hS hz dX8_same_130
        · replace h := z_ip_ c_33 h
          refine lv_iconst (v := -1) hx hb dX8_same_36 (by decide) ?_
          cases h
          rw [hQ]
          exact m_reti hc hr hlocks hP hS hz dX8_same_37
theorem md_X8_same : yX8_same.cls ≠ "java/lang/invoke/MethodHandle" ∧ yX8_same.cls ≠ "java/lang/invoke/VarHandle" ∧ (parseMethodDescriptor yX8_same.desc).map (fun d => d.parameters.length) = some 2 := by decide +kernel
noncomputable def f_X8_ran (M : MS) (a0 : Int32) : Option (MS) :=
  z_bd (if (50 : Int32) ≤ (M.1 20 0) then some (M) else z_chk (z_in (M.1 20 0) 50) (z_lt (sI M 19 (M.1 20 0).toNatClampNeg a0) fun M_2 => some (M_2))) fun M_1 => z_lt (sI M_1 20 0 ((M_1.1 20 0) + (1 : Int32))) fun M_3 => some M_3
set_option maxHeartbeats 4000000 in
set_option maxRecDepth 100000 in
theorem mt_X8_ran (l : Launch) (D : va_G) (cI cJ : ClassId) (o sz : Nat) (M : MS) (a0 : Int32) {N_ : MS} (h : f_X8_ran M a0 = some N_) : Met l yX8_ran (z_wd yX8_ran cX8_ran 2 none) (z_rm 0 0) (va_Pc [.ref o, .int a0] (m_C D cI cJ o sz M)) (va_Qv (fun (M1 : MS) => M1 = N_) (m_C D cI cJ o sz) (m_A o)) 0 0 (m_A o) := by
  refine Met.ofW (cc := cX8_ran) (maxL := 2) (ret := none) (by decide) rfl ?_
  intro p e s m args below meth c s₁ B hml hv
  obtain ⟨hav, hz, hP0, hK⟩ := hv
  have hx := B.exec
  have hb := B.bytes
  have hr := B.returns
  have hts := atoms_spec (ws := z_wd yX8_ran cX8_ran 2 none) B.pre
  have hown : s.vm.findClass RX8 = some m.cls := findClass_of_methodNamed B.named
  have hlocks := B.notSynchronized
  have hc : m_X p s m args c cX8_ran 2 D cI cJ := ⟨hx, hb, hml, fun w hw => hts w (List.mem_cons_of_mem _ hw), hown, hK⟩
  have hl := lv_entry ([.ref o, .int a0]) (n := 2) (Nat.le_of_ble_eq_true rfl)
  have hE : entryFrame m args 2 = F0 m 0 ((lg_sl ([.ref o, .int a0]) ++ List.replicate (2 - (lg_sl ([.ref o, .int a0])).length) Slot.unset).toArray) [] := by rw [hav]; exact lg_entry_eq m _ _
  rw [hE]
  clear hE hav
  generalize (lg_sl ([.ref o, .int a0]) ++ List.replicate (2 - (lg_sl ([.ref o, .int a0])).length) Slot.unset).toArray = ls at hl ⊢
  have hl : lv_has ls 2 [(0, .ref o), (1, .int a0)] := hl
  obtain ⟨Q, hQ⟩ : ∃ Q, Q = MQ below (va_Qv (fun (M1 : MS) => M1 = N_) (m_C D cI cJ o sz) (m_A o)) args s 0 0 (m_A o) := ⟨_, rfl⟩
  rw [← hQ]
  suffices hmain : ∀ (H : Heap) (locs : List Loc), va_P D z_cls (m_W cI cJ o M) H → va_S (m_A o) s.heap H locs → W p l e (z_rm 0 0) s m args below meth c H locs 0 0 Q (F0 m 0 ls []) from hmain s.heap [] hP0 va_S.rf
  clear hP0
  intro H locs hP hS
  unfold f_X8_ran at h
  refine lv_aload_n hx hb dX8_ran_0 rfl (lv_at hl 0 rfl) ?_
  refine m_get (k := 20) (v := .int (M.1 20 0)) hc hP (by decide) wF_X8_222 rfl dX8_ran_1 ?_
  refine lv_bipush (v := 50) hx hb dX8_ran_4 (by decide) ?_
  obtain ⟨M_1, hJ, h⟩ := z_bd_some h
  have J_19 : ∀ (H : Heap) (locs : List Loc) (ls : Array Slot), va_P D z_cls (m_W cI cJ o M_1) H → va_S (m_A o) s.heap H locs → lv_has ls 2 [(0, .ref o)] → W p l e (z_rm 0 0) s m args below meth c H locs 0 0 Q (F0 m 19 ls []) := by
    intro H locs ls hP hS hl
    refine lv_aload_n hx hb dX8_ran_19 rfl (lv_at hl 0 rfl) ?_
    refine lv_dup hx hb dX8_ran_20 rfl ?_
    refine m_get (k := 20) (v := .int (M_1.1 20 0)) hc hP (by decide) wF_X8_222 rfl dX8_ran_21 ?_
    refine lv_iconst (v := 1) hx hb dX8_ran_24 (by decide) ?_
    refine lv_iadd hx hb dX8_ran_25 ?_
    obtain ⟨M_3, eM_3, h⟩ := z_lt_some h
    refine m_put (k := 20) (M' := M_3) (ty := .int) hc hP hS (by decide) wF_X8_222 rfl (by decide +kernel) rfl rfl (by rw [eM_3]; exact mp_20 ..) dX8_ran_26 (fun H locs hP hS => ?_)
    cases h
    rw [hQ]
    exact m_retv hc hr hlocks hP hS hz dX8_ran_29
  clear h
  have h := hJ
  clear hJ
  refine lv_icmp_ge (tgt := 19) hx hb dX8_ran_6 (by decide) (fun c_6 => ?_) (fun c_6 => ?_)
  · replace h := z_ip_ c_6 h
    cases h
    exact J_19 H locs ls hP hS (lv_sub hl [0] rfl)
  · replace h := z_in_ c_6 h
    refine lv_aload_n hx hb dX8_ran_9 rfl (lv_at hl 0 rfl) ?_
    refine m_get (k := 19) (v := .ref (o + 18)) hc hP (by decide) wF_X8_62 rfl dX8_ran_10 ?_
    refine lv_aload_n hx hb dX8_ran_13 rfl (lv_at hl 0 rfl) ?_
    refine m_get (k := 20) (v := .int (M.1 20 0)) hc hP (by decide) wF_X8_222 rfl dX8_ran_14 ?_
    refine lv_iload_n hx hb dX8_ran_17 rfl (lv_at hl 1 rfl) ?_
    obtain ⟨c_18, h⟩ := z_chk_some h
    obtain ⟨M_2, eM_2, h⟩ := z_lt_some h
    refine m_iast (k := 19) (j := 18) (M' := M_2) hc hP hS (ma_19 ..) c_18 (by rw [eM_2]; exact mp_19 ..) dX8_ran_18 (fun H locs hP hS => ?_)
    cases h
    exact J_19 H locs ls hP hS (lv_sub hl [0] rfl)
theorem md_X8_ran : yX8_ran.cls ≠ "java/lang/invoke/MethodHandle" ∧ yX8_ran.cls ≠ "java/lang/invoke/VarHandle" ∧ (parseMethodDescriptor yX8_ran.desc).map (fun d => d.parameters.length) = some 1 := by decide +kernel
noncomputable def f_X8_isLine (M : MS) (a0 : Int32) : Option (Int32) :=
  z_chk (z_in a0 10) (if (M.1 5 a0.toNatClampNeg) = (1 : Int32) then some (1 : Int32) else z_chk (z_in a0 10) (if (M.1 5 a0.toNatClampNeg) = (2 : Int32) then some (1 : Int32) else z_chk (z_in a0 10) (if (M.1 5 a0.toNatClampNeg) = (4 : Int32) then some (1 : Int32) else some (0 : Int32))))
set_option maxHeartbeats 4000000 in
set_option maxRecDepth 100000 in
theorem mt_X8_isLine (l : Launch) (D : va_G) (cI cJ : ClassId) (o sz : Nat) (M : MS) (a0 : Int32) {r_ : Int32} (h : f_X8_isLine M a0 = some r_) : Met l yX8_isLine (z_wd yX8_isLine cX8_isLine 2 (some .boolean)) (z_rm 0 0) (va_Pc [.ref o, .int a0] (m_C D cI cJ o sz M)) (va_Qi (fun (r1 : Int32) (M1 : MS) => r1 = r_ ∧ M1 = M) (m_C D cI cJ o sz) (m_A o)) 0 0 (m_A o) := by
  refine Met.ofW (cc := cX8_isLine) (maxL := 2) (ret := (some .boolean)) (by decide) rfl ?_
  intro p e s m args below meth c s₁ B hml hv
  obtain ⟨hav, hz, hP0, hK⟩ := hv
  have hx := B.exec
  have hb := B.bytes
  have hr := B.returns
  have hts := atoms_spec (ws := z_wd yX8_isLine cX8_isLine 2 (some .boolean)) B.pre
  have hown : s.vm.findClass RX8 = some m.cls := findClass_of_methodNamed B.named
  have hlocks := B.notSynchronized
  have hc : m_X p s m args c cX8_isLine 2 D cI cJ := ⟨hx, hb, hml, fun w hw => hts w (List.mem_cons_of_mem _ hw), hown, hK⟩
  have hl := lv_entry ([.ref o, .int a0]) (n := 2) (Nat.le_of_ble_eq_true rfl)
  have hE : entryFrame m args 2 = F0 m 0 ((lg_sl ([.ref o, .int a0]) ++ List.replicate (2 - (lg_sl ([.ref o, .int a0])).length) Slot.unset).toArray) [] := by rw [hav]; exact lg_entry_eq m _ _
  rw [hE]
  clear hE hav
  generalize (lg_sl ([.ref o, .int a0]) ++ List.replicate (2 - (lg_sl ([.ref o, .int a0])).length) Slot.unset).toArray = ls at hl ⊢
  have hl : lv_has ls 2 [(0, .ref o), (1, .int a0)] := hl
  obtain ⟨Q, hQ⟩ : ∃ Q, Q = MQ below (va_Qi (fun (r1 : Int32) (M1 : MS) => r1 = r_ ∧ M1 = M) (m_C D cI cJ o sz) (m_A o)) args s 0 0 (m_A o) := ⟨_, rfl⟩
  rw [← hQ]
  suffices hmain : ∀ (H : Heap) (locs : List Loc), va_P D z_cls (m_W cI cJ o M) H → va_S (m_A o) s.heap H locs → W p l e (z_rm 0 0) s m args below meth c H locs 0 0 Q (F0 m 0 ls []) from hmain s.heap [] hP0 va_S.rf
  clear hP0
  intro H locs hP hS
  unfold f_X8_isLine at h
  refine lv_aload_n hx hb dX8_isLine_0 rfl (lv_at hl 0 rfl) ?_
  refine m_get (k := 5) (v := .ref (o + 5)) hc hP (by decide) wF_X8_22 rfl dX8_isLine_1 ?_
  refine lv_iload_n hx hb dX8_isLine_4 rfl (lv_at hl 1 rfl) ?_
  obtain ⟨c_5, h⟩ := z_chk_some h
  refine m_iald (k := 5) (j := 5) hc hP (ma_5 ..) c_5 dX8_isLine_5 ?_
  refine lv_iconst (v := 1) hx hb dX8_isLine_6 (by decide) ?_
  refine lv_icmp_eq (tgt := 30) hx hb dX8_isLine_7 (by decide) (fun c_7 => ?_) (fun c_7 => ?_)
  · replace h := z_ip_ c_7 h
    refine lv_iconst (v := 1) hx hb dX8_isLine_30 (by decide) ?_
    refine lv_goto (tgt := 35) hx hb dX8_isLine_31 (by decide) ?_
    cases h
    rw [hQ]
    exact m_retz hc hr hlocks (by decide) hP hS hz dX8_isLine_35
  · replace h := z_in_ c_7 h
    refine lv_aload_n hx hb dX8_isLine_10 rfl (lv_at hl 0 rfl) ?_
    refine m_get (k := 5) (v := .ref (o + 5)) hc hP (by decide) wF_X8_22 rfl dX8_isLine_11 ?_
    refine lv_iload_n hx hb dX8_isLine_14 rfl (lv_at hl 1 rfl) ?_
    obtain ⟨c_15, h⟩ := z_chk_some h
    refine m_iald (k := 5) (j := 5) hc hP (ma_5 ..) c_15 dX8_isLine_15 ?_
    refine lv_iconst (v := 2) hx hb dX8_isLine_16 (by decide) ?_
    refine lv_icmp_eq (tgt := 30) hx hb dX8_isLine_17 (by decide) (fun c_17 => ?_) (fun c_17 => ?_)
    · replace h := z_ip_ c_17 h
      refine lv_iconst (v := 1) hx hb dX8_isLine_30 (by decide) ?_
      refine lv_goto (tgt := 35) hx hb dX8_isLine_31 (by decide) ?_
      cases h
      rw [hQ]
      exact m_retz hc hr hlocks (by decide) hP hS hz dX8_isLine_35
    · replace h := z_in_ c_17 h
      refine lv_aload_n hx hb dX8_isLine_20 rfl (lv_at hl 0 rfl) ?_
      refine m_get (k := 5) (v := .ref (o + 5)) hc hP (by decide) wF_X8_22 rfl dX8_isLine_21 ?_
      refine lv_iload_n hx hb dX8_isLine_24 rfl (lv_at hl 1 rfl) ?_
      obtain ⟨c_25, h⟩ := z_chk_some h
      refine m_iald (k := 5) (j := 5) hc hP (ma_5 ..) c_25 dX8_isLine_25 ?_
      refine lv_iconst (v := 4) hx hb dX8_isLine_26 (by decide) ?_
      refine lv_icmp_ne (tgt := 34) hx hb dX8_isLine_27 (by decide) (fun c_27 => ?_) (fun c_27 => ?_)
      · replace h := z_in_ c_27 h
        refine lv_iconst (v := 0) hx hb dX8_isLine_34 (by decide) ?_
        cases h
        rw [hQ]
        exact m_retz hc hr hlocks (by decide) hP hS hz dX8_isLine_35
      · replace h := z_ip_ c_27 h
        refine lv_iconst (v := 1) hx hb dX8_isLine_30 (by decide) ?_
        refine lv_goto (tgt := 35) hx hb dX8_isLine_31 (by decide) ?_
        cases h
        rw [hQ]
        exact m_retz hc hr hlocks (by decide) hP hS hz dX8_isLine_35
theorem md_X8_isLine : yX8_isLine.cls ≠ "java/lang/invoke/MethodHandle" ∧ yX8_isLine.cls ≠ "java/lang/invoke/VarHandle" ∧ (parseMethodDescriptor yX8_isLine.desc).map (fun d => d.parameters.length) = some 1 := by decide +kernel
