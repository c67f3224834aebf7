noncomputable def f_X8_bestTurns_L10 (a0 : Int32) (x2_1 : Int32) (x3_2 : Int64) (x5_3 : Int64) (x7_4 : Int32) (M_5 : MS) : Option ((Int32 × MS) ⊕ (Int32 × Int64 × Int64 × Int32 × MS)) :=
  z_chk (z_in a0 10) (if ((1 : Int32) <<< ((M_5.1 7 a0.toNatClampNeg) &&& 31)) ≤ x7_4 then some (.inl (x2_1, M_5)) else z_bd (f_X8_areTurns M_5 a0 x7_4) fun r_8 => if r_8 = 0 then some (.inr (x2_1, x3_2, x5_3, (x7_4 + 1), M_5)) else z_bd (f_X8_study M_5 a0 x7_4) fun M_9 => z_bd (if 0 ≤ (lg_cmp (M_9.2 26 0) (0 : Int64)) then some ((M_9.2 26 0)) else some ((-(M_9.2 26 0)))) fun v_10 => z_bd (if x2_1 = (-1 : Int32) then some ((1 : Int32)) else z_bd (f_X8_compare v_10 (M_9.2 27 0) x3_2 x5_3) fun r_12 => some (r_12)) fun v_11 => if 0 < v_11 then some (.inr (x7_4, v_10, (M_9.2 27 0), (x7_4 + 1), M_9)) else if v_11 = 0 then z_bd (f_X8_isAhead x7_4 x2_1) fun r_13 => if r_13 = 0 then some (.inr (x2_1, x3_2, x5_3, (x7_4 + 1), M_9)) else some (.inr (x7_4, v_10, (M_9.2 27 0), (x7_4 + 1), M_9)) else some (.inr (x2_1, x3_2, x5_3, (x7_4 + 1), M_9)))
noncomputable def f_X8_bestTurns (M : MS) (a0 : Int32) : Option (Int32 × MS) :=
  z_bd2 (z_lp (fun x => f_X8_bestTurns_L10 a0 x.1 x.2.1 x.2.2.1 x.2.2.2.1 x.2.2.2.2) ((-1 : Int32), (0 : Int64), (1 : Int64), (0 : Int32), M)) fun y2_6 M_7 => some (y2_6, M_7)
set_option maxHeartbeats 4000000 in
set_option maxRecDepth 100000 in
theorem mt_X8_bestTurns (l : Launch) (D : va_G) (cI cJ : ClassId) (o sz : Nat) (M : MS) (a0 : Int32) {r_ : Int32} {N_ : MS} (h : f_X8_bestTurns M a0 = some (r_, N_)) : Met l yX8_bestTurns (z_wd yX8_bestTurns cX8_bestTurns 11 (some .int)) (z_rm 6 261) (va_Pc [.ref o, .int a0] (m_C D cI cJ o sz M)) (va_Qi (fun (r1 : Int32) (M1 : MS) => r1 = r_ ∧ M1 = N_) (m_C D cI cJ o sz) (m_A o)) 0 0 (m_A o) := by
  refine Met.ofW (cc := cX8_bestTurns) (maxL := 11) (ret := (some .int)) (by decide) rfl ?_
  intro p e s m args below meth c s₁ B hml hv
  obtain ⟨hav, hz, hP0, hK⟩ := hv
  have hx := B.exec
  have hb := B.bytes
  have hr := B.returns
  have hts := atoms_spec (ws := z_wd yX8_bestTurns cX8_bestTurns 11 (some .int)) B.pre
  have hown : s.vm.findClass RX8 = some m.cls := findClass_of_methodNamed B.named
  have hlocks := B.notSynchronized
  have hc : m_X p s m args c cX8_bestTurns 11 D cI cJ := ⟨hx, hb, hml, fun w hw => hts w (List.mem_cons_of_mem _ hw), hown, hK⟩
  have hl := lv_entry ([.ref o, .int a0]) (n := 11) (Nat.le_of_ble_eq_true rfl)
  have hE : entryFrame m args 11 = F0 m 0 ((lg_sl ([.ref o, .int a0]) ++ List.replicate (11 - (lg_sl ([.ref o, .int a0])).length) Slot.unset).toArray) [] := by rw [hav]; exact lg_entry_eq m _ _
  rw [hE]
  clear hE hav
  generalize (lg_sl ([.ref o, .int a0]) ++ List.replicate (11 - (lg_sl ([.ref o, .int a0])).length) Slot.unset).toArray = ls at hl ⊢
  have hl : lv_has ls 11 [(0, .ref o), (1, .int a0)] := hl
  obtain ⟨Q, hQ⟩ : ∃ Q, Q = MQ below (va_Qi (fun (r1 : Int32) (M1 : MS) => r1 = r_ ∧ M1 = N_) (m_C D cI cJ o sz) (m_A o)) args s 0 0 (m_A o) := ⟨_, rfl⟩
  rw [← hQ]
  suffices hmain : ∀ (H : Heap) (locs : List Loc), va_P D z_cls (m_W cI cJ o M) H → va_S (m_A o) s.heap H locs → W p l e (z_rm 6 261) s m args below meth c H locs 0 0 Q (F0 m 0 ls []) from hmain s.heap [] hP0 va_S.rf
  clear hP0
  intro H locs hP hS
  unfold f_X8_bestTurns at h
  refine lv_iconst (v := -1) hx hb dX8_bestTurns_0 (by decide) ?_
  refine lv_istore_n (lv' := [(2, .int (-1 : Int32)), (0, .ref o), (1, .int a0)]) hx hb dX8_bestTurns_1 rfl hl (by decide) rfl (fun ls hl => ?_)
  refine lv_lconst (v := 0) hx hb dX8_bestTurns_2 (by decide) ?_
  refine lv_lstore_n (lv' := [(3, .long (0 : Int64)), (2, .int (-1 : Int32)), (0, .ref o), (1, .int a0)]) hx hb dX8_bestTurns_3 rfl hl (by decide) rfl (fun ls hl => ?_)
  refine lv_lconst (v := 1) hx hb dX8_bestTurns_4 (by decide) ?_
  refine lv_lstore (lv' := [(5, .long (1 : Int64)), (3, .long (0 : Int64)), (2, .int (-1 : Int32)), (0, .ref o), (1, .int a0)]) hx hb dX8_bestTurns_5 hl (by decide) rfl (fun ls hl => ?_)
  refine lv_iconst (v := 0) hx hb dX8_bestTurns_7 (by decide) ?_
  refine lv_istore (lv' := [(7, .int (0 : Int32)), (5, .long (1 : Int64)), (3, .long (0 : Int64)), (2, .int (-1 : Int32)), (0, .ref o), (1, .int a0)]) hx hb dX8_bestTurns_8 hl (by decide) rfl (fun ls hl => ?_)
  obtain ⟨y2_6, M_7, hlp, h⟩ := z_bd2_some h
  refine z_lp_ind (P := fun x => ∀ (H : Heap) (locs : List Loc) (ls : Array Slot), va_P D z_cls (m_W cI cJ o x.2.2.2.2) H → va_S (m_A o) s.heap H locs → lv_has ls 11 [(0, .ref o), (1, .int a0), (2, .int x.1), (3, .long x.2.1), (5, .long x.2.2.1), (7, .int x.2.2.2.1)] → W p l e (z_rm 6 261) s m args below meth c H locs 0 0 Q (F0 m 10 ls [])) (Qe := fun y => ∀ (H : Heap) (locs : List Loc) (ls : Array Slot), va_P D z_cls (m_W cI cJ o y.2) H → va_S (m_A o) s.heap H locs → lv_has ls 11 [(2, .int y.1)] → W p l e (z_rm 6 261) s m args below meth c H locs 0 0 Q (F0 m 123 ls [])) ?_ hlp ?_ H locs ls hP hS (lv_sub hl [4, 5, 3, 2, 1, 0] rfl)
  · clear h hlp hP hS hl
    rintro ⟨x2_1, x3_2, x5_3, x7_4, M_5⟩ oo h K_10 H locs ls hP hS hl
    have hP : va_P D z_cls (m_W cI cJ o M_5) H := hP
    have hl : lv_has ls 11 [(0, .ref o), (1, .int a0), (2, .int x2_1), (3, .long x3_2), (5, .long x5_3), (7, .int x7_4)] := hl
    have h : f_X8_bestTurns_L10 a0 x2_1 x3_2 x5_3 x7_4 M_5 = some oo := h
    unfold f_X8_bestTurns_L10 at h
    refine lv_iload hx hb dX8_bestTurns_10 (lv_at hl 5 rfl) ?_
    refine lv_iconst (v := 1) hx hb dX8_bestTurns_12 (by decide) ?_
    refine lv_aload_n hx hb dX8_bestTurns_13 rfl (lv_at hl 0 rfl) ?_
    refine m_get (k := 7) (v := .ref (o + 7)) hc hP (by decide) wF_X8_28 rfl dX8_bestTurns_14 ?_
    refine lv_iload_n hx hb dX8_bestTurns_17 rfl (lv_at hl 1 rfl) ?_
    obtain ⟨c_18, h⟩ := z_chk_some h
    refine m_iald (k := 7) (j := 7) hc hP (ma_7 ..) c_18 dX8_bestTurns_18 ?_
    refine lv_ishl hx hb dX8_bestTurns_19 ?_
    refine lv_icmp_ge (tgt := 123) hx hb dX8_bestTurns_20 (by decide) (fun c_20 => ?_) (fun c_20 => ?_)
    · replace h := z_ip_ c_20 h
      cases h
      exact K_10 H locs ls hP hS (lv_sub hl [2] rfl)
    · replace h := z_in_ c_20 h
      refine lv_aload_n hx hb dX8_bestTurns_23 rfl (lv_at hl 0 rfl) ?_
      refine lv_iload_n hx hb dX8_bestTurns_24 rfl (lv_at hl 1 rfl) ?_
      refine lv_iload hx hb dX8_bestTurns_25 (lv_at hl 5 rfl) ?_
      obtain ⟨r_8, er_8, h⟩ := z_bd_some h
      refine m_calli (As := [.int a0, .int x7_4]) (r := r_8) (M' := M_5) (n := 2) hc hP hS (mt_X8_areTurns l D cI cJ o H.size M_5 a0 x7_4 er_8) wM_X8_195 wI_X8_areTurns wS_X8_areTurns wZ_X8 wC_X8_areTurns md_X8_areTurns ⟨rfl, rfl, Nat.le_of_ble_eq_true rfl, Nat.le_of_ble_eq_true rfl⟩ rfl hl.1 rfl (Nat.le_of_ble_eq_true rfl) dX8_bestTurns_27 ⟨Nat.zero_le _, Nat.zero_le _⟩ (fun H locs hP hS => ?_)
      refine lv_if_eq (tgt := 117) hx hb dX8_bestTurns_30 (by decide) (fun c_30 => ?_) (fun c_30 => ?_)
      · replace h := z_ip_ c_30 h
        refine lv_iinc (v := (x7_4 + 1)) (lv' := [(7, .int (x7_4 + 1)), (0, .ref o), (1, .int a0), (2, .int x2_1), (3, .long x3_2), (5, .long x5_3)]) hx hb dX8_bestTurns_117 hl (k := 5) rfl rfl (by decide) rfl (fun ls hl => ?_)
        refine lv_goto (tgt := 10) hx hb dX8_bestTurns_120 (by decide) ?_
        cases h
        exact K_10 H locs ls hP hS (lv_sub hl [1, 2, 3, 4, 5, 0] rfl)
      · replace h := z_in_ c_30 h
        refine lv_aload_n hx hb dX8_bestTurns_33 rfl (lv_at hl 0 rfl) ?_
        refine lv_iload_n hx hb dX8_bestTurns_34 rfl (lv_at hl 1 rfl) ?_
        refine lv_iload hx hb dX8_bestTurns_35 (lv_at hl 5 rfl) ?_
        obtain ⟨M_9, eM_9, h⟩ := z_bd_some h
        refine m_callv (As := [.int a0, .int x7_4]) (M' := M_9) (n := 2) hc hP hS (mt_X8_study l D cI cJ o H.size M_5 a0 x7_4 eM_9) wM_X8_198 wI_X8_study wS_X8_study wZ_X8 wC_X8_study md_X8_study ⟨rfl, rfl, Nat.le_of_ble_eq_true rfl, Nat.le_of_ble_eq_true rfl⟩ rfl hl.1 rfl (Nat.le_of_ble_eq_true rfl) dX8_bestTurns_37 ⟨Nat.zero_le _, Nat.zero_le _⟩ (fun H locs hP hS => ?_)
        refine lv_aload_n hx hb dX8_bestTurns_40 rfl (lv_at hl 0 rfl) ?_
        refine m_get (k := 26) (v := .long (M_9.2 26 0)) hc hP (by decide) wF_X8_154 rfl dX8_bestTurns_41 ?_
        refine lv_lconst (v := 0) hx hb dX8_bestTurns_44 (by decide) ?_
        refine W.lcmp hx hb dX8_bestTurns_45 ?_
        obtain ⟨v_10, hJ, h⟩ := z_bd_some h
        have J_61 : ∀ (H : Heap) (locs : List Loc) (ls : Array Slot), va_P D z_cls (m_W cI cJ o M_9) H → va_S (m_A o) s.heap H locs → lv_has ls 11 [(0, .ref o), (1, .int a0), (2, .int x2_1), (3, .long x3_2), (5, .long x5_3), (7, .int x7_4)] → W p l e (z_rm 6 261) s m args below meth c H locs 0 0 Q (F0 m 61 ls [.long v_10]) := by
          intro H locs ls hP hS hl
          refine lv_lstore (lv' := [(8, .long v_10), (0, .ref o), (1, .int a0), (2, .int x2_1), (3, .long x3_2), (5, .long x5_3), (7, .int x7_4)]) hx hb dX8_bestTurns_61 hl (by decide) rfl (fun ls hl => ?_)
          refine lv_iload_n hx hb dX8_bestTurns_63 rfl (lv_at hl 3 rfl) ?_
          refine lv_iconst (v := -1) hx hb dX8_bestTurns_64 (by decide) ?_
          obtain ⟨v_11, hJ, h⟩ := z_bd_some h
          have J_84 : ∀ (H : Heap) (locs : List Loc) (ls : Array Slot), va_P D z_cls (m_W cI cJ o M_9) H → va_S (m_A o) s.heap H locs → lv_has ls 11 [(0, .ref o), (1, .int a0), (2, .int x2_1), (3, .long x3_2), (5, .long x5_3), (7, .int x7_4), (8, .long v_10)] → W p l e (z_rm 6 261) s m args below meth c H locs 0 0 Q (F0 m 84 ls [.int v_11]) := by
            intro H locs ls hP hS hl
            refine lv_istore (lv' := [(10, .int v_11), (0, .ref o), (1, .int a0), (2, .int x2_1), (3, .long x3_2), (5, .long x5_3), (7, .int x7_4), (8, .long v_10)]) hx hb dX8_bestTurns_84 hl (by decide) rfl (fun ls hl => ?_)
            refine lv_iload hx hb dX8_bestTurns_86 (lv_at hl 0 rfl) ?_
            refine lv_if_gt (tgt := 105) hx hb dX8_bestTurns_88 (by decide) (fun c_88 => ?_) (fun c_88 => ?_)
            · replace h := z_ip_ c_88 h
              refine lv_iload hx hb dX8_bestTurns_105 (lv_at hl 6 rfl) ?_
              refine lv_istore_n (lv' := [(2, .int x7_4), (10, .int v_11), (0, .ref o), (1, .int a0), (3, .long x3_2), (5, .long x5_3), (7, .int x7_4), (8, .long v_10)]) hx hb dX8_bestTurns_107 rfl hl (by decide) rfl (fun ls hl => ?_)
              refine lv_lload hx hb dX8_bestTurns_108 (lv_at hl 7 rfl) ?_
              refine lv_lstore_n (lv' := [(3, .long v_10), (2, .int x7_4), (10, .int v_11), (0, .ref o), (1, .int a0), (5, .long x5_3), (7, .int x7_4), (8, .long v_10)]) hx hb dX8_bestTurns_110 rfl hl (by decide) rfl (fun ls hl => ?_)
              refine lv_aload_n hx hb dX8_bestTurns_111 rfl (lv_at hl 3 rfl) ?_
              refine m_get (k := 27) (v := .long (M_9.2 27 0)) hc hP (by decide) wF_X8_157 rfl dX8_bestTurns_112 ?_
              refine lv_lstore (lv' := [(5, .long (M_9.2 27 0)), (3, .long v_10), (2, .int x7_4), (10, .int v_11), (0, .ref o), (1, .int a0), (7, .int x7_4), (8, .long v_10)]) hx hb dX8_bestTurns_115 hl (by decide) rfl (fun ls hl => ?_)
              refine lv_iinc (v := (x7_4 + 1)) (lv' := [(7, .int (x7_4 + 1)), (5, .long (M_9.2 27 0)), (3, .long v_10), (2, .int x7_4), (10, .int v_11), (0, .ref o), (1, .int a0), (8, .long v_10)]) hx hb dX8_bestTurns_117 hl (k := 6) rfl rfl (by decide) rfl (fun ls hl => ?_)
              refine lv_goto (tgt := 10) hx hb dX8_bestTurns_120 (by decide) ?_
              cases h
              exact K_10 H locs ls hP hS (lv_sub hl [5, 6, 3, 2, 1, 0] rfl)
            · replace h := z_in_ c_88 h
              refine lv_iload hx hb dX8_bestTurns_91 (lv_at hl 0 rfl) ?_
              refine lv_if_ne (tgt := 117) hx hb dX8_bestTurns_93 (by decide) (fun c_93 => ?_) (fun c_93 => ?_)
              · replace h := z_in_ c_93 h
                refine lv_iinc (v := (x7_4 + 1)) (lv' := [(7, .int (x7_4 + 1)), (10, .int v_11), (0, .ref o), (1, .int a0), (2, .int x2_1), (3, .long x3_2), (5, .long x5_3), (8, .long v_10)]) hx hb dX8_bestTurns_117 hl (k := 6) rfl rfl (by decide) rfl (fun ls hl => ?_)
                refine lv_goto (tgt := 10) hx hb dX8_bestTurns_120 (by decide) ?_
                cases h
                exact K_10 H locs ls hP hS (lv_sub hl [2, 3, 4, 5, 6, 0] rfl)
              · replace h := z_ip_ c_93 h
                refine lv_iload hx hb dX8_bestTurns_96 (lv_at hl 6 rfl) ?_
                refine lv_iload_n hx hb dX8_bestTurns_98 rfl (lv_at hl 3 rfl) ?_
                obtain ⟨r_13, er_13, h⟩ := z_bd_some h
                refine s_calli (As := [.int x7_4, .int x2_1]) (r := r_13) (n := 2) hc.s (mt_X8_isAhead l x7_4 x2_1 er_13) wM_X8_205 wT_X8_isAhead wZ_X8 wC_X8_isAhead md_X8_isAhead ⟨rfl, rfl, Nat.le_of_ble_eq_true rfl, Nat.le_of_ble_eq_true rfl⟩ rfl hl.1 rfl (Nat.le_of_ble_eq_true rfl) dX8_bestTurns_99 ⟨Nat.zero_le _, Nat.zero_le _⟩ ?_
                refine lv_if_eq (tgt := 117) hx hb dX8_bestTurns_102 (by decide) (fun c_102 => ?_) (fun c_102 => ?_)
                · replace h := z_ip_ c_102 h
                  refine lv_iinc (v := (x7_4 + 1)) (lv' := [(7, .int (x7_4 + 1)), (10, .int v_11), (0, .ref o), (1, .int a0), (2, .int x2_1), (3, .long x3_2), (5, .long x5_3), (8, .long v_10)]) hx hb dX8_bestTurns_117 hl (k := 6) rfl rfl (by decide) rfl (fun ls hl => ?_)
                  refine lv_goto (tgt := 10) hx hb dX8_bestTurns_120 (by decide) ?_
                  cases h
                  exact K_10 H locs ls hP hS (lv_sub hl [2, 3, 4, 5, 6, 0] rfl)
                · replace h := z_in_ c_102 h
                  refine lv_iload hx hb dX8_bestTurns_105 (lv_at hl 6 rfl) ?_
                  refine lv_istore_n (lv' := [(2, .int x7_4), (10, .int v_11), (0, .ref o), (1, .int a0), (3, .long x3_2), (5, .long x5_3), (7, .int x7_4), (8, .long v_10)]) hx hb dX8_bestTurns_107 rfl hl (by decide) rfl (fun ls hl => ?_)
                  refine lv_lload hx hb dX8_bestTurns_108 (lv_at hl 7 rfl) ?_
                  refine lv_lstore_n (lv' := [(3, .long v_10), (2, .int x7_4), (10, .int v_11), (0, .ref o), (1, .int a0), (5, .long x5_3), (7, .int x7_4), (8, .long v_10)]) hx hb dX8_bestTurns_110 rfl hl (by decide) rfl (fun ls hl => ?_)
                  refine lv_aload_n hx hb dX8_bestTurns_111 rfl (lv_at hl 3 rfl) ?_
                  refine m_get (k := 27) (v := .long (M_9.2 27 0)) hc hP (by decide) wF_X8_157 rfl dX8_bestTurns_112 ?_
                  refine lv_lstore (lv' := [(5, .long (M_9.2 27 0)), (3, .long v_10), (2, .int x7_4), (10, .int v_11), (0, .ref o), (1, .int a0), (7, .int x7_4), (8, .long v_10)]) hx hb dX8_bestTurns_115 hl (by decide) rfl (fun ls hl => ?_)
                  refine lv_iinc (v := (x7_4 + 1)) (lv' := [(7, .int (x7_4 + 1)), (5, .long (M_9.2 27 0)), (3, .long v_10), (2, .int x7_4), (10, .int v_11), (0, .ref o), (1, .int a0), (8, .long v_10)]) hx hb dX8_bestTurns_117 hl (k := 6) rfl rfl (by decide) rfl (fun ls hl => ?_)
                  refine lv_goto (tgt := 10) hx hb dX8_bestTurns_120 (by decide) ?_
                  cases h
                  exact K_10 H locs ls hP hS (lv_sub hl [5, 6, 3, 2, 1, 0] rfl)
          clear h
          have h := hJ
          clear hJ
          refine lv_icmp_ne (tgt := 72) hx hb dX8_bestTurns_65 (by decide) (fun c_65 => ?_) (fun c_65 => ?_)
          · replace h := z_in_ c_65 h
            refine lv_lload hx hb dX8_bestTurns_72 (lv_at hl 0 rfl) ?_
            refine lv_aload_n hx hb dX8_bestTurns_74 rfl (lv_at hl 1 rfl) ?_
            refine m_get (k := 27) (v := .long (M_9.2 27 0)) hc hP (by decide) wF_X8_157 rfl dX8_bestTurns_75 ?_
            refine lv_lload_n hx hb dX8_bestTurns_78 rfl (lv_at hl 4 rfl) ?_
            refine lv_lload hx hb dX8_bestTurns_79 (lv_at hl 5 rfl) ?_
            obtain ⟨r_12, er_12, h⟩ := z_bd_some h
            refine s_calli (As := [.long v_10, .long (M_9.2 27 0), .long x3_2, .long x5_3]) (r := r_12) (n := 4) hc.s (mt_X8_compare l v_10 (M_9.2 27 0) x3_2 x5_3 er_12) wM_X8_201 wT_X8_compare wZ_X8 wC_X8_compare md_X8_compare ⟨rfl, rfl, Nat.le_of_ble_eq_true rfl, Nat.le_of_ble_eq_true rfl⟩ rfl hl.1 rfl (Nat.le_of_ble_eq_true rfl) dX8_bestTurns_81 ⟨Nat.zero_le _, Nat.zero_le _⟩ ?_
            cases h
            exact J_84 H locs ls hP hS (lv_sub hl [1, 2, 3, 4, 5, 6, 0] rfl)
          · replace h := z_ip_ c_65 h
            refine lv_iconst (v := 1) hx hb dX8_bestTurns_68 (by decide) ?_
            refine lv_goto (tgt := 84) hx hb dX8_bestTurns_69 (by decide) ?_
            cases h
            exact J_84 H locs ls hP hS (lv_sub hl [1, 2, 3, 4, 5, 6, 0] rfl)
        clear h
        have h := hJ
        clear hJ
        refine lv_if_ge (tgt := 57) hx hb dX8_bestTurns_46 (by decide) (fun c_46 => ?_) (fun c_46 => ?_)
        · replace h := z_ip_ c_46 h
          refine lv_aload_n hx hb dX8_bestTurns_57 rfl (lv_at hl 0 rfl) ?_
          refine m_get (k := 26) (v := .long (M_9.2 26 0)) hc hP (by decide) wF_X8_154 rfl dX8_bestTurns_58 ?_
          cases h
          exact J_61 H locs ls hP hS (lv_sub hl [0, 1, 2, 3, 4, 5] rfl)
        · replace h := z_in_ c_46 h
          refine lv_aload_n hx hb dX8_bestTurns_49 rfl (lv_at hl 0 rfl) ?_
          refine m_get (k := 26) (v := .long (M_9.2 26 0)) hc hP (by decide) wF_X8_154 rfl dX8_bestTurns_50 ?_
          refine lv_lneg hx hb dX8_bestTurns_53 ?_
          refine lv_goto (tgt := 61) hx hb dX8_bestTurns_54 (by decide) ?_
          cases h
          exact J_61 H locs ls hP hS (lv_sub hl [0, 1, 2, 3, 4, 5] rfl)
  · clear hlp hP hS hl
    intro H locs ls hP hS hl
    have hP : va_P D z_cls (m_W cI cJ o M_7) H := hP
    have hl : lv_has ls 11 [(2, .int y2_6)] := hl
    refine lv_iload_n hx hb dX8_bestTurns_123 rfl (lv_at hl 0 rfl) ?_
    cases h
    rw [hQ]
    exact m_reti hc hr hlocks hP hS hz dX8_bestTurns_124
theorem md_X8_bestTurns : yX8_bestTurns.cls ≠ "java/lang/invoke/MethodHandle" ∧ yX8_bestTurns.cls ≠ "java/lang/invoke/VarHandle" ∧ (parseMethodDescriptor yX8_bestTurns.desc).map (fun d => d.parameters.length) = some 1 := by decide +kernel
noncomputable def f_X8_keep_L2 (a0 : Int32) (a1 : Int32) (x3_1 : Int32) (M_2 : MS) : Option ((MS) ⊕ (Int32 × MS)) :=
  if (3 : Int32) ≤ x3_1 then some (.inl (M_2)) else z_chk (z_in x3_1 3) (z_chk (z_in x3_1 3) (z_bd (f_X8_number M_2 a0 a1 x3_1 (M_2.2 28 x3_1.toNatClampNeg) (M_2.2 29 x3_1.toNatClampNeg)) fun M_4 => some (.inr ((x3_1 + 1), M_4))))
noncomputable def f_X8_keep (M : MS) (a0 : Int32) (a1 : Int32) : Option (MS) :=
  z_bd (z_lp (fun x => f_X8_keep_L2 a0 a1 x.1 x.2) ((0 : Int32), M)) fun M_3 => some M_3
set_option maxHeartbeats 4000000 in
set_option maxRecDepth 100000 in
theorem mt_X8_keep (l : Launch) (D : va_G) (cI cJ : ClassId) (o sz : Nat) (M : MS) (a0 : Int32) (a1 : Int32) {N_ : MS} (h : f_X8_keep M a0 a1 = some N_) : Met l yX8_keep (z_wd yX8_keep cX8_keep 4 none) (z_rm 1 44) (va_Pc [.ref o, .int a0, .int a1] (m_C D cI cJ o sz M)) (va_Qv (fun (M1 : MS) => M1 = N_) (m_C D cI cJ o sz) (m_A o)) 0 0 (m_A o) := by
  refine Met.ofW (cc := cX8_keep) (maxL := 4) (ret := none) (by decide) rfl ?_
  intro p e s m args below meth c s₁ B hml hv
  obtain ⟨hav, hz, hP0, hK⟩ := hv
  have hx := B.exec
  have hb := B.bytes
  have hr := B.returns
  have hts := atoms_spec (ws := z_wd yX8_keep cX8_keep 4 none) B.pre
  have hown : s.vm.findClass RX8 = some m.cls := findClass_of_methodNamed B.named
  have hlocks := B.notSynchronized
  have hc : m_X p s m args c cX8_keep 4 D cI cJ := ⟨hx, hb, hml, fun w hw => hts w (List.mem_cons_of_mem _ hw), hown, hK⟩
  have hl := lv_entry ([.ref o, .int a0, .int a1]) (n := 4) (Nat.le_of_ble_eq_true rfl)
  have hE : entryFrame m args 4 = F0 m 0 ((lg_sl ([.ref o, .int a0, .int a1]) ++ List.replicate (4 - (lg_sl ([.ref o, .int a0, .int a1])).length) Slot.unset).toArray) [] := by rw [hav]; exact lg_entry_eq m _ _
  rw [hE]
  clear hE hav
  generalize (lg_sl ([.ref o, .int a0, .int a1]) ++ List.replicate (4 - (lg_sl ([.ref o, .int a0, .int a1])).length) Slot.unset).toArray = ls at hl ⊢
  have hl : lv_has ls 4 [(0, .ref o), (1, .int a0), (2, .int a1)] := hl
  obtain ⟨Q, hQ⟩ : ∃ Q, Q = MQ below (va_Qv (fun (M1 : MS) => M1 = N_) (m_C D cI cJ o sz) (m_A o)) args s 0 0 (m_A o) := ⟨_, rfl⟩
  rw [← hQ]
  suffices hmain : ∀ (H : Heap) (locs : List Loc), va_P D z_cls (m_W cI cJ o M) H → va_S (m_A o) s.heap H locs → W p l e (z_rm 1 44) s m args below meth c H locs 0 0 Q (F0 m 0 ls []) from hmain s.heap [] hP0 va_S.rf
  clear hP0
  intro H locs hP hS
  unfold f_X8_keep at h
  refine lv_iconst (v := 0) hx hb dX8_keep_0 (by decide) ?_
  refine lv_istore_n (lv' := [(3, .int (0 : Int32)), (0, .ref o), (1, .int a0), (2, .int a1)]) hx hb dX8_keep_1 rfl hl (by decide) rfl (fun ls hl => ?_)
  obtain ⟨M_3, hlp, h⟩ := z_bd_some h
  refine z_lp_ind (P := fun x => ∀ (H : Heap) (locs : List Loc) (ls : Array Slot), va_P D z_cls (m_W cI cJ o x.2) H → va_S (m_A o) s.heap H locs → lv_has ls 4 [(0, .ref o), (1, .int a0), (2, .int a1), (3, .int x.1)] → W p l e (z_rm 1 44) s m args below meth c H locs 0 0 Q (F0 m 2 ls [])) (Qe := fun y => ∀ (H : Heap) (locs : List Loc) (ls : Array Slot), va_P D z_cls (m_W cI cJ o y) H → va_S (m_A o) s.heap H locs → lv_has ls 4 [] → W p l e (z_rm 1 44) s m args below meth c H locs 0 0 Q (F0 m 32 ls [])) ?_ hlp ?_ H locs ls hP hS (lv_sub hl [1, 2, 3, 0] rfl)
  · clear h hlp hP hS hl
    rintro ⟨x3_1, M_2⟩ oo h K_2 H locs ls hP hS hl
    have hP : va_P D z_cls (m_W cI cJ o M_2) H := hP
    have hl : lv_has ls 4 [(0, .ref o), (1, .int a0), (2, .int a1), (3, .int x3_1)] := hl
    have h : f_X8_keep_L2 a0 a1 x3_1 M_2 = some oo := h
    unfold f_X8_keep_L2 at h
    refine lv_iload_n hx hb dX8_keep_2 rfl (lv_at hl 3 rfl) ?_
    refine lv_iconst (v := 3) hx hb dX8_keep_3 (by decide) ?_
    refine lv_icmp_ge (tgt := 32) hx hb dX8_keep_4 (by decide) (fun c_4 => ?_) (fun c_4 => ?_)
    · replace h := z_ip_ c_4 h
      cases h
      exact K_2 H locs ls hP hS (lv_sub hl [] rfl)
    · replace h := z_in_ c_4 h
      refine lv_aload_n hx hb dX8_keep_7 rfl (lv_at hl 0 rfl) ?_
      refine lv_iload_n hx hb dX8_keep_8 rfl (lv_at hl 1 rfl) ?_
      refine lv_iload_n hx hb dX8_keep_9 rfl (lv_at hl 2 rfl) ?_
      refine lv_iload_n hx hb dX8_keep_10 rfl (lv_at hl 3 rfl) ?_
      refine lv_aload_n hx hb dX8_keep_11 rfl (lv_at hl 0 rfl) ?_
      refine m_get (k := 28) (v := .ref (o + 22)) hc hP (by decide) wF_X8_78 rfl dX8_keep_12 ?_
      refine lv_iload_n hx hb dX8_keep_15 rfl (lv_at hl 3 rfl) ?_
      obtain ⟨c_16, h⟩ := z_chk_some h
      refine m_lald (k := 28) (j := 22) hc hP (ma_28 ..) c_16 dX8_keep_16 ?_
      refine lv_aload_n hx hb dX8_keep_17 rfl (lv_at hl 0 rfl) ?_
      refine m_get (k := 29) (v := .ref (o + 23)) hc hP (by decide) wF_X8_81 rfl dX8_keep_18 ?_
      refine lv_iload_n hx hb dX8_keep_21 rfl (lv_at hl 3 rfl) ?_
      obtain ⟨c_22, h⟩ := z_chk_some h
      refine m_lald (k := 29) (j := 23) hc hP (ma_29 ..) c_22 dX8_keep_22 ?_
      obtain ⟨M_4, eM_4, h⟩ := z_bd_some h
      refine m_callv (As := [.int a0, .int a1, .int x3_1, .long (M_2.2 28 x3_1.toNatClampNeg), .long (M_2.2 29 x3_1.toNatClampNeg)]) (M' := M_4) (n := 5) hc hP hS (mt_X8_number l D cI cJ o H.size M_2 a0 a1 x3_1 (M_2.2 28 x3_1.toNatClampNeg) (M_2.2 29 x3_1.toNatClampNeg) eM_4) wM_X8_133 wI_X8_number wS_X8_number wZ_X8 wC_X8_number md_X8_number ⟨rfl, rfl, Nat.le_of_ble_eq_true rfl, Nat.le_of_ble_eq_true rfl⟩ rfl hl.1 rfl (Nat.le_of_ble_eq_true rfl) dX8_keep_23 ⟨Nat.zero_le _, Nat.zero_le _⟩ (fun H locs hP hS => ?_)
      refine lv_iinc (v := (x3_1 + 1)) (lv' := [(3, .int (x3_1 + 1)), (0, .ref o), (1, .int a0), (2, .int a1)]) hx hb dX8_keep_26 hl (k := 3) rfl rfl (by decide) rfl (fun ls hl => ?_)
      refine lv_goto (tgt := 2) hx hb dX8_keep_29 (by decide) ?_
      cases h
      exact K_2 H locs ls hP hS (lv_sub hl [1, 2, 3, 0] rfl)
  · clear hlp hP hS hl
    intro H locs ls hP hS hl
    have hP : va_P D z_cls (m_W cI cJ o M_3) H := hP
    have hl : lv_has ls 4 [] := hl
    cases h
    rw [hQ]
    exact m_retv hc hr hlocks hP hS hz dX8_keep_32
theorem md_X8_keep : yX8_keep.cls ≠ "java/lang/invoke/MethodHandle" ∧ yX8_keep.cls ≠ "java/lang/invoke/VarHandle" ∧ (parseMethodDescriptor yX8_keep.desc).map (fun d => d.parameters.length) = some 2 := by decide +kernel
noncomputable def f_X8_settle_L22 (a0 : Int32) (x3_4 : Int32) (M_5 : MS) : Option ((MS) ⊕ (Int32 × MS)) :=
  z_chk (z_in a0 10) (if (M_5.1 7 a0.toNatClampNeg) ≤ x3_4 then some (.inl (M_5)) else z_chk (z_in x3_4 12) (z_lt (sI M_5 23 x3_4.toNatClampNeg x3_4) fun M_7 => z_chk (z_in (((12 : Int32) * a0) + x3_4) 120) (z_chk (z_in x3_4 3) (z_lt (sJ M_7 24 x3_4.toNatClampNeg (M_7.1 9 (((12 : Int32) * a0) + x3_4).toNatClampNeg).toInt64) fun M_8 => z_chk (z_in x3_4 3) (z_lt (sJ M_8 25 x3_4.toNatClampNeg (1 : Int64)) fun M_9 => some (.inr ((x3_4 + 1), M_9)))))))
noncomputable def f_X8_settle (M : MS) (a0 : Int32) : Option (MS) :=
  z_bd2 (f_X8_bestTurns M a0) fun r_2 M_1 => z_bd (if r_2 = (-1 : Int32) then z_bd (z_lp (fun x => f_X8_settle_L22 a0 x.1 x.2) ((0 : Int32), M_1)) fun M_6 => z_chk (z_in a0 10) (z_bd (f_X8_through M_6 a0 (M_6.1 7 a0.toNatClampNeg)) fun M_10 => z_bd (f_X8_ofX M_10 a0) fun M_11 => some (M_11)) else z_bd (f_X8_study M_1 a0 r_2) fun M_12 => some (M_12)) fun M_3 => z_bd (f_X8_keep M_3 a0 (0 : Int32)) fun M_13 => some M_13
set_option maxHeartbeats 4000000 in
set_option maxRecDepth 100000 in
theorem mt_X8_settle (l : Launch) (D : va_G) (cI cJ : ClassId) (o sz : Nat) (M : MS) (a0 : Int32) {N_ : MS} (h : f_X8_settle M a0 = some N_) : Met l yX8_settle (z_wd yX8_settle cX8_settle 4 none) (z_rm 7 307) (va_Pc [.ref o, .int a0] (m_C D cI cJ o sz M)) (va_Qv (fun (M1 : MS) => M1 = N_) (m_C D cI cJ o sz) (m_A o)) 0 0 (m_A o) := by
  refine Met.ofW (cc := cX8_settle) (maxL := 4) (ret := none) (by decide) rfl ?_
  intro p e s m args below meth c s₁ B hml hv
  obtain ⟨hav, hz, hP0, hK⟩ := hv
  have hx := B.exec
  have hb := B.bytes
  have hr := B.returns
  have hts := atoms_spec (ws := z_wd yX8_settle cX8_settle 4 none) B.pre
  have hown : s.vm.findClass RX8 = some m.cls := findClass_of_methodNamed B.named
  have hlocks := B.notSynchronized
  have hc : m_X p s m args c cX8_settle 4 D cI cJ := ⟨hx, hb, hml, fun w hw => hts w (List.mem_cons_of_mem _ hw), hown, hK⟩
  have hl := lv_entry ([.ref o, .int a0]) (n := 4) (Nat.le_of_ble_eq_true rfl)
  have hE : entryFrame m args 4 = F0 m 0 ((lg_sl ([.ref o, .int a0]) ++ List.replicate (4 - (lg_sl ([.ref o, .int a0])).length) Slot.unset).toArray) [] := by rw [hav]; exact lg_entry_eq m _ _
  rw [hE]
  clear hE hav
  generalize (lg_sl ([.ref o, .int a0]) ++ List.replicate (4 - (lg_sl ([.ref o, .int a0])).length) Slot.unset).toArray = ls at hl ⊢
  have hl : lv_has ls 4 [(0, .ref o), (1, .int a0)] := hl
  obtain ⟨Q, hQ⟩ : ∃ Q, Q = MQ below (va_Qv (fun (M1 : MS) => M1 = N_) (m_C D cI cJ o sz) (m_A o)) args s 0 0 (m_A o) := ⟨_, rfl⟩
  rw [← hQ]
  suffices hmain : ∀ (H : Heap) (locs : List Loc), va_P D z_cls (m_W cI cJ o M) H → va_S (m_A o) s.heap H locs → W p l e (z_rm 7 307) s m args below meth c H locs 0 0 Q (F0 m 0 ls []) from hmain s.heap [] hP0 va_S.rf
  clear hP0
  intro H locs hP hS
  unfold f_X8_settle at h
  refine lv_aload_n hx hb dX8_settle_0 rfl (lv_at hl 0 rfl) ?_
  refine lv_iload_n hx hb dX8_settle_1 rfl (lv_at hl 1 rfl) ?_
  obtain ⟨r_2, M_1, er_2, h⟩ := z_bd2_some h
  refine m_calli (As := [.int a0]) (r := r_2) (M' := M_1) (n := 1) hc hP hS (mt_X8_bestTurns l D cI cJ o H.size M a0 er_2) wM_X8_208 wI_X8_bestTurns wS_X8_bestTurns wZ_X8 wC_X8_bestTurns md_X8_bestTurns ⟨rfl, rfl, Nat.le_of_ble_eq_true rfl, Nat.le_of_ble_eq_true rfl⟩ rfl hl.1 rfl (Nat.le_of_ble_eq_true rfl) dX8_settle_2 ⟨Nat.zero_le _, Nat.zero_le _⟩ (fun H locs hP hS => ?_)
  refine lv_istore_n (lv' := [(2, .int r_2), (0, .ref o), (1, .int a0)]) hx hb dX8_settle_5 rfl hl (by decide) rfl (fun ls hl => ?_)
  refine lv_iload_n hx hb dX8_settle_6 rfl (lv_at hl 0 rfl) ?_
  refine lv_iconst (v := -1) hx hb dX8_settle_7 (by decide) ?_
  obtain ⟨M_3, hJ, h⟩ := z_bd_some h
  have J_86 : ∀ (H : Heap) (locs : List Loc) (ls : Array Slot), va_P D z_cls (m_W cI cJ o M_3) H → va_S (m_A o) s.heap H locs → lv_has ls 4 [(0, .ref o), (1, .int a0)] → W p l e (z_rm 7 307) s m args below meth c H locs 0 0 Q (F0 m 86 ls []) := by
    intro H locs ls hP hS hl
    refine lv_aload_n hx hb dX8_settle_86 rfl (lv_at hl 0 rfl) ?_
    refine lv_iload_n hx hb dX8_settle_87 rfl (lv_at hl 1 rfl) ?_
    refine lv_iconst (v := 0) hx hb dX8_settle_88 (by decide) ?_
    obtain ⟨M_13, eM_13, h⟩ := z_bd_some h
    refine m_callv (As := [.int a0, .int (0 : Int32)]) (M' := M_13) (n := 2) hc hP hS (mt_X8_keep l D cI cJ o H.size M_3 a0 (0 : Int32) eM_13) wM_X8_211 wI_X8_keep wS_X8_keep wZ_X8 wC_X8_keep md_X8_keep ⟨rfl, rfl, Nat.le_of_ble_eq_true rfl, Nat.le_of_ble_eq_true rfl⟩ rfl hl.1 rfl (Nat.le_of_ble_eq_true rfl) dX8_settle_89 ⟨Nat.zero_le _, Nat.zero_le _⟩ (fun H locs hP hS => ?_)
    cases h
    rw [hQ]
    exact m_retv hc hr hlocks hP hS hz dX8_settle_92
  clear h
  have h := hJ
  clear hJ
  refine lv_icmp_eq (tgt := 20) hx hb dX8_settle_8 (by decide) (fun c_8 => ?_) (fun c_8 => ?_)
  · replace h := z_ip_ c_8 h
    refine lv_iconst (v := 0) hx hb dX8_settle_20 (by decide) ?_
    refine lv_istore_n (lv' := [(3, .int (0 : Int32)), (2, .int r_2), (0, .ref o), (1, .int a0)]) hx hb dX8_settle_21 rfl hl (by decide) rfl (fun ls hl => ?_)
    obtain ⟨M_6, hlp, h⟩ := z_bd_some h
    refine z_lp_ind (P := fun x => ∀ (H : Heap) (locs : List Loc) (ls : Array Slot), va_P D z_cls (m_W cI cJ o x.2) H → va_S (m_A o) s.heap H locs → lv_has ls 4 [(0, .ref o), (1, .int a0), (3, .int x.1)] → W p l e (z_rm 7 307) s m args below meth c H locs 0 0 Q (F0 m 22 ls [])) (Qe := fun y => ∀ (H : Heap) (locs : List Loc) (ls : Array Slot), va_P D z_cls (m_W cI cJ o y) H → va_S (m_A o) s.heap H locs → lv_has ls 4 [(0, .ref o), (1, .int a0)] → W p l e (z_rm 7 307) s m args below meth c H locs 0 0 Q (F0 m 70 ls [])) ?_ hlp ?_ H locs ls hP hS (lv_sub hl [2, 3, 0] rfl)
    · clear h hlp hP hS hl
      rintro ⟨x3_4, M_5⟩ oo h K_22 H locs ls hP hS hl
      have hP : va_P D z_cls (m_W cI cJ o M_5) H := hP
      have hl : lv_has ls 4 [(0, .ref o), (1, .int a0), (3, .int x3_4)] := hl
      have h : f_X8_settle_L22 a0 x3_4 M_5 = some oo := h
      unfold f_X8_settle_L22 at h
      refine lv_iload_n hx hb dX8_settle_22 rfl (lv_at hl 2 rfl) ?_
      refine lv_aload_n hx hb dX8_settle_23 rfl (lv_at hl 0 rfl) ?_
      refine m_get (k := 7) (v := .ref (o + 7)) hc hP (by decide) wF_X8_28 rfl dX8_settle_24 ?_
      refine lv_iload_n hx hb dX8_settle_27 rfl (lv_at hl 1 rfl) ?_
      obtain ⟨c_28, h⟩ := z_chk_some h
      refine m_iald (k := 7) (j := 7) hc hP (ma_7 ..) c_28 dX8_settle_28 ?_
      refine lv_icmp_ge (tgt := 70) hx hb dX8_settle_29 (by decide) (fun c_29 => ?_) (fun c_29 => ?_)
      · replace h := z_ip_ c_29 h
        cases h
        exact K_22 H locs ls hP hS (lv_sub hl [0, 1] rfl)
      · replace h := z_in_ c_29 h
        refine lv_aload_n hx hb dX8_settle_32 rfl (lv_at hl 0 rfl) ?_
        refine m_get (k := 23) (v := .ref (o + 19)) hc hP (by decide) wF_X8_69 rfl dX8_settle_33 ?_
        refine lv_iload_n hx hb dX8_settle_36 rfl (lv_at hl 2 rfl) ?_
        refine lv_iload_n hx hb dX8_settle_37 rfl (lv_at hl 2 rfl) ?_
        obtain ⟨c_38, h⟩ := z_chk_some h
        obtain ⟨M_7, eM_7, h⟩ := z_lt_some h
        refine m_iast (k := 23) (j := 19) (M' := M_7) hc hP hS (ma_23 ..) c_38 (by rw [eM_7]; exact mp_23 ..) dX8_settle_38 (fun H locs hP hS => ?_)
        refine lv_aload_n hx hb dX8_settle_39 rfl (lv_at hl 0 rfl) ?_
        refine m_get (k := 24) (v := .ref (o + 20)) hc hP (by decide) wF_X8_72 rfl dX8_settle_40 ?_
        refine lv_iload_n hx hb dX8_settle_43 rfl (lv_at hl 2 rfl) ?_
        refine lv_aload_n hx hb dX8_settle_44 rfl (lv_at hl 0 rfl) ?_
        refine m_get (k := 9) (v := .ref (o + 9)) hc hP (by decide) wF_X8_34 rfl dX8_settle_45 ?_
        refine lv_bipush (v := 12) hx hb dX8_settle_48 (by decide) ?_
        refine lv_iload_n hx hb dX8_settle_50 rfl (lv_at hl 1 rfl) ?_
        refine lv_imul hx hb dX8_settle_51 ?_
        refine lv_iload_n hx hb dX8_settle_52 rfl (lv_at hl 2 rfl) ?_
        refine lv_iadd hx hb dX8_settle_53 ?_
        obtain ⟨c_54, h⟩ := z_chk_some h
        refine m_iald (k := 9) (j := 9) hc hP (ma_9 ..) c_54 dX8_settle_54 ?_
        refine lv_i2l (v := (M_7.1 9 (((12 : Int32) * a0) + x3_4).toNatClampNeg).toInt64) hx hb dX8_settle_55 rfl ?_
        obtain ⟨c_56, h⟩ := z_chk_some h
        obtain ⟨M_8, eM_8, h⟩ := z_lt_some h
        refine m_last (k := 24) (j := 20) (M' := M_8) hc hP hS (ma_24 ..) c_56 (by rw [eM_8]; exact mp_24 ..) dX8_settle_56 (fun H locs hP hS => ?_)
        refine lv_aload_n hx hb dX8_settle_57 rfl (lv_at hl 0 rfl) ?_
        refine m_get (k := 25) (v := .ref (o + 21)) hc hP (by decide) wF_X8_75 rfl dX8_settle_58 ?_
        refine lv_iload_n hx hb dX8_settle_61 rfl (lv_at hl 2 rfl) ?_
        refine lv_lconst (v := 1) hx hb dX8_settle_62 (by decide) ?_
        obtain ⟨c_63, h⟩ := z_chk_some h
        obtain ⟨M_9, eM_9, h⟩ := z_lt_some h
        refine m_last (k := 25) (j := 21) (M' := M_9) hc hP hS (ma_25 ..) c_63 (by rw [eM_9]; exact mp_25 ..) dX8_settle_63 (fun H locs hP hS => ?_)
        refine lv_iinc (v := (x3_4 + 1)) (lv' := [(3, .int (x3_4 + 1)), (0, .ref o), (1, .int a0)]) hx hb dX8_settle_64 hl (k := 2) rfl rfl (by decide) rfl (fun ls hl => ?_)
        refine lv_goto (tgt := 22) hx hb dX8_settle_67 (by decide) ?_
        cases h
        exact K_22 H locs ls hP hS (lv_sub hl [1, 2, 0] rfl)
    · clear hlp hP hS hl
      intro H locs ls hP hS hl
      have hP : va_P D z_cls (m_W cI cJ o M_6) H := hP
      have hl : lv_has ls 4 [(0, .ref o), (1, .int a0)] := hl
      refine lv_aload_n hx hb dX8_settle_70 rfl (lv_at hl 0 rfl) ?_
      refine lv_iload_n hx hb dX8_settle_71 rfl (lv_at hl 1 rfl) ?_
      refine lv_aload_n hx hb dX8_settle_72 rfl (lv_at hl 0 rfl) ?_
      refine m_get (k := 7) (v := .ref (o + 7)) hc hP (by decide) wF_X8_28 rfl dX8_settle_73 ?_
      refine lv_iload_n hx hb dX8_settle_76 rfl (lv_at hl 1 rfl) ?_
      obtain ⟨c_77, h⟩ := z_chk_some h
      refine m_iald (k := 7) (j := 7) hc hP (ma_7 ..) c_77 dX8_settle_77 ?_
      obtain ⟨M_10, eM_10, h⟩ := z_bd_some h
      refine m_callv (As := [.int a0, .int (M_6.1 7 a0.toNatClampNeg)]) (M' := M_10) (n := 2) hc hP hS (mt_X8_through l D cI cJ o H.size M_6 a0 (M_6.1 7 a0.toNatClampNeg) eM_10) wM_X8_178 wI_X8_through wS_X8_through wZ_X8 wC_X8_through md_X8_through ⟨rfl, rfl, Nat.le_of_ble_eq_true rfl, Nat.le_of_ble_eq_true rfl⟩ rfl hl.1 rfl (Nat.le_of_ble_eq_true rfl) dX8_settle_78 ⟨Nat.zero_le _, Nat.zero_le _⟩ (fun H locs hP hS => ?_)
      refine lv_aload_n hx hb dX8_settle_81 rfl (lv_at hl 0 rfl) ?_
      refine lv_iload_n hx hb dX8_settle_82 rfl (lv_at hl 1 rfl) ?_
      obtain ⟨M_11, eM_11, h⟩ := z_bd_some h
      refine m_callv (As := [.int a0]) (M' := M_11) (n := 1) hc hP hS (mt_X8_ofX l D cI cJ o H.size M_10 a0 eM_11) wM_X8_181 wI_X8_ofX wS_X8_ofX wZ_X8 wC_X8_ofX md_X8_ofX ⟨rfl, rfl, Nat.le_of_ble_eq_true rfl, Nat.le_of_ble_eq_true rfl⟩ rfl hl.1 rfl (Nat.le_of_ble_eq_true rfl) dX8_settle_83 ⟨Nat.zero_le _, Nat.zero_le _⟩ (fun H locs hP hS => ?_)
      cases h
      exact J_86 H locs ls hP hS (lv_sub hl [0, 1] rfl)
  · replace h := z_in_ c_8 h
    refine lv_aload_n hx hb dX8_settle_11 rfl (lv_at hl 1 rfl) ?_
    refine lv_iload_n hx hb dX8_settle_12 rfl (lv_at hl 2 rfl) ?_
    refine lv_iload_n hx hb dX8_settle_13 rfl (lv_at hl 0 rfl) ?_
    obtain ⟨M_12, eM_12, h⟩ := z_bd_some h
    refine m_callv (As := [.int a0, .int r_2]) (M' := M_12) (n := 2) hc hP hS (mt_X8_study l D cI cJ o H.size M_1 a0 r_2 eM_12) wM_X8_198 wI_X8_study wS_X8_study wZ_X8 wC_X8_study md_X8_study ⟨rfl, rfl, Nat.le_of_ble_eq_true rfl, Nat.le_of_ble_eq_true rfl⟩ rfl hl.1 rfl (Nat.le_of_ble_eq_true rfl) dX8_settle_14 ⟨Nat.zero_le _, Nat.zero_le _⟩ (fun H locs hP hS => ?_)
    refine lv_goto (tgt := 86) hx hb dX8_settle_17 (by decide) ?_
    cases h
    exact J_86 H locs ls hP hS (lv_sub hl [1, 2] rfl)
theorem md_X8_settle : yX8_settle.cls ≠ "java/lang/invoke/MethodHandle" ∧ yX8_settle.cls ≠ "java/lang/invoke/VarHandle" ∧ (parseMethodDescriptor yX8_settle.desc).map (fun d => d.parameters.length) = some 1 := by decide +kernel
