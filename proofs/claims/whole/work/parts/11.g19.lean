noncomputable def f_X7_forgeCopy_L56 (S : GS) (a1 : Int32) (a_2 : Nat) (x4_11 : Int32) (x5_12 : Int32) : Option ((Int32) ⊕ (Int32 × Int32)) :=
  if a1 < x5_12 then some (.inl (x4_11)) else z_bd (g_r S 5 1 a_2) fun f_14 => z_bd (g_rI S f_14 x5_12) fun v_15 => some (.inr ((x4_11 + v_15), (x5_12 + 1)))
noncomputable def f_X7_forgeCopy (S : GS) (o : Nat) (a0 : Option Nat) (a1 : Int32) : Option ((Int32) × GS) :=
  z_bd (f_X7_statusOf S a0 (0 : Int32)) fun r_1 => z_mt a0 (z_chk (g_is S 7 o) (z_bd2 (f_X7_refuse S o r_1) fun r_4 S_3 => some (r_4, S_3))) fun a_2 => if r_1 = 0 then if a1 < 0 then z_chk (g_is S 7 o) (z_bd2 (f_X7_refuse S o (12 : Int32)) fun r_6 S_5 => some (r_6, S_5)) else z_bd (g_r S 5 1 a_2) fun f_7 => z_bd (g_lI S f_7) fun n_8 => if n_8 < ((1 : Int32) + a1) then z_chk (g_is S 7 o) (z_bd2 (f_X7_refuse S o (12 : Int32)) fun r_10 S_9 => some (r_10, S_9)) else if (a1 + a1) ≤ (6 : Int32) then z_bd (z_lp (fun x => f_X7_forgeCopy_L56 S a1 a_2 x.1 x.2) ((0 : Int32), (1 : Int32))) fun y4_13 => z_chk (g_is S 7 o) (z_bd2 (f_X7_done S o y4_13) fun r_17 S_16 => some (r_17, S_16)) else z_chk (g_is S 7 o) (z_bd2 (f_X7_refuse S o (12 : Int32)) fun r_19 S_18 => some (r_19, S_18)) else z_chk (g_is S 7 o) (z_bd2 (f_X7_refuse S o r_1) fun r_21 S_20 => some (r_21, S_20))
set_option maxHeartbeats 4000000 in
set_option maxRecDepth 100000 in
theorem mt_X7_forgeCopy (l : Launch) (D : va_G) (cs : Nat → ClassId) (A : Nat → Prop) (S : GS) (o : Nat) (a0 : Option Nat) (a1 : Int32) {r_ : Int32} {N_ : GS} (h : f_X7_forgeCopy S o a0 a1 = some (r_, N_)) : Met l yX7_forgeCopy (z_wd yX7_forgeCopy cX7_forgeCopy 6 (some .int)) (z_rmA 1 37 0 0) (va_Pc [.ref o, va_rf a0, .int a1] (g_C D cs A S)) (g_Q (some (.int r_)) N_ D cs A) 0 0 A := by
  refine Met.ofW (cc := cX7_forgeCopy) (maxL := 6) (ret := (some .int)) (by decide) rfl ?_
  intro p e s m args below meth c s₁ B hml hv
  obtain ⟨hav, hP0, hK, hN, hSt, hAn⟩ := hv
  have hx := B.exec
  have hb := B.bytes
  have hr := B.returns
  have hts := atoms_spec (ws := z_wd yX7_forgeCopy cX7_forgeCopy 6 (some .int)) B.pre
  have hown : s.vm.findClass RX7 = some m.cls := findClass_of_methodNamed B.named
  have hlocks := B.notSynchronized
  have hc : g_X p s m args c cX7_forgeCopy 6 RX7 D cs A := ⟨⟨hx, hb, hml, fun w hw => hts w (List.mem_cons_of_mem _ hw), hown⟩, hK, hN, hSt, hAn⟩
  have hl := lv_entry ([.ref o, va_rf a0, .int a1]) (n := 6) (by cases a0 <;> exact Nat.le_of_ble_eq_true rfl)
  have hE : entryFrame m args 6 = F0 m 0 ((lg_sl ([.ref o, va_rf a0, .int a1]) ++ List.replicate (6 - (lg_sl ([.ref o, va_rf a0, .int a1])).length) Slot.unset).toArray) [] := by rw [hav]; exact lg_entry_eq m _ _
  rw [hE]
  clear hE hav
  generalize (lg_sl ([.ref o, va_rf a0, .int a1]) ++ List.replicate (6 - (lg_sl ([.ref o, va_rf a0, .int a1])).length) Slot.unset).toArray = ls at hl ⊢
  have hl : lv_has ls 6 [(0, .ref o), (1, va_rf a0), (2, .int a1)] := by cases a0 <;> exact hl
  obtain ⟨Q, hQ⟩ : ∃ Q, Q = MQ below (g_Q (some (.int r_)) N_ D cs A) args s 0 0 A := ⟨_, rfl⟩
  rw [← hQ]
  suffices hmain : ∀ (H : Heap) (locs : List Loc), g_P D cs A S H → va_S A s.heap H locs → W p l e (z_rmA 1 37 0 0) s m args below meth c H locs 0 0 Q (F0 m 0 ls []) from hmain s.heap [] hP0 va_S.rf
  clear hP0
  intro H locs hP hS
  unfold f_X7_forgeCopy at h
  refine q_aload_n hx hb dX7_forgeCopy_0 rfl (lv_at hl 1 rfl) ?_
  refine lv_iconst (v := 0) hx hb dX7_forgeCopy_1 (by decide) ?_
  obtain ⟨r_1, e_2, h⟩ := z_bd_some h
  refine g_callS (As := [va_rf a0, .int (0 : Int32)]) (rv := (some (.int r_1))) (n := 2) hc hP hS (mt_X7_statusOf l D cs A S a0 (0 : Int32) e_2) wM_X7_290 wT_X7_statusOf wZ_X7 wC_X7_statusOf md_X7_statusOf ⟨rfl, rfl, Nat.le_of_ble_eq_true rfl, Nat.le_of_ble_eq_true rfl⟩ rfl hl.1 rfl (Nat.le_of_ble_eq_true rfl) dX7_forgeCopy_2 ⟨Nat.le_of_ble_eq_true rfl, Nat.le_of_ble_eq_true rfl⟩ (fun H locs hP hS => ?_)
  show W p l e (z_rmA 1 37 0 0) s m args below meth c H locs (0) (0) Q (F0 m 5 ls [.int r_1])
  refine lv_istore_n (lv' := [(3, .int r_1), (0, .ref o), (1, va_rf a0), (2, .int a1)]) hx hb dX7_forgeCopy_5 rfl hl (by decide) rfl (fun ls hl => ?_)
  refine q_aload_n hx hb dX7_forgeCopy_6 rfl (lv_at hl 2 rfl) ?_
  rcases a0 with _ | a_2
  · replace h := z_mt_n h
    refine lv_ifnullN (tgt := 14) hx hb dX7_forgeCopy_7 (by decide) ?_
    refine lv_aload_n hx hb dX7_forgeCopy_14 rfl (lv_at hl 1 rfl) ?_
    refine lv_iload_n hx hb dX7_forgeCopy_15 rfl (lv_at hl 0 rfl) ?_
    obtain ⟨ho_16, h⟩ := z_chk_some h
    obtain ⟨vs_, ho_16⟩ := Option.isSome_iff_exists.mp ho_16
    obtain ⟨r_4, S_3, e_16, h⟩ := z_bd2_some h
    refine g_callV (ci := 7) (As := [.int r_1]) (rv := (some (.int r_4))) (n := 1) hc hP hS rfl ho_16 (mt_X7_refuse l D cs A S o r_1 e_16) wM_X7_64 wI_X7_refuse wS_X7_refuse wZ_X7 wC_X7_refuse md_X7_refuse ⟨rfl, rfl, Nat.le_of_ble_eq_true rfl, Nat.le_of_ble_eq_true rfl⟩ rfl hl.1 rfl (Nat.le_of_ble_eq_true rfl) dX7_forgeCopy_16 ⟨Nat.le_of_ble_eq_true rfl, Nat.le_of_ble_eq_true rfl⟩ (fun H locs hP hS => ?_)
    show W p l e (z_rmA 1 37 0 0) s m args below meth c H locs (0) (0) Q (F0 m 19 ls [.int r_4])
    cases h
    rw [hQ]
    exact g_reti hc hr hlocks hP hS dX7_forgeCopy_19
  · replace h := z_mt_s h
    refine lv_ifnull hx hb dX7_forgeCopy_7 ?_
    refine lv_iload_n hx hb dX7_forgeCopy_10 rfl (lv_at hl 0 rfl) ?_
    refine lv_if_eq (tgt := 20) hx hb dX7_forgeCopy_11 (by decide) (fun c_11 => ?_) (fun c_11 => ?_)
    · replace h := z_ip_ c_11 h
      refine lv_iload_n hx hb dX7_forgeCopy_20 rfl (lv_at hl 3 rfl) ?_
      refine lv_if_lt (tgt := 43) hx hb dX7_forgeCopy_21 (by decide) (fun c_21 => ?_) (fun c_21 => ?_)
      · replace h := z_ip_ c_21 h
        refine lv_aload_n hx hb dX7_forgeCopy_43 rfl (lv_at hl 1 rfl) ?_
        refine lv_bipush (v := 12) hx hb dX7_forgeCopy_44 (by decide) ?_
        obtain ⟨ho_46, h⟩ := z_chk_some h
        obtain ⟨vs_, ho_46⟩ := Option.isSome_iff_exists.mp ho_46
        obtain ⟨r_6, S_5, e_46, h⟩ := z_bd2_some h
        refine g_callV (ci := 7) (As := [.int (12 : Int32)]) (rv := (some (.int r_6))) (n := 1) hc hP hS rfl ho_46 (mt_X7_refuse l D cs A S o (12 : Int32) e_46) wM_X7_64 wI_X7_refuse wS_X7_refuse wZ_X7 wC_X7_refuse md_X7_refuse ⟨rfl, rfl, Nat.le_of_ble_eq_true rfl, Nat.le_of_ble_eq_true rfl⟩ rfl hl.1 rfl (Nat.le_of_ble_eq_true rfl) dX7_forgeCopy_46 ⟨Nat.le_of_ble_eq_true rfl, Nat.le_of_ble_eq_true rfl⟩ (fun H locs hP hS => ?_)
        show W p l e (z_rmA 1 37 0 0) s m args below meth c H locs (0) (0) Q (F0 m 49 ls [.int r_6])
        cases h
        rw [hQ]
        exact g_reti hc hr hlocks hP hS dX7_forgeCopy_49
      · replace h := z_in_ c_21 h
        refine lv_iconst (v := 1) hx hb dX7_forgeCopy_24 (by decide) ?_
        refine lv_iload_n hx hb dX7_forgeCopy_25 rfl (lv_at hl 3 rfl) ?_
        refine lv_iadd hx hb dX7_forgeCopy_26 ?_
        refine lv_aload_n hx hb dX7_forgeCopy_27 rfl (lv_at hl 2 rfl) ?_
        obtain ⟨f_7, ef_7, h⟩ := z_bd_some h
        refine g_getN (ci := 5) (k := 1) (v := .ref f_7) hc hP rfl z_inX5 (by decide) wG_X7_287 (g_r_v ef_7) dX7_forgeCopy_28 ?_
        obtain ⟨n_8, en_8, h⟩ := z_bd_some h
        refine g_alenI hc hP en_8 dX7_forgeCopy_31 ?_
        refine lv_icmp_gt (tgt := 43) hx hb dX7_forgeCopy_32 (by decide) (fun c_32 => ?_) (fun c_32 => ?_)
        · replace h := z_ip_ c_32 h
          refine lv_aload_n hx hb dX7_forgeCopy_43 rfl (lv_at hl 1 rfl) ?_
          refine lv_bipush (v := 12) hx hb dX7_forgeCopy_44 (by decide) ?_
          obtain ⟨ho_46, h⟩ := z_chk_some h
          obtain ⟨vs_, ho_46⟩ := Option.isSome_iff_exists.mp ho_46
          obtain ⟨r_10, S_9, e_46, h⟩ := z_bd2_some h
          refine g_callV (ci := 7) (As := [.int (12 : Int32)]) (rv := (some (.int r_10))) (n := 1) hc hP hS rfl ho_46 (mt_X7_refuse l D cs A S o (12 : Int32) e_46) wM_X7_64 wI_X7_refuse wS_X7_refuse wZ_X7 wC_X7_refuse md_X7_refuse ⟨rfl, rfl, Nat.le_of_ble_eq_true rfl, Nat.le_of_ble_eq_true rfl⟩ rfl hl.1 rfl (Nat.le_of_ble_eq_true rfl) dX7_forgeCopy_46 ⟨Nat.le_of_ble_eq_true rfl, Nat.le_of_ble_eq_true rfl⟩ (fun H locs hP hS => ?_)
          show W p l e (z_rmA 1 37 0 0) s m args below meth c H locs (0) (0) Q (F0 m 49 ls [.int r_10])
          cases h
          rw [hQ]
          exact g_reti hc hr hlocks hP hS dX7_forgeCopy_49
        · replace h := z_in_ c_32 h
          refine lv_iload_n hx hb dX7_forgeCopy_35 rfl (lv_at hl 3 rfl) ?_
          refine lv_iload_n hx hb dX7_forgeCopy_36 rfl (lv_at hl 3 rfl) ?_
          refine lv_iadd hx hb dX7_forgeCopy_37 ?_
          refine lv_bipush (v := 6) hx hb dX7_forgeCopy_38 (by decide) ?_
          refine lv_icmp_le (tgt := 50) hx hb dX7_forgeCopy_40 (by decide) (fun c_40 => ?_) (fun c_40 => ?_)
          · replace h := z_ip_ c_40 h
            refine lv_iconst (v := 0) hx hb dX7_forgeCopy_50 (by decide) ?_
            refine lv_istore (lv' := [(4, .int (0 : Int32)), (3, .int r_1), (0, .ref o), (1, .ref a_2), (2, .int a1)]) hx hb dX7_forgeCopy_51 hl (by decide) rfl (fun ls hl => ?_)
            refine lv_iconst (v := 1) hx hb dX7_forgeCopy_53 (by decide) ?_
            refine lv_istore (lv' := [(5, .int (1 : Int32)), (4, .int (0 : Int32)), (3, .int r_1), (0, .ref o), (1, .ref a_2), (2, .int a1)]) hx hb dX7_forgeCopy_54 hl (by decide) rfl (fun ls hl => ?_)
            obtain ⟨y4_13, hlp, h⟩ := z_bd_some h
            refine z_lp_ind (P := fun x => ∀ (H : Heap) (locs : List Loc) (ls : Array Slot), g_P D cs A S H → va_S A s.heap H locs → lv_has ls 6 [(0, .ref o), (1, .ref a_2), (2, .int a1), (4, .int x.1), (5, .int x.2)] → W p l e (z_rmA 1 37 0 0) s m args below meth c H locs (0) (0) Q (F0 m 56 ls [])) (Qe := fun y => ∀ (H : Heap) (locs : List Loc) (ls : Array Slot), g_P D cs A S H → va_S A s.heap H locs → lv_has ls 6 [(0, .ref o), (4, .int y)] → W p l e (z_rmA 1 37 0 0) s m args below meth c H locs (0) (0) Q (F0 m 80 ls [])) ?_ hlp ?_ H locs ls hP hS (lv_sub hl [3, 4, 5, 1, 0] rfl)
            · clear h hlp hP hS hl
              rintro ⟨x4_11, x5_12⟩ oo h K_56 H locs ls hP hS hl
              have hP : g_P D cs A S H := hP
              have hl : lv_has ls 6 [(0, .ref o), (1, .ref a_2), (2, .int a1), (4, .int x4_11), (5, .int x5_12)] := hl
              have h : f_X7_forgeCopy_L56 S a1 a_2 x4_11 x5_12 = some oo := h
              unfold f_X7_forgeCopy_L56 at h
              refine lv_iload hx hb dX7_forgeCopy_56 (lv_at hl 4 rfl) ?_
              refine lv_iload_n hx hb dX7_forgeCopy_58 rfl (lv_at hl 2 rfl) ?_
              refine lv_icmp_gt (tgt := 80) hx hb dX7_forgeCopy_59 (by decide) (fun c_59 => ?_) (fun c_59 => ?_)
              · replace h := z_ip_ c_59 h
                cases h
                exact K_56 H locs ls hP hS (lv_sub hl [0, 3] rfl)
              · replace h := z_in_ c_59 h
                refine lv_iload hx hb dX7_forgeCopy_62 (lv_at hl 3 rfl) ?_
                refine lv_aload_n hx hb dX7_forgeCopy_64 rfl (lv_at hl 1 rfl) ?_
                obtain ⟨f_14, ef_14, h⟩ := z_bd_some h
                refine g_getN (ci := 5) (k := 1) (v := .ref f_14) hc hP rfl z_inX5 (by decide) wG_X7_287 (g_r_v ef_14) dX7_forgeCopy_65 ?_
                refine lv_iload hx hb dX7_forgeCopy_68 (lv_at hl 4 rfl) ?_
                obtain ⟨v_15, ev_15, h⟩ := z_bd_some h
                refine g_iald hc hP ev_15 dX7_forgeCopy_70 ?_
                refine lv_iadd hx hb dX7_forgeCopy_71 ?_
                refine lv_istore (lv' := [(4, .int (x4_11 + v_15)), (0, .ref o), (1, .ref a_2), (2, .int a1), (5, .int x5_12)]) hx hb dX7_forgeCopy_72 hl (by decide) rfl (fun ls hl => ?_)
                refine lv_iinc (v := (x5_12 + 1)) (lv' := [(5, .int (x5_12 + 1)), (4, .int (x4_11 + v_15)), (0, .ref o), (1, .ref a_2), (2, .int a1)]) hx hb dX7_forgeCopy_74 hl (k := 4) rfl rfl (by decide) rfl (fun ls hl => ?_)
                refine lv_goto (tgt := 56) hx hb dX7_forgeCopy_77 (by decide) ?_
                cases h
                exact K_56 H locs ls hP hS (lv_sub hl [2, 3, 4, 1, 0] rfl)
            · clear hlp hP hS hl
              intro H locs ls hP hS hl
              have hP : g_P D cs A S H := hP
              have hl : lv_has ls 6 [(0, .ref o), (4, .int y4_13)] := hl
              refine lv_aload_n hx hb dX7_forgeCopy_80 rfl (lv_at hl 0 rfl) ?_
              refine lv_iload hx hb dX7_forgeCopy_81 (lv_at hl 1 rfl) ?_
              obtain ⟨ho_83, h⟩ := z_chk_some h
              obtain ⟨vs_, ho_83⟩ := Option.isSome_iff_exists.mp ho_83
              obtain ⟨r_17, S_16, e_83, h⟩ := z_bd2_some h
              refine g_callV (ci := 7) (As := [.int y4_13]) (rv := (some (.int r_17))) (n := 1) hc hP hS rfl ho_83 (mt_X7_done l D cs A S o y4_13 e_83) wM_X7_80 wI_X7_done wS_X7_done wZ_X7 wC_X7_done md_X7_done ⟨rfl, rfl, Nat.le_of_ble_eq_true rfl, Nat.le_of_ble_eq_true rfl⟩ rfl hl.1 rfl (Nat.le_of_ble_eq_true rfl) dX7_forgeCopy_83 ⟨Nat.le_of_ble_eq_true rfl, Nat.le_of_ble_eq_true rfl⟩ (fun H locs hP hS => ?_)
              show W p l e (z_rmA 1 37 0 0) s m args below meth c H locs (0) (0) Q (F0 m 86 ls [.int r_17])
              cases h
              rw [hQ]
              exact g_reti hc hr hlocks hP hS dX7_forgeCopy_86
          · replace h := z_in_ c_40 h
            refine lv_aload_n hx hb dX7_forgeCopy_43 rfl (lv_at hl 1 rfl) ?_
            refine lv_bipush (v := 12) hx hb dX7_forgeCopy_44 (by decide) ?_
            obtain ⟨ho_46, h⟩ := z_chk_some h
            obtain ⟨vs_, ho_46⟩ := Option.isSome_iff_exists.mp ho_46
            obtain ⟨r_19, S_18, e_46, h⟩ := z_bd2_some h
            refine g_callV (ci := 7) (As := [.int (12 : Int32)]) (rv := (some (.int r_19))) (n := 1) hc hP hS rfl ho_46 (mt_X7_refuse l D cs A S o (12 : Int32) e_46) wM_X7_64 wI_X7_refuse wS_X7_refuse wZ_X7 wC_X7_refuse md_X7_refuse ⟨rfl, rfl, Nat.le_of_ble_eq_true rfl, Nat.le_of_ble_eq_true rfl⟩ rfl hl.1 rfl (Nat.le_of_ble_eq_true rfl) dX7_forgeCopy_46 ⟨Nat.le_of_ble_eq_true rfl, Nat.le_of_ble_eq_true rfl⟩ (fun H locs hP hS => ?_)
            show W p l e (z_rmA 1 37 0 0) s m args below meth c H locs (0) (0) Q (F0 m 49 ls [.int r_19])
            cases h
            rw [hQ]
            exact g_reti hc hr hlocks hP hS dX7_forgeCopy_49
    · replace h := z_in_ c_11 h
      refine lv_aload_n hx hb dX7_forgeCopy_14 rfl (lv_at hl 1 rfl) ?_
      refine lv_iload_n hx hb dX7_forgeCopy_15 rfl (lv_at hl 0 rfl) ?_
      obtain ⟨ho_16, h⟩ := z_chk_some h
      obtain ⟨vs_, ho_16⟩ := Option.isSome_iff_exists.mp ho_16
      obtain ⟨r_21, S_20, e_16, h⟩ := z_bd2_some h
      refine g_callV (ci := 7) (As := [.int r_1]) (rv := (some (.int r_21))) (n := 1) hc hP hS rfl ho_16 (mt_X7_refuse l D cs A S o r_1 e_16) wM_X7_64 wI_X7_refuse wS_X7_refuse wZ_X7 wC_X7_refuse md_X7_refuse ⟨rfl, rfl, Nat.le_of_ble_eq_true rfl, Nat.le_of_ble_eq_true rfl⟩ rfl hl.1 rfl (Nat.le_of_ble_eq_true rfl) dX7_forgeCopy_16 ⟨Nat.le_of_ble_eq_true rfl, Nat.le_of_ble_eq_true rfl⟩ (fun H locs hP hS => ?_)
      show W p l e (z_rmA 1 37 0 0) s m args below meth c H locs (0) (0) Q (F0 m 19 ls [.int r_21])
      cases h
      rw [hQ]
      exact g_reti hc hr hlocks hP hS dX7_forgeCopy_19
theorem md_X7_forgeCopy : yX7_forgeCopy.cls ≠ "java/lang/invoke/MethodHandle" ∧ yX7_forgeCopy.cls ≠ "java/lang/invoke/VarHandle" ∧ (parseMethodDescriptor yX7_forgeCopy.desc).map (fun d => d.parameters.length) = some 2 := by decide +kernel
noncomputable def f_X7_forgeRowOfLines (S : GS) (o : Nat) (a0 : Option Nat) : Option ((Int32) × GS) :=
  z_mt a0 (z_chk (g_is S 7 o) (z_bd2 (f_X7_done S o (0 : Int32)) fun r_3 S_2 => some (r_3, S_2))) fun a_1 => z_bd (g_i S 1 1 a_1) fun f_4 => z_bd (f_X7_isKindOrUnder S f_4 (1 : Int32)) fun r_5 => if r_5 = 0 then z_chk (g_is S 7 o) (z_bd2 (f_X7_refuse S o (14 : Int32)) fun r_7 S_6 => some (r_7, S_6)) else z_bd (g_i S 1 1 a_1) fun f_8 => z_chk (g_is S 7 o) (z_bd2 (f_X7_done S o f_8) fun r_10 S_9 => some (r_10, S_9))
set_option maxHeartbeats 4000000 in
set_option maxRecDepth 100000 in
theorem mt_X7_forgeRowOfLines (l : Launch) (D : va_G) (cs : Nat → ClassId) (A : Nat → Prop) (S : GS) (o : Nat) (a0 : Option Nat) {r_ : Int32} {N_ : GS} (h : f_X7_forgeRowOfLines S o a0 = some (r_, N_)) : Met l yX7_forgeRowOfLines (z_wd yX7_forgeRowOfLines cX7_forgeRowOfLines 2 (some .int)) (z_rmA 1 39 0 0) (va_Pc [.ref o, va_rf a0] (g_C D cs A S)) (g_Q (some (.int r_)) N_ D cs A) 0 0 A := by
  refine Met.ofW (cc := cX7_forgeRowOfLines) (maxL := 2) (ret := (some .int)) (by decide) rfl ?_
  intro p e s m args below meth c s₁ B hml hv
  obtain ⟨hav, hP0, hK, hN, hSt, hAn⟩ := hv
  have hx := B.exec
  have hb := B.bytes
  have hr := B.returns
  have hts := atoms_spec (ws := z_wd yX7_forgeRowOfLines cX7_forgeRowOfLines 2 (some .int)) B.pre
  have hown : s.vm.findClass RX7 = some m.cls := findClass_of_methodNamed B.named
  have hlocks := B.notSynchronized
  have hc : g_X p s m args c cX7_forgeRowOfLines 2 RX7 D cs A := ⟨⟨hx, hb, hml, fun w hw => hts w (List.mem_cons_of_mem _ hw), hown⟩, hK, hN, hSt, hAn⟩
  have hl := lv_entry ([.ref o, va_rf a0]) (n := 2) (by cases a0 <;> exact Nat.le_of_ble_eq_true rfl)
  have hE : entryFrame m args 2 = F0 m 0 ((lg_sl ([.ref o, va_rf a0]) ++ List.replicate (2 - (lg_sl ([.ref o, va_rf a0])).length) Slot.unset).toArray) [] := by rw [hav]; exact lg_entry_eq m _ _
  rw [hE]
  clear hE hav
  generalize (lg_sl ([.ref o, va_rf a0]) ++ List.replicate (2 - (lg_sl ([.ref o, va_rf a0])).length) Slot.unset).toArray = ls at hl ⊢
  have hl : lv_has ls 2 [(0, .ref o), (1, va_rf a0)] := by cases a0 <;> exact hl
  obtain ⟨Q, hQ⟩ : ∃ Q, Q = MQ below (g_Q (some (.int r_)) N_ D cs A) args s 0 0 A := ⟨_, rfl⟩
  rw [← hQ]
  suffices hmain : ∀ (H : Heap) (locs : List Loc), g_P D cs A S H → va_S A s.heap H locs → W p l e (z_rmA 1 39 0 0) s m args below meth c H locs 0 0 Q (F0 m 0 ls []) from hmain s.heap [] hP0 va_S.rf
  clear hP0
  intro H locs hP hS
  unfold f_X7_forgeRowOfLines at h
  refine q_aload_n hx hb dX7_forgeRowOfLines_0 rfl (lv_at hl 1 rfl) ?_
  rcases a0 with _ | a_1
  · replace h := z_mt_n h
    refine lv_ifnonnullN hx hb dX7_forgeRowOfLines_1 ?_
    refine lv_aload_n hx hb dX7_forgeRowOfLines_4 rfl (lv_at hl 0 rfl) ?_
    refine lv_iconst (v := 0) hx hb dX7_forgeRowOfLines_5 (by decide) ?_
    obtain ⟨ho_6, h⟩ := z_chk_some h
    obtain ⟨vs_, ho_6⟩ := Option.isSome_iff_exists.mp ho_6
    obtain ⟨r_3, S_2, e_6, h⟩ := z_bd2_some h
    refine g_callV (ci := 7) (As := [.int (0 : Int32)]) (rv := (some (.int r_3))) (n := 1) hc hP hS rfl ho_6 (mt_X7_done l D cs A S o (0 : Int32) e_6) wM_X7_80 wI_X7_done wS_X7_done wZ_X7 wC_X7_done md_X7_done ⟨rfl, rfl, Nat.le_of_ble_eq_true rfl, Nat.le_of_ble_eq_true rfl⟩ rfl hl.1 rfl (Nat.le_of_ble_eq_true rfl) dX7_forgeRowOfLines_6 ⟨Nat.le_of_ble_eq_true rfl, Nat.le_of_ble_eq_true rfl⟩ (fun H locs hP hS => ?_)
    show W p l e (z_rmA 1 39 0 0) s m args below meth c H locs (0) (0) Q (F0 m 9 ls [.int r_3])
    cases h
    rw [hQ]
    exact g_reti hc hr hlocks hP hS dX7_forgeRowOfLines_9
  · replace h := z_mt_s h
    refine lv_ifnonnull (tgt := 10) hx hb dX7_forgeRowOfLines_1 (by decide) ?_
    refine lv_aload_n hx hb dX7_forgeRowOfLines_10 rfl (lv_at hl 1 rfl) ?_
    obtain ⟨f_4, ef_4, h⟩ := z_bd_some h
    refine g_getN (ci := 1) (k := 1) (v := .int f_4) hc hP rfl z_inX1 (by decide) wG_X7_176 (g_i_v ef_4) dX7_forgeRowOfLines_11 ?_
    refine lv_iconst (v := 1) hx hb dX7_forgeRowOfLines_14 (by decide) ?_
    obtain ⟨r_5, e_15, h⟩ := z_bd_some h
    refine g_callS (As := [.int f_4, .int (1 : Int32)]) (rv := (some (.int r_5))) (n := 2) hc hP hS (mt_X7_isKindOrUnder l D cs A S f_4 (1 : Int32) e_15) wM_X7_316 wT_X7_isKindOrUnder wZ_X7 wC_X7_isKindOrUnder md_X7_isKindOrUnder ⟨rfl, rfl, Nat.le_of_ble_eq_true rfl, Nat.le_of_ble_eq_true rfl⟩ rfl hl.1 rfl (Nat.le_of_ble_eq_true rfl) dX7_forgeRowOfLines_15 ⟨Nat.le_of_ble_eq_true rfl, Nat.le_of_ble_eq_true rfl⟩ (fun H locs hP hS => ?_)
    show W p l e (z_rmA 1 39 0 0) s m args below meth c H locs (0) (0) Q (F0 m 18 ls [.int r_5])
    refine lv_if_eq (tgt := 32) hx hb dX7_forgeRowOfLines_18 (by decide) (fun c_18 => ?_) (fun c_18 => ?_)
    · replace h := z_ip_ c_18 h
      refine lv_aload_n hx hb dX7_forgeRowOfLines_32 rfl (lv_at hl 0 rfl) ?_
      refine lv_bipush (v := 14) hx hb dX7_forgeRowOfLines_33 (by decide) ?_
      obtain ⟨ho_35, h⟩ := z_chk_some h
      obtain ⟨vs_, ho_35⟩ := Option.isSome_iff_exists.mp ho_35
      obtain ⟨r_7, S_6, e_35, h⟩ := z_bd2_some h
      refine g_callV (ci := 7) (As := [.int (14 : Int32)]) (rv := (some (.int r_7))) (n := 1) hc hP hS rfl ho_35 (mt_X7_refuse l D cs A S o (14 : Int32) e_35) wM_X7_64 wI_X7_refuse wS_X7_refuse wZ_X7 wC_X7_refuse md_X7_refuse ⟨rfl, rfl, Nat.le_of_ble_eq_true rfl, Nat.le_of_ble_eq_true rfl⟩ rfl hl.1 rfl (Nat.le_of_ble_eq_true rfl) dX7_forgeRowOfLines_35 ⟨Nat.le_of_ble_eq_true rfl, Nat.le_of_ble_eq_true rfl⟩ (fun H locs hP hS => ?_)
      show W p l e (z_rmA 1 39 0 0) s m args below meth c H locs (0) (0) Q (F0 m 38 ls [.int r_7])
      cases h
      rw [hQ]
      exact g_reti hc hr hlocks hP hS dX7_forgeRowOfLines_38
    · replace h := z_in_ c_18 h
      refine lv_aload_n hx hb dX7_forgeRowOfLines_21 rfl (lv_at hl 0 rfl) ?_
      refine lv_aload_n hx hb dX7_forgeRowOfLines_22 rfl (lv_at hl 1 rfl) ?_
      obtain ⟨f_8, ef_8, h⟩ := z_bd_some h
      refine g_getN (ci := 1) (k := 1) (v := .int f_8) hc hP rfl z_inX1 (by decide) wG_X7_176 (g_i_v ef_8) dX7_forgeRowOfLines_23 ?_
      obtain ⟨ho_26, h⟩ := z_chk_some h
      obtain ⟨vs_, ho_26⟩ := Option.isSome_iff_exists.mp ho_26
      obtain ⟨r_10, S_9, e_26, h⟩ := z_bd2_some h
      refine g_callV (ci := 7) (As := [.int f_8]) (rv := (some (.int r_10))) (n := 1) hc hP hS rfl ho_26 (mt_X7_done l D cs A S o f_8 e_26) wM_X7_80 wI_X7_done wS_X7_done wZ_X7 wC_X7_done md_X7_done ⟨rfl, rfl, Nat.le_of_ble_eq_true rfl, Nat.le_of_ble_eq_true rfl⟩ rfl hl.1 rfl (Nat.le_of_ble_eq_true rfl) dX7_forgeRowOfLines_26 ⟨Nat.le_of_ble_eq_true rfl, Nat.le_of_ble_eq_true rfl⟩ (fun H locs hP hS => ?_)
      show W p l e (z_rmA 1 39 0 0) s m args below meth c H locs (0) (0) Q (F0 m 29 ls [.int r_10])
      refine lv_goto (tgt := 38) hx hb dX7_forgeRowOfLines_29 (by decide) ?_
      cases h
      rw [hQ]
      exact g_reti hc hr hlocks hP hS dX7_forgeRowOfLines_38
theorem md_X7_forgeRowOfLines : yX7_forgeRowOfLines.cls ≠ "java/lang/invoke/MethodHandle" ∧ yX7_forgeRowOfLines.cls ≠ "java/lang/invoke/VarHandle" ∧ (parseMethodDescriptor yX7_forgeRowOfLines.desc).map (fun d => d.parameters.length) = some 1 := by decide +kernel
noncomputable def f_X7_forge (S : GS) (o : Nat) (a0 : Int32) (a1 : Int32) (a2 : Int32) : Option ((Int32) × GS) :=
  z_bd (f_X7_isWithin a1 (-100 : Int32) (100 : Int32)) fun r_1 => if r_1 = 0 then z_chk (g_is S 7 o) (z_bd2 (f_X7_refuse S o (1 : Int32)) fun r_3 S_2 => some (r_3, S_2)) else z_bd (f_X7_isWithin a2 (-100 : Int32) (100 : Int32)) fun r_4 => if r_4 = 0 then z_chk (g_is S 7 o) (z_bd2 (f_X7_refuse S o (1 : Int32)) fun r_42 S_41 => some (r_42, S_41)) else if a0 = 0 then z_bd (g_r S 7 1 o) fun f_5 => z_bd (f_J9_floorMod_7cf53 a2 (10 : Int32)) fun r_6 => z_bd (g_rQ S 1 f_5 r_6) fun q_7 => z_bd (f_J9_floorMod_7cf53 a1 (5 : Int32)) fun r_8 => z_chk (g_is S 7 o) (z_bd2 (f_X7_forgeKind S o q_7 r_8) fun r_10 S_9 => some (r_10, S_9)) else if a0 = 1 then if 0 ≤ a1 then z_chk (g_is S 7 o) (z_bd2 (f_X7_done S o a1) fun r_12 S_11 => some (r_12, S_11)) else z_chk (g_is S 7 o) (z_bd2 (f_X7_refuse S o (13 : Int32)) fun r_14 S_13 => some (r_14, S_13)) else if a0 = 2 then z_bd (g_r S 7 2 o) fun f_15 => z_bd (f_J9_floorMod_7cf53 a2 (4 : Int32)) fun r_16 => z_bd (g_rQ S 2 f_15 r_16) fun q_17 => z_chk (g_is S 7 o) (z_bd2 (f_X7_forgeNumber S o q_17 a1) fun r_19 S_18 => some (r_19, S_18)) else if a0 = 3 then z_bd (g_r S 7 2 o) fun f_20 => z_bd (f_J9_floorMod_7cf53 a2 (4 : Int32)) fun r_21 => z_bd (g_rQ S 2 f_20 r_21) fun q_22 => z_chk (g_is S 7 o) (z_bd2 (f_X7_forgeCopy S o q_22 a1) fun r_24 S_23 => some (r_24, S_23)) else if a0 = 4 then z_bd (g_r S 7 1 o) fun f_25 => z_bd (f_J9_floorMod_7cf53 a2 (10 : Int32)) fun r_26 => z_bd (g_rQ S 1 f_25 r_26) fun q_27 => z_chk (g_is S 7 o) (z_bd2 (f_X7_forgeRowOfLines S o q_27) fun r_29 S_28 => some (r_29, S_28)) else if a0 = 5 then if a1 = 0 then z_chk (g_is S 7 o) (z_bd2 (f_X7_refuse S o (15 : Int32)) fun r_33 S_32 => some (r_33, S_32)) else z_chk (¬ a1 = 0) (z_chk (g_is S 7 o) (z_bd2 (f_X7_done S o ((1000 : Int32) / a1)) fun r_31 S_30 => some (r_31, S_30))) else if a0 = 6 then z_bd (f_J9_floorMod_7cf53 a1 (2 : Int32)) fun r_34 => if r_34 = 0 then z_chk (g_is S 7 o) (z_bd2 (f_X7_refuse S o (10 : Int32)) fun r_38 S_37 => some (r_38, S_37)) else z_chk (g_is S 7 o) (z_bd2 (f_X7_done S o (1 : Int32)) fun r_36 S_35 => some (r_36, S_35)) else z_chk (g_is S 7 o) (z_bd2 (f_X7_refuse S o (1 : Int32)) fun r_40 S_39 => some (r_40, S_39))
set_option maxHeartbeats 4000000 in
set_option maxRecDepth 100000 in
theorem mt_X7_forge (l : Launch) (D : va_G) (cs : Nat → ClassId) (A : Nat → Prop) (S : GS) (o : Nat) (a0 : Int32) (a1 : Int32) (a2 : Int32) {r_ : Int32} {N_ : GS} (h : f_X7_forge S o a0 a1 a2 = some (r_, N_)) : Met l yX7_forge (z_wd yX7_forge cX7_forge 4 (some .int)) (z_rmA 2 78 0 0) (va_Pc [.ref o, .int a0, .int a1, .int a2] (g_C D cs A S)) (g_Q (some (.int r_)) N_ D cs A) 0 0 A := by
  refine Met.ofW (cc := cX7_forge) (maxL := 4) (ret := (some .int)) (by decide) rfl ?_
  intro p e s m args below meth c s₁ B hml hv
  obtain ⟨hav, hP0, hK, hN, hSt, hAn⟩ := hv
  have hx := B.exec
  have hb := B.bytes
  have hr := B.returns
  have hts := atoms_spec (ws := z_wd yX7_forge cX7_forge 4 (some .int)) B.pre
  have hown : s.vm.findClass RX7 = some m.cls := findClass_of_methodNamed B.named
  have hlocks := B.notSynchronized
  have hc : g_X p s m args c cX7_forge 4 RX7 D cs A := ⟨⟨hx, hb, hml, fun w hw => hts w (List.mem_cons_of_mem _ hw), hown⟩, hK, hN, hSt, hAn⟩
  have hl := lv_entry ([.ref o, .int a0, .int a1, .int a2]) (n := 4) (Nat.le_of_ble_eq_true rfl)
  have hE : entryFrame m args 4 = F0 m 0 ((lg_sl ([.ref o, .int a0, .int a1, .int a2]) ++ List.replicate (4 - (lg_sl ([.ref o, .int a0, .int a1, .int a2])).length) Slot.unset).toArray) [] := by rw [hav]; exact lg_entry_eq m _ _
  rw [hE]
  clear hE hav
  generalize (lg_sl ([.ref o, .int a0, .int a1, .int a2]) ++ List.replicate (4 - (lg_sl ([.ref o, .int a0, .int a1, .int a2])).length) Slot.unset).toArray = ls at hl ⊢
  have hl : lv_has ls 4 [(0, .ref o), (1, .int a0), (2, .int a1), (3, .int a2)] := hl
  obtain ⟨Q, hQ⟩ : ∃ Q, Q = MQ below (g_Q (some (.int r_)) N_ D cs A) args s 0 0 A := ⟨_, rfl⟩
  rw [← hQ]
  suffices hmain : ∀ (H : Heap) (locs : List Loc), g_P D cs A S H → va_S A s.heap H locs → W p l e (z_rmA 2 78 0 0) s m args below meth c H locs 0 0 Q (F0 m 0 ls []) from hmain s.heap [] hP0 va_S.rf
  clear hP0
  intro H locs hP hS
  unfold f_X7_forge at h
  refine lv_iload_n hx hb dX7_forge_0 rfl (lv_at hl 2 rfl) ?_
  refine lv_bipush (v := -100) hx hb dX7_forge_1 (by decide) ?_
  refine lv_bipush (v := 100) hx hb dX7_forge_3 (by decide) ?_
  obtain ⟨r_1, er_1, h⟩ := z_bd_some h
  refine s_calli (As := [.int a1, .int (-100 : Int32), .int (100 : Int32)]) (r := r_1) (n := 3) hc.1 (mt_X7_isWithin l a1 (-100 : Int32) (100 : Int32) er_1) wM_X7_101 wT_X7_isWithin wZ_X7 wC_X7_isWithin md_X7_isWithin ⟨rfl, rfl, Nat.le_of_ble_eq_true rfl, Nat.le_of_ble_eq_true rfl⟩ rfl hl.1 rfl (Nat.le_of_ble_eq_true rfl) dX7_forge_5 ⟨Nat.le_of_ble_eq_true rfl, Nat.le_of_ble_eq_true rfl⟩ ?_
  refine lv_if_eq (tgt := 22) hx hb dX7_forge_8 (by decide) (fun c_8 => ?_) (fun c_8 => ?_)
  · replace h := z_ip_ c_8 h
    refine lv_aload_n hx hb dX7_forge_22 rfl (lv_at hl 0 rfl) ?_
    refine lv_iconst (v := 1) hx hb dX7_forge_23 (by decide) ?_
    obtain ⟨ho_24, h⟩ := z_chk_some h
    obtain ⟨vs_, ho_24⟩ := Option.isSome_iff_exists.mp ho_24
    obtain ⟨r_3, S_2, e_24, h⟩ := z_bd2_some h
    refine g_callV (ci := 7) (As := [.int (1 : Int32)]) (rv := (some (.int r_3))) (n := 1) hc hP hS rfl ho_24 (mt_X7_refuse l D cs A S o (1 : Int32) e_24) wM_X7_64 wI_X7_refuse wS_X7_refuse wZ_X7 wC_X7_refuse md_X7_refuse ⟨rfl, rfl, Nat.le_of_ble_eq_true rfl, Nat.le_of_ble_eq_true rfl⟩ rfl hl.1 rfl (Nat.le_of_ble_eq_true rfl) dX7_forge_24 ⟨Nat.le_of_ble_eq_true rfl, Nat.le_of_ble_eq_true rfl⟩ (fun H locs hP hS => ?_)
    show W p l e (z_rmA 2 78 0 0) s m args below meth c H locs (0) (0) Q (F0 m 27 ls [.int r_3])
    cases h
    rw [hQ]
    exact g_reti hc hr hlocks hP hS dX7_forge_27
  · replace h := z_in_ c_8 h
    refine lv_iload_n hx hb dX7_forge_11 rfl (lv_at hl 3 rfl) ?_
    refine lv_bipush (v := -100) hx hb dX7_forge_12 (by decide) ?_
    refine lv_bipush (v := 100) hx hb dX7_forge_14 (by decide) ?_
    obtain ⟨r_4, er_4, h⟩ := z_bd_some h
    refine s_calli (As := [.int a2, .int (-100 : Int32), .int (100 : Int32)]) (r := r_4) (n := 3) hc.1 (mt_X7_isWithin l a2 (-100 : Int32) (100 : Int32) er_4) wM_X7_101 wT_X7_isWithin wZ_X7 wC_X7_isWithin md_X7_isWithin ⟨rfl, rfl, Nat.le_of_ble_eq_true rfl, Nat.le_of_ble_eq_true rfl⟩ rfl hl.1 rfl (Nat.le_of_ble_eq_true rfl) dX7_forge_16 ⟨Nat.le_of_ble_eq_true rfl, Nat.le_of_ble_eq_true rfl⟩ ?_
    refine lv_if_ne (tgt := 28) hx hb dX7_forge_19 (by decide) (fun c_19 => ?_) (fun c_19 => ?_)
    · replace h := z_in_ c_19 h
      refine lv_iload_n hx hb dX7_forge_28 rfl (lv_at hl 1 rfl) ?_
      by_cases c_29_0 : a0 = 0
      · replace h := z_ip_ c_29_0 h
        refine lv_tableIn (off := 43) (tgt := 72) hx hb dX7_forge_29 (by rw [c_29_0]; decide) (by rw [c_29_0]; decide) (by rw [c_29_0]; rfl) (by decide) ?_
        refine lv_aload_n hx hb dX7_forge_72 rfl (lv_at hl 0 rfl) ?_
        refine lv_aload_n hx hb dX7_forge_73 rfl (lv_at hl 0 rfl) ?_
        obtain ⟨f_5, ef_5, h⟩ := z_bd_some h
        refine g_get (ci := 7) (k := 1) (v := .ref f_5) hc hP rfl z_inX7 (by decide) wF_X7_17 (g_r_v ef_5) dX7_forge_74 ?_
        refine lv_iload_n hx hb dX7_forge_77 rfl (lv_at hl 3 rfl) ?_
        refine lv_bipush (v := 10) hx hb dX7_forge_78 (by decide) ?_
        obtain ⟨r_6, er_6, h⟩ := z_bd_some h
        refine s_calli (As := [.int a2, .int (10 : Int32)]) (r := r_6) (n := 2) hc.1 (mt_J9_floorMod_7cf53 l a2 (10 : Int32) er_6) wM_X7_297 wT_J9_floorMod_7cf53 wZ_J9 wC_J9_floorMod_7cf53 md_J9_floorMod_7cf53 ⟨rfl, rfl, Nat.le_of_ble_eq_true rfl, Nat.le_of_ble_eq_true rfl⟩ rfl hl.1 rfl (Nat.le_of_ble_eq_true rfl) dX7_forge_80 ⟨Nat.le_of_ble_eq_true rfl, Nat.le_of_ble_eq_true rfl⟩ ?_
        obtain ⟨q_7, eq_7, h⟩ := z_bd_some h
        refine g_aald (t := 1) hc hP rfl eq_7 dX7_forge_83 ?_
        refine lv_iload_n hx hb dX7_forge_84 rfl (lv_at hl 2 rfl) ?_
        refine lv_iconst (v := 5) hx hb dX7_forge_85 (by decide) ?_
        obtain ⟨r_8, er_8, h⟩ := z_bd_some h
        refine s_calli (As := [.int a1, .int (5 : Int32)]) (r := r_8) (n := 2) hc.1 (mt_J9_floorMod_7cf53 l a1 (5 : Int32) er_8) wM_X7_297 wT_J9_floorMod_7cf53 wZ_J9 wC_J9_floorMod_7cf53 md_J9_floorMod_7cf53 ⟨rfl, rfl, Nat.le_of_ble_eq_true rfl, Nat.le_of_ble_eq_true rfl⟩ rfl hl.1 rfl (by cases q_7 <;> exact Nat.le_of_ble_eq_true rfl) dX7_forge_86 ⟨Nat.le_of_ble_eq_true rfl, Nat.le_of_ble_eq_true rfl⟩ ?_
        obtain ⟨ho_89, h⟩ := z_chk_some h
        obtain ⟨vs_, ho_89⟩ := Option.isSome_iff_exists.mp ho_89
        obtain ⟨r_10, S_9, e_89, h⟩ := z_bd2_some h
        refine g_callV (ci := 7) (As := [va_rf q_7, .int r_8]) (rv := (some (.int r_10))) (n := 2) hc hP hS rfl ho_89 (mt_X7_forgeKind l D cs A S o q_7 r_8 e_89) wM_X7_303 wI_X7_forgeKind wS_X7_forgeKind wZ_X7 wC_X7_forgeKind md_X7_forgeKind ⟨rfl, rfl, Nat.le_of_ble_eq_true rfl, Nat.le_of_ble_eq_true rfl⟩ rfl hl.1 rfl (Nat.le_of_ble_eq_true rfl) dX7_forge_89 ⟨Nat.le_of_ble_eq_true rfl, Nat.le_of_ble_eq_true rfl⟩ (fun H locs hP hS => ?_)
        show W p l e (z_rmA 2 78 0 0) s m args below meth c H locs (0) (0) Q (F0 m 92 ls [.int r_10])
        cases h
        rw [hQ]
        exact g_reti hc hr hlocks hP hS dX7_forge_92
      · replace h := z_in_ c_29_0 h
        by_cases c_29_1 : a0 = 1
        · replace h := z_ip_ c_29_1 h
          refine lv_tableIn (off := 64) (tgt := 93) hx hb dX7_forge_29 (by rw [c_29_1]; decide) (by rw [c_29_1]; decide) (by rw [c_29_1]; rfl) (by decide) ?_
          refine lv_iload_n hx hb dX7_forge_93 rfl (lv_at hl 2 rfl) ?_
          refine lv_if_ge (tgt := 106) hx hb dX7_forge_94 (by decide) (fun c_94 => ?_) (fun c_94 => ?_)
          · replace h := z_ip_ c_94 h
            refine lv_aload_n hx hb dX7_forge_106 rfl (lv_at hl 0 rfl) ?_
            refine lv_iload_n hx hb dX7_forge_107 rfl (lv_at hl 2 rfl) ?_
            obtain ⟨ho_108, h⟩ := z_chk_some h
            obtain ⟨vs_, ho_108⟩ := Option.isSome_iff_exists.mp ho_108
            obtain ⟨r_12, S_11, e_108, h⟩ := z_bd2_some h
            refine g_callV (ci := 7) (As := [.int a1]) (rv := (some (.int r_12))) (n := 1) hc hP hS rfl ho_108 (mt_X7_done l D cs A S o a1 e_108) wM_X7_80 wI_X7_done wS_X7_done wZ_X7 wC_X7_done md_X7_done ⟨rfl, rfl, Nat.le_of_ble_eq_true rfl, Nat.le_of_ble_eq_true rfl⟩ rfl hl.1 rfl (Nat.le_of_ble_eq_true rfl) dX7_forge_108 ⟨Nat.le_of_ble_eq_true rfl, Nat.le_of_ble_eq_true rfl⟩ (fun H locs hP hS => ?_)
            show W p l e (z_rmA 2 78 0 0) s m args below meth c H locs (0) (0) Q (F0 m 111 ls [.int r_12])
            cases h
            rw [hQ]
            exact g_reti hc hr hlocks hP hS dX7_forge_111
          · replace h := z_in_ c_94 h
            refine lv_aload_n hx hb dX7_forge_97 rfl (lv_at hl 0 rfl) ?_
            refine lv_bipush (v := 13) hx hb dX7_forge_98 (by decide) ?_
            obtain ⟨ho_100, h⟩ := z_chk_some h
            obtain ⟨vs_, ho_100⟩ := Option.isSome_iff_exists.mp ho_100
            obtain ⟨r_14, S_13, e_100, h⟩ := z_bd2_some h
            refine g_callV (ci := 7) (As := [.int (13 : Int32)]) (rv := (some (.int r_14))) (n := 1) hc hP hS rfl ho_100 (mt_X7_refuse l D cs A S o (13 : Int32) e_100) wM_X7_64 wI_X7_refuse wS_X7_refuse wZ_X7 wC_X7_refuse md_X7_refuse ⟨rfl, rfl, Nat.le_of_ble_eq_true rfl, Nat.le_of_ble_eq_true rfl⟩ rfl hl.1 rfl (Nat.le_of_ble_eq_true rfl) dX7_forge_100 ⟨Nat.le_of_ble_eq_true rfl, Nat.le_of_ble_eq_true rfl⟩ (fun H locs hP hS => ?_)
            show W p l e (z_rmA 2 78 0 0) s m args below meth c H locs (0) (0) Q (F0 m 103 ls [.int r_14])
            refine lv_goto (tgt := 111) hx hb dX7_forge_103 (by decide) ?_
            cases h
            rw [hQ]
            exact g_reti hc hr hlocks hP hS dX7_forge_111
        · replace h := z_in_ c_29_1 h
          by_cases c_29_2 : a0 = 2
          · replace h := z_ip_ c_29_2 h
            refine lv_tableIn (off := 83) (tgt := 112) hx hb dX7_forge_29 (by rw [c_29_2]; decide) (by rw [c_29_2]; decide) (by rw [c_29_2]; rfl) (by decide) ?_
            refine lv_aload_n hx hb dX7_forge_112 rfl (lv_at hl 0 rfl) ?_
            refine lv_aload_n hx hb dX7_forge_113 rfl (lv_at hl 0 rfl) ?_
            obtain ⟨f_15, ef_15, h⟩ := z_bd_some h
            refine g_get (ci := 7) (k := 2) (v := .ref f_15) hc hP rfl z_inX7 (by decide) wF_X7_23 (g_r_v ef_15) dX7_forge_114 ?_
            refine lv_iload_n hx hb dX7_forge_117 rfl (lv_at hl 3 rfl) ?_
            refine lv_iconst (v := 4) hx hb dX7_forge_118 (by decide) ?_
            obtain ⟨r_16, er_16, h⟩ := z_bd_some h
            refine s_calli (As := [.int a2, .int (4 : Int32)]) (r := r_16) (n := 2) hc.1 (mt_J9_floorMod_7cf53 l a2 (4 : Int32) er_16) wM_X7_297 wT_J9_floorMod_7cf53 wZ_J9 wC_J9_floorMod_7cf53 md_J9_floorMod_7cf53 ⟨rfl, rfl, Nat.le_of_ble_eq_true rfl, Nat.le_of_ble_eq_true rfl⟩ rfl hl.1 rfl (Nat.le_of_ble_eq_true rfl) dX7_forge_119 ⟨Nat.le_of_ble_eq_true rfl, Nat.le_of_ble_eq_true rfl⟩ ?_
            obtain ⟨q_17, eq_17, h⟩ := z_bd_some h
            refine g_aald (t := 2) hc hP rfl eq_17 dX7_forge_122 ?_
            refine lv_iload_n hx hb dX7_forge_123 rfl (lv_at hl 2 rfl) ?_
            obtain ⟨ho_124, h⟩ := z_chk_some h
            obtain ⟨vs_, ho_124⟩ := Option.isSome_iff_exists.mp ho_124
            obtain ⟨r_19, S_18, e_124, h⟩ := z_bd2_some h
            refine g_callV (ci := 7) (As := [va_rf q_17, .int a1]) (rv := (some (.int r_19))) (n := 2) hc hP hS rfl ho_124 (mt_X7_forgeNumber l D cs A S o q_17 a1 e_124) wM_X7_307 wI_X7_forgeNumber wS_X7_forgeNumber wZ_X7 wC_X7_forgeNumber md_X7_forgeNumber ⟨rfl, rfl, Nat.le_of_ble_eq_true rfl, Nat.le_of_ble_eq_true rfl⟩ rfl hl.1 rfl (Nat.le_of_ble_eq_true rfl) dX7_forge_124 ⟨Nat.le_of_ble_eq_true rfl, Nat.le_of_ble_eq_true rfl⟩ (fun H locs hP hS => ?_)
            show W p l e (z_rmA 2 78 0 0) s m args below meth c H locs (0) (0) Q (F0 m 127 ls [.int r_19])
            cases h
            rw [hQ]
            exact g_reti hc hr hlocks hP hS dX7_forge_127
          · replace h := z_in_ c_29_2 h
            by_cases c_29_3 : a0 = 3
            · replace h := z_ip_ c_29_3 h
              refine lv_tableIn (off := 99) (tgt := 128) hx hb dX7_forge_29 (by rw [c_29_3]; decide) (by rw [c_29_3]; decide) (by rw [c_29_3]; rfl) (by decide) ?_
              refine lv_aload_n hx hb dX7_forge_128 rfl (lv_at hl 0 rfl) ?_
              refine lv_aload_n hx hb dX7_forge_129 rfl (lv_at hl 0 rfl) ?_
              obtain ⟨f_20, ef_20, h⟩ := z_bd_some h
              refine g_get (ci := 7) (k := 2) (v := .ref f_20) hc hP rfl z_inX7 (by decide) wF_X7_23 (g_r_v ef_20) dX7_forge_130 ?_
              refine lv_iload_n hx hb dX7_forge_133 rfl (lv_at hl 3 rfl) ?_
              refine lv_iconst (v := 4) hx hb dX7_forge_134 (by decide) ?_
              obtain ⟨r_21, er_21, h⟩ := z_bd_some h
              refine s_calli (As := [.int a2, .int (4 : Int32)]) (r := r_21) (n := 2) hc.1 (mt_J9_floorMod_7cf53 l a2 (4 : Int32) er_21) wM_X7_297 wT_J9_floorMod_7cf53 wZ_J9 wC_J9_floorMod_7cf53 md_J9_floorMod_7cf53 ⟨rfl, rfl, Nat.le_of_ble_eq_true rfl, Nat.le_of_ble_eq_true rfl⟩ rfl hl.1 rfl (Nat.le_of_ble_eq_true rfl) dX7_forge_135 ⟨Nat.le_of_ble_eq_true rfl, Nat.le_of_ble_eq_true rfl⟩ ?_
              obtain ⟨q_22, eq_22, h⟩ := z_bd_some h
              refine g_aald (t := 2) hc hP rfl eq_22 dX7_forge_138 ?_
              refine lv_iload_n hx hb dX7_forge_139 rfl (lv_at hl 2 rfl) ?_
              obtain ⟨ho_140, h⟩ := z_chk_some h
              obtain ⟨vs_, ho_140⟩ := Option.isSome_iff_exists.mp ho_140
              obtain ⟨r_24, S_23, e_140, h⟩ := z_bd2_some h
              refine g_callV (ci := 7) (As := [va_rf q_22, .int a1]) (rv := (some (.int r_24))) (n := 2) hc hP hS rfl ho_140 (mt_X7_forgeCopy l D cs A S o q_22 a1 e_140) wM_X7_310 wI_X7_forgeCopy wS_X7_forgeCopy wZ_X7 wC_X7_forgeCopy md_X7_forgeCopy ⟨rfl, rfl, Nat.le_of_ble_eq_true rfl, Nat.le_of_ble_eq_true rfl⟩ rfl hl.1 rfl (Nat.le_of_ble_eq_true rfl) dX7_forge_140 ⟨Nat.le_of_ble_eq_true rfl, Nat.le_of_ble_eq_true rfl⟩ (fun H locs hP hS => ?_)
              show W p l e (z_rmA 2 78 0 0) s m args below meth c H locs (0) (0) Q (F0 m 143 ls [.int r_24])
              cases h
              rw [hQ]
              exact g_reti hc hr hlocks hP hS dX7_forge_143
            · replace h := z_in_ c_29_3 h
              by_cases c_29_4 : a0 = 4
              · replace h := z_ip_ c_29_4 h
                refine lv_tableIn (off := 115) (tgt := 144) hx hb dX7_forge_29 (by rw [c_29_4]; decide) (by rw [c_29_4]; decide) (by rw [c_29_4]; rfl) (by decide) ?_
                refine lv_aload_n hx hb dX7_forge_144 rfl (lv_at hl 0 rfl) ?_
                refine lv_aload_n hx hb dX7_forge_145 rfl (lv_at hl 0 rfl) ?_
                obtain ⟨f_25, ef_25, h⟩ := z_bd_some h
                refine g_get (ci := 7) (k := 1) (v := .ref f_25) hc hP rfl z_inX7 (by decide) wF_X7_17 (g_r_v ef_25) dX7_forge_146 ?_
                refine lv_iload_n hx hb dX7_forge_149 rfl (lv_at hl 3 rfl) ?_
                refine lv_bipush (v := 10) hx hb dX7_forge_150 (by decide) ?_
                obtain ⟨r_26, er_26, h⟩ := z_bd_some h
                refine s_calli (As := [.int a2, .int (10 : Int32)]) (r := r_26) (n := 2) hc.1 (mt_J9_floorMod_7cf53 l a2 (10 : Int32) er_26) wM_X7_297 wT_J9_floorMod_7cf53 wZ_J9 wC_J9_floorMod_7cf53 md_J9_floorMod_7cf53 ⟨rfl, rfl, Nat.le_of_ble_eq_true rfl, Nat.le_of_ble_eq_true rfl⟩ rfl hl.1 rfl (Nat.le_of_ble_eq_true rfl) dX7_forge_152 ⟨Nat.le_of_ble_eq_true rfl, Nat.le_of_ble_eq_true rfl⟩ ?_
                obtain ⟨q_27, eq_27, h⟩ := z_bd_some h
                refine g_aald (t := 1) hc hP rfl eq_27 dX7_forge_155 ?_
                obtain ⟨ho_156, h⟩ := z_chk_some h
                obtain ⟨vs_, ho_156⟩ := Option.isSome_iff_exists.mp ho_156
                obtain ⟨r_29, S_28, e_156, h⟩ := z_bd2_some h
                refine g_callV (ci := 7) (As := [va_rf q_27]) (rv := (some (.int r_29))) (n := 1) hc hP hS rfl ho_156 (mt_X7_forgeRowOfLines l D cs A S o q_27 e_156) wM_X7_313 wI_X7_forgeRowOfLines wS_X7_forgeRowOfLines wZ_X7 wC_X7_forgeRowOfLines md_X7_forgeRowOfLines ⟨rfl, rfl, Nat.le_of_ble_eq_true rfl, Nat.le_of_ble_eq_true rfl⟩ rfl hl.1 rfl (Nat.le_of_ble_eq_true rfl) dX7_forge_156 ⟨Nat.le_of_ble_eq_true rfl, Nat.le_of_ble_eq_true rfl⟩ (fun H locs hP hS => ?_)
                show W p l e (z_rmA 2 78 0 0) s m args below meth c H locs (0) (0) Q (F0 m 159 ls [.int r_29])
                cases h
                rw [hQ]
                exact g_reti hc hr hlocks hP hS dX7_forge_159
              · replace h := z_in_ c_29_4 h
                by_cases c_29_5 : a0 = 5
                · replace h := z_ip_ c_29_5 h
                  refine lv_tableIn (off := 131) (tgt := 160) hx hb dX7_forge_29 (by rw [c_29_5]; decide) (by rw [c_29_5]; decide) (by rw [c_29_5]; rfl) (by decide) ?_
                  refine lv_iload_n hx hb dX7_forge_160 rfl (lv_at hl 2 rfl) ?_
                  refine lv_if_ne (tgt := 173) hx hb dX7_forge_161 (by decide) (fun c_161 => ?_) (fun c_161 => ?_)
                  · replace h := z_in_ c_161 h
                    refine lv_aload_n hx hb dX7_forge_173 rfl (lv_at hl 0 rfl) ?_
                    refine lv_sipush (v := 1000) hx hb dX7_forge_174 (by decide) ?_
                    refine lv_iload_n hx hb dX7_forge_177 rfl (lv_at hl 2 rfl) ?_
                    obtain ⟨c_178, h⟩ := z_chk_some h
                    refine lv_idiv hx hb dX7_forge_178 c_178 ?_
                    obtain ⟨ho_179, h⟩ := z_chk_some h
                    obtain ⟨vs_, ho_179⟩ := Option.isSome_iff_exists.mp ho_179
                    obtain ⟨r_31, S_30, e_179, h⟩ := z_bd2_some h
                    refine g_callV (ci := 7) (As := [.int ((1000 : Int32) / a1)]) (rv := (some (.int r_31))) (n := 1) hc hP hS rfl ho_179 (mt_X7_done l D cs A S o ((1000 : Int32) / a1) e_179) wM_X7_80 wI_X7_done wS_X7_done wZ_X7 wC_X7_done md_X7_done ⟨rfl, rfl, Nat.le_of_ble_eq_true rfl, Nat.le_of_ble_eq_true rfl⟩ rfl hl.1 rfl (Nat.le_of_ble_eq_true rfl) dX7_forge_179 ⟨Nat.le_of_ble_eq_true rfl, Nat.le_of_ble_eq_true rfl⟩ (fun H locs hP hS => ?_)
                    show W p l e (z_rmA 2 78 0 0) s m args below meth c H locs (0) (0) Q (F0 m 182 ls [.int r_31])
                    cases h
                    rw [hQ]
                    exact g_reti hc hr hlocks hP hS dX7_forge_182
                  · replace h := z_ip_ c_161 h
                    refine lv_aload_n hx hb dX7_forge_164 rfl (lv_at hl 0 rfl) ?_
                    refine lv_bipush (v := 15) hx hb dX7_forge_165 (by decide) ?_
                    obtain ⟨ho_167, h⟩ := z_chk_some h
                    obtain ⟨vs_, ho_167⟩ := Option.isSome_iff_exists.mp ho_167
                    obtain ⟨r_33, S_32, e_167, h⟩ := z_bd2_some h
                    refine g_callV (ci := 7) (As := [.int (15 : Int32)]) (rv := (some (.int r_33))) (n := 1) hc hP hS rfl ho_167 (mt_X7_refuse l D cs A S o (15 : Int32) e_167) wM_X7_64 wI_X7_refuse wS_X7_refuse wZ_X7 wC_X7_refuse md_X7_refuse ⟨rfl, rfl, Nat.le_of_ble_eq_true rfl, Nat.le_of_ble_eq_true rfl⟩ rfl hl.1 rfl (Nat.le_of_ble_eq_true rfl) dX7_forge_167 ⟨Nat.le_of_ble_eq_true rfl, Nat.le_of_ble_eq_true rfl⟩ (fun H locs hP hS => ?_)
                    show W p l e (z_rmA 2 78 0 0) s m args below meth c H locs (0) (0) Q (F0 m 170 ls [.int r_33])
                    refine lv_goto (tgt := 182) hx hb dX7_forge_170 (by decide) ?_
                    cases h
                    rw [hQ]
                    exact g_reti hc hr hlocks hP hS dX7_forge_182
                · replace h := z_in_ c_29_5 h
                  by_cases c_29_6 : a0 = 6
                  · replace h := z_ip_ c_29_6 h
                    refine lv_tableIn (off := 154) (tgt := 183) hx hb dX7_forge_29 (by rw [c_29_6]; decide) (by rw [c_29_6]; decide) (by rw [c_29_6]; rfl) (by decide) ?_
                    refine lv_iload_n hx hb dX7_forge_183 rfl (lv_at hl 2 rfl) ?_
                    refine lv_iconst (v := 2) hx hb dX7_forge_184 (by decide) ?_
                    obtain ⟨r_34, er_34, h⟩ := z_bd_some h
                    refine s_calli (As := [.int a1, .int (2 : Int32)]) (r := r_34) (n := 2) hc.1 (mt_J9_floorMod_7cf53 l a1 (2 : Int32) er_34) wM_X7_297 wT_J9_floorMod_7cf53 wZ_J9 wC_J9_floorMod_7cf53 md_J9_floorMod_7cf53 ⟨rfl, rfl, Nat.le_of_ble_eq_true rfl, Nat.le_of_ble_eq_true rfl⟩ rfl hl.1 rfl (Nat.le_of_ble_eq_true rfl) dX7_forge_185 ⟨Nat.le_of_ble_eq_true rfl, Nat.le_of_ble_eq_true rfl⟩ ?_
                    refine lv_if_ne (tgt := 200) hx hb dX7_forge_188 (by decide) (fun c_188 => ?_) (fun c_188 => ?_)
                    · replace h := z_in_ c_188 h
                      refine lv_aload_n hx hb dX7_forge_200 rfl (lv_at hl 0 rfl) ?_
                      refine lv_iconst (v := 1) hx hb dX7_forge_201 (by decide) ?_
                      obtain ⟨ho_202, h⟩ := z_chk_some h
                      obtain ⟨vs_, ho_202⟩ := Option.isSome_iff_exists.mp ho_202
                      obtain ⟨r_36, S_35, e_202, h⟩ := z_bd2_some h
                      refine g_callV (ci := 7) (As := [.int (1 : Int32)]) (rv := (some (.int r_36))) (n := 1) hc hP hS rfl ho_202 (mt_X7_done l D cs A S o (1 : Int32) e_202) wM_X7_80 wI_X7_done wS_X7_done wZ_X7 wC_X7_done md_X7_done ⟨rfl, rfl, Nat.le_of_ble_eq_true rfl, Nat.le_of_ble_eq_true rfl⟩ rfl hl.1 rfl (Nat.le_of_ble_eq_true rfl) dX7_forge_202 ⟨Nat.le_of_ble_eq_true rfl, Nat.le_of_ble_eq_true rfl⟩ (fun H locs hP hS => ?_)
                      show W p l e (z_rmA 2 78 0 0) s m args below meth c H locs (0) (0) Q (F0 m 205 ls [.int r_36])
                      cases h
                      rw [hQ]
                      exact g_reti hc hr hlocks hP hS dX7_forge_205
                    · replace h := z_ip_ c_188 h
                      refine lv_aload_n hx hb dX7_forge_191 rfl (lv_at hl 0 rfl) ?_
                      refine lv_bipush (v := 10) hx hb dX7_forge_192 (by decide) ?_
                      obtain ⟨ho_194, h⟩ := z_chk_some h
                      obtain ⟨vs_, ho_194⟩ := Option.isSome_iff_exists.mp ho_194
                      obtain ⟨r_38, S_37, e_194, h⟩ := z_bd2_some h
                      refine g_callV (ci := 7) (As := [.int (10 : Int32)]) (rv := (some (.int r_38))) (n := 1) hc hP hS rfl ho_194 (mt_X7_refuse l D cs A S o (10 : Int32) e_194) wM_X7_64 wI_X7_refuse wS_X7_refuse wZ_X7 wC_X7_refuse md_X7_refuse ⟨rfl, rfl, Nat.le_of_ble_eq_true rfl, Nat.le_of_ble_eq_true rfl⟩ rfl hl.1 rfl (Nat.le_of_ble_eq_true rfl) dX7_forge_194 ⟨Nat.le_of_ble_eq_true rfl, Nat.le_of_ble_eq_true rfl⟩ (fun H locs hP hS => ?_)
                      show W p l e (z_rmA 2 78 0 0) s m args below meth c H locs (0) (0) Q (F0 m 197 ls [.int r_38])
                      refine lv_goto (tgt := 205) hx hb dX7_forge_197 (by decide) ?_
                      cases h
                      rw [hQ]
                      exact g_reti hc hr hlocks hP hS dX7_forge_205
                  · replace h := z_in_ c_29_6 h
                    refine lv_tableOut (tgt := 206) hx hb dX7_forge_29 (z_out_0_6 c_29_0 c_29_1 c_29_2 c_29_3 c_29_4 c_29_5 c_29_6) (by decide) ?_
                    refine lv_aload_n hx hb dX7_forge_206 rfl (lv_at hl 0 rfl) ?_
                    refine lv_iconst (v := 1) hx hb dX7_forge_207 (by decide) ?_
                    obtain ⟨ho_208, h⟩ := z_chk_some h
                    obtain ⟨vs_, ho_208⟩ := Option.isSome_iff_exists.mp ho_208
                    obtain ⟨r_40, S_39, e_208, h⟩ := z_bd2_some h
                    refine g_callV (ci := 7) (As := [.int (1 : Int32)]) (rv := (some (.int r_40))) (n := 1) hc hP hS rfl ho_208 (mt_X7_refuse l D cs A S o (1 : Int32) e_208) wM_X7_64 wI_X7_refuse wS_X7_refuse wZ_X7 wC_X7_refuse md_X7_refuse ⟨rfl, rfl, Nat.le_of_ble_eq_true rfl, Nat.le_of_ble_eq_true rfl⟩ rfl hl.1 rfl (Nat.le_of_ble_eq_true rfl) dX7_forge_208 ⟨Nat.le_of_ble_eq_true rfl, Nat.le_of_ble_eq_true rfl⟩ (fun H locs hP hS => ?_)
                    show W p l e (z_rmA 2 78 0 0) s m args below meth c H locs (0) (0) Q (F0 m 211 ls [.int r_40])
                    cases h
                    rw [hQ]
                    exact g_reti hc hr hlocks hP hS dX7_forge_211
    · replace h := z_ip_ c_19 h
      refine lv_aload_n hx hb dX7_forge_22 rfl (lv_at hl 0 rfl) ?_
      refine lv_iconst (v := 1) hx hb dX7_forge_23 (by decide) ?_
      obtain ⟨ho_24, h⟩ := z_chk_some h
      obtain ⟨vs_, ho_24⟩ := Option.isSome_iff_exists.mp ho_24
      obtain ⟨r_42, S_41, e_24, h⟩ := z_bd2_some h
      refine g_callV (ci := 7) (As := [.int (1 : Int32)]) (rv := (some (.int r_42))) (n := 1) hc hP hS rfl ho_24 (mt_X7_refuse l D cs A S o (1 : Int32) e_24) wM_X7_64 wI_X7_refuse wS_X7_refuse wZ_X7 wC_X7_refuse md_X7_refuse ⟨rfl, rfl, Nat.le_of_ble_eq_true rfl, Nat.le_of_ble_eq_true rfl⟩ rfl hl.1 rfl (Nat.le_of_ble_eq_true rfl) dX7_forge_24 ⟨Nat.le_of_ble_eq_true rfl, Nat.le_of_ble_eq_true rfl⟩ (fun H locs hP hS => ?_)
      show W p l e (z_rmA 2 78 0 0) s m args below meth c H locs (0) (0) Q (F0 m 27 ls [.int r_42])
      cases h
      rw [hQ]
      exact g_reti hc hr hlocks hP hS dX7_forge_27
theorem md_X7_forge : yX7_forge.cls ≠ "java/lang/invoke/MethodHandle" ∧ yX7_forge.cls ≠ "java/lang/invoke/VarHandle" ∧ (parseMethodDescriptor yX7_forge.desc).map (fun d => d.parameters.length) = some 3 := by decide +kernel
noncomputable def f_X7_status (S : GS) (o : Nat) : Option (Int32) :=
  z_bd (g_i S 7 7 o) fun f_1 => some f_1
set_option maxHeartbeats 4000000 in
set_option maxRecDepth 100000 in
theorem mt_X7_status (l : Launch) (D : va_G) (cs : Nat → ClassId) (A : Nat → Prop) (S : GS) (o : Nat) {r_ : Int32} (h : f_X7_status S o = some r_) : Met l yX7_status (z_wd yX7_status cX7_status 1 (some .int)) (z_rmA 0 0 0 0) (va_Pc [.ref o] (g_C D cs A S)) (g_Q (some (.int r_)) S D cs A) 0 0 A := by
  refine Met.ofW (cc := cX7_status) (maxL := 1) (ret := (some .int)) (by decide) rfl ?_
  intro p e s m args below meth c s₁ B hml hv
  obtain ⟨hav, hP0, hK, hN, hSt, hAn⟩ := hv
  have hx := B.exec
  have hb := B.bytes
  have hr := B.returns
  have hts := atoms_spec (ws := z_wd yX7_status cX7_status 1 (some .int)) B.pre
  have hown : s.vm.findClass RX7 = some m.cls := findClass_of_methodNamed B.named
  have hlocks := B.notSynchronized
  have hc : g_X p s m args c cX7_status 1 RX7 D cs A := ⟨⟨hx, hb, hml, fun w hw => hts w (List.mem_cons_of_mem _ hw), hown⟩, hK, hN, hSt, hAn⟩
  have hl := lv_entry ([.ref o]) (n := 1) (Nat.le_of_ble_eq_true rfl)
  have hE : entryFrame m args 1 = F0 m 0 ((lg_sl ([.ref o]) ++ List.replicate (1 - (lg_sl ([.ref o])).length) Slot.unset).toArray) [] := by rw [hav]; exact lg_entry_eq m _ _
  rw [hE]
  clear hE hav
  generalize (lg_sl ([.ref o]) ++ List.replicate (1 - (lg_sl ([.ref o])).length) Slot.unset).toArray = ls at hl ⊢
  have hl : lv_has ls 1 [(0, .ref o)] := hl
  obtain ⟨Q, hQ⟩ : ∃ Q, Q = MQ below (g_Q (some (.int r_)) S D cs A) args s 0 0 A := ⟨_, rfl⟩
  rw [← hQ]
  suffices hmain : ∀ (H : Heap) (locs : List Loc), g_P D cs A S H → va_S A s.heap H locs → W p l e (z_rmA 0 0 0 0) s m args below meth c H locs 0 0 Q (F0 m 0 ls []) from hmain s.heap [] hP0 va_S.rf
  clear hP0
  intro H locs hP hS
  unfold f_X7_status at h
  refine lv_aload_n hx hb dX7_status_0 rfl (lv_at hl 0 rfl) ?_
  obtain ⟨f_1, ef_1, h⟩ := z_bd_some h
  refine g_get (ci := 7) (k := 7) (v := .int f_1) hc hP rfl z_inX7 (by decide) wF_X7_52 (g_i_v ef_1) dX7_status_1 ?_
  cases h
  rw [hQ]
  exact g_reti hc hr hlocks hP hS dX7_status_4
theorem md_X7_status : yX7_status.cls ≠ "java/lang/invoke/MethodHandle" ∧ yX7_status.cls ≠ "java/lang/invoke/VarHandle" ∧ (parseMethodDescriptor yX7_status.desc).map (fun d => d.parameters.length) = some 0 := by decide +kernel
noncomputable def f_X8_init_L216 (o : Nat) (x1_54 : Int32) (S_55 : GS) : Option ((GS) ⊕ (Int32 × GS)) :=
  if (4 : Int32) ≤ x1_54 then some (.inl (S_55)) else z_bd (g_r S_55 8 15 o) fun f_57 => z_bd (g_wI S_55 f_57 x1_54 (-1 : Int32)) fun S_58 => some (.inr ((x1_54 + 1), S_58))
noncomputable def f_X8_init (S : GS) (o : Nat) : Option (GS) :=
  z_lt (g_nw S (.inl (6, fun _ => 0))) fun S_1 => z_bd (g_put S_1 8 0 o (.ref S.2)) fun S_2 => z_lt (g_nw S_2 (.inl (72, fun _ => 0))) fun S_3 => z_bd (g_put S_3 8 1 o (.ref S_2.2)) fun S_4 => z_lt (g_nw S_4 (.inl (72, fun _ => 0))) fun S_5 => z_bd (g_put S_5 8 2 o (.ref S_4.2)) fun S_6 => z_lt (g_nw S_6 (.inl (72, fun _ => 0))) fun S_7 => z_bd (g_put S_7 8 3 o (.ref S_6.2)) fun S_8 => z_lt (g_nw S_8 (.inl (10, fun _ => 0))) fun S_9 => z_bd (g_put S_9 8 5 o (.ref S_8.2)) fun S_10 => z_lt (g_nw S_10 (.inl (10, fun _ => 0))) fun S_11 => z_bd (g_put S_11 8 6 o (.ref S_10.2)) fun S_12 => z_lt (g_nw S_12 (.inl (10, fun _ => 0))) fun S_13 => z_bd (g_put S_13 8 7 o (.ref S_12.2)) fun S_14 => z_lt (g_nw S_14 (.inl (120, fun _ => 0))) fun S_15 => z_bd (g_put S_15 8 8 o (.ref S_14.2)) fun S_16 => z_lt (g_nw S_16 (.inl (120, fun _ => 0))) fun S_17 => z_bd (g_put S_17 8 9 o (.ref S_16.2)) fun S_18 => z_lt (g_nw S_18 (.inl (120, fun _ => 0))) fun S_19 => z_bd (g_put S_19 8 10 o (.ref S_18.2)) fun S_20 => z_lt (g_nw S_20 (.inl (10, fun _ => 0))) fun S_21 => z_bd (g_put S_21 8 11 o (.ref S_20.2)) fun S_22 => z_lt (g_nw S_22 (.inl (120, fun _ => 0))) fun S_23 => z_bd (g_put S_23 8 12 o (.ref S_22.2)) fun S_24 => z_lt (g_nw S_24 (.inr (.inl (360, fun _ => 0)))) fun S_25 => z_bd (g_put S_25 8 13 o (.ref S_24.2)) fun S_26 => z_lt (g_nw S_26 (.inr (.inl (360, fun _ => 0)))) fun S_27 => z_bd (g_put S_27 8 14 o (.ref S_26.2)) fun S_28 => z_lt (g_nw S_28 (.inl (4, fun _ => 0))) fun S_29 => z_bd (g_put S_29 8 15 o (.ref S_28.2)) fun S_30 => z_lt (g_nw S_30 (.inl (4, fun _ => 0))) fun S_31 => z_bd (g_put S_31 8 16 o (.ref S_30.2)) fun S_32 => z_lt (g_nw S_32 (.inl (160, fun _ => 0))) fun S_33 => z_bd (g_put S_33 8 17 o (.ref S_32.2)) fun S_34 => z_lt (g_nw S_34 (.inl (50, fun _ => 0))) fun S_35 => z_bd (g_put S_35 8 19 o (.ref S_34.2)) fun S_36 => z_bd (g_put S_36 8 22 o (.long (1 : Int64))) fun S_37 => z_lt (g_nw S_37 (.inl (12, fun _ => 0))) fun S_38 => z_bd (g_put S_38 8 23 o (.ref S_37.2)) fun S_39 => z_lt (g_nw S_39 (.inr (.inl (3, fun _ => 0)))) fun S_40 => z_bd (g_put S_40 8 24 o (.ref S_39.2)) fun S_41 => z_lt (g_nw S_41 (.inr (.inl (3, fun _ => 0)))) fun S_42 => z_bd (g_put S_42 8 25 o (.ref S_41.2)) fun S_43 => z_lt (g_nw S_43 (.inr (.inl (3, fun _ => 0)))) fun S_44 => z_bd (g_put S_44 8 28 o (.ref S_43.2)) fun S_45 => z_lt (g_nw S_45 (.inr (.inl (3, fun _ => 0)))) fun S_46 => z_bd (g_put S_46 8 29 o (.ref S_45.2)) fun S_47 => z_lt (g_nw S_47 (.inl (12, fun _ => 0))) fun S_48 => z_bd (g_put S_48 8 30 o (.ref S_47.2)) fun S_49 => z_lt (g_nw S_49 (.inl (12, fun _ => 0))) fun S_50 => z_bd (g_put S_50 8 31 o (.ref S_49.2)) fun S_51 => z_lt (g_nw S_51 (.inl (12, fun _ => 0))) fun S_52 => z_bd (g_put S_52 8 32 o (.ref S_51.2)) fun S_53 => z_bd (z_lp (fun x => f_X8_init_L216 o x.1 x.2) ((0 : Int32), S_53)) fun S_56 => some S_56
set_option maxHeartbeats 4000000 in
set_option maxRecDepth 100000 in
theorem mt_X8_init (l : Launch) (D : va_G) (cs : Nat → ClassId) (A : Nat → Prop) (S : GS) (o : Nat) {N_ : GS} (h : f_X8_init S o = some N_) : Met l yX8_init (z_wd yX8_init cX8_init 2 none) (z_rmA 1 40 26 1740) (va_Pc [.ref o] (g_C D cs A S)) (g_Q none N_ D cs A) 26 1740 A := by
  refine Met.ofW (cc := cX8_init) (maxL := 2) (ret := none) (by decide) rfl ?_
  intro p e s m args below meth c s₁ B hml hv
  obtain ⟨hav, hP0, hK, hN, hSt, hAn⟩ := hv
  have hx := B.exec
  have hb := B.bytes
  have hr := B.returns
  have hts := atoms_spec (ws := z_wd yX8_init cX8_init 2 none) B.pre
  have hown : s.vm.findClass RX8 = some m.cls := findClass_of_methodNamed B.named
  have hlocks := B.notSynchronized
  have hin : meth.name = "<init>" := (name_of_methodNamed B.named B.method).1
  have hc : g_X p s m args c cX8_init 2 RX8 D cs A := ⟨⟨hx, hb, hml, fun w hw => hts w (List.mem_cons_of_mem _ hw), hown⟩, hK, hN, hSt, hAn⟩
  have hl := lv_entry ([.ref o]) (n := 2) (Nat.le_of_ble_eq_true rfl)
  have hE : entryFrame m args 2 = F0 m 0 ((lg_sl ([.ref o]) ++ List.replicate (2 - (lg_sl ([.ref o])).length) Slot.unset).toArray) [] := by rw [hav]; exact lg_entry_eq m _ _
  rw [hE]
  clear hE hav
  generalize (lg_sl ([.ref o]) ++ List.replicate (2 - (lg_sl ([.ref o])).length) Slot.unset).toArray = ls at hl ⊢
  have hl : lv_has ls 2 [(0, .ref o)] := hl
  obtain ⟨Q, hQ⟩ : ∃ Q, Q = MQ below (g_Q none N_ D cs A) args s 26 1740 A := ⟨_, rfl⟩
  rw [← hQ]
  suffices hmain : ∀ (H : Heap) (locs : List Loc), g_P D cs A S H → va_S A s.heap H locs → W p l e (z_rmA 1 40 26 1740) s m args below meth c H locs 0 0 Q (F0 m 0 ls []) from hmain s.heap [] hP0 va_S.rf
  clear hP0
  intro H locs hP hS
  unfold f_X8_init at h
  refine lv_aload_n hx hb dX8_init_0 rfl (lv_at hl 0 rfl) ?_
  refine g_obj hc wM_X8_1 hl.1 (Nat.le_of_ble_eq_true rfl) (Nat.le_of_ble_eq_true rfl) dX8_init_1 ?_
  show W p l e (z_rmA 1 40 26 1740) s m args below meth c H locs (0) (0) Q (F0 m 4 ls [])
  refine lv_aload_n hx hb dX8_init_4 rfl (lv_at hl 0 rfl) ?_
  refine lv_bipush (v := 6) hx hb dX8_init_5 (by decide) ?_
  obtain ⟨S_1, eS_1, h⟩ := z_lt_some h
  refine g_newI (N' := 6) hc hP hS wY_int (by decide) (by decide) (by decide) (Nat.le_of_ble_eq_true rfl) (Nat.le_of_ble_eq_true rfl) eS_1 dX8_init_7 (fun H hP hS => ?_)
  show W p l e (z_rmA 1 40 26 1740) s m args below meth c H locs (1) (6) Q (F0 m 9 ls [.ref S.2, .ref o])
  obtain ⟨S_2, eS_2, h⟩ := z_bd_some h
  refine g_putF (ci := 8) (k := 0) (ty := (.array .int)) tyX8 hc hP hS rfl z_inX8 tyX8_ok nmX8 (by decide) wF_X8_7 rfl hin rfl (by decide +kernel) rfl rfl eS_2 dX8_init_9 (fun H locs hP hS => ?_)
  refine lv_aload_n hx hb dX8_init_12 rfl (lv_at hl 0 rfl) ?_
  refine lv_bipush (v := 72) hx hb dX8_init_13 (by decide) ?_
  obtain ⟨S_3, eS_3, h⟩ := z_lt_some h
  refine g_newI (N' := 72) hc hP hS wY_int (by decide) (by decide) (by decide) (Nat.le_of_ble_eq_true rfl) (Nat.le_of_ble_eq_true rfl) eS_3 dX8_init_15 (fun H hP hS => ?_)
  show W p l e (z_rmA 1 40 26 1740) s m args below meth c H locs (2) (78) Q (F0 m 17 ls [.ref S_2.2, .ref o])
  obtain ⟨S_4, eS_4, h⟩ := z_bd_some h
  refine g_putF (ci := 8) (k := 1) (ty := (.array .int)) tyX8 hc hP hS rfl z_inX8 tyX8_ok nmX8 (by decide) wF_X8_13 rfl hin rfl (by decide +kernel) rfl rfl eS_4 dX8_init_17 (fun H locs hP hS => ?_)
  refine lv_aload_n hx hb dX8_init_20 rfl (lv_at hl 0 rfl) ?_
  refine lv_bipush (v := 72) hx hb dX8_init_21 (by decide) ?_
  obtain ⟨S_5, eS_5, h⟩ := z_lt_some h
  refine g_newI (N' := 72) hc hP hS wY_int (by decide) (by decide) (by decide) (Nat.le_of_ble_eq_true rfl) (Nat.le_of_ble_eq_true rfl) eS_5 dX8_init_23 (fun H hP hS => ?_)
  show W p l e (z_rmA 1 40 26 1740) s m args below meth c H locs (3) (150) Q (F0 m 25 ls [.ref S_4.2, .ref o])
  obtain ⟨S_6, eS_6, h⟩ := z_bd_some h
  refine g_putF (ci := 8) (k := 2) (ty := (.array .int)) tyX8 hc hP hS rfl z_inX8 tyX8_ok nmX8 (by decide) wF_X8_16 rfl hin rfl (by decide +kernel) rfl rfl eS_6 dX8_init_25 (fun H locs hP hS => ?_)
  refine lv_aload_n hx hb dX8_init_28 rfl (lv_at hl 0 rfl) ?_
  refine lv_bipush (v := 72) hx hb dX8_init_29 (by decide) ?_
  obtain ⟨S_7, eS_7, h⟩ := z_lt_some h
  refine g_newI (N' := 72) hc hP hS wY_int (by decide) (by decide) (by decide) (Nat.le_of_ble_eq_true rfl) (Nat.le_of_ble_eq_true rfl) eS_7 dX8_init_31 (fun H hP hS => ?_)
  show W p l e (z_rmA 1 40 26 1740) s m args below meth c H locs (4) (222) Q (F0 m 33 ls [.ref S_6.2, .ref o])
  obtain ⟨S_8, eS_8, h⟩ := z_bd_some h
  refine g_putF (ci := 8) (k := 3) (ty := (.array .int)) tyX8 hc hP hS rfl z_inX8 tyX8_ok nmX8 (by decide) wF_X8_19 rfl hin rfl (by decide +kernel) rfl rfl eS_8 dX8_init_33 (fun H locs hP hS => ?_)
  refine lv_aload_n hx hb dX8_init_36 rfl (lv_at hl 0 rfl) ?_
  refine lv_bipush (v := 10) hx hb dX8_init_37 (by decide) ?_
  obtain ⟨S_9, eS_9, h⟩ := z_lt_some h
  refine g_newI (N' := 10) hc hP hS wY_int (by decide) (by decide) (by decide) (Nat.le_of_ble_eq_true rfl) (Nat.le_of_ble_eq_true rfl) eS_9 dX8_init_39 (fun H hP hS => ?_)
  show W p l e (z_rmA 1 40 26 1740) s m args below meth c H locs (5) (232) Q (F0 m 41 ls [.ref S_8.2, .ref o])
  obtain ⟨S_10, eS_10, h⟩ := z_bd_some h
  refine g_putF (ci := 8) (k := 5) (ty := (.array .int)) tyX8 hc hP hS rfl z_inX8 tyX8_ok nmX8 (by decide) wF_X8_22 rfl hin rfl (by decide +kernel) rfl rfl eS_10 dX8_init_41 (fun H locs hP hS => ?_)
  refine lv_aload_n hx hb dX8_init_44 rfl (lv_at hl 0 rfl) ?_
  refine lv_bipush (v := 10) hx hb dX8_init_45 (by decide) ?_
  obtain ⟨S_11, eS_11, h⟩ := z_lt_some h
  refine g_newI (N' := 10) hc hP hS wY_int (by decide) (by decide) (by decide) (Nat.le_of_ble_eq_true rfl) (Nat.le_of_ble_eq_true rfl) eS_11 dX8_init_47 (fun H hP hS => ?_)
  show W p l e (z_rmA 1 40 26 1740) s m args below meth c H locs (6) (242) Q (F0 m 49 ls [.ref S_10.2, .ref o])
  obtain ⟨S_12, eS_12, h⟩ := z_bd_some h
  refine g_putF (ci := 8) (k := 6) (ty := (.array .int)) tyX8 hc hP hS rfl z_inX8 tyX8_ok nmX8 (by decide) wF_X8_25 rfl hin rfl (by decide +kernel) rfl rfl eS_12 dX8_init_49 (fun H locs hP hS => ?_)
  refine lv_aload_n hx hb dX8_init_52 rfl (lv_at hl 0 rfl) ?_
  refine lv_bipush (v := 10) hx hb dX8_init_53 (by decide) ?_
  obtain ⟨S_13, eS_13, h⟩ := z_lt_some h
  refine g_newI (N' := 10) hc hP hS wY_int (by decide) (by decide) (by decide) (Nat.le_of_ble_eq_true rfl) (Nat.le_of_ble_eq_true rfl) eS_13 dX8_init_55 (fun H hP hS => ?_)
  show W p l e (z_rmA 1 40 26 1740) s m args below meth c H locs (7) (252) Q (F0 m 57 ls [.ref S_12.2, .ref o])
  obtain ⟨S_14, eS_14, h⟩ := z_bd_some h
  refine g_putF (ci := 8) (k := 7) (ty := (.array .int)) tyX8 hc hP hS rfl z_inX8 tyX8_ok nmX8 (by decide) wF_X8_28 rfl hin rfl (by decide +kernel) rfl rfl eS_14 dX8_init_57 (fun H locs hP hS => ?_)
  refine lv_aload_n hx hb dX8_init_60 rfl (lv_at hl 0 rfl) ?_
  refine lv_bipush (v := 120) hx hb dX8_init_61 (by decide) ?_
  obtain ⟨S_15, eS_15, h⟩ := z_lt_some h
  refine g_newI (N' := 120) hc hP hS wY_int (by decide) (by decide) (by decide) (Nat.le_of_ble_eq_true rfl) (Nat.le_of_ble_eq_true rfl) eS_15 dX8_init_63 (fun H hP hS => ?_)
  show W p l e (z_rmA 1 40 26 1740) s m args below meth c H locs (8) (372) Q (F0 m 65 ls [.ref S_14.2, .ref o])
  obtain ⟨S_16, eS_16, h⟩ := z_bd_some h
  refine g_putF (ci := 8) (k := 8) (ty := (.array .int)) tyX8 hc hP hS rfl z_inX8 tyX8_ok nmX8 (by decide) wF_X8_31 rfl hin rfl (by decide +kernel) rfl rfl eS_16 dX8_init_65 (fun H locs hP hS => ?_)
  refine lv_aload_n hx hb dX8_init_68 rfl (lv_at hl 0 rfl) ?_
  refine lv_bipush (v := 120) hx hb dX8_init_69 (by decide) ?_
  obtain ⟨S_17, eS_17, h⟩ := z_lt_some h
  refine g_newI (N' := 120) hc hP hS wY_int (by decide) (by decide) (by decide) (Nat.le_of_ble_eq_true rfl) (Nat.le_of_ble_eq_true rfl) eS_17 dX8_init_71 (fun H hP hS => ?_)
  show W p l e (z_rmA 1 40 26 1740) s m args below meth c H locs (9) (492) Q (F0 m 73 ls [.ref S_16.2, .ref o])
  obtain ⟨S_18, eS_18, h⟩ := z_bd_some h
  refine g_putF (ci := 8) (k := 9) (ty := (.array .int)) tyX8 hc hP hS rfl z_inX8 tyX8_ok nmX8 (by decide) wF_X8_34 rfl hin rfl (by decide +kernel) rfl rfl eS_18 dX8_init_73 (fun H locs hP hS => ?_)
  refine lv_aload_n hx hb dX8_init_76 rfl (lv_at hl 0 rfl) ?_
  refine lv_bipush (v := 120) hx hb dX8_init_77 (by decide) ?_
  obtain ⟨S_19, eS_19, h⟩ := z_lt_some h
  refine g_newI (N' := 120) hc hP hS wY_int (by decide) (by decide) (by decide) (Nat.le_of_ble_eq_true rfl) (Nat.le_of_ble_eq_true rfl) eS_19 dX8_init_79 (fun H hP hS => ?_)
  show W p l e (z_rmA 1 40 26 1740) s m args below meth c H locs (10) (612) Q (F0 m 81 ls [.ref S_18.2, .ref o])
  obtain ⟨S_20, eS_20, h⟩ := z_bd_some h
  refine g_putF (ci := 8) (k := 10) (ty := (.array .int)) tyX8 hc hP hS rfl z_inX8 tyX8_ok nmX8 (by decide) wF_X8_37 rfl hin rfl (by decide +kernel) rfl rfl eS_20 dX8_init_81 (fun H locs hP hS => ?_)
  refine lv_aload_n hx hb dX8_init_84 rfl (lv_at hl 0 rfl) ?_
  refine lv_bipush (v := 10) hx hb dX8_init_85 (by decide) ?_
  obtain ⟨S_21, eS_21, h⟩ := z_lt_some h
  refine g_newI (N' := 10) hc hP hS wY_int (by decide) (by decide) (by decide) (Nat.le_of_ble_eq_true rfl) (Nat.le_of_ble_eq_true rfl) eS_21 dX8_init_87 (fun H hP hS => ?_)
  show W p l e (z_rmA 1 40 26 1740) s m args below meth c H locs (11) (622) Q (F0 m 89 ls [.ref S_20.2, .ref o])
  obtain ⟨S_22, eS_22, h⟩ := z_bd_some h
  refine g_putF (ci := 8) (k := 11) (ty := (.array .int)) tyX8 hc hP hS rfl z_inX8 tyX8_ok nmX8 (by decide) wF_X8_40 rfl hin rfl (by decide +kernel) rfl rfl eS_22 dX8_init_89 (fun H locs hP hS => ?_)
  refine lv_aload_n hx hb dX8_init_92 rfl (lv_at hl 0 rfl) ?_
  refine lv_bipush (v := 120) hx hb dX8_init_93 (by decide) ?_
  obtain ⟨S_23, eS_23, h⟩ := z_lt_some h
  refine g_newI (N' := 120) hc hP hS wY_int (by decide) (by decide) (by decide) (Nat.le_of_ble_eq_true rfl) (Nat.le_of_ble_eq_true rfl) eS_23 dX8_init_95 (fun H hP hS => ?_)
  show W p l e (z_rmA 1 40 26 1740) s m args below meth c H locs (12) (742) Q (F0 m 97 ls [.ref S_22.2, .ref o])
  obtain ⟨S_24, eS_24, h⟩ := z_bd_some h
  refine g_putF (ci := 8) (k := 12) (ty := (.array .int)) tyX8 hc hP hS rfl z_inX8 tyX8_ok nmX8 (by decide) wF_X8_43 rfl hin rfl (by decide +kernel) rfl rfl eS_24 dX8_init_97 (fun H locs hP hS => ?_)
  refine lv_aload_n hx hb dX8_init_100 rfl (lv_at hl 0 rfl) ?_
  refine lv_sipush (v := 360) hx hb dX8_init_101 (by decide) ?_
  obtain ⟨S_25, eS_25, h⟩ := z_lt_some h
  refine g_newJ (N' := 360) hc hP hS wY_long (by decide) (by decide) (by decide) (Nat.le_of_ble_eq_true rfl) (Nat.le_of_ble_eq_true rfl) eS_25 dX8_init_104 (fun H hP hS => ?_)
  show W p l e (z_rmA 1 40 26 1740) s m args below meth c H locs (13) (1102) Q (F0 m 106 ls [.ref S_24.2, .ref o])
  obtain ⟨S_26, eS_26, h⟩ := z_bd_some h
  refine g_putF (ci := 8) (k := 13) (ty := (.array .long)) tyX8 hc hP hS rfl z_inX8 tyX8_ok nmX8 (by decide) wF_X8_46 rfl hin rfl (by decide +kernel) rfl rfl eS_26 dX8_init_106 (fun H locs hP hS => ?_)
  refine lv_aload_n hx hb dX8_init_109 rfl (lv_at hl 0 rfl) ?_
  refine lv_sipush (v := 360) hx hb dX8_init_110 (by decide) ?_
  obtain ⟨S_27, eS_27, h⟩ := z_lt_some h
  refine g_newJ (N' := 360) hc hP hS wY_long (by decide) (by decide) (by decide) (Nat.le_of_ble_eq_true rfl) (Nat.le_of_ble_eq_true rfl) eS_27 dX8_init_113 (fun H hP hS => ?_)
  show W p l e (z_rmA 1 40 26 1740) s m args below meth c H locs (14) (1462) Q (F0 m 115 ls [.ref S_26.2, .ref o])
  obtain ⟨S_28, eS_28, h⟩ := z_bd_some h
  refine g_putF (ci := 8) (k := 14) (ty := (.array .long)) tyX8 hc hP hS rfl z_inX8 tyX8_ok nmX8 (by decide) wF_X8_50 rfl hin rfl (by decide +kernel) rfl rfl eS_28 dX8_init_115 (fun H locs hP hS => ?_)
  refine lv_aload_n hx hb dX8_init_118 rfl (lv_at hl 0 rfl) ?_
  refine lv_iconst (v := 4) hx hb dX8_init_119 (by decide) ?_
  obtain ⟨S_29, eS_29, h⟩ := z_lt_some h
  refine g_newI (N' := 4) hc hP hS wY_int (by decide) (by decide) (by decide) (Nat.le_of_ble_eq_true rfl) (Nat.le_of_ble_eq_true rfl) eS_29 dX8_init_120 (fun H hP hS => ?_)
  show W p l e (z_rmA 1 40 26 1740) s m args below meth c H locs (15) (1466) Q (F0 m 122 ls [.ref S_28.2, .ref o])
  obtain ⟨S_30, eS_30, h⟩ := z_bd_some h
  refine g_putF (ci := 8) (k := 15) (ty := (.array .int)) tyX8 hc hP hS rfl z_inX8 tyX8_ok nmX8 (by decide) wF_X8_53 rfl hin rfl (by decide +kernel) rfl rfl eS_30 dX8_init_122 (fun H locs hP hS => ?_)
  refine lv_aload_n hx hb dX8_init_125 rfl (lv_at hl 0 rfl) ?_
  refine lv_iconst (v := 4) hx hb dX8_init_126 (by decide) ?_
  obtain ⟨S_31, eS_31, h⟩ := z_lt_some h
  refine g_newI (N' := 4) hc hP hS wY_int (by decide) (by decide) (by decide) (Nat.le_of_ble_eq_true rfl) (Nat.le_of_ble_eq_true rfl) eS_31 dX8_init_127 (fun H hP hS => ?_)
  show W p l e (z_rmA 1 40 26 1740) s m args below meth c H locs (16) (1470) Q (F0 m 129 ls [.ref S_30.2, .ref o])
  obtain ⟨S_32, eS_32, h⟩ := z_bd_some h
  refine g_putF (ci := 8) (k := 16) (ty := (.array .int)) tyX8 hc hP hS rfl z_inX8 tyX8_ok nmX8 (by decide) wF_X8_56 rfl hin rfl (by decide +kernel) rfl rfl eS_32 dX8_init_129 (fun H locs hP hS => ?_)
  refine lv_aload_n hx hb dX8_init_132 rfl (lv_at hl 0 rfl) ?_
  refine lv_sipush (v := 160) hx hb dX8_init_133 (by decide) ?_
  obtain ⟨S_33, eS_33, h⟩ := z_lt_some h
  refine g_newI (N' := 160) hc hP hS wY_int (by decide) (by decide) (by decide) (Nat.le_of_ble_eq_true rfl) (Nat.le_of_ble_eq_true rfl) eS_33 dX8_init_136 (fun H hP hS => ?_)
  show W p l e (z_rmA 1 40 26 1740) s m args below meth c H locs (17) (1630) Q (F0 m 138 ls [.ref S_32.2, .ref o])
  obtain ⟨S_34, eS_34, h⟩ := z_bd_some h
  refine g_putF (ci := 8) (k := 17) (ty := (.array .int)) tyX8 hc hP hS rfl z_inX8 tyX8_ok nmX8 (by decide) wF_X8_59 rfl hin rfl (by decide +kernel) rfl rfl eS_34 dX8_init_138 (fun H locs hP hS => ?_)
  refine lv_aload_n hx hb dX8_init_141 rfl (lv_at hl 0 rfl) ?_
  refine lv_bipush (v := 50) hx hb dX8_init_142 (by decide) ?_
  obtain ⟨S_35, eS_35, h⟩ := z_lt_some h
  refine g_newI (N' := 50) hc hP hS wY_int (by decide) (by decide) (by decide) (Nat.le_of_ble_eq_true rfl) (Nat.le_of_ble_eq_true rfl) eS_35 dX8_init_144 (fun H hP hS => ?_)
  show W p l e (z_rmA 1 40 26 1740) s m args below meth c H locs (18) (1680) Q (F0 m 146 ls [.ref S_34.2, .ref o])
  obtain ⟨S_36, eS_36, h⟩ := z_bd_some h
  refine g_putF (ci := 8) (k := 19) (ty := (.array .int)) tyX8 hc hP hS rfl z_inX8 tyX8_ok nmX8 (by decide) wF_X8_62 rfl hin rfl (by decide +kernel) rfl rfl eS_36 dX8_init_146 (fun H locs hP hS => ?_)
  refine lv_aload_n hx hb dX8_init_149 rfl (lv_at hl 0 rfl) ?_
  refine lv_lconst (v := 1) hx hb dX8_init_150 (by decide) ?_
  obtain ⟨S_37, eS_37, h⟩ := z_bd_some h
  refine g_putf (ci := 8) (k := 22) (ty := .long) tyX8 hc hP hS rfl z_inX8 tyX8_ok nmX8 (by decide) wF_X8_65 rfl (by decide +kernel) rfl rfl eS_37 dX8_init_151 (fun H locs hP hS => ?_)
  refine lv_aload_n hx hb dX8_init_154 rfl (lv_at hl 0 rfl) ?_
  refine lv_bipush (v := 12) hx hb dX8_init_155 (by decide) ?_
  obtain ⟨S_38, eS_38, h⟩ := z_lt_some h
  refine g_newI (N' := 12) hc hP hS wY_int (by decide) (by decide) (by decide) (Nat.le_of_ble_eq_true rfl) (Nat.le_of_ble_eq_true rfl) eS_38 dX8_init_157 (fun H hP hS => ?_)
  show W p l e (z_rmA 1 40 26 1740) s m args below meth c H locs (19) (1692) Q (F0 m 159 ls [.ref S_37.2, .ref o])
  obtain ⟨S_39, eS_39, h⟩ := z_bd_some h
  refine g_putF (ci := 8) (k := 23) (ty := (.array .int)) tyX8 hc hP hS rfl z_inX8 tyX8_ok nmX8 (by decide) wF_X8_69 rfl hin rfl (by decide +kernel) rfl rfl eS_39 dX8_init_159 (fun H locs hP hS => ?_)
  refine lv_aload_n hx hb dX8_init_162 rfl (lv_at hl 0 rfl) ?_
  refine lv_iconst (v := 3) hx hb dX8_init_163 (by decide) ?_
  obtain ⟨S_40, eS_40, h⟩ := z_lt_some h
  refine g_newJ (N' := 3) hc hP hS wY_long (by decide) (by decide) (by decide) (Nat.le_of_ble_eq_true rfl) (Nat.le_of_ble_eq_true rfl) eS_40 dX8_init_164 (fun H hP hS => ?_)
  show W p l e (z_rmA 1 40 26 1740) s m args below meth c H locs (20) (1695) Q (F0 m 166 ls [.ref S_39.2, .ref o])
  obtain ⟨S_41, eS_41, h⟩ := z_bd_some h
  refine g_putF (ci := 8) (k := 24) (ty := (.array .long)) tyX8 hc hP hS rfl z_inX8 tyX8_ok nmX8 (by decide) wF_X8_72 rfl hin rfl (by decide +kernel) rfl rfl eS_41 dX8_init_166 (fun H locs hP hS => ?_)
  refine lv_aload_n hx hb dX8_init_169 rfl (lv_at hl 0 rfl) ?_
  refine lv_iconst (v := 3) hx hb dX8_init_170 (by decide) ?_
  obtain ⟨S_42, eS_42, h⟩ := z_lt_some h
  refine g_newJ (N' := 3) hc hP hS wY_long (by decide) (by decide) (by decide) (Nat.le_of_ble_eq_true rfl) (Nat.le_of_ble_eq_true rfl) eS_42 dX8_init_171 (fun H hP hS => ?_)
  show W p l e (z_rmA 1 40 26 1740) s m args below meth c H locs (21) (1698) Q (F0 m 173 ls [.ref S_41.2, .ref o])
  obtain ⟨S_43, eS_43, h⟩ := z_bd_some h
  refine g_putF (ci := 8) (k := 25) (ty := (.array .long)) tyX8 hc hP hS rfl z_inX8 tyX8_ok nmX8 (by decide) wF_X8_75 rfl hin rfl (by decide +kernel) rfl rfl eS_43 dX8_init_173 (fun H locs hP hS => ?_)
  refine lv_aload_n hx hb dX8_init_176 rfl (lv_at hl 0 rfl) ?_
  refine lv_iconst (v := 3) hx hb dX8_init_177 (by decide) ?_
  obtain ⟨S_44, eS_44, h⟩ := z_lt_some h
  refine g_newJ (N' := 3) hc hP hS wY_long (by decide) (by decide) (by decide) (Nat.le_of_ble_eq_true rfl) (Nat.le_of_ble_eq_true rfl) eS_44 dX8_init_178 (fun H hP hS => ?_)
  show W p l e (z_rmA 1 40 26 1740) s m args below meth c H locs (22) (1701) Q (F0 m 180 ls [.ref S_43.2, .ref o])
  obtain ⟨S_45, eS_45, h⟩ := z_bd_some h
  refine g_putF (ci := 8) (k := 28) (ty := (.array .long)) tyX8 hc hP hS rfl z_inX8 tyX8_ok nmX8 (by decide) wF_X8_78 rfl hin rfl (by decide +kernel) rfl rfl eS_45 dX8_init_180 (fun H locs hP hS => ?_)
  refine lv_aload_n hx hb dX8_init_183 rfl (lv_at hl 0 rfl) ?_
  refine lv_iconst (v := 3) hx hb dX8_init_184 (by decide) ?_
  obtain ⟨S_46, eS_46, h⟩ := z_lt_some h
  refine g_newJ (N' := 3) hc hP hS wY_long (by decide) (by decide) (by decide) (Nat.le_of_ble_eq_true rfl) (Nat.le_of_ble_eq_true rfl) eS_46 dX8_init_185 (fun H hP hS => ?_)
  show W p l e (z_rmA 1 40 26 1740) s m args below meth c H locs (23) (1704) Q (F0 m 187 ls [.ref S_45.2, .ref o])
  obtain ⟨S_47, eS_47, h⟩ := z_bd_some h
  refine g_putF (ci := 8) (k := 29) (ty := (.array .long)) tyX8 hc hP hS rfl z_inX8 tyX8_ok nmX8 (by decide) wF_X8_81 rfl hin rfl (by decide +kernel) rfl rfl eS_47 dX8_init_187 (fun H locs hP hS => ?_)
  refine lv_aload_n hx hb dX8_init_190 rfl (lv_at hl 0 rfl) ?_
  refine lv_bipush (v := 12) hx hb dX8_init_191 (by decide) ?_
  obtain ⟨S_48, eS_48, h⟩ := z_lt_some h
  refine g_newI (N' := 12) hc hP hS wY_int (by decide) (by decide) (by decide) (Nat.le_of_ble_eq_true rfl) (Nat.le_of_ble_eq_true rfl) eS_48 dX8_init_193 (fun H hP hS => ?_)
  show W p l e (z_rmA 1 40 26 1740) s m args below meth c H locs (24) (1716) Q (F0 m 195 ls [.ref S_47.2, .ref o])
  obtain ⟨S_49, eS_49, h⟩ := z_bd_some h
  refine g_putF (ci := 8) (k := 30) (ty := (.array .int)) tyX8 hc hP hS rfl z_inX8 tyX8_ok nmX8 (by decide) wF_X8_84 rfl hin rfl (by decide +kernel) rfl rfl eS_49 dX8_init_195 (fun H locs hP hS => ?_)
  refine lv_aload_n hx hb dX8_init_198 rfl (lv_at hl 0 rfl) ?_
  refine lv_bipush (v := 12) hx hb dX8_init_199 (by decide) ?_
  obtain ⟨S_50, eS_50, h⟩ := z_lt_some h
  refine g_newI (N' := 12) hc hP hS wY_int (by decide) (by decide) (by decide) (Nat.le_of_ble_eq_true rfl) (Nat.le_of_ble_eq_true rfl) eS_50 dX8_init_201 (fun H hP hS => ?_)
  show W p l e (z_rmA 1 40 26 1740) s m args below meth c H locs (25) (1728) Q (F0 m 203 ls [.ref S_49.2, .ref o])
  obtain ⟨S_51, eS_51, h⟩ := z_bd_some h
  refine g_putF (ci := 8) (k := 31) (ty := (.array .int)) tyX8 hc hP hS rfl z_inX8 tyX8_ok nmX8 (by decide) wF_X8_87 rfl hin rfl (by decide +kernel) rfl rfl eS_51 dX8_init_203 (fun H locs hP hS => ?_)
  refine lv_aload_n hx hb dX8_init_206 rfl (lv_at hl 0 rfl) ?_
  refine lv_bipush (v := 12) hx hb dX8_init_207 (by decide) ?_
  obtain ⟨S_52, eS_52, h⟩ := z_lt_some h
  refine g_newI (N' := 12) hc hP hS wY_int (by decide) (by decide) (by decide) (Nat.le_of_ble_eq_true rfl) (Nat.le_of_ble_eq_true rfl) eS_52 dX8_init_209 (fun H hP hS => ?_)
  show W p l e (z_rmA 1 40 26 1740) s m args below meth c H locs (26) (1740) Q (F0 m 211 ls [.ref S_51.2, .ref o])
  obtain ⟨S_53, eS_53, h⟩ := z_bd_some h
  refine g_putF (ci := 8) (k := 32) (ty := (.array .int)) tyX8 hc hP hS rfl z_inX8 tyX8_ok nmX8 (by decide) wF_X8_90 rfl hin rfl (by decide +kernel) rfl rfl eS_53 dX8_init_211 (fun H locs hP hS => ?_)
  refine lv_iconst (v := 0) hx hb dX8_init_214 (by decide) ?_
  refine lv_istore_n (lv' := [(1, .int (0 : Int32)), (0, .ref o)]) hx hb dX8_init_215 rfl hl (by decide) rfl (fun ls hl => ?_)
  obtain ⟨S_56, hlp, h⟩ := z_bd_some h
  refine z_lp_ind (P := fun x => ∀ (H : Heap) (locs : List Loc) (ls : Array Slot), g_P D cs A x.2 H → va_S A s.heap H locs → lv_has ls 2 [(0, .ref o), (1, .int x.1)] → W p l e (z_rmA 1 40 26 1740) s m args below meth c H locs (26) (1740) Q (F0 m 216 ls [])) (Qe := fun y => ∀ (H : Heap) (locs : List Loc) (ls : Array Slot), g_P D cs A y H → va_S A s.heap H locs → lv_has ls 2 [] → W p l e (z_rmA 1 40 26 1740) s m args below meth c H locs (26) (1740) Q (F0 m 234 ls [])) ?_ hlp ?_ H locs ls hP hS (lv_sub hl [1, 0] rfl)
  · clear h hlp hP hS hl
    rintro ⟨x1_54, S_55⟩ oo h K_216 H locs ls hP hS hl
    have hP : g_P D cs A S_55 H := hP
    have hl : lv_has ls 2 [(0, .ref o), (1, .int x1_54)] := hl
    have h : f_X8_init_L216 o x1_54 S_55 = some oo := h
    unfold f_X8_init_L216 at h
    refine lv_iload_n hx hb dX8_init_216 rfl (lv_at hl 1 rfl) ?_
    refine lv_iconst (v := 4) hx hb dX8_init_217 (by decide) ?_
    refine lv_icmp_ge (tgt := 234) hx hb dX8_init_218 (by decide) (fun c_218 => ?_) (fun c_218 => ?_)
    · replace h := z_ip_ c_218 h
      cases h
      exact K_216 H locs ls hP hS (lv_sub hl [] rfl)
    · replace h := z_in_ c_218 h
      refine lv_aload_n hx hb dX8_init_221 rfl (lv_at hl 0 rfl) ?_
      obtain ⟨f_57, ef_57, h⟩ := z_bd_some h
      refine g_get (ci := 8) (k := 15) (v := .ref f_57) hc hP rfl z_inX8 (by decide) wF_X8_53 (g_r_v ef_57) dX8_init_222 ?_
      refine lv_iload_n hx hb dX8_init_225 rfl (lv_at hl 1 rfl) ?_
      refine lv_iconst (v := -1) hx hb dX8_init_226 (by decide) ?_
      obtain ⟨S_58, eS_58, h⟩ := z_bd_some h
      refine g_iast hc hP hS eS_58 dX8_init_227 (fun H locs hP hS => ?_)
      refine lv_iinc (v := (x1_54 + 1)) (lv' := [(1, .int (x1_54 + 1)), (0, .ref o)]) hx hb dX8_init_228 hl (k := 1) rfl rfl (by decide) rfl (fun ls hl => ?_)
      refine lv_goto (tgt := 216) hx hb dX8_init_231 (by decide) ?_
      cases h
      exact K_216 H locs ls hP hS (lv_sub hl [1, 0] rfl)
  · clear hlp hP hS hl
    intro H locs ls hP hS hl
    have hP : g_P D cs A S_56 H := hP
    have hl : lv_has ls 2 [] := hl
    cases h
    rw [hQ]
    exact g_retv hc hr hlocks hP hS dX8_init_234
theorem md_X8_init : yX8_init.cls ≠ "java/lang/invoke/MethodHandle" ∧ yX8_init.cls ≠ "java/lang/invoke/VarHandle" ∧ (parseMethodDescriptor yX8_init.desc).map (fun d => d.parameters.length) = some 0 := by decide +kernel
