noncomputable def f_X0_init (S : GS) (o : Nat) : Option (GS) :=
  z_lt (g_nw S (.inl (50, fun _ => 0))) fun S_1 => z_bd (g_put S_1 0 0 o (.ref S.2)) fun S_2 => z_bd (g_put S_2 0 1 o (.int (0 : Int32))) fun S_3 => some S_3
set_option maxHeartbeats 4000000 in
set_option maxRecDepth 100000 in
theorem mt_X0_init (l : Launch) (D : va_G) (cs : Nat → ClassId) (A : Nat → Prop) (S : GS) (o : Nat) {N_ : GS} (h : f_X0_init S o = some N_) : Met l yX0_init (z_wd yX0_init cX0_init 1 none) (z_rmA 1 40 1 50) (va_Pc [.ref o] (g_C D cs A S)) (g_Q none N_ D cs A) 1 50 A := by
  refine Met.ofW (cc := cX0_init) (maxL := 1) (ret := none) (by decide) rfl ?_
  intro p e s m args below meth c s₁ B hml hv
  obtain ⟨hav, hP0, hK, hN, hSt, hAn⟩ := hv
  have hx := B.exec
  have hb := B.bytes
  have hr := B.returns
  have hts := atoms_spec (ws := z_wd yX0_init cX0_init 1 none) B.pre
  have hown : s.vm.findClass RX0 = some m.cls := findClass_of_methodNamed B.named
  have hlocks := B.notSynchronized
  have hin : meth.name = "<init>" := (name_of_methodNamed B.named B.method).1
  have hc : g_X p s m args c cX0_init 1 RX0 D cs A := ⟨⟨hx, hb, hml, fun w hw => hts w (List.mem_cons_of_mem _ hw), hown⟩, hK, hN, hSt, hAn⟩
  have hl := lv_entry ([.ref o]) (n := 1) (Nat.le_of_ble_eq_true rfl)
  have hE : entryFrame m args 1 = F0 m 0 ((lg_sl ([.ref o]) ++ List.replicate (1 - (lg_sl ([.ref o])).length) Slot.unset).toArray) [] := by rw [hav]; exact lg_entry_eq m _ _
  rw [hE]
  clear hE hav
  generalize (lg_sl ([.ref o]) ++ List.replicate (1 - (lg_sl ([.ref o])).length) Slot.unset).toArray = ls at hl ⊢
  have hl : lv_has ls 1 [(0, .ref o)] := hl
  obtain ⟨Q, hQ⟩ : ∃ Q, Q = MQ below (g_Q none N_ D cs A) args s 1 50 A := ⟨_, rfl⟩
  rw [← hQ]
  suffices hmain : ∀ (H : Heap) (locs : List Loc), g_P D cs A S H → va_S A s.heap H locs → W p l e (z_rmA 1 40 1 50) s m args below meth c H locs 0 0 Q (F0 m 0 ls []) from hmain s.heap [] hP0 va_S.rf
  clear hP0
  intro H locs hP hS
  unfold f_X0_init at h
  refine lv_aload_n hx hb dX0_init_0 rfl (lv_at hl 0 rfl) ?_
  refine g_obj hc wM_X0_3 hl.1 (Nat.le_of_ble_eq_true rfl) (Nat.le_of_ble_eq_true rfl) dX0_init_1 ?_
  show W p l e (z_rmA 1 40 1 50) s m args below meth c H locs (0) (0) Q (F0 m 4 ls [])
  refine lv_aload_n hx hb dX0_init_4 rfl (lv_at hl 0 rfl) ?_
  refine lv_bipush (v := 50) hx hb dX0_init_5 (by decide) ?_
  obtain ⟨S_1, eS_1, h⟩ := z_lt_some h
  refine g_newI (N' := 50) hc hP hS wY_int (by decide) (by decide) (by decide) (Nat.le_of_ble_eq_true rfl) (Nat.le_of_ble_eq_true rfl) eS_1 dX0_init_7 (fun H hP hS => ?_)
  show W p l e (z_rmA 1 40 1 50) s m args below meth c H locs (1) (50) Q (F0 m 9 ls [.ref S.2, .ref o])
  obtain ⟨S_2, eS_2, h⟩ := z_bd_some h
  refine g_putF (ci := 0) (k := 0) (ty := (.array .int)) tyX0 hc hP hS rfl z_inX0 tyX0_ok nmX0 (by decide) wF_X0_9 rfl hin rfl (by decide +kernel) rfl rfl eS_2 dX0_init_9 (fun H locs hP hS => ?_)
  refine lv_aload_n hx hb dX0_init_12 rfl (lv_at hl 0 rfl) ?_
  refine lv_iconst (v := 0) hx hb dX0_init_13 (by decide) ?_
  obtain ⟨S_3, eS_3, h⟩ := z_bd_some h
  refine g_putf (ci := 0) (k := 1) (ty := .int) tyX0 hc hP hS rfl z_inX0 tyX0_ok nmX0 (by decide) wF_X0_15 rfl (by decide +kernel) rfl rfl eS_3 dX0_init_14 (fun H locs hP hS => ?_)
  cases h
  rw [hQ]
  exact g_retv hc hr hlocks hP hS dX0_init_17
theorem md_X0_init : yX0_init.cls ≠ "java/lang/invoke/MethodHandle" ∧ yX0_init.cls ≠ "java/lang/invoke/VarHandle" ∧ (parseMethodDescriptor yX0_init.desc).map (fun d => d.parameters.length) = some 0 := by decide +kernel
noncomputable def f_X0_bodyFrom_L4 (a1 : Int32) (x2_1 : Int32) (x3_2 : Int32) : Option (((Int32) ⊕ (Unit)) ⊕ (Int32 × Int32)) :=
  if (5 : Int32) ≤ x3_2 then some (.inl (.inr ())) else if x2_1 < 0 then some (.inl (.inr ())) else if (5 : Int32) ≤ x2_1 then some (.inl (.inr ())) else z_chk (z_in ((x2_1 * (4 : Int32)) + a1) 20) (if (z_bo ((x2_1 * (4 : Int32)) + a1).toNatClampNeg) = 0 then z_chk (z_in x2_1 5) (some (.inr ((z_ka x2_1.toNatClampNeg), (x3_2 + 1)))) else some (.inl (.inl (z_bo ((x2_1 * (4 : Int32)) + a1).toNatClampNeg))))
noncomputable def f_X0_bodyFrom (S : GS) (a0 : Int32) (a1 : Int32) : Option (Int32) :=
  z_bs (z_lp (fun x => f_X0_bodyFrom_L4 a1 x.1 x.2) (a0, (0 : Int32))) fun y => some (0 : Int32)
set_option maxHeartbeats 4000000 in
set_option maxRecDepth 100000 in
theorem mt_X0_bodyFrom (l : Launch) (D : va_G) (cs : Nat → ClassId) (A : Nat → Prop) (S : GS) (a0 : Int32) (a1 : Int32) {r_ : Int32} (h : f_X0_bodyFrom S a0 a1 = some r_) : Met l yX0_bodyFrom (z_wd yX0_bodyFrom cX0_bodyFrom 5 (some .int)) (z_rmA 0 0 0 0) (va_Pc [.int a0, .int a1] (g_C D cs A S)) (g_Q (some (.int r_)) S D cs A) 0 0 A := by
  refine Met.ofW (cc := cX0_bodyFrom) (maxL := 5) (ret := (some .int)) (by decide) rfl ?_
  intro p e s m args below meth c s₁ B hml hv
  obtain ⟨hav, hP0, hK, hN, hSt, hAn⟩ := hv
  have hx := B.exec
  have hb := B.bytes
  have hr := B.returns
  have hts := atoms_spec (ws := z_wd yX0_bodyFrom cX0_bodyFrom 5 (some .int)) B.pre
  have hown : s.vm.findClass RX0 = some m.cls := findClass_of_methodNamed B.named
  have hlocks := B.notSynchronized
  have hc : g_X p s m args c cX0_bodyFrom 5 RX0 D cs A := ⟨⟨hx, hb, hml, fun w hw => hts w (List.mem_cons_of_mem _ hw), hown⟩, hK, hN, hSt, hAn⟩
  obtain ⟨⟨t1_, hZ1, hT1⟩, ⟨t2_, hZ2, hT2⟩⟩ := id hSt
  have hl := lv_entry ([.int a0, .int a1]) (n := 5) (Nat.le_of_ble_eq_true rfl)
  have hE : entryFrame m args 5 = F0 m 0 ((lg_sl ([.int a0, .int a1]) ++ List.replicate (5 - (lg_sl ([.int a0, .int a1])).length) Slot.unset).toArray) [] := by rw [hav]; exact lg_entry_eq m _ _
  rw [hE]
  clear hE hav
  generalize (lg_sl ([.int a0, .int a1]) ++ List.replicate (5 - (lg_sl ([.int a0, .int a1])).length) Slot.unset).toArray = ls at hl ⊢
  have hl : lv_has ls 5 [(0, .int a0), (1, .int a1)] := hl
  obtain ⟨Q, hQ⟩ : ∃ Q, Q = MQ below (g_Q (some (.int r_)) S D cs A) args s 0 0 A := ⟨_, rfl⟩
  rw [← hQ]
  suffices hmain : ∀ (H : Heap) (locs : List Loc), g_P D cs A S H → va_S A s.heap H locs → W p l e (z_rmA 0 0 0 0) s m args below meth c H locs 0 0 Q (F0 m 0 ls []) from hmain s.heap [] hP0 va_S.rf
  clear hP0
  intro H locs hP hS
  unfold f_X0_bodyFrom at h
  refine lv_iload_n hx hb dX0_bodyFrom_0 rfl (lv_at hl 0 rfl) ?_
  refine lv_istore_n (lv' := [(2, .int a0), (0, .int a0), (1, .int a1)]) hx hb dX0_bodyFrom_1 rfl hl (by decide) rfl (fun ls hl => ?_)
  refine lv_iconst (v := 0) hx hb dX0_bodyFrom_2 (by decide) ?_
  refine lv_istore_n (lv' := [(3, .int (0 : Int32)), (2, .int a0), (0, .int a0), (1, .int a1)]) hx hb dX0_bodyFrom_3 rfl hl (by decide) rfl (fun ls hl => ?_)
  have LP_4 : ∀ ee, z_lp (fun x => f_X0_bodyFrom_L4 a1 x.1 x.2) (a0, (0 : Int32)) = some ee → ((fun z => match z with
      | .inl rr => rr = r_
      | .inr y => ∀ (H : Heap) (locs : List Loc) (ls : Array Slot), g_P D cs A S H → va_S A s.heap H locs → lv_has ls 5 [] → W p l e (z_rmA 0 0 0 0) s m args below meth c H locs (0) (0) Q (F0 m 49 ls []) : (Int32) ⊕ (Unit) → Prop) ee) → W p l e (z_rmA 0 0 0 0) s m args below meth c H locs (0) (0) Q (F0 m 4 ls []) := by
    intro ee hlp hq
    refine z_lp_ind (P := fun x => ∀ (H : Heap) (locs : List Loc) (ls : Array Slot), g_P D cs A S H → va_S A s.heap H locs → lv_has ls 5 [(1, .int a1), (2, .int x.1), (3, .int x.2)] → W p l e (z_rmA 0 0 0 0) s m args below meth c H locs (0) (0) Q (F0 m 4 ls [])) (Qe := fun z => match z with
      | .inl rr => rr = r_
      | .inr y => ∀ (H : Heap) (locs : List Loc) (ls : Array Slot), g_P D cs A S H → va_S A s.heap H locs → lv_has ls 5 [] → W p l e (z_rmA 0 0 0 0) s m args below meth c H locs (0) (0) Q (F0 m 49 ls [])) ?_ hlp hq H locs ls hP hS (lv_sub hl [3, 1, 0] rfl)
    clear h hlp hq hP hS hl
    rintro ⟨x2_1, x3_2⟩ oo h K_4 H locs ls hP hS hl
    have hP : g_P D cs A S H := hP
    have hl : lv_has ls 5 [(1, .int a1), (2, .int x2_1), (3, .int x3_2)] := hl
    have h : f_X0_bodyFrom_L4 a1 x2_1 x3_2 = some oo := h
    unfold f_X0_bodyFrom_L4 at h
    refine lv_iload_n hx hb dX0_bodyFrom_4 rfl (lv_at hl 2 rfl) ?_
    refine lv_iconst (v := 5) hx hb dX0_bodyFrom_5 (by decide) ?_
    refine lv_icmp_ge (tgt := 49) hx hb dX0_bodyFrom_6 (by decide) (fun c_6 => ?_) (fun c_6 => ?_)
    · replace h := z_ip_ c_6 h
      cases h
      exact K_4 H locs ls hP hS (lv_sub hl [] rfl)
    · replace h := z_in_ c_6 h
      refine lv_iload_n hx hb dX0_bodyFrom_9 rfl (lv_at hl 1 rfl) ?_
      refine lv_if_lt (tgt := 49) hx hb dX0_bodyFrom_10 (by decide) (fun c_10 => ?_) (fun c_10 => ?_)
      · replace h := z_ip_ c_10 h
        cases h
        exact K_4 H locs ls hP hS (lv_sub hl [] rfl)
      · replace h := z_in_ c_10 h
        refine lv_iload_n hx hb dX0_bodyFrom_13 rfl (lv_at hl 1 rfl) ?_
        refine lv_iconst (v := 5) hx hb dX0_bodyFrom_14 (by decide) ?_
        refine lv_icmp_ge (tgt := 49) hx hb dX0_bodyFrom_15 (by decide) (fun c_15 => ?_) (fun c_15 => ?_)
        · replace h := z_ip_ c_15 h
          cases h
          exact K_4 H locs ls hP hS (lv_sub hl [] rfl)
        · replace h := z_in_ c_15 h
          refine va_getsN hx hb hZ2 hS hc.1.2.2.2.2 (va_Nw.use rfl (hc.2.2.1.1 _ wG_X0_48)) (fun _ h9 => h9) dX0_bodyFrom_18 ?_
          refine lv_iload_n hx hb dX0_bodyFrom_21 rfl (lv_at hl 1 rfl) ?_
          refine lv_iconst (v := 4) hx hb dX0_bodyFrom_22 (by decide) ?_
          refine lv_imul hx hb dX0_bodyFrom_23 ?_
          refine lv_iload_n hx hb dX0_bodyFrom_24 rfl (lv_at hl 0 rfl) ?_
          refine lv_iadd hx hb dX0_bodyFrom_25 ?_
          obtain ⟨c_26, h⟩ := z_chk_some h
          refine va_ti (v := .int (z_bo ((x2_1 * (4 : Int32)) + a1).toNatClampNeg)) hx hb hT2 hS c_26 rfl dX0_bodyFrom_26 ?_
          refine lv_istore (lv' := [(4, .int (z_bo ((x2_1 * (4 : Int32)) + a1).toNatClampNeg)), (1, .int a1), (2, .int x2_1), (3, .int x3_2)]) hx hb dX0_bodyFrom_27 hl (by decide) rfl (fun ls hl => ?_)
          refine lv_iload hx hb dX0_bodyFrom_29 (lv_at hl 0 rfl) ?_
          refine lv_if_eq (tgt := 37) hx hb dX0_bodyFrom_31 (by decide) (fun c_31 => ?_) (fun c_31 => ?_)
          · replace h := z_ip_ c_31 h
            refine va_getsN hx hb hZ1 hS hc.1.2.2.2.2 (va_Nw.use rfl (hc.2.2.1.1 _ wG_X0_51)) (fun _ h9 => h9) dX0_bodyFrom_37 ?_
            refine lv_iload_n hx hb dX0_bodyFrom_40 rfl (lv_at hl 2 rfl) ?_
            obtain ⟨c_41, h⟩ := z_chk_some h
            refine va_ti (v := .int (z_ka x2_1.toNatClampNeg)) hx hb hT1 hS c_41 rfl dX0_bodyFrom_41 ?_
            refine lv_istore_n (lv' := [(2, .int (z_ka x2_1.toNatClampNeg)), (4, .int (z_bo ((x2_1 * (4 : Int32)) + a1).toNatClampNeg)), (1, .int a1), (3, .int x3_2)]) hx hb dX0_bodyFrom_42 rfl hl (by decide) rfl (fun ls hl => ?_)
            refine lv_iinc (v := (x3_2 + 1)) (lv' := [(3, .int (x3_2 + 1)), (2, .int (z_ka x2_1.toNatClampNeg)), (4, .int (z_bo ((x2_1 * (4 : Int32)) + a1).toNatClampNeg)), (1, .int a1)]) hx hb dX0_bodyFrom_43 hl (k := 3) rfl rfl (by decide) rfl (fun ls hl => ?_)
            refine lv_goto (tgt := 4) hx hb dX0_bodyFrom_46 (by decide) ?_
            cases h
            exact K_4 H locs ls hP hS (lv_sub hl [3, 1, 0] rfl)
          · replace h := z_in_ c_31 h
            refine lv_iload hx hb dX0_bodyFrom_34 (lv_at hl 0 rfl) ?_
            cases h
            have K_4 : (z_bo ((x2_1 * (4 : Int32)) + a1).toNatClampNeg) = r_ := K_4
            cases K_4
            rw [hQ]
            exact g_reti hc hr hlocks hP hS dX0_bodyFrom_36
  rcases z_bs_some h with hlp | ⟨y, hlp, h⟩
  · exact LP_4 _ hlp rfl
  · refine LP_4 _ hlp ?_
    skip
    clear hlp LP_4 hP hS hl
    show ∀ (H : Heap) (locs : List Loc) (ls : Array Slot), g_P D cs A S H → va_S A s.heap H locs → lv_has ls 5 [] → W p l e (z_rmA 0 0 0 0) s m args below meth c H locs (0) (0) Q (F0 m 49 ls [])
    intro H locs ls hP hS hl
    have hP : g_P D cs A S H := hP
    have hl : lv_has ls 5 [] := hl
    refine lv_iconst (v := 0) hx hb dX0_bodyFrom_49 (by decide) ?_
    cases h
    rw [hQ]
    exact g_reti hc hr hlocks hP hS dX0_bodyFrom_50
theorem md_X0_bodyFrom : yX0_bodyFrom.cls ≠ "java/lang/invoke/MethodHandle" ∧ yX0_bodyFrom.cls ≠ "java/lang/invoke/VarHandle" ∧ (parseMethodDescriptor yX0_bodyFrom.desc).map (fun d => d.parameters.length) = some 2 := by decide +kernel
theorem md_X0_runBody : yX0_runBody.cls ≠ "java/lang/invoke/MethodHandle" ∧ yX0_runBody.cls ≠ "java/lang/invoke/VarHandle" ∧ (parseMethodDescriptor yX0_runBody.desc).map (fun d => d.parameters.length) = some 4 := by decide +kernel
theorem md_X0_run : yX0_run.cls ≠ "java/lang/invoke/MethodHandle" ∧ yX0_run.cls ≠ "java/lang/invoke/VarHandle" ∧ (parseMethodDescriptor yX0_run.desc).map (fun d => d.parameters.length) = some 5 := by decide +kernel
noncomputable def f_X0_runBodyR (recf : GS → Nat → Nat → Int32 → Int32 → Int32 → Int32 → Option (Int32 × GS)) (S : GS) (o : Nat) (a0 : Nat) (a1 : Int32) (a2 : Int32) (a3 : Int32) : Option ((Int32) × GS) :=
  z_bd (g_r S 1 3 a0) fun f_1 => z_bd (g_i S 3 3 f_1) fun f_2 => if a1 = 10 then some ((a2 + f_2), S) else if a1 = 11 then z_bd (g_i S 1 1 a0) fun f_3 => z_chk (g_is S 0 o) (z_bd2 (recf S o a0 f_3 (0 : Int32) a2 a3) fun r_5 S_4 => some ((r_5 * (2 : Int32)), S_4)) else if a1 = 12 then z_bd (g_i S 1 0 a0) fun f_6 => some ((a2 - f_6), S) else if a1 = 13 then z_bd (g_i S 1 1 a0) fun f_7 => z_chk (g_is S 0 o) (z_bd2 (recf S o a0 f_7 (1 : Int32) a2 a3) fun r_9 S_8 => z_bd (g_i S_8 1 1 a0) fun f_10 => z_chk (g_is S_8 0 o) (z_bd2 (recf S_8 o a0 f_10 (2 : Int32) a2 a3) fun r_12 S_11 => some ((r_9 ^^^ r_12), S_11))) else if a1 = 14 then some (a2, S) else if a1 = 15 then some (a2, S) else if a1 = 16 then some (a2, S) else if a1 = 17 then some (a2, S) else if a1 = 18 then some (a2, S) else if a1 = 19 then some (a2, S) else if a1 = 20 then z_chk (g_is S 0 o) (z_bd2 (recf S o a0 (0 : Int32) (0 : Int32) a2 a3) fun r_14 S_13 => some ((r_14 + (1 : Int32)), S_13)) else if a1 = 21 then z_chk (g_is S 0 o) (z_bd2 (recf S o a0 (0 : Int32) (2 : Int32) a2 a3) fun r_16 S_15 => some ((r_16 * (3 : Int32)), S_15)) else if a1 = 22 then some (a2, S) else if a1 = 23 then some (a2, S) else if a1 = 24 then some (a2, S) else if a1 = 25 then some (a2, S) else if a1 = 26 then some (a2, S) else if a1 = 27 then some (a2, S) else if a1 = 28 then some (a2, S) else if a1 = 29 then some (a2, S) else if a1 = 30 then z_chk (g_is S 0 o) (z_bd2 (recf S o a0 (1 : Int32) (1 : Int32) (a2 - f_2) a3) fun r_18 S_17 => some (r_18, S_17)) else if a1 = 31 then z_bd (g_i S 1 1 a0) fun f_19 => z_chk (g_is S 0 o) (z_bd2 (recf S o a0 f_19 (2 : Int32) a2 a3) fun r_21 S_20 => z_chk (g_is S_20 0 o) (z_bd2 (recf S_20 o a0 (1 : Int32) (3 : Int32) a2 a3) fun r_23 S_22 => some ((r_21 + r_23), S_22))) else if a1 = 32 then some (a2, S) else if a1 = 33 then some (a2, S) else if a1 = 34 then some (a2, S) else if a1 = 35 then some (a2, S) else if a1 = 36 then some (a2, S) else if a1 = 37 then some (a2, S) else if a1 = 38 then some (a2, S) else if a1 = 39 then some (a2, S) else if a1 = 40 then z_chk (g_is S 0 o) (z_bd2 (recf S o a0 (0 : Int32) (2 : Int32) a2 a3) fun r_25 S_24 => z_chk (g_is S_24 0 o) (z_bd2 (recf S_24 o a0 (0 : Int32) (0 : Int32) a2 a3) fun r_27 S_26 => some ((r_25 + r_27), S_26))) else if a1 = 41 then some (a2, S) else if a1 = 42 then some (a2, S) else if a1 = 43 then some (a2, S) else if a1 = 44 then some (a2, S) else if a1 = 45 then some (a2, S) else if a1 = 46 then some (a2, S) else if a1 = 47 then some (a2, S) else if a1 = 48 then some (a2, S) else if a1 = 49 then some (a2, S) else if a1 = 50 then z_chk (g_is S 0 o) (z_bd2 (recf S o a0 (1 : Int32) (0 : Int32) (a2 * (2 : Int32)) a3) fun r_29 S_28 => some (r_29, S_28)) else if a1 = 51 then z_chk (g_is S 0 o) (z_bd2 (recf S o a0 (1 : Int32) (1 : Int32) a2 a3) fun r_31 S_30 => z_bd (g_i S_30 1 1 a0) fun f_32 => z_chk (g_is S_30 0 o) (z_bd2 (recf S_30 o a0 f_32 (0 : Int32) a2 a3) fun r_34 S_33 => some ((r_31 - r_34), S_33))) else some (a2, S)
set_option maxHeartbeats 4000000 in
set_option maxRecDepth 100000 in
theorem mt_X0_runBodyR (l : Launch) (D : va_G) (cs : Nat → ClassId) (A : Nat → Prop) {recf : GS → Nat → Nat → Int32 → Int32 → Int32 → Int32 → Option (Int32 × GS)} {F L : Nat} (IH : ∀ (S : GS) (o a0 : Nat) (a1 a2 a3 a4 : Int32) {r_ : Int32} {N_ : GS}, recf S o a0 a1 a2 a3 a4 = some (r_, N_) → Met l yX0_run (z_wd yX0_run cX0_run 7 (some .int)) (z_rmA F L 0 0) (va_Pc [.ref o, .ref a0, .int a1, .int a2, .int a3, .int a4] (g_C D cs A S)) (g_Q (some (.int r_)) N_ D cs A) 0 0 A) (S : GS) (o : Nat) (a0 : Nat) (a1 : Int32) (a2 : Int32) (a3 : Int32) {r_ : Int32} {N_ : GS} (h : f_X0_runBodyR recf S o a0 a1 a2 a3 = some (r_, N_)) : Met l yX0_runBody (z_wd yX0_runBody cX0_runBody 6 (some .int)) (z_rmA (F + 1) (L + 100) 0 0) (va_Pc [.ref o, .ref a0, .int a1, .int a2, .int a3] (g_C D cs A S)) (g_Q (some (.int r_)) N_ D cs A) 0 0 A := by
  refine Met.ofW (cc := cX0_runBody) (maxL := 6) (ret := (some .int)) (by decide) rfl ?_
  intro p e s m args below meth c s₁ B hml hv
  obtain ⟨hav, hP0, hK, hN, hSt, hAn⟩ := hv
  have hx := B.exec
  have hb := B.bytes
  have hr := B.returns
  have hts := atoms_spec (ws := z_wd yX0_runBody cX0_runBody 6 (some .int)) B.pre
  have hown : s.vm.findClass RX0 = some m.cls := findClass_of_methodNamed B.named
  have hlocks := B.notSynchronized
  have hc : g_X p s m args c cX0_runBody 6 RX0 D cs A := ⟨⟨hx, hb, hml, fun w hw => hts w (List.mem_cons_of_mem _ hw), hown⟩, hK, hN, hSt, hAn⟩
  have hl := lv_entry ([.ref o, .ref a0, .int a1, .int a2, .int a3]) (n := 6) (Nat.le_of_ble_eq_true rfl)
  have hE : entryFrame m args 6 = F0 m 0 ((lg_sl ([.ref o, .ref a0, .int a1, .int a2, .int a3]) ++ List.replicate (6 - (lg_sl ([.ref o, .ref a0, .int a1, .int a2, .int a3])).length) Slot.unset).toArray) [] := by rw [hav]; exact lg_entry_eq m _ _
  rw [hE]
  clear hE hav
  generalize (lg_sl ([.ref o, .ref a0, .int a1, .int a2, .int a3]) ++ List.replicate (6 - (lg_sl ([.ref o, .ref a0, .int a1, .int a2, .int a3])).length) Slot.unset).toArray = ls at hl ⊢
  have hl : lv_has ls 6 [(0, .ref o), (1, .ref a0), (2, .int a1), (3, .int a2), (4, .int a3)] := hl
  obtain ⟨Q, hQ⟩ : ∃ Q, Q = MQ below (g_Q (some (.int r_)) N_ D cs A) args s 0 0 A := ⟨_, rfl⟩
  rw [← hQ]
  suffices hmain : ∀ (H : Heap) (locs : List Loc), g_P D cs A S H → va_S A s.heap H locs → W p l e (z_rmA (F + 1) (L + 100) 0 0) s m args below meth c H locs 0 0 Q (F0 m 0 ls []) from hmain s.heap [] hP0 va_S.rf
  clear hP0
  intro H locs hP hS
  unfold f_X0_runBodyR at h
  refine lv_aload_n hx hb dX0_runBody_0 rfl (lv_at hl 1 rfl) ?_
  obtain ⟨f_1, ef_1, h⟩ := z_bd_some h
  refine g_getN (ci := 1) (k := 3) (v := .ref f_1) hc hP rfl z_inX1 (by decide) wG_X0_36 (g_r_v ef_1) dX0_runBody_1 ?_
  obtain ⟨f_2, ef_2, h⟩ := z_bd_some h
  refine g_getN (ci := 3) (k := 3) (v := .int f_2) hc hP rfl z_inX3 (by decide) wG_X0_40 (g_i_v ef_2) dX0_runBody_4 ?_
  refine lv_istore (lv' := [(5, .int f_2), (0, .ref o), (1, .ref a0), (2, .int a1), (3, .int a2), (4, .int a3)]) hx hb dX0_runBody_7 hl (by decide) rfl (fun ls hl => ?_)
  refine lv_iload_n hx hb dX0_runBody_9 rfl (lv_at hl 3 rfl) ?_
  by_cases c_10_10 : a1 = 10
  · replace h := z_ip_ c_10_10 h
    refine lv_tableIn (off := 182) (tgt := 192) hx hb dX0_runBody_10 (by rw [c_10_10]; decide) (by rw [c_10_10]; decide) (by rw [c_10_10]; rfl) (by decide) ?_
    refine lv_iload_n hx hb dX0_runBody_192 rfl (lv_at hl 4 rfl) ?_
    refine lv_iload hx hb dX0_runBody_193 (lv_at hl 0 rfl) ?_
    refine lv_iadd hx hb dX0_runBody_195 ?_
    cases h
    rw [hQ]
    exact g_reti hc hr hlocks hP hS dX0_runBody_196
  · replace h := z_in_ c_10_10 h
    by_cases c_10_11 : a1 = 11
    · replace h := z_ip_ c_10_11 h
      refine lv_tableIn (off := 187) (tgt := 197) hx hb dX0_runBody_10 (by rw [c_10_11]; decide) (by rw [c_10_11]; decide) (by rw [c_10_11]; rfl) (by decide) ?_
      refine lv_aload_n hx hb dX0_runBody_197 rfl (lv_at hl 1 rfl) ?_
      refine lv_aload_n hx hb dX0_runBody_198 rfl (lv_at hl 2 rfl) ?_
      refine lv_aload_n hx hb dX0_runBody_199 rfl (lv_at hl 2 rfl) ?_
      obtain ⟨f_3, ef_3, h⟩ := z_bd_some h
      refine g_getN (ci := 1) (k := 1) (v := .int f_3) hc hP rfl z_inX1 (by decide) wG_X0_19 (g_i_v ef_3) dX0_runBody_200 ?_
      refine lv_iconst (v := 0) hx hb dX0_runBody_203 (by decide) ?_
      refine lv_iload_n hx hb dX0_runBody_204 rfl (lv_at hl 4 rfl) ?_
      refine lv_iload hx hb dX0_runBody_205 (lv_at hl 5 rfl) ?_
      obtain ⟨ho_207, h⟩ := z_chk_some h
      obtain ⟨vs_, ho_207⟩ := Option.isSome_iff_exists.mp ho_207
      obtain ⟨r_5, S_4, e_207, h⟩ := z_bd2_some h
      refine g_callV (ci := 0) (As := [.ref a0, .int f_3, .int (0 : Int32), .int a2, .int a3]) (rv := (some (.int r_5))) (n := 5) hc hP hS rfl ho_207 (IH S o a0 f_3 (0 : Int32) a2 a3 e_207) wM_X0_24 wI_X0_run wS_X0_run wZ_X0 wC_X0_run md_X0_run ⟨rfl, rfl, by show _ ≤ _; simp only [z_rmA, z_rm]; omega, by show _ ≤ _; simp only [z_rmA, z_rm]; omega⟩ rfl hl.1 rfl (Nat.le_of_ble_eq_true rfl) dX0_runBody_207 ⟨Nat.le_of_ble_eq_true rfl, Nat.le_of_ble_eq_true rfl⟩ (fun H locs hP hS => ?_)
      show W p l e (z_rmA (F + 1) (L + 100) 0 0) s m args below meth c H locs (0) (0) Q (F0 m 210 ls [.int r_5])
      refine lv_iconst (v := 2) hx hb dX0_runBody_210 (by decide) ?_
      refine lv_imul hx hb dX0_runBody_211 ?_
      cases h
      rw [hQ]
      exact g_reti hc hr hlocks hP hS dX0_runBody_212
    · replace h := z_in_ c_10_11 h
      by_cases c_10_12 : a1 = 12
      · replace h := z_ip_ c_10_12 h
        refine lv_tableIn (off := 203) (tgt := 213) hx hb dX0_runBody_10 (by rw [c_10_12]; decide) (by rw [c_10_12]; decide) (by rw [c_10_12]; rfl) (by decide) ?_
        refine lv_iload_n hx hb dX0_runBody_213 rfl (lv_at hl 4 rfl) ?_
        refine lv_aload_n hx hb dX0_runBody_214 rfl (lv_at hl 2 rfl) ?_
        obtain ⟨f_6, ef_6, h⟩ := z_bd_some h
        refine g_getN (ci := 1) (k := 0) (v := .int f_6) hc hP rfl z_inX1 (by decide) wG_X0_45 (g_i_v ef_6) dX0_runBody_215 ?_
        refine lv_isub hx hb dX0_runBody_218 ?_
        cases h
        rw [hQ]
        exact g_reti hc hr hlocks hP hS dX0_runBody_219
      · replace h := z_in_ c_10_12 h
        by_cases c_10_13 : a1 = 13
        · replace h := z_ip_ c_10_13 h
          refine lv_tableIn (off := 210) (tgt := 220) hx hb dX0_runBody_10 (by rw [c_10_13]; decide) (by rw [c_10_13]; decide) (by rw [c_10_13]; rfl) (by decide) ?_
          refine lv_aload_n hx hb dX0_runBody_220 rfl (lv_at hl 1 rfl) ?_
          refine lv_aload_n hx hb dX0_runBody_221 rfl (lv_at hl 2 rfl) ?_
          refine lv_aload_n hx hb dX0_runBody_222 rfl (lv_at hl 2 rfl) ?_
          obtain ⟨f_7, ef_7, h⟩ := z_bd_some h
          refine g_getN (ci := 1) (k := 1) (v := .int f_7) hc hP rfl z_inX1 (by decide) wG_X0_19 (g_i_v ef_7) dX0_runBody_223 ?_
          refine lv_iconst (v := 1) hx hb dX0_runBody_226 (by decide) ?_
          refine lv_iload_n hx hb dX0_runBody_227 rfl (lv_at hl 4 rfl) ?_
          refine lv_iload hx hb dX0_runBody_228 (lv_at hl 5 rfl) ?_
          obtain ⟨ho_230, h⟩ := z_chk_some h
          obtain ⟨vs_, ho_230⟩ := Option.isSome_iff_exists.mp ho_230
          obtain ⟨r_9, S_8, e_230, h⟩ := z_bd2_some h
          refine g_callV (ci := 0) (As := [.ref a0, .int f_7, .int (1 : Int32), .int a2, .int a3]) (rv := (some (.int r_9))) (n := 5) hc hP hS rfl ho_230 (IH S o a0 f_7 (1 : Int32) a2 a3 e_230) wM_X0_24 wI_X0_run wS_X0_run wZ_X0 wC_X0_run md_X0_run ⟨rfl, rfl, by show _ ≤ _; simp only [z_rmA, z_rm]; omega, by show _ ≤ _; simp only [z_rmA, z_rm]; omega⟩ rfl hl.1 rfl (Nat.le_of_ble_eq_true rfl) dX0_runBody_230 ⟨Nat.le_of_ble_eq_true rfl, Nat.le_of_ble_eq_true rfl⟩ (fun H locs hP hS => ?_)
          show W p l e (z_rmA (F + 1) (L + 100) 0 0) s m args below meth c H locs (0) (0) Q (F0 m 233 ls [.int r_9])
          refine lv_aload_n hx hb dX0_runBody_233 rfl (lv_at hl 1 rfl) ?_
          refine lv_aload_n hx hb dX0_runBody_234 rfl (lv_at hl 2 rfl) ?_
          refine lv_aload_n hx hb dX0_runBody_235 rfl (lv_at hl 2 rfl) ?_
          obtain ⟨f_10, ef_10, h⟩ := z_bd_some h
          refine g_getN (ci := 1) (k := 1) (v := .int f_10) hc hP rfl z_inX1 (by decide) wG_X0_19 (g_i_v ef_10) dX0_runBody_236 ?_
          refine lv_iconst (v := 2) hx hb dX0_runBody_239 (by decide) ?_
          refine lv_iload_n hx hb dX0_runBody_240 rfl (lv_at hl 4 rfl) ?_
          refine lv_iload hx hb dX0_runBody_241 (lv_at hl 5 rfl) ?_
          obtain ⟨ho_243, h⟩ := z_chk_some h
          obtain ⟨vs_, ho_243⟩ := Option.isSome_iff_exists.mp ho_243
          obtain ⟨r_12, S_11, e_243, h⟩ := z_bd2_some h
          refine g_callV (ci := 0) (As := [.ref a0, .int f_10, .int (2 : Int32), .int a2, .int a3]) (rv := (some (.int r_12))) (n := 5) hc hP hS rfl ho_243 (IH S_8 o a0 f_10 (2 : Int32) a2 a3 e_243) wM_X0_24 wI_X0_run wS_X0_run wZ_X0 wC_X0_run md_X0_run ⟨rfl, rfl, by show _ ≤ _; simp only [z_rmA, z_rm]; omega, by show _ ≤ _; simp only [z_rmA, z_rm]; omega⟩ rfl hl.1 rfl (Nat.le_of_ble_eq_true rfl) dX0_runBody_243 ⟨Nat.le_of_ble_eq_true rfl, Nat.le_of_ble_eq_true rfl⟩ (fun H locs hP hS => ?_)
          show W p l e (z_rmA (F + 1) (L + 100) 0 0) s m args below meth c H locs (0) (0) Q (F0 m 246 ls [.int r_12, .int r_9])
          refine lv_ixor hx hb dX0_runBody_246 ?_
          cases h
          rw [hQ]
          exact g_reti hc hr hlocks hP hS dX0_runBody_247
        · replace h := z_in_ c_10_13 h
          by_cases c_10_14 : a1 = 14
          · replace h := z_ip_ c_10_14 h
            refine lv_tableIn (off := 363) (tgt := 373) hx hb dX0_runBody_10 (by rw [c_10_14]; decide) (by rw [c_10_14]; decide) (by rw [c_10_14]; rfl) (by decide) ?_
            refine lv_iload_n hx hb dX0_runBody_373 rfl (lv_at hl 4 rfl) ?_
            cases h
            rw [hQ]
            exact g_reti hc hr hlocks hP hS dX0_runBody_374
          · replace h := z_in_ c_10_14 h
            by_cases c_10_15 : a1 = 15
            · replace h := z_ip_ c_10_15 h
              refine lv_tableIn (off := 363) (tgt := 373) hx hb dX0_runBody_10 (by rw [c_10_15]; decide) (by rw [c_10_15]; decide) (by rw [c_10_15]; rfl) (by decide) ?_
              refine lv_iload_n hx hb dX0_runBody_373 rfl (lv_at hl 4 rfl) ?_
              cases h
              rw [hQ]
              exact g_reti hc hr hlocks hP hS dX0_runBody_374
            · replace h := z_in_ c_10_15 h
              by_cases c_10_16 : a1 = 16
              · replace h := z_ip_ c_10_16 h
                refine lv_tableIn (off := 363) (tgt := 373) hx hb dX0_runBody_10 (by rw [c_10_16]; decide) (by rw [c_10_16]; decide) (by rw [c_10_16]; rfl) (by decide) ?_
                refine lv_iload_n hx hb dX0_runBody_373 rfl (lv_at hl 4 rfl) ?_
                cases h
                rw [hQ]
                exact g_reti hc hr hlocks hP hS dX0_runBody_374
              · replace h := z_in_ c_10_16 h
                by_cases c_10_17 : a1 = 17
                · replace h := z_ip_ c_10_17 h
                  refine lv_tableIn (off := 363) (tgt := 373) hx hb dX0_runBody_10 (by rw [c_10_17]; decide) (by rw [c_10_17]; decide) (by rw [c_10_17]; rfl) (by decide) ?_
                  refine lv_iload_n hx hb dX0_runBody_373 rfl (lv_at hl 4 rfl) ?_
                  cases h
                  rw [hQ]
                  exact g_reti hc hr hlocks hP hS dX0_runBody_374
                · replace h := z_in_ c_10_17 h
                  by_cases c_10_18 : a1 = 18
                  · replace h := z_ip_ c_10_18 h
                    refine lv_tableIn (off := 363) (tgt := 373) hx hb dX0_runBody_10 (by rw [c_10_18]; decide) (by rw [c_10_18]; decide) (by rw [c_10_18]; rfl) (by decide) ?_
                    refine lv_iload_n hx hb dX0_runBody_373 rfl (lv_at hl 4 rfl) ?_
                    cases h
                    rw [hQ]
                    exact g_reti hc hr hlocks hP hS dX0_runBody_374
                  · replace h := z_in_ c_10_18 h
                    by_cases c_10_19 : a1 = 19
                    · replace h := z_ip_ c_10_19 h
                      refine lv_tableIn (off := 363) (tgt := 373) hx hb dX0_runBody_10 (by rw [c_10_19]; decide) (by rw [c_10_19]; decide) (by rw [c_10_19]; rfl) (by decide) ?_
                      refine lv_iload_n hx hb dX0_runBody_373 rfl (lv_at hl 4 rfl) ?_
                      cases h
                      rw [hQ]
                      exact g_reti hc hr hlocks hP hS dX0_runBody_374
                    · replace h := z_in_ c_10_19 h
                      by_cases c_10_20 : a1 = 20
                      · replace h := z_ip_ c_10_20 h
                        refine lv_tableIn (off := 238) (tgt := 248) hx hb dX0_runBody_10 (by rw [c_10_20]; decide) (by rw [c_10_20]; decide) (by rw [c_10_20]; rfl) (by decide) ?_
                        refine lv_aload_n hx hb dX0_runBody_248 rfl (lv_at hl 1 rfl) ?_
                        refine lv_aload_n hx hb dX0_runBody_249 rfl (lv_at hl 2 rfl) ?_
                        refine lv_iconst (v := 0) hx hb dX0_runBody_250 (by decide) ?_
                        refine lv_iconst (v := 0) hx hb dX0_runBody_251 (by decide) ?_
                        refine lv_iload_n hx hb dX0_runBody_252 rfl (lv_at hl 4 rfl) ?_
                        refine lv_iload hx hb dX0_runBody_253 (lv_at hl 5 rfl) ?_
                        obtain ⟨ho_255, h⟩ := z_chk_some h
                        obtain ⟨vs_, ho_255⟩ := Option.isSome_iff_exists.mp ho_255
                        obtain ⟨r_14, S_13, e_255, h⟩ := z_bd2_some h
                        refine g_callV (ci := 0) (As := [.ref a0, .int (0 : Int32), .int (0 : Int32), .int a2, .int a3]) (rv := (some (.int r_14))) (n := 5) hc hP hS rfl ho_255 (IH S o a0 (0 : Int32) (0 : Int32) a2 a3 e_255) wM_X0_24 wI_X0_run wS_X0_run wZ_X0 wC_X0_run md_X0_run ⟨rfl, rfl, by show _ ≤ _; simp only [z_rmA, z_rm]; omega, by show _ ≤ _; simp only [z_rmA, z_rm]; omega⟩ rfl hl.1 rfl (Nat.le_of_ble_eq_true rfl) dX0_runBody_255 ⟨Nat.le_of_ble_eq_true rfl, Nat.le_of_ble_eq_true rfl⟩ (fun H locs hP hS => ?_)
                        show W p l e (z_rmA (F + 1) (L + 100) 0 0) s m args below meth c H locs (0) (0) Q (F0 m 258 ls [.int r_14])
                        refine lv_iconst (v := 1) hx hb dX0_runBody_258 (by decide) ?_
                        refine lv_iadd hx hb dX0_runBody_259 ?_
                        cases h
                        rw [hQ]
                        exact g_reti hc hr hlocks hP hS dX0_runBody_260
                      · replace h := z_in_ c_10_20 h
                        by_cases c_10_21 : a1 = 21
                        · replace h := z_ip_ c_10_21 h
                          refine lv_tableIn (off := 251) (tgt := 261) hx hb dX0_runBody_10 (by rw [c_10_21]; decide) (by rw [c_10_21]; decide) (by rw [c_10_21]; rfl) (by decide) ?_
                          refine lv_aload_n hx hb dX0_runBody_261 rfl (lv_at hl 1 rfl) ?_
                          refine lv_aload_n hx hb dX0_runBody_262 rfl (lv_at hl 2 rfl) ?_
                          refine lv_iconst (v := 0) hx hb dX0_runBody_263 (by decide) ?_
                          refine lv_iconst (v := 2) hx hb dX0_runBody_264 (by decide) ?_
                          refine lv_iload_n hx hb dX0_runBody_265 rfl (lv_at hl 4 rfl) ?_
                          refine lv_iload hx hb dX0_runBody_266 (lv_at hl 5 rfl) ?_
                          obtain ⟨ho_268, h⟩ := z_chk_some h
                          obtain ⟨vs_, ho_268⟩ := Option.isSome_iff_exists.mp ho_268
                          obtain ⟨r_16, S_15, e_268, h⟩ := z_bd2_some h
                          refine g_callV (ci := 0) (As := [.ref a0, .int (0 : Int32), .int (2 : Int32), .int a2, .int a3]) (rv := (some (.int r_16))) (n := 5) hc hP hS rfl ho_268 (IH S o a0 (0 : Int32) (2 : Int32) a2 a3 e_268) wM_X0_24 wI_X0_run wS_X0_run wZ_X0 wC_X0_run md_X0_run ⟨rfl, rfl, by show _ ≤ _; simp only [z_rmA, z_rm]; omega, by show _ ≤ _; simp only [z_rmA, z_rm]; omega⟩ rfl hl.1 rfl (Nat.le_of_ble_eq_true rfl) dX0_runBody_268 ⟨Nat.le_of_ble_eq_true rfl, Nat.le_of_ble_eq_true rfl⟩ (fun H locs hP hS => ?_)
                          show W p l e (z_rmA (F + 1) (L + 100) 0 0) s m args below meth c H locs (0) (0) Q (F0 m 271 ls [.int r_16])
                          refine lv_iconst (v := 3) hx hb dX0_runBody_271 (by decide) ?_
                          refine lv_imul hx hb dX0_runBody_272 ?_
                          cases h
                          rw [hQ]
                          exact g_reti hc hr hlocks hP hS dX0_runBody_273
                        · replace h := z_in_ c_10_21 h
                          by_cases c_10_22 : a1 = 22
                          · replace h := z_ip_ c_10_22 h
                            refine lv_tableIn (off := 363) (tgt := 373) hx hb dX0_runBody_10 (by rw [c_10_22]; decide) (by rw [c_10_22]; decide) (by rw [c_10_22]; rfl) (by decide) ?_
                            refine lv_iload_n hx hb dX0_runBody_373 rfl (lv_at hl 4 rfl) ?_
                            cases h
                            rw [hQ]
                            exact g_reti hc hr hlocks hP hS dX0_runBody_374
                          · replace h := z_in_ c_10_22 h
                            by_cases c_10_23 : a1 = 23
                            · replace h := z_ip_ c_10_23 h
                              refine lv_tableIn (off := 363) (tgt := 373) hx hb dX0_runBody_10 (by rw [c_10_23]; decide) (by rw [c_10_23]; decide) (by rw [c_10_23]; rfl) (by decide) ?_
                              refine lv_iload_n hx hb dX0_runBody_373 rfl (lv_at hl 4 rfl) ?_
                              cases h
                              rw [hQ]
                              exact g_reti hc hr hlocks hP hS dX0_runBody_374
                            · replace h := z_in_ c_10_23 h
                              by_cases c_10_24 : a1 = 24
                              · replace h := z_ip_ c_10_24 h
                                refine lv_tableIn (off := 363) (tgt := 373) hx hb dX0_runBody_10 (by rw [c_10_24]; decide) (by rw [c_10_24]; decide) (by rw [c_10_24]; rfl) (by decide) ?_
                                refine lv_iload_n hx hb dX0_runBody_373 rfl (lv_at hl 4 rfl) ?_
                                cases h
                                rw [hQ]
                                exact g_reti hc hr hlocks hP hS dX0_runBody_374
                              · replace h := z_in_ c_10_24 h
                                by_cases c_10_25 : a1 = 25
                                · replace h := z_ip_ c_10_25 h
                                  refine lv_tableIn (off := 363) (tgt := 373) hx hb dX0_runBody_10 (by rw [c_10_25]; decide) (by rw [c_10_25]; decide) (by rw [c_10_25]; rfl) (by decide) ?_
                                  refine lv_iload_n hx hb dX0_runBody_373 rfl (lv_at hl 4 rfl) ?_
                                  cases h
                                  rw [hQ]
                                  exact g_reti hc hr hlocks hP hS dX0_runBody_374
                                · replace h := z_in_ c_10_25 h
                                  by_cases c_10_26 : a1 = 26
                                  · replace h := z_ip_ c_10_26 h
                                    refine lv_tableIn (off := 363) (tgt := 373) hx hb dX0_runBody_10 (by rw [c_10_26]; decide) (by rw [c_10_26]; decide) (by rw [c_10_26]; rfl) (by decide) ?_
                                    refine lv_iload_n hx hb dX0_runBody_373 rfl (lv_at hl 4 rfl) ?_
                                    cases h
                                    rw [hQ]
                                    exact g_reti hc hr hlocks hP hS dX0_runBody_374
                                  · replace h := z_in_ c_10_26 h
                                    by_cases c_10_27 : a1 = 27
                                    · replace h := z_ip_ c_10_27 h
                                      refine lv_tableIn (off := 363) (tgt := 373) hx hb dX0_runBody_10 (by rw [c_10_27]; decide) (by rw [c_10_27]; decide) (by rw [c_10_27]; rfl) (by decide) ?_
                                      refine lv_iload_n hx hb dX0_runBody_373 rfl (lv_at hl 4 rfl) ?_
                                      cases h
                                      rw [hQ]
                                      exact g_reti hc hr hlocks hP hS dX0_runBody_374
                                    · replace h := z_in_ c_10_27 h
                                      by_cases c_10_28 : a1 = 28
                                      · replace h := z_ip_ c_10_28 h
                                        refine lv_tableIn (off := 363) (tgt := 373) hx hb dX0_runBody_10 (by rw [c_10_28]; decide) (by rw [c_10_28]; decide) (by rw [c_10_28]; rfl) (by decide) ?_
                                        refine lv_iload_n hx hb dX0_runBody_373 rfl (lv_at hl 4 rfl) ?_
                                        cases h
                                        rw [hQ]
                                        exact g_reti hc hr hlocks hP hS dX0_runBody_374
                                      · replace h := z_in_ c_10_28 h
                                        by_cases c_10_29 : a1 = 29
                                        · replace h := z_ip_ c_10_29 h
                                          refine lv_tableIn (off := 363) (tgt := 373) hx hb dX0_runBody_10 (by rw [c_10_29]; decide) (by rw [c_10_29]; decide) (by rw [c_10_29]; rfl) (by decide) ?_
                                          refine lv_iload_n hx hb dX0_runBody_373 rfl (lv_at hl 4 rfl) ?_
                                          cases h
                                          rw [hQ]
                                          exact g_reti hc hr hlocks hP hS dX0_runBody_374
                                        · replace h := z_in_ c_10_29 h
                                          by_cases c_10_30 : a1 = 30
                                          · replace h := z_ip_ c_10_30 h
                                            refine lv_tableIn (off := 264) (tgt := 274) hx hb dX0_runBody_10 (by rw [c_10_30]; decide) (by rw [c_10_30]; decide) (by rw [c_10_30]; rfl) (by decide) ?_
                                            refine lv_aload_n hx hb dX0_runBody_274 rfl (lv_at hl 1 rfl) ?_
                                            refine lv_aload_n hx hb dX0_runBody_275 rfl (lv_at hl 2 rfl) ?_
                                            refine lv_iconst (v := 1) hx hb dX0_runBody_276 (by decide) ?_
                                            refine lv_iconst (v := 1) hx hb dX0_runBody_277 (by decide) ?_
                                            refine lv_iload_n hx hb dX0_runBody_278 rfl (lv_at hl 4 rfl) ?_
                                            refine lv_iload hx hb dX0_runBody_279 (lv_at hl 0 rfl) ?_
                                            refine lv_isub hx hb dX0_runBody_281 ?_
                                            refine lv_iload hx hb dX0_runBody_282 (lv_at hl 5 rfl) ?_
                                            obtain ⟨ho_284, h⟩ := z_chk_some h
                                            obtain ⟨vs_, ho_284⟩ := Option.isSome_iff_exists.mp ho_284
                                            obtain ⟨r_18, S_17, e_284, h⟩ := z_bd2_some h
                                            refine g_callV (ci := 0) (As := [.ref a0, .int (1 : Int32), .int (1 : Int32), .int (a2 - f_2), .int a3]) (rv := (some (.int r_18))) (n := 5) hc hP hS rfl ho_284 (IH S o a0 (1 : Int32) (1 : Int32) (a2 - f_2) a3 e_284) wM_X0_24 wI_X0_run wS_X0_run wZ_X0 wC_X0_run md_X0_run ⟨rfl, rfl, by show _ ≤ _; simp only [z_rmA, z_rm]; omega, by show _ ≤ _; simp only [z_rmA, z_rm]; omega⟩ rfl hl.1 rfl (Nat.le_of_ble_eq_true rfl) dX0_runBody_284 ⟨Nat.le_of_ble_eq_true rfl, Nat.le_of_ble_eq_true rfl⟩ (fun H locs hP hS => ?_)
                                            show W p l e (z_rmA (F + 1) (L + 100) 0 0) s m args below meth c H locs (0) (0) Q (F0 m 287 ls [.int r_18])
                                            cases h
                                            rw [hQ]
                                            exact g_reti hc hr hlocks hP hS dX0_runBody_287
                                          · replace h := z_in_ c_10_30 h
                                            by_cases c_10_31 : a1 = 31
                                            · replace h := z_ip_ c_10_31 h
                                              refine lv_tableIn (off := 278) (tgt := 288) hx hb dX0_runBody_10 (by rw [c_10_31]; decide) (by rw [c_10_31]; decide) (by rw [c_10_31]; rfl) (by decide) ?_
                                              refine lv_aload_n hx hb dX0_runBody_288 rfl (lv_at hl 1 rfl) ?_
                                              refine lv_aload_n hx hb dX0_runBody_289 rfl (lv_at hl 2 rfl) ?_
                                              refine lv_aload_n hx hb dX0_runBody_290 rfl (lv_at hl 2 rfl) ?_
                                              obtain ⟨f_19, ef_19, h⟩ := z_bd_some h
                                              refine g_getN (ci := 1) (k := 1) (v := .int f_19) hc hP rfl z_inX1 (by decide) wG_X0_19 (g_i_v ef_19) dX0_runBody_291 ?_
                                              refine lv_iconst (v := 2) hx hb dX0_runBody_294 (by decide) ?_
                                              refine lv_iload_n hx hb dX0_runBody_295 rfl (lv_at hl 4 rfl) ?_
                                              refine lv_iload hx hb dX0_runBody_296 (lv_at hl 5 rfl) ?_
                                              obtain ⟨ho_298, h⟩ := z_chk_some h
                                              obtain ⟨vs_, ho_298⟩ := Option.isSome_iff_exists.mp ho_298
                                              obtain ⟨r_21, S_20, e_298, h⟩ := z_bd2_some h
                                              refine g_callV (ci := 0) (As := [.ref a0, .int f_19, .int (2 : Int32), .int a2, .int a3]) (rv := (some (.int r_21))) (n := 5) hc hP hS rfl ho_298 (IH S o a0 f_19 (2 : Int32) a2 a3 e_298) wM_X0_24 wI_X0_run wS_X0_run wZ_X0 wC_X0_run md_X0_run ⟨rfl, rfl, by show _ ≤ _; simp only [z_rmA, z_rm]; omega, by show _ ≤ _; simp only [z_rmA, z_rm]; omega⟩ rfl hl.1 rfl (Nat.le_of_ble_eq_true rfl) dX0_runBody_298 ⟨Nat.le_of_ble_eq_true rfl, Nat.le_of_ble_eq_true rfl⟩ (fun H locs hP hS => ?_)
                                              show W p l e (z_rmA (F + 1) (L + 100) 0 0) s m args below meth c H locs (0) (0) Q (F0 m 301 ls [.int r_21])
                                              refine lv_aload_n hx hb dX0_runBody_301 rfl (lv_at hl 1 rfl) ?_
                                              refine lv_aload_n hx hb dX0_runBody_302 rfl (lv_at hl 2 rfl) ?_
                                              refine lv_iconst (v := 1) hx hb dX0_runBody_303 (by decide) ?_
                                              refine lv_iconst (v := 3) hx hb dX0_runBody_304 (by decide) ?_
                                              refine lv_iload_n hx hb dX0_runBody_305 rfl (lv_at hl 4 rfl) ?_
                                              refine lv_iload hx hb dX0_runBody_306 (lv_at hl 5 rfl) ?_
                                              obtain ⟨ho_308, h⟩ := z_chk_some h
                                              obtain ⟨vs_, ho_308⟩ := Option.isSome_iff_exists.mp ho_308
                                              obtain ⟨r_23, S_22, e_308, h⟩ := z_bd2_some h
                                              refine g_callV (ci := 0) (As := [.ref a0, .int (1 : Int32), .int (3 : Int32), .int a2, .int a3]) (rv := (some (.int r_23))) (n := 5) hc hP hS rfl ho_308 (IH S_20 o a0 (1 : Int32) (3 : Int32) a2 a3 e_308) wM_X0_24 wI_X0_run wS_X0_run wZ_X0 wC_X0_run md_X0_run ⟨rfl, rfl, by show _ ≤ _; simp only [z_rmA, z_rm]; omega, by show _ ≤ _; simp only [z_rmA, z_rm]; omega⟩ rfl hl.1 rfl (Nat.le_of_ble_eq_true rfl) dX0_runBody_308 ⟨Nat.le_of_ble_eq_true rfl, Nat.le_of_ble_eq_true rfl⟩ (fun H locs hP hS => ?_)
                                              show W p l e (z_rmA (F + 1) (L + 100) 0 0) s m args below meth c H locs (0) (0) Q (F0 m 311 ls [.int r_23, .int r_21])
                                              refine lv_iadd hx hb dX0_runBody_311 ?_
                                              cases h
                                              rw [hQ]
                                              exact g_reti hc hr hlocks hP hS dX0_runBody_312
                                            · replace h := z_in_ c_10_31 h
                                              by_cases c_10_32 : a1 = 32
                                              · replace h := z_ip_ c_10_32 h
                                                refine lv_tableIn (off := 363) (tgt := 373) hx hb dX0_runBody_10 (by rw [c_10_32]; decide) (by rw [c_10_32]; decide) (by rw [c_10_32]; rfl) (by decide) ?_
                                                refine lv_iload_n hx hb dX0_runBody_373 rfl (lv_at hl 4 rfl) ?_
                                                cases h
                                                rw [hQ]
                                                exact g_reti hc hr hlocks hP hS dX0_runBody_374
                                              · replace h := z_in_ c_10_32 h
                                                by_cases c_10_33 : a1 = 33
                                                · replace h := z_ip_ c_10_33 h
                                                  refine lv_tableIn (off := 363) (tgt := 373) hx hb dX0_runBody_10 (by rw [c_10_33]; decide) (by rw [c_10_33]; decide) (by rw [c_10_33]; rfl) (by decide) ?_
                                                  refine lv_iload_n hx hb dX0_runBody_373 rfl (lv_at hl 4 rfl) ?_
                                                  cases h
                                                  rw [hQ]
                                                  exact g_reti hc hr hlocks hP hS dX0_runBody_374
                                                · replace h := z_in_ c_10_33 h
                                                  by_cases c_10_34 : a1 = 34
                                                  · replace h := z_ip_ c_10_34 h
                                                    refine lv_tableIn (off := 363) (tgt := 373) hx hb dX0_runBody_10 (by rw [c_10_34]; decide) (by rw [c_10_34]; decide) (by rw [c_10_34]; rfl) (by decide) ?_
                                                    refine lv_iload_n hx hb dX0_runBody_373 rfl (lv_at hl 4 rfl) ?_
                                                    cases h
                                                    rw [hQ]
                                                    exact g_reti hc hr hlocks hP hS dX0_runBody_374
                                                  · replace h := z_in_ c_10_34 h
                                                    by_cases c_10_35 : a1 = 35
                                                    · replace h := z_ip_ c_10_35 h
                                                      refine lv_tableIn (off := 363) (tgt := 373) hx hb dX0_runBody_10 (by rw [c_10_35]; decide) (by rw [c_10_35]; decide) (by rw [c_10_35]; rfl) (by decide) ?_
                                                      refine lv_iload_n hx hb dX0_runBody_373 rfl (lv_at hl 4 rfl) ?_
                                                      cases h
                                                      rw [hQ]
                                                      exact g_reti hc hr hlocks hP hS dX0_runBody_374
                                                    · replace h := z_in_ c_10_35 h
                                                      by_cases c_10_36 : a1 = 36
                                                      · replace h := z_ip_ c_10_36 h
                                                        refine lv_tableIn (off := 363) (tgt := 373) hx hb dX0_runBody_10 (by rw [c_10_36]; decide) (by rw [c_10_36]; decide) (by rw [c_10_36]; rfl) (by decide) ?_
                                                        refine lv_iload_n hx hb dX0_runBody_373 rfl (lv_at hl 4 rfl) ?_
                                                        cases h
                                                        rw [hQ]
                                                        exact g_reti hc hr hlocks hP hS dX0_runBody_374
                                                      · replace h := z_in_ c_10_36 h
                                                        by_cases c_10_37 : a1 = 37
                                                        · replace h := z_ip_ c_10_37 h
                                                          refine lv_tableIn (off := 363) (tgt := 373) hx hb dX0_runBody_10 (by rw [c_10_37]; decide) (by rw [c_10_37]; decide) (by rw [c_10_37]; rfl) (by decide) ?_
                                                          refine lv_iload_n hx hb dX0_runBody_373 rfl (lv_at hl 4 rfl) ?_
                                                          cases h
                                                          rw [hQ]
                                                          exact g_reti hc hr hlocks hP hS dX0_runBody_374
                                                        · replace h := z_in_ c_10_37 h
                                                          by_cases c_10_38 : a1 = 38
                                                          · replace h := z_ip_ c_10_38 h
                                                            refine lv_tableIn (off := 363) (tgt := 373) hx hb dX0_runBody_10 (by rw [c_10_38]; decide) (by rw [c_10_38]; decide) (by rw [c_10_38]; rfl) (by decide) ?_
                                                            refine lv_iload_n hx hb dX0_runBody_373 rfl (lv_at hl 4 rfl) ?_
                                                            cases h
                                                            rw [hQ]
                                                            exact g_reti hc hr hlocks hP hS dX0_runBody_374
                                                          · replace h := z_in_ c_10_38 h
                                                            by_cases c_10_39 : a1 = 39
                                                            · replace h := z_ip_ c_10_39 h
                                                              refine lv_tableIn (off := 363) (tgt := 373) hx hb dX0_runBody_10 (by rw [c_10_39]; decide) (by rw [c_10_39]; decide) (by rw [c_10_39]; rfl) (by decide) ?_
                                                              refine lv_iload_n hx hb dX0_runBody_373 rfl (lv_at hl 4 rfl) ?_
                                                              cases h
                                                              rw [hQ]
                                                              exact g_reti hc hr hlocks hP hS dX0_runBody_374
                                                            · replace h := z_in_ c_10_39 h
                                                              by_cases c_10_40 : a1 = 40
                                                              · replace h := z_ip_ c_10_40 h
                                                                refine lv_tableIn (off := 303) (tgt := 313) hx hb dX0_runBody_10 (by rw [c_10_40]; decide) (by rw [c_10_40]; decide) (by rw [c_10_40]; rfl) (by decide) ?_
                                                                refine lv_aload_n hx hb dX0_runBody_313 rfl (lv_at hl 1 rfl) ?_
                                                                refine lv_aload_n hx hb dX0_runBody_314 rfl (lv_at hl 2 rfl) ?_
                                                                refine lv_iconst (v := 0) hx hb dX0_runBody_315 (by decide) ?_
                                                                refine lv_iconst (v := 2) hx hb dX0_runBody_316 (by decide) ?_
                                                                refine lv_iload_n hx hb dX0_runBody_317 rfl (lv_at hl 4 rfl) ?_
                                                                refine lv_iload hx hb dX0_runBody_318 (lv_at hl 5 rfl) ?_
                                                                obtain ⟨ho_320, h⟩ := z_chk_some h
                                                                obtain ⟨vs_, ho_320⟩ := Option.isSome_iff_exists.mp ho_320
                                                                obtain ⟨r_25, S_24, e_320, h⟩ := z_bd2_some h
                                                                refine g_callV (ci := 0) (As := [.ref a0, .int (0 : Int32), .int (2 : Int32), .int a2, .int a3]) (rv := (some (.int r_25))) (n := 5) hc hP hS rfl ho_320 (IH S o a0 (0 : Int32) (2 : Int32) a2 a3 e_320) wM_X0_24 wI_X0_run wS_X0_run wZ_X0 wC_X0_run md_X0_run ⟨rfl, rfl, by show _ ≤ _; simp only [z_rmA, z_rm]; omega, by show _ ≤ _; simp only [z_rmA, z_rm]; omega⟩ rfl hl.1 rfl (Nat.le_of_ble_eq_true rfl) dX0_runBody_320 ⟨Nat.le_of_ble_eq_true rfl, Nat.le_of_ble_eq_true rfl⟩ (fun H locs hP hS => ?_)
                                                                show W p l e (z_rmA (F + 1) (L + 100) 0 0) s m args below meth c H locs (0) (0) Q (F0 m 323 ls [.int r_25])
                                                                refine lv_aload_n hx hb dX0_runBody_323 rfl (lv_at hl 1 rfl) ?_
                                                                refine lv_aload_n hx hb dX0_runBody_324 rfl (lv_at hl 2 rfl) ?_
                                                                refine lv_iconst (v := 0) hx hb dX0_runBody_325 (by decide) ?_
                                                                refine lv_iconst (v := 0) hx hb dX0_runBody_326 (by decide) ?_
                                                                refine lv_iload_n hx hb dX0_runBody_327 rfl (lv_at hl 4 rfl) ?_
                                                                refine lv_iload hx hb dX0_runBody_328 (lv_at hl 5 rfl) ?_
                                                                obtain ⟨ho_330, h⟩ := z_chk_some h
                                                                obtain ⟨vs_, ho_330⟩ := Option.isSome_iff_exists.mp ho_330
                                                                obtain ⟨r_27, S_26, e_330, h⟩ := z_bd2_some h
                                                                refine g_callV (ci := 0) (As := [.ref a0, .int (0 : Int32), .int (0 : Int32), .int a2, .int a3]) (rv := (some (.int r_27))) (n := 5) hc hP hS rfl ho_330 (IH S_24 o a0 (0 : Int32) (0 : Int32) a2 a3 e_330) wM_X0_24 wI_X0_run wS_X0_run wZ_X0 wC_X0_run md_X0_run ⟨rfl, rfl, by show _ ≤ _; simp only [z_rmA, z_rm]; omega, by show _ ≤ _; simp only [z_rmA, z_rm]; omega⟩ rfl hl.1 rfl (Nat.le_of_ble_eq_true rfl) dX0_runBody_330 ⟨Nat.le_of_ble_eq_true rfl, Nat.le_of_ble_eq_true rfl⟩ (fun H locs hP hS => ?_)
                                                                show W p l e (z_rmA (F + 1) (L + 100) 0 0) s m args below meth c H locs (0) (0) Q (F0 m 333 ls [.int r_27, .int r_25])
                                                                refine lv_iadd hx hb dX0_runBody_333 ?_
                                                                cases h
                                                                rw [hQ]
                                                                exact g_reti hc hr hlocks hP hS dX0_runBody_334
                                                              · replace h := z_in_ c_10_40 h
                                                                by_cases c_10_41 : a1 = 41
                                                                · replace h := z_ip_ c_10_41 h
                                                                  refine lv_tableIn (off := 363) (tgt := 373) hx hb dX0_runBody_10 (by rw [c_10_41]; decide) (by rw [c_10_41]; decide) (by rw [c_10_41]; rfl) (by decide) ?_
                                                                  refine lv_iload_n hx hb dX0_runBody_373 rfl (lv_at hl 4 rfl) ?_
                                                                  cases h
                                                                  rw [hQ]
                                                                  exact g_reti hc hr hlocks hP hS dX0_runBody_374
                                                                · replace h := z_in_ c_10_41 h
                                                                  by_cases c_10_42 : a1 = 42
                                                                  · replace h := z_ip_ c_10_42 h
                                                                    refine lv_tableIn (off := 363) (tgt := 373) hx hb dX0_runBody_10 (by rw [c_10_42]; decide) (by rw [c_10_42]; decide) (by rw [c_10_42]; rfl) (by decide) ?_
                                                                    refine lv_iload_n hx hb dX0_runBody_373 rfl (lv_at hl 4 rfl) ?_
                                                                    cases h
                                                                    rw [hQ]
                                                                    exact g_reti hc hr hlocks hP hS dX0_runBody_374
                                                                  · replace h := z_in_ c_10_42 h
                                                                    by_cases c_10_43 : a1 = 43
                                                                    · replace h := z_ip_ c_10_43 h
                                                                      refine lv_tableIn (off := 363) (tgt := 373) hx hb dX0_runBody_10 (by rw [c_10_43]; decide) (by rw [c_10_43]; decide) (by rw [c_10_43]; rfl) (by decide) ?_
                                                                      refine lv_iload_n hx hb dX0_runBody_373 rfl (lv_at hl 4 rfl) ?_
                                                                      cases h
                                                                      rw [hQ]
                                                                      exact g_reti hc hr hlocks hP hS dX0_runBody_374
                                                                    · replace h := z_in_ c_10_43 h
                                                                      by_cases c_10_44 : a1 = 44
                                                                      · replace h := z_ip_ c_10_44 h
                                                                        refine lv_tableIn (off := 363) (tgt := 373) hx hb dX0_runBody_10 (by rw [c_10_44]; decide) (by rw [c_10_44]; decide) (by rw [c_10_44]; rfl) (by decide) ?_
                                                                        refine lv_iload_n hx hb dX0_runBody_373 rfl (lv_at hl 4 rfl) ?_
                                                                        cases h
                                                                        rw [hQ]
                                                                        exact g_reti hc hr hlocks hP hS dX0_runBody_374
                                                                      · replace h := z_in_ c_10_44 h
                                                                        by_cases c_10_45 : a1 = 45
                                                                        · replace h := z_ip_ c_10_45 h
                                                                          refine lv_tableIn (off := 363) (tgt := 373) hx hb dX0_runBody_10 (by rw [c_10_45]; decide) (by rw [c_10_45]; decide) (by rw [c_10_45]; rfl) (by decide) ?_
                                                                          refine lv_iload_n hx hb dX0_runBody_373 rfl (lv_at hl 4 rfl) ?_
                                                                          cases h
                                                                          rw [hQ]
                                                                          exact g_reti hc hr hlocks hP hS dX0_runBody_374
                                                                        · replace h := z_in_ c_10_45 h
                                                                          by_cases c_10_46 : a1 = 46
                                                                          · replace h := z_ip_ c_10_46 h
                                                                            refine lv_tableIn (off := 363) (tgt := 373) hx hb dX0_runBody_10 (by rw [c_10_46]; decide) (by rw [c_10_46]; decide) (by rw [c_10_46]; rfl) (by decide) ?_
                                                                            refine lv_iload_n hx hb dX0_runBody_373 rfl (lv_at hl 4 rfl) ?_
                                                                            cases h
                                                                            rw [hQ]
                                                                            exact g_reti hc hr hlocks hP hS dX0_runBody_374
                                                                          · replace h := z_in_ c_10_46 h
                                                                            by_cases c_10_47 : a1 = 47
                                                                            · replace h := z_ip_ c_10_47 h
                                                                              refine lv_tableIn (off := 363) (tgt := 373) hx hb dX0_runBody_10 (by rw [c_10_47]; decide) (by rw [c_10_47]; decide) (by rw [c_10_47]; rfl) (by decide) ?_
                                                                              refine lv_iload_n hx hb dX0_runBody_373 rfl (lv_at hl 4 rfl) ?_
                                                                              cases h
                                                                              rw [hQ]
                                                                              exact g_reti hc hr hlocks hP hS dX0_runBody_374
                                                                            · replace h := z_in_ c_10_47 h
                                                                              by_cases c_10_48 : a1 = 48
                                                                              · replace h := z_ip_ c_10_48 h
                                                                                refine lv_tableIn (off := 363) (tgt := 373) hx hb dX0_runBody_10 (by rw [c_10_48]; decide) (by rw [c_10_48]; decide) (by rw [c_10_48]; rfl) (by decide) ?_
                                                                                refine lv_iload_n hx hb dX0_runBody_373 rfl (lv_at hl 4 rfl) ?_
                                                                                cases h
                                                                                rw [hQ]
                                                                                exact g_reti hc hr hlocks hP hS dX0_runBody_374
                                                                              · replace h := z_in_ c_10_48 h
                                                                                by_cases c_10_49 : a1 = 49
                                                                                · replace h := z_ip_ c_10_49 h
                                                                                  refine lv_tableIn (off := 363) (tgt := 373) hx hb dX0_runBody_10 (by rw [c_10_49]; decide) (by rw [c_10_49]; decide) (by rw [c_10_49]; rfl) (by decide) ?_
                                                                                  refine lv_iload_n hx hb dX0_runBody_373 rfl (lv_at hl 4 rfl) ?_
                                                                                  cases h
                                                                                  rw [hQ]
                                                                                  exact g_reti hc hr hlocks hP hS dX0_runBody_374
                                                                                · replace h := z_in_ c_10_49 h
                                                                                  by_cases c_10_50 : a1 = 50
                                                                                  · replace h := z_ip_ c_10_50 h
                                                                                    refine lv_tableIn (off := 325) (tgt := 335) hx hb dX0_runBody_10 (by rw [c_10_50]; decide) (by rw [c_10_50]; decide) (by rw [c_10_50]; rfl) (by decide) ?_
                                                                                    refine lv_aload_n hx hb dX0_runBody_335 rfl (lv_at hl 1 rfl) ?_
                                                                                    refine lv_aload_n hx hb dX0_runBody_336 rfl (lv_at hl 2 rfl) ?_
                                                                                    refine lv_iconst (v := 1) hx hb dX0_runBody_337 (by decide) ?_
                                                                                    refine lv_iconst (v := 0) hx hb dX0_runBody_338 (by decide) ?_
                                                                                    refine lv_iload_n hx hb dX0_runBody_339 rfl (lv_at hl 4 rfl) ?_
                                                                                    refine lv_iconst (v := 2) hx hb dX0_runBody_340 (by decide) ?_
                                                                                    refine lv_imul hx hb dX0_runBody_341 ?_
                                                                                    refine lv_iload hx hb dX0_runBody_342 (lv_at hl 5 rfl) ?_
                                                                                    obtain ⟨ho_344, h⟩ := z_chk_some h
                                                                                    obtain ⟨vs_, ho_344⟩ := Option.isSome_iff_exists.mp ho_344
                                                                                    obtain ⟨r_29, S_28, e_344, h⟩ := z_bd2_some h
                                                                                    refine g_callV (ci := 0) (As := [.ref a0, .int (1 : Int32), .int (0 : Int32), .int (a2 * (2 : Int32)), .int a3]) (rv := (some (.int r_29))) (n := 5) hc hP hS rfl ho_344 (IH S o a0 (1 : Int32) (0 : Int32) (a2 * (2 : Int32)) a3 e_344) wM_X0_24 wI_X0_run wS_X0_run wZ_X0 wC_X0_run md_X0_run ⟨rfl, rfl, by show _ ≤ _; simp only [z_rmA, z_rm]; omega, by show _ ≤ _; simp only [z_rmA, z_rm]; omega⟩ rfl hl.1 rfl (Nat.le_of_ble_eq_true rfl) dX0_runBody_344 ⟨Nat.le_of_ble_eq_true rfl, Nat.le_of_ble_eq_true rfl⟩ (fun H locs hP hS => ?_)
                                                                                    show W p l e (z_rmA (F + 1) (L + 100) 0 0) s m args below meth c H locs (0) (0) Q (F0 m 347 ls [.int r_29])
                                                                                    cases h
                                                                                    rw [hQ]
                                                                                    exact g_reti hc hr hlocks hP hS dX0_runBody_347
                                                                                  · replace h := z_in_ c_10_50 h
                                                                                    by_cases c_10_51 : a1 = 51
                                                                                    · replace h := z_ip_ c_10_51 h
                                                                                      refine lv_tableIn (off := 338) (tgt := 348) hx hb dX0_runBody_10 (by rw [c_10_51]; decide) (by rw [c_10_51]; decide) (by rw [c_10_51]; rfl) (by decide) ?_
                                                                                      refine lv_aload_n hx hb dX0_runBody_348 rfl (lv_at hl 1 rfl) ?_
                                                                                      refine lv_aload_n hx hb dX0_runBody_349 rfl (lv_at hl 2 rfl) ?_
                                                                                      refine lv_iconst (v := 1) hx hb dX0_runBody_350 (by decide) ?_
                                                                                      refine lv_iconst (v := 1) hx hb dX0_runBody_351 (by decide) ?_
                                                                                      refine lv_iload_n hx hb dX0_runBody_352 rfl (lv_at hl 4 rfl) ?_
                                                                                      refine lv_iload hx hb dX0_runBody_353 (lv_at hl 5 rfl) ?_
                                                                                      obtain ⟨ho_355, h⟩ := z_chk_some h
                                                                                      obtain ⟨vs_, ho_355⟩ := Option.isSome_iff_exists.mp ho_355
                                                                                      obtain ⟨r_31, S_30, e_355, h⟩ := z_bd2_some h
                                                                                      refine g_callV (ci := 0) (As := [.ref a0, .int (1 : Int32), .int (1 : Int32), .int a2, .int a3]) (rv := (some (.int r_31))) (n := 5) hc hP hS rfl ho_355 (IH S o a0 (1 : Int32) (1 : Int32) a2 a3 e_355) wM_X0_24 wI_X0_run wS_X0_run wZ_X0 wC_X0_run md_X0_run ⟨rfl, rfl, by show _ ≤ _; simp only [z_rmA, z_rm]; omega, by show _ ≤ _; simp only [z_rmA, z_rm]; omega⟩ rfl hl.1 rfl (Nat.le_of_ble_eq_true rfl) dX0_runBody_355 ⟨Nat.le_of_ble_eq_true rfl, Nat.le_of_ble_eq_true rfl⟩ (fun H locs hP hS => ?_)
                                                                                      show W p l e (z_rmA (F + 1) (L + 100) 0 0) s m args below meth c H locs (0) (0) Q (F0 m 358 ls [.int r_31])
                                                                                      refine lv_aload_n hx hb dX0_runBody_358 rfl (lv_at hl 1 rfl) ?_
                                                                                      refine lv_aload_n hx hb dX0_runBody_359 rfl (lv_at hl 2 rfl) ?_
                                                                                      refine lv_aload_n hx hb dX0_runBody_360 rfl (lv_at hl 2 rfl) ?_
                                                                                      obtain ⟨f_32, ef_32, h⟩ := z_bd_some h
                                                                                      refine g_getN (ci := 1) (k := 1) (v := .int f_32) hc hP rfl z_inX1 (by decide) wG_X0_19 (g_i_v ef_32) dX0_runBody_361 ?_
                                                                                      refine lv_iconst (v := 0) hx hb dX0_runBody_364 (by decide) ?_
                                                                                      refine lv_iload_n hx hb dX0_runBody_365 rfl (lv_at hl 4 rfl) ?_
                                                                                      refine lv_iload hx hb dX0_runBody_366 (lv_at hl 5 rfl) ?_
                                                                                      obtain ⟨ho_368, h⟩ := z_chk_some h
                                                                                      obtain ⟨vs_, ho_368⟩ := Option.isSome_iff_exists.mp ho_368
                                                                                      obtain ⟨r_34, S_33, e_368, h⟩ := z_bd2_some h
                                                                                      refine g_callV (ci := 0) (As := [.ref a0, .int f_32, .int (0 : Int32), .int a2, .int a3]) (rv := (some (.int r_34))) (n := 5) hc hP hS rfl ho_368 (IH S_30 o a0 f_32 (0 : Int32) a2 a3 e_368) wM_X0_24 wI_X0_run wS_X0_run wZ_X0 wC_X0_run md_X0_run ⟨rfl, rfl, by show _ ≤ _; simp only [z_rmA, z_rm]; omega, by show _ ≤ _; simp only [z_rmA, z_rm]; omega⟩ rfl hl.1 rfl (Nat.le_of_ble_eq_true rfl) dX0_runBody_368 ⟨Nat.le_of_ble_eq_true rfl, Nat.le_of_ble_eq_true rfl⟩ (fun H locs hP hS => ?_)
                                                                                      show W p l e (z_rmA (F + 1) (L + 100) 0 0) s m args below meth c H locs (0) (0) Q (F0 m 371 ls [.int r_34, .int r_31])
                                                                                      refine lv_isub hx hb dX0_runBody_371 ?_
                                                                                      cases h
                                                                                      rw [hQ]
                                                                                      exact g_reti hc hr hlocks hP hS dX0_runBody_372
                                                                                    · replace h := z_in_ c_10_51 h
                                                                                      refine lv_tableOut (tgt := 373) hx hb dX0_runBody_10 (z_out_10_51 c_10_10 c_10_11 c_10_12 c_10_13 c_10_14 c_10_15 c_10_16 c_10_17 c_10_18 c_10_19 c_10_20 c_10_21 c_10_22 c_10_23 c_10_24 c_10_25 c_10_26 c_10_27 c_10_28 c_10_29 c_10_30 c_10_31 c_10_32 c_10_33 c_10_34 c_10_35 c_10_36 c_10_37 c_10_38 c_10_39 c_10_40 c_10_41 c_10_42 c_10_43 c_10_44 c_10_45 c_10_46 c_10_47 c_10_48 c_10_49 c_10_50 c_10_51) (by decide) ?_
                                                                                      refine lv_iload_n hx hb dX0_runBody_373 rfl (lv_at hl 4 rfl) ?_
                                                                                      cases h
                                                                                      rw [hQ]
                                                                                      exact g_reti hc hr hlocks hP hS dX0_runBody_374
noncomputable def f_X0_runR (recf : GS → Nat → Nat → Int32 → Int32 → Int32 → Option (Int32 × GS)) (S : GS) (o : Nat) (a0 : Nat) (a1 : Int32) (a2 : Int32) (a3 : Int32) (a4 : Int32) : Option ((Int32) × GS) :=
  z_bd (f_X0_bodyFrom S a1 a2) fun r_1 => if r_1 = 0 then some (a3, S) else if a4 ≤ (20 : Int32) then z_bd (g_i S 0 1 o) fun f_2 => z_bd (if (50 : Int32) ≤ f_2 then some (S) else z_bd (g_r S 0 0 o) fun f_4 => z_bd (g_i S 0 1 o) fun f_5 => z_bd (g_wI S f_4 f_5 r_1) fun S_6 => z_bd (g_i S_6 0 1 o) fun f_7 => z_bd (g_put S_6 0 1 o (.int (f_7 + (1 : Int32)))) fun S_8 => some (S_8)) fun S_3 => z_chk (g_is S_3 0 o) (z_bd2 (recf S_3 o a0 r_1 a3 (a4 + (1 : Int32))) fun r_10 S_9 => some (r_10, S_9)) else some (a3, S)
set_option maxHeartbeats 4000000 in
set_option maxRecDepth 100000 in
theorem mt_X0_runR (l : Launch) (D : va_G) (cs : Nat → ClassId) (A : Nat → Prop) {recf : GS → Nat → Nat → Int32 → Int32 → Int32 → Option (Int32 × GS)} {F L : Nat} (IH : ∀ (S : GS) (o a0 : Nat) (a1 a2 a3 : Int32) {r_ : Int32} {N_ : GS}, recf S o a0 a1 a2 a3 = some (r_, N_) → Met l yX0_runBody (z_wd yX0_runBody cX0_runBody 6 (some .int)) (z_rmA F L 0 0) (va_Pc [.ref o, .ref a0, .int a1, .int a2, .int a3] (g_C D cs A S)) (g_Q (some (.int r_)) N_ D cs A) 0 0 A) (S : GS) (o : Nat) (a0 : Nat) (a1 : Int32) (a2 : Int32) (a3 : Int32) (a4 : Int32) {r_ : Int32} {N_ : GS} (h : f_X0_runR recf S o a0 a1 a2 a3 a4 = some (r_, N_)) : Met l yX0_run (z_wd yX0_run cX0_run 7 (some .int)) (z_rmA (F + 1) (L + 100) 0 0) (va_Pc [.ref o, .ref a0, .int a1, .int a2, .int a3, .int a4] (g_C D cs A S)) (g_Q (some (.int r_)) N_ D cs A) 0 0 A := by
  refine Met.ofW (cc := cX0_run) (maxL := 7) (ret := (some .int)) (by decide) rfl ?_
  intro p e s m args below meth c s₁ B hml hv
  obtain ⟨hav, hP0, hK, hN, hSt, hAn⟩ := hv
  have hx := B.exec
  have hb := B.bytes
  have hr := B.returns
  have hts := atoms_spec (ws := z_wd yX0_run cX0_run 7 (some .int)) B.pre
  have hown : s.vm.findClass RX0 = some m.cls := findClass_of_methodNamed B.named
  have hlocks := B.notSynchronized
  have hc : g_X p s m args c cX0_run 7 RX0 D cs A := ⟨⟨hx, hb, hml, fun w hw => hts w (List.mem_cons_of_mem _ hw), hown⟩, hK, hN, hSt, hAn⟩
  have hl := lv_entry ([.ref o, .ref a0, .int a1, .int a2, .int a3, .int a4]) (n := 7) (Nat.le_of_ble_eq_true rfl)
  have hE : entryFrame m args 7 = F0 m 0 ((lg_sl ([.ref o, .ref a0, .int a1, .int a2, .int a3, .int a4]) ++ List.replicate (7 - (lg_sl ([.ref o, .ref a0, .int a1, .int a2, .int a3, .int a4])).length) Slot.unset).toArray) [] := by rw [hav]; exact lg_entry_eq m _ _
  rw [hE]
  clear hE hav
  generalize (lg_sl ([.ref o, .ref a0, .int a1, .int a2, .int a3, .int a4]) ++ List.replicate (7 - (lg_sl ([.ref o, .ref a0, .int a1, .int a2, .int a3, .int a4])).length) Slot.unset).toArray = ls at hl ⊢
  have hl : lv_has ls 7 [(0, .ref o), (1, .ref a0), (2, .int a1), (3, .int a2), (4, .int a3), (5, .int a4)] := hl
  obtain ⟨Q, hQ⟩ : ∃ Q, Q = MQ below (g_Q (some (.int r_)) N_ D cs A) args s 0 0 A := ⟨_, rfl⟩
  rw [← hQ]
  suffices hmain : ∀ (H : Heap) (locs : List Loc), g_P D cs A S H → va_S A s.heap H locs → W p l e (z_rmA (F + 1) (L + 100) 0 0) s m args below meth c H locs 0 0 Q (F0 m 0 ls []) from hmain s.heap [] hP0 va_S.rf
  clear hP0
  intro H locs hP hS
  unfold f_X0_runR at h
  refine lv_iload_n hx hb dX0_run_0 rfl (lv_at hl 2 rfl) ?_
  refine lv_iload_n hx hb dX0_run_1 rfl (lv_at hl 3 rfl) ?_
  obtain ⟨r_1, e_2, h⟩ := z_bd_some h
  refine g_callS (As := [.int a1, .int a2]) (rv := (some (.int r_1))) (n := 2) hc hP hS (mt_X0_bodyFrom l D cs A S a1 a2 e_2) wM_X0_28 wT_X0_bodyFrom wZ_X0 wC_X0_bodyFrom md_X0_bodyFrom ⟨rfl, rfl, by show _ ≤ _; simp only [z_rmA, z_rm]; omega, by show _ ≤ _; simp only [z_rmA, z_rm]; omega⟩ rfl hl.1 rfl (Nat.le_of_ble_eq_true rfl) dX0_run_2 ⟨Nat.le_of_ble_eq_true rfl, Nat.le_of_ble_eq_true rfl⟩ (fun H locs hP hS => ?_)
  show W p l e (z_rmA (F + 1) (L + 100) 0 0) s m args below meth c H locs (0) (0) Q (F0 m 5 ls [.int r_1])
  refine lv_istore (lv' := [(6, .int r_1), (0, .ref o), (1, .ref a0), (2, .int a1), (3, .int a2), (4, .int a3), (5, .int a4)]) hx hb dX0_run_5 hl (by decide) rfl (fun ls hl => ?_)
  refine lv_iload hx hb dX0_run_7 (lv_at hl 0 rfl) ?_
  refine lv_if_eq (tgt := 19) hx hb dX0_run_9 (by decide) (fun c_9 => ?_) (fun c_9 => ?_)
  · replace h := z_ip_ c_9 h
    refine lv_iload hx hb dX0_run_19 (lv_at hl 5 rfl) ?_
    cases h
    rw [hQ]
    exact g_reti hc hr hlocks hP hS dX0_run_21
  · replace h := z_in_ c_9 h
    refine lv_iload hx hb dX0_run_12 (lv_at hl 6 rfl) ?_
    refine lv_bipush (v := 20) hx hb dX0_run_14 (by decide) ?_
    refine lv_icmp_le (tgt := 22) hx hb dX0_run_16 (by decide) (fun c_16 => ?_) (fun c_16 => ?_)
    · replace h := z_ip_ c_16 h
      refine lv_aload_n hx hb dX0_run_22 rfl (lv_at hl 1 rfl) ?_
      obtain ⟨f_2, ef_2, h⟩ := z_bd_some h
      refine g_get (ci := 0) (k := 1) (v := .int f_2) hc hP rfl z_inX0 (by decide) wF_X0_15 (g_i_v ef_2) dX0_run_23 ?_
      refine lv_bipush (v := 50) hx hb dX0_run_26 (by decide) ?_
      obtain ⟨S_3, hJ, h⟩ := z_bd_some h
      have J_52 : ∀ (H : Heap) (locs : List Loc) (ls : Array Slot), g_P D cs A S_3 H → va_S A s.heap H locs → lv_has ls 7 [(0, .ref o), (1, .ref a0), (4, .int a3), (5, .int a4), (6, .int r_1)] → W p l e (z_rmA (F + 1) (L + 100) 0 0) s m args below meth c H locs (0) (0) Q (F0 m 52 ls []) := by
        intro H locs ls hP hS hl
        refine lv_aload_n hx hb dX0_run_52 rfl (lv_at hl 0 rfl) ?_
        refine lv_aload_n hx hb dX0_run_53 rfl (lv_at hl 1 rfl) ?_
        refine lv_iload hx hb dX0_run_54 (lv_at hl 4 rfl) ?_
        refine lv_iload hx hb dX0_run_56 (lv_at hl 2 rfl) ?_
        refine lv_iload hx hb dX0_run_58 (lv_at hl 3 rfl) ?_
        refine lv_iconst (v := 1) hx hb dX0_run_60 (by decide) ?_
        refine lv_iadd hx hb dX0_run_61 ?_
        obtain ⟨ho_62, h⟩ := z_chk_some h
        obtain ⟨vs_, ho_62⟩ := Option.isSome_iff_exists.mp ho_62
        obtain ⟨r_10, S_9, e_62, h⟩ := z_bd2_some h
        refine g_callV (ci := 0) (As := [.ref a0, .int r_1, .int a3, .int (a4 + (1 : Int32))]) (rv := (some (.int r_10))) (n := 4) hc hP hS rfl ho_62 (IH S_3 o a0 r_1 a3 (a4 + (1 : Int32)) e_62) wM_X0_32 wI_X0_runBody wS_X0_runBody wZ_X0 wC_X0_runBody md_X0_runBody ⟨rfl, rfl, by show _ ≤ _; simp only [z_rmA, z_rm]; omega, by show _ ≤ _; simp only [z_rmA, z_rm]; omega⟩ rfl hl.1 rfl (Nat.le_of_ble_eq_true rfl) dX0_run_62 ⟨Nat.le_of_ble_eq_true rfl, Nat.le_of_ble_eq_true rfl⟩ (fun H locs hP hS => ?_)
        show W p l e (z_rmA (F + 1) (L + 100) 0 0) s m args below meth c H locs (0) (0) Q (F0 m 65 ls [.int r_10])
        cases h
        rw [hQ]
        exact g_reti hc hr hlocks hP hS dX0_run_65
      clear h
      have h := hJ
      clear hJ
      refine lv_icmp_ge (tgt := 52) hx hb dX0_run_28 (by decide) (fun c_28 => ?_) (fun c_28 => ?_)
      · replace h := z_ip_ c_28 h
        cases h
        exact J_52 H locs ls hP hS (lv_sub hl [1, 2, 5, 6, 0] rfl)
      · replace h := z_in_ c_28 h
        refine lv_aload_n hx hb dX0_run_31 rfl (lv_at hl 1 rfl) ?_
        obtain ⟨f_4, ef_4, h⟩ := z_bd_some h
        refine g_get (ci := 0) (k := 0) (v := .ref f_4) hc hP rfl z_inX0 (by decide) wF_X0_9 (g_r_v ef_4) dX0_run_32 ?_
        refine lv_aload_n hx hb dX0_run_35 rfl (lv_at hl 1 rfl) ?_
        obtain ⟨f_5, ef_5, h⟩ := z_bd_some h
        refine g_get (ci := 0) (k := 1) (v := .int f_5) hc hP rfl z_inX0 (by decide) wF_X0_15 (g_i_v ef_5) dX0_run_36 ?_
        refine lv_iload hx hb dX0_run_39 (lv_at hl 0 rfl) ?_
        obtain ⟨S_6, eS_6, h⟩ := z_bd_some h
        refine g_iast hc hP hS eS_6 dX0_run_41 (fun H locs hP hS => ?_)
        refine lv_aload_n hx hb dX0_run_42 rfl (lv_at hl 1 rfl) ?_
        refine lv_dup hx hb dX0_run_43 rfl ?_
        obtain ⟨f_7, ef_7, h⟩ := z_bd_some h
        refine g_get (ci := 0) (k := 1) (v := .int f_7) hc hP rfl z_inX0 (by decide) wF_X0_15 (g_i_v ef_7) dX0_run_44 ?_
        refine lv_iconst (v := 1) hx hb dX0_run_47 (by decide) ?_
        refine lv_iadd hx hb dX0_run_48 ?_
        obtain ⟨S_8, eS_8, h⟩ := z_bd_some h
        refine g_putf (ci := 0) (k := 1) (ty := .int) tyX0 hc hP hS rfl z_inX0 tyX0_ok nmX0 (by decide) wF_X0_15 rfl (by decide +kernel) rfl rfl eS_8 dX0_run_49 (fun H locs hP hS => ?_)
        cases h
        exact J_52 H locs ls hP hS (lv_sub hl [1, 2, 5, 6, 0] rfl)
    · replace h := z_in_ c_16 h
      refine lv_iload hx hb dX0_run_19 (lv_at hl 5 rfl) ?_
      cases h
      rw [hQ]
      exact g_reti hc hr hlocks hP hS dX0_run_21
noncomputable def f_X0_run : Nat → GS → Nat → Nat → Int32 → Int32 → Int32 → Int32 → Option (Int32 × GS)
  | 0 => fun _ _ _ _ _ _ _ => none
  | n + 1 => fun S o a0 a1 a2 a3 a4 => f_X0_runR (f_X0_runBodyR (f_X0_run n)) S o a0 a1 a2 a3 a4
theorem mt_X0_run (l : Launch) (D : va_G) (cs : Nat → ClassId) (A : Nat → Prop) (n : Nat) : ∀ (S : GS) (o a0 : Nat) (a1 a2 a3 a4 : Int32) {r_ : Int32} {N_ : GS}, f_X0_run n S o a0 a1 a2 a3 a4 = some (r_, N_) → Met l yX0_run (z_wd yX0_run cX0_run 7 (some .int)) (z_rmA (2 * n) (200 * n) 0 0) (va_Pc [.ref o, .ref a0, .int a1, .int a2, .int a3, .int a4] (g_C D cs A S)) (g_Q (some (.int r_)) N_ D cs A) 0 0 A := by
  induction n with
  | zero => intro S o a0 a1 a2 a3 a4 r_ N_ h; cases h
  | succ n ih =>
    intro S o a0 a1 a2 a3 a4 r_ N_ h
    exact mt_X0_runR l D cs A (recf := f_X0_runBodyR (f_X0_run n)) (F := 2 * n + 1) (L := 200 * n + 100) (fun S o a0 a1 a2 a3 r_ N_ hb => mt_X0_runBodyR l D cs A (recf := f_X0_run n) (F := 2 * n) (L := 200 * n) (fun S o a0 a1 a2 a3 a4 r_ N_ hr => ih S o a0 a1 a2 a3 a4 hr) S o a0 a1 a2 a3 hb) S o a0 a1 a2 a3 a4 h
noncomputable def f_X0_start (S : GS) (o : Nat) (a0 : Nat) (a1 : Int32) (a2 : Int32) : Option ((Int32) × GS) :=
  z_bd (g_put S 0 1 o (.int (0 : Int32))) fun S_1 => z_bd (g_i S_1 1 1 a0) fun f_2 => z_chk (g_is S_1 0 o) (z_bd2 (f_X0_run 24 S_1 o a0 f_2 a1 a2 (0 : Int32)) fun r_4 S_3 => some (r_4, S_3))
set_option maxHeartbeats 4000000 in
set_option maxRecDepth 100000 in
theorem mt_X0_start (l : Launch) (D : va_G) (cs : Nat → ClassId) (A : Nat → Prop) (S : GS) (o : Nat) (a0 : Nat) (a1 : Int32) (a2 : Int32) {r_ : Int32} {N_ : GS} (h : f_X0_start S o a0 a1 a2 = some (r_, N_)) : Met l yX0_start (z_wd yX0_start cX0_start 4 (some .int)) (z_rmA 49 4842 0 0) (va_Pc [.ref o, .ref a0, .int a1, .int a2] (g_C D cs A S)) (g_Q (some (.int r_)) N_ D cs A) 0 0 A := by
  refine Met.ofW (cc := cX0_start) (maxL := 4) (ret := (some .int)) (by decide) rfl ?_
  intro p e s m args below meth c s₁ B hml hv
  obtain ⟨hav, hP0, hK, hN, hSt, hAn⟩ := hv
  have hx := B.exec
  have hb := B.bytes
  have hr := B.returns
  have hts := atoms_spec (ws := z_wd yX0_start cX0_start 4 (some .int)) B.pre
  have hown : s.vm.findClass RX0 = some m.cls := findClass_of_methodNamed B.named
  have hlocks := B.notSynchronized
  have hc : g_X p s m args c cX0_start 4 RX0 D cs A := ⟨⟨hx, hb, hml, fun w hw => hts w (List.mem_cons_of_mem _ hw), hown⟩, hK, hN, hSt, hAn⟩
  have hl := lv_entry ([.ref o, .ref a0, .int a1, .int a2]) (n := 4) (Nat.le_of_ble_eq_true rfl)
  have hE : entryFrame m args 4 = F0 m 0 ((lg_sl ([.ref o, .ref a0, .int a1, .int a2]) ++ List.replicate (4 - (lg_sl ([.ref o, .ref a0, .int a1, .int a2])).length) Slot.unset).toArray) [] := by rw [hav]; exact lg_entry_eq m _ _
  rw [hE]
  clear hE hav
  generalize (lg_sl ([.ref o, .ref a0, .int a1, .int a2]) ++ List.replicate (4 - (lg_sl ([.ref o, .ref a0, .int a1, .int a2])).length) Slot.unset).toArray = ls at hl ⊢
  have hl : lv_has ls 4 [(0, .ref o), (1, .ref a0), (2, .int a1), (3, .int a2)] := hl
  obtain ⟨Q, hQ⟩ : ∃ Q, Q = MQ below (g_Q (some (.int r_)) N_ D cs A) args s 0 0 A := ⟨_, rfl⟩
  rw [← hQ]
  suffices hmain : ∀ (H : Heap) (locs : List Loc), g_P D cs A S H → va_S A s.heap H locs → W p l e (z_rmA 49 4842 0 0) s m args below meth c H locs 0 0 Q (F0 m 0 ls []) from hmain s.heap [] hP0 va_S.rf
  clear hP0
  intro H locs hP hS
  unfold f_X0_start at h
  refine lv_aload_n hx hb dX0_start_0 rfl (lv_at hl 0 rfl) ?_
  refine lv_iconst (v := 0) hx hb dX0_start_1 (by decide) ?_
  obtain ⟨S_1, eS_1, h⟩ := z_bd_some h
  refine g_putf (ci := 0) (k := 1) (ty := .int) tyX0 hc hP hS rfl z_inX0 tyX0_ok nmX0 (by decide) wF_X0_15 rfl (by decide +kernel) rfl rfl eS_1 dX0_start_2 (fun H locs hP hS => ?_)
  refine lv_aload_n hx hb dX0_start_5 rfl (lv_at hl 0 rfl) ?_
  refine lv_aload_n hx hb dX0_start_6 rfl (lv_at hl 1 rfl) ?_
  refine lv_aload_n hx hb dX0_start_7 rfl (lv_at hl 1 rfl) ?_
  obtain ⟨f_2, ef_2, h⟩ := z_bd_some h
  refine g_getN (ci := 1) (k := 1) (v := .int f_2) hc hP rfl z_inX1 (by decide) wG_X0_19 (g_i_v ef_2) dX0_start_8 ?_
  refine lv_iload_n hx hb dX0_start_11 rfl (lv_at hl 2 rfl) ?_
  refine lv_iload_n hx hb dX0_start_12 rfl (lv_at hl 3 rfl) ?_
  refine lv_iconst (v := 0) hx hb dX0_start_13 (by decide) ?_
  obtain ⟨ho_14, h⟩ := z_chk_some h
  obtain ⟨vs_, ho_14⟩ := Option.isSome_iff_exists.mp ho_14
  obtain ⟨r_4, S_3, e_14, h⟩ := z_bd2_some h
  refine g_callV (ci := 0) (As := [.ref a0, .int f_2, .int a1, .int a2, .int (0 : Int32)]) (rv := (some (.int r_4))) (n := 5) hc hP hS rfl ho_14 (mt_X0_run l D cs A 24 S_1 o a0 f_2 a1 a2 (0 : Int32) e_14) wM_X0_24 wI_X0_run wS_X0_run wZ_X0 wC_X0_run md_X0_run ⟨rfl, rfl, Nat.le_of_ble_eq_true rfl, Nat.le_of_ble_eq_true rfl⟩ rfl hl.1 rfl (Nat.le_of_ble_eq_true rfl) dX0_start_14 ⟨Nat.le_of_ble_eq_true rfl, Nat.le_of_ble_eq_true rfl⟩ (fun H locs hP hS => ?_)
  show W p l e (z_rmA 49 4842 0 0) s m args below meth c H locs (0) (0) Q (F0 m 17 ls [.int r_4])
  cases h
  rw [hQ]
  exact g_reti hc hr hlocks hP hS dX0_start_17
theorem md_X0_start : yX0_start.cls ≠ "java/lang/invoke/MethodHandle" ∧ yX0_start.cls ≠ "java/lang/invoke/VarHandle" ∧ (parseMethodDescriptor yX0_start.desc).map (fun d => d.parameters.length) = some 3 := by decide +kernel
noncomputable def f_J9_max_7cf53 (a0 : Int32) (a1 : Int32) : Option (Int32) :=
  if a0 < a1 then some a1 else some a0
set_option maxHeartbeats 4000000 in
set_option maxRecDepth 100000 in
theorem mt_J9_max_7cf53 (l : Launch) (a0 : Int32) (a1 : Int32) {r_ : Int32} (h : f_J9_max_7cf53 a0 a1 = some r_) : Met l yJ9_max_7cf53 (z_wd yJ9_max_7cf53 cJ9_max_7cf53 2 (some .int)) (z_rm 0 0) (va_Pc [.int a0, .int a1] (fun _ => True)) (vp_Si (fun r1 : Int32 => r1 = r_)) 0 0 (fun _ => False) := by
  refine z_ofWF (cc := cJ9_max_7cf53) (maxL := 2) (ret := (some .int)) (by decide +kernel) rfl ?_
  intro p e s m args below meth c s₁ B hml hv
  obtain ⟨hav, -⟩ := hv
  have hx := B.exec
  have hb := B.bytes
  have hr := B.returns
  have hts := atoms_spec (ws := z_wd yJ9_max_7cf53 cJ9_max_7cf53 2 (some .int)) B.pre
  have hown : s.vm.findClass RJ9 = some m.cls := findClass_of_methodNamed B.named
  have hlocks := B.notSynchronized
  have hc : s_X p s m args c cJ9_max_7cf53 2 RJ9 := ⟨hx, hb, hml, fun w hw => hts w (List.mem_cons_of_mem _ hw), hown⟩
  have hl := lv_entry ([.int a0, .int a1]) (n := 2) (Nat.le_of_ble_eq_true rfl)
  have hE : entryFrame m args 2 = F0 m 0 ((lg_sl ([.int a0, .int a1]) ++ List.replicate (2 - (lg_sl ([.int a0, .int a1])).length) Slot.unset).toArray) [] := by rw [hav]; exact lg_entry_eq m _ _
  rw [hE]
  clear hE hav
  generalize (lg_sl ([.int a0, .int a1]) ++ List.replicate (2 - (lg_sl ([.int a0, .int a1])).length) Slot.unset).toArray = ls at hl ⊢
  have hl : lv_has ls 2 [(0, .int a0), (1, .int a1)] := hl
  obtain ⟨Q, hQ⟩ : ∃ Q, Q = MQ below (vp_Si (fun r1 : Int32 => r1 = r_)) args s 0 0 (fun _ => False) := ⟨_, rfl⟩
  rw [← hQ]
  show W p l e (z_rm 0 0) s m args below meth c s.heap [] 0 0 Q (F0 m 0 ls [])
  unfold f_J9_max_7cf53 at h
  refine lv_iload_n hx hb dJ9_max_7cf53_0 rfl (lv_at hl 0 rfl) ?_
  refine lv_iload_n hx hb dJ9_max_7cf53_1 rfl (lv_at hl 1 rfl) ?_
  refine lv_icmp_lt (tgt := 9) hx hb dJ9_max_7cf53_2 (by decide) (fun c_2 => ?_) (fun c_2 => ?_)
  · replace h := z_ip_ c_2 h
    refine lv_iload_n hx hb dJ9_max_7cf53_9 rfl (lv_at hl 1 rfl) ?_
    cases h
    rw [hQ]
    exact s_reti hc hr hlocks dJ9_max_7cf53_10
  · replace h := z_in_ c_2 h
    refine lv_iload_n hx hb dJ9_max_7cf53_5 rfl (lv_at hl 0 rfl) ?_
    refine lv_goto (tgt := 10) hx hb dJ9_max_7cf53_6 (by decide) ?_
    cases h
    rw [hQ]
    exact s_reti hc hr hlocks dJ9_max_7cf53_10
theorem md_J9_max_7cf53 : yJ9_max_7cf53.cls ≠ "java/lang/invoke/MethodHandle" ∧ yJ9_max_7cf53.cls ≠ "java/lang/invoke/VarHandle" ∧ (parseMethodDescriptor yJ9_max_7cf53.desc).map (fun d => d.parameters.length) = some 2 := by decide +kernel
noncomputable def f_X4_init (S : GS) (o : Nat) : Option (GS) :=
  z_bd (g_put S 4 0 o (.long (0 : Int64))) fun S_1 => z_bd (g_put S_1 4 1 o (.long (0 : Int64))) fun S_2 => z_bd (g_put S_2 4 2 o (.long (0 : Int64))) fun S_3 => z_bd (g_put S_3 4 3 o (.long (1 : Int64))) fun S_4 => some S_4
set_option maxHeartbeats 4000000 in
set_option maxRecDepth 100000 in
theorem mt_X4_init (l : Launch) (D : va_G) (cs : Nat → ClassId) (A : Nat → Prop) (S : GS) (o : Nat) {N_ : GS} (h : f_X4_init S o = some N_) : Met l yX4_init (z_wd yX4_init cX4_init 1 none) (z_rmA 1 40 0 0) (va_Pc [.ref o] (g_C D cs A S)) (g_Q none N_ D cs A) 0 0 A := by
  refine Met.ofW (cc := cX4_init) (maxL := 1) (ret := none) (by decide) rfl ?_
  intro p e s m args below meth c s₁ B hml hv
  obtain ⟨hav, hP0, hK, hN, hSt, hAn⟩ := hv
  have hx := B.exec
  have hb := B.bytes
  have hr := B.returns
  have hts := atoms_spec (ws := z_wd yX4_init cX4_init 1 none) B.pre
  have hown : s.vm.findClass RX4 = some m.cls := findClass_of_methodNamed B.named
  have hlocks := B.notSynchronized
  have hin : meth.name = "<init>" := (name_of_methodNamed B.named B.method).1
  have hc : g_X p s m args c cX4_init 1 RX4 D cs A := ⟨⟨hx, hb, hml, fun w hw => hts w (List.mem_cons_of_mem _ hw), hown⟩, hK, hN, hSt, hAn⟩
  have hl := lv_entry ([.ref o]) (n := 1) (Nat.le_of_ble_eq_true rfl)
  have hE : entryFrame m args 1 = F0 m 0 ((lg_sl ([.ref o]) ++ List.replicate (1 - (lg_sl ([.ref o])).length) Slot.unset).toArray) [] := by rw [hav]; exact lg_entry_eq m _ _
  rw [hE]
  clear hE hav
  generalize (lg_sl ([.ref o]) ++ List.replicate (1 - (lg_sl ([.ref o])).length) Slot.unset).toArray = ls at hl ⊢
  have hl : lv_has ls 1 [(0, .ref o)] := hl
  obtain ⟨Q, hQ⟩ : ∃ Q, Q = MQ below (g_Q none N_ D cs A) args s 0 0 A := ⟨_, rfl⟩
  rw [← hQ]
  suffices hmain : ∀ (H : Heap) (locs : List Loc), g_P D cs A S H → va_S A s.heap H locs → W p l e (z_rmA 1 40 0 0) s m args below meth c H locs 0 0 Q (F0 m 0 ls []) from hmain s.heap [] hP0 va_S.rf
  clear hP0
  intro H locs hP hS
  unfold f_X4_init at h
  refine lv_aload_n hx hb dX4_init_0 rfl (lv_at hl 0 rfl) ?_
  refine g_obj hc wM_X4_1 hl.1 (Nat.le_of_ble_eq_true rfl) (Nat.le_of_ble_eq_true rfl) dX4_init_1 ?_
  show W p l e (z_rmA 1 40 0 0) s m args below meth c H locs (0) (0) Q (F0 m 4 ls [])
  refine lv_aload_n hx hb dX4_init_4 rfl (lv_at hl 0 rfl) ?_
  refine lv_lconst (v := 0) hx hb dX4_init_5 (by decide) ?_
  obtain ⟨S_1, eS_1, h⟩ := z_bd_some h
  refine g_putf (ci := 4) (k := 0) (ty := .long) tyX4 hc hP hS rfl z_inX4 tyX4_ok nmX4 (by decide) wF_X4_7 rfl (by decide +kernel) rfl rfl eS_1 dX4_init_6 (fun H locs hP hS => ?_)
  refine lv_aload_n hx hb dX4_init_9 rfl (lv_at hl 0 rfl) ?_
  refine lv_lconst (v := 0) hx hb dX4_init_10 (by decide) ?_
  obtain ⟨S_2, eS_2, h⟩ := z_bd_some h
  refine g_putf (ci := 4) (k := 1) (ty := .long) tyX4 hc hP hS rfl z_inX4 tyX4_ok nmX4 (by decide) wF_X4_13 rfl (by decide +kernel) rfl rfl eS_2 dX4_init_11 (fun H locs hP hS => ?_)
  refine lv_aload_n hx hb dX4_init_14 rfl (lv_at hl 0 rfl) ?_
  refine lv_lconst (v := 0) hx hb dX4_init_15 (by decide) ?_
  obtain ⟨S_3, eS_3, h⟩ := z_bd_some h
  refine g_putf (ci := 4) (k := 2) (ty := .long) tyX4 hc hP hS rfl z_inX4 tyX4_ok nmX4 (by decide) wF_X4_16 rfl (by decide +kernel) rfl rfl eS_3 dX4_init_16 (fun H locs hP hS => ?_)
  refine lv_aload_n hx hb dX4_init_19 rfl (lv_at hl 0 rfl) ?_
  refine lv_lconst (v := 1) hx hb dX4_init_20 (by decide) ?_
  obtain ⟨S_4, eS_4, h⟩ := z_bd_some h
  refine g_putf (ci := 4) (k := 3) (ty := .long) tyX4 hc hP hS rfl z_inX4 tyX4_ok nmX4 (by decide) wF_X4_19 rfl (by decide +kernel) rfl rfl eS_4 dX4_init_21 (fun H locs hP hS => ?_)
  cases h
  rw [hQ]
  exact g_retv hc hr hlocks hP hS dX4_init_24
theorem md_X4_init : yX4_init.cls ≠ "java/lang/invoke/MethodHandle" ∧ yX4_init.cls ≠ "java/lang/invoke/VarHandle" ∧ (parseMethodDescriptor yX4_init.desc).map (fun d => d.parameters.length) = some 0 := by decide +kernel
