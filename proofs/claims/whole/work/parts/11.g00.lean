noncomputable def f_X0_init (S : GS) (o : Nat) : Option (GS) :=
  z_lt (g_nw S (.inl (50, fun _ => 0))) fun S_1 => z_bd (g_put S_1 0 0 o (.ref S.2)) fun S_2 => z_bd (g_put S_2 0 1 o (.int (0 : Int32))) fun S_3 => some S_3
set_option maxHeartbeats 4000000 in
set_option maxRecDepth 100000 in
theorem mt_X0_init (l : Launch) (D : va_G) (cs : Nat → ClassId) (A : Nat → Prop) (S : GS) (o : Nat) {N_ : GS} (h : f_X0_init S o = some N_) : Met l yX0_init (z_wd yX0_init cX0_init 1 none) (z_rmA 1 40 1 50) (va_Pc [.ref o] (g_C D cs A S)) (g_Q none N_ D cs A) 1 50 A := by
  refine Met.ofW (cc := cX0_init) (maxL := 1) (ret := none) (by decide) rfl ?_
  intro p e s m args below meth c s₁ B hml hv
  obtain ⟨hav, hP0, hK, hN, hSt, hAn⟩ := hv
  have hx := B.exec
  have hb := B.bytes
  have hr := B.returns
  have hts := atoms_spec (ws := z_wd yX0_init cX0_init 1 none) B.pre
  have hown : s.vm.findClass RX0 = some m.cls := findClass_of_methodNamed B.named
  have hlocks := B.notSynchronized
  have hin : meth.name = "<init>" := (name_of_methodNamed B.named B.method).1
  have hc : g_X p s m args c cX0_init 1 RX0 D cs A := ⟨⟨hx, hb, hml, fun w hw => hts w (List.mem_cons_of_mem _ hw), hown⟩, hK, hN, hSt, hAn⟩
  have hl := lv_entry ([.ref o]) (n := 1) (Nat.le_of_ble_eq_true rfl)
  have hE : entryFrame m args 1 = F0 m 0 ((lg_sl ([.ref o]) ++ List.replicate (1 - (lg_sl ([.ref o])).length) Slot.unset).toArray) [] := by rw [hav]; exact lg_entry_eq m _ _
  rw [hE]
  clear hE hav
  generalize (lg_sl ([.ref o]) ++ List.replicate (1 - (lg_sl ([.ref o])).length) Slot.unset).toArray = ls at hl ⊢
  have hl : lv_has ls 1 [(0, .ref o)] := hl
  obtain ⟨Q, hQ⟩ : ∃ Q, Q = MQ below (g_Q none N_ D cs A) args s 1 50 A := ⟨_, rfl⟩
  rw [← hQ]
  suffices hmain : ∀ (H : Heap) (locs : List Loc), g_P D cs A S H → va_S A s.heap H locs → W p l e (z_rmA 1 40 1 50) s m args below meth c H locs 0 0 Q (F0 m 0 ls []) from hmain s.heap [] hP0 va_S.rf
  clear hP0
  intro H locs hP hS
  unfold f_X0_init at h
  refine lv_aload_n hx hb dX0_init_0 rfl (lv_at hl 0 rfl) ?_
  refine g_obj hc wM_X0_3 hl.1 (Nat.le_of_ble_eq_true rfl) (Nat.le_of_ble_eq_true rfl) dX0_init_1 ?_
  show W p l e (z_rmA 1 40 1 50) s m args below meth c H locs (0) (0) Q (F0 m 4 ls [])
  refine lv_aload_n hx hb dX0_init_4 rfl (lv_at hl 0 rfl) ?_
  refine lv_bipush (v := 50) hx hb dX0_init_5 (by decide) ?_
  obtain ⟨S_1, eS_1, h⟩ := z_lt_some h
  refine g_newI (N' := 50) hc hP hS wY_int (by decide) (by decide) (by decide) (Nat.le_of_ble_eq_true rfl) (Nat.le_of_ble_eq_true rfl) eS_1 dX0_init_7 (fun H hP hS => ?_)
  show W p l e (z_rmA 1 40 1 50) s m args below meth c H locs (1) (50) Q (F0 m 9 ls [.ref S.2, .ref o])
  obtain ⟨S_2, eS_2, h⟩ := z_bd_some h
  refine g_putF (ci := 0) (k := 0) (ty := (.array .int)) tyX0 hc hP hS rfl z_inX0 tyX0_ok nmX0 (by decide) wF_X0_9 rfl hin rfl (by decide +kernel) rfl rfl eS_2 dX0_init_9 (fun H locs hP hS => ?_)
  refine lv_aload_n hx hb dX0_init_12 rfl (lv_at hl 0 rfl) ?_
  refine lv_iconst (v := 0) hx hb dX0_init_13 (by decide) ?_
  obtain ⟨S_3, eS_3, h⟩ := z_bd_some h
  refine g_putf (ci := 0) (k := 1) (ty := .int) tyX0 hc hP hS rfl z_inX0 tyX0_ok nmX0 (by decide) wF_X0_15 rfl (by decide +kernel) rfl rfl eS_3 dX0_init_14 (fun H locs hP hS => ?_)
  cases h
  rw [hQ]
  exact g_retv hc hr hlocks hP hS dX0_init_17
theorem md_X0_init : yX0_init.cls ≠ "java/lang/invoke/MethodHandle" ∧ yX0_init.cls ≠ "java/lang/invoke/VarHandle" ∧ (parseMethodDescriptor yX0_init.desc).map (fun d => d.parameters.length) = some 0 := by decide +kernel
noncomputable def f_X0_bodyFrom_L4 (a1 : Int32) (x2_1 : Int32) (x3_2 : Int32) : Option (((Int32) ⊕ (Unit)) ⊕ (Int32 × Int32)) :=
  if (5 : Int32) ≤ x3_2 then some (.inl (.inr ())) else if x2_1 < 0 then some (.inl (.inr ())) else if (5 : Int32) ≤ x2_1 then some (.inl (.inr ())) else z_chk (z_in ((x2_1 * (4 : Int32)) + a1) 20) (if (z_bo ((x2_1 * (4 : Int32)) + a1).toNatClampNeg) = 0 then z_chk (z_in x2_1 5) (some (.inr ((z_ka x2_1.toNatClampNeg), (x3_2 + 1)))) else some (.inl (.inl (z_bo ((x2_1 * (4 : Int32)) + a1).toNatClampNeg))))
noncomputable def f_X0_bodyFrom (S : GS) (a0 : Int32) (a1 : Int32) : Option (Int32) :=
  z_bs (z_lp (fun x => f_X0_bodyFrom_L4 a1 x.1 x.2) (a0, (0 : Int32))) fun y => some (0 : Int32)
set_option maxHeartbeats 4000000 in
set_option maxRecDepth 100000 in
theorem mt_X0_bodyFrom (l : Launch) (D : va_G) (cs : Nat → ClassId) (A : Nat → Prop) (S : GS) (a0 : Int32) (a1 : Int32) {r_ : Int32} (h : f_X0_bodyFrom S a0 a1 = some r_) : Met l yX0_bodyFrom (z_wd yX0_bodyFrom cX0_bodyFrom 5 (some .int)) (z_rmA 0 0 0 0) (va_Pc [.int a0, .int a1] (g_C D cs A S)) (g_Q (some (.int r_)) S D cs A) 0 0 A := by
  refine Met.ofW (cc := cX0_bodyFrom) (maxL := 5) (ret := (some .int)) (by decide) rfl ?_
  intro p e s m args below meth c s₁ B hml hv
  obtain ⟨hav, hP0, hK, hN, hSt, hAn⟩ := hv
  have hx := B.exec
  have hb := B.bytes
  have hr := B.returns
  have hts := atoms_spec (ws := z_wd yX0_bodyFrom cX0_bodyFrom 5 (some .int)) B.pre
  have hown : s.vm.findClass RX0 = some m.cls := findClass_of_methodNamed B.named
  have hlocks := B.notSynchronized
  have hc : g_X p s m args c cX0_bodyFrom 5 RX0 D cs A := ⟨⟨hx, hb, hml, fun w hw => hts w (List.mem_cons_of_mem _ hw), hown⟩, hK, hN, hSt, hAn⟩
  obtain ⟨⟨t1_, hZ1, hT1⟩, ⟨t2_, hZ2, hT2⟩⟩ := id hSt
  have hl := lv_entry ([.int a0, .int a1]) (n := 5) (Nat.le_of_ble_eq_true rfl)
  have hE : entryFrame m args 5 = F0 m 0 ((lg_sl ([.int a0, .int a1]) ++ List.replicate (5 - (lg_sl ([.int a0, .int a1])).length) Slot.unset).toArray) [] := by rw [hav]; exact lg_entry_eq m _ _
  rw [hE]
  clear hE hav
  generalize (lg_sl ([.int a0, .int a1]) ++ List.replicate (5 - (lg_sl ([.int a0, .int a1])).length) Slot.unset).toArray = ls at hl ⊢
  have hl : lv_has ls 5 [(0, .int a0), (1, .int a1)] := hl
  obtain ⟨Q, hQ⟩ : ∃ Q, Q = MQ below (g_Q (some (.int r_)) S D cs A) args s 0 0 A := ⟨_, rfl⟩
  rw [← hQ]
  suffices hmain : ∀ (H : Heap) (locs : List Loc), g_P D cs A S H → va_S A s.heap H locs → W p l e (z_rmA 0 0 0 0) s m args below meth c H locs 0 0 Q (F0 m 0 ls []) from hmain s.heap [] hP0 va_S.rf
  clear hP0
  intro H locs hP hS
  unfold f_X0_bodyFrom at h
  refine lv_iload_n hx hb dX0_bodyFrom_0 rfl (lv_at hl 0 rfl) ?_
  refine lv_istore_n (lv' := [(2, .int a0), (0, .int a0), (1, .int a1)]) hx hb dX0_bodyFrom_1 rfl hl (by decide) rfl (fun ls hl => ?_)
  refine lv_iconst (v := 0) hx hb dX0_bodyFrom_2 (by decide) ?_
  refine lv_istore_n (lv' := [(3, .int (0 : Int32)), (2, .int a0), (0, .int a0), (1, .int a1)]) hx hb dX0_bodyFrom_3 rfl hl (by decide) rfl (fun ls hl => ?_)
  have LP_4 : ∀ ee, z_lp (fun x => f_X0_bodyFrom_L4 a1 x.1 x.2) (a0, (0 : Int32)) = some ee → ((fun z => match z with
      | .inl rr => rr = r_
      | .inr y => ∀ (H : Heap) (locs : List Loc) (ls : Array Slot), g_P D cs A S H → va_S A s.heap H locs → lv_has ls 5 [] → W p l e (z_rmA 0 0 0 0) s m args below meth c H locs (0) (0) Q (F0 m 49 ls []) : (Int32) ⊕ (Unit) → Prop) ee) → W p l e (z_rmA 0 0 0 0) s m args below meth c H locs (0) (0) Q (F0 m 4 ls []) := by
    intro ee hlp hq
    refine z_lp_ind (P := fun x => ∀ (H : Heap) (locs : List Loc) (ls : Array Slot), g_P D cs A S H → va_S A s.heap H locs → lv_has ls 5 [(1, .int a1), (2, .int x.1), (3, .int x.2)] → W p l e (z_rmA 0 0 0 0) s m args below meth c H locs (0) (0) Q (F0 m 4 ls [])) (Qe := fun z => match z with
      | .inl rr => rr = r_
      | .inr y => ∀ (H : Heap) (locs : List Loc) (ls : Array Slot), g_P D cs A S H → va_S A s.heap H locs → lv_has ls 5 [] → W p l e (z_rmA 0 0 0 0) s m args below meth c H locs (0) (0) Q (F0 m 49 ls [])) ?_ hlp hq H locs ls hP hS (lv_sub hl [3, 1, 0] rfl)
    clear h hlp hq hP hS hl
    rintro ⟨x2_1, x3_2⟩ oo h K_4 H locs ls hP hS hl
    have hP : g_P D cs A S H := hP
    have hl : lv_has ls 5 [(1, .int a1), (2, .int x2_1), (3, .int x3_2)] := hl
    have h : f_X0_bodyFrom_L4 a1 x2_1 x3_2 = some oo := h
    unfold f_X0_bodyFrom_L4 at h
    refine lv_iload_n hx hb dX0_bodyFrom_4 rfl (lv_at hl 2 rfl) ?_
    refine lv_iconst (v := 5) hx hb dX0_bodyFrom_5 (by decide) ?_
    refine lv_icmp_ge (tgt := 49) hx hb dX0_bodyFrom_6 (by decide) (fun c_6 => ?_) (fun c_6 => ?_)
    · replace h := z_ip_ c_6 h
      cases h
      exact K_4 H locs ls hP hS (lv_sub hl [] rfl)
    · replace h := z_in_ c_6 h
      refine lv_iload_n hx hb dX0_bodyFrom_9 rfl (lv_at hl 1 rfl) ?_
      refine lv_if_lt (tgt := 49) hx hb dX0_bodyFrom_10 (by decide) (fun c_10 => ?_) (fun c_10 => ?_)
      · replace h := z_ip_ c_10 h
        cases h
        exact K_4 H locs ls hP hS (lv_sub hl [] rfl)
      · replace h := z_in_ c_10 h
        refine lv_iload_n hx hb dX0_bodyFrom_13 rfl (lv_at hl 1 rfl) ?_
        refine lv_iconst (v := 5) hx hb dX0_bodyFrom_14 (by decide) ?_
        refine lv_icmp_ge (tgt := 49) hx hb dX0_bodyFrom_15 (by decide) (fun c_15 => ?_) (fun c_15 => ?_)
        · replace h := z_ip_ c_15 h
          cases h
          exact K_4 H locs ls hP hS (lv_sub hl [] rfl)
        · replace h := z_in_ c_15 h
          refine va_getsN hx hb hZ2 hS hc.1.2.2.2.2 (va_Nw.use rfl (hc.2.2.1.1 _ wG_X0_48)) (fun _ h9 => h9) dX0_bodyFrom_18 ?_
          refine lv_iload_n hx hb dX0_bodyFrom_21 rfl (lv_at hl 1 rfl) ?_
          refine lv_iconst (v := 4) hx hb dX0_bodyFrom_22 (by decide) ?_
          refine lv_imul hx hb dX0_bodyFrom_23 ?_
          refine lv_iload_n hx hb dX0_bodyFrom_24 rfl (lv_at hl 0 rfl) ?_
          refine lv_iadd hx hb dX0_bodyFrom_25 ?_
          obtain ⟨c_26, h⟩ := z_chk_some h
          refine va_ti (v := .int (z_bo ((x2_1 * (4 : Int32)) + a1).toNatClampNeg)) hx hb hT2 hS c_26 rfl dX0_bodyFrom_26 ?_
          refine lv_istore (lv' := [(4, .int (z_bo ((x2_1 * (4 : Int32)) + a1).toNatClampNeg)), (1, .int a1), (2, .int x2_1), (3, .int x3_2)]) hx hb dX0_bodyFrom_27 hl (by decide) rfl (fun ls hl => ?_)
          refine lv_iload hx hb dX0_bodyFrom_29 (lv_at hl 0 rfl) ?_
          refine lv_if_eq (tgt := 37) hx hb dX0_bodyFrom_31 (by decide) (fun c_31 => ?_) (fun c_31 => ?_)
          · replace h := z_ip_ c_31 h
            refine va_getsN hx hb hZ1 hS hc.1.2.2.2.2 (va_Nw.use rfl (hc.2.2.1.1 _ wG_X0_51)) (fun _ h9 => h9) dX0_bodyFrom_37 ?_
            refine lv_iload_n hx hb dX0_bodyFrom_40 rfl (lv_at hl 2 rfl) ?_
            obtain ⟨c_41, h⟩ := z_chk_some h
            refine va_ti (v := .int (z_ka x2_1.toNatClampNeg)) hx hb hT1 hS c_41 rfl dX0_bodyFrom_41 ?_
            refine lv_istore_n (lv' := [(2, .int (z_ka x2_1.toNatClampNeg)), (4, .int (z_bo ((x2_1 * (4 : Int32)) + a1).toNatClampNeg)), (1, .int a1), (3, .int x3_2)]) hx hb dX0_bodyFrom_42 rfl hl (by decide) rfl (fun ls hl => ?_)
            refine lv_iinc (v := (x3_2 + 1)) (lv' := [(3, .int (x3_2 + 1)), (2, .int (z_ka x2_1.toNatClampNeg)), (4, .int (z_bo ((x2_1 * (4 : Int32)) + a1).toNatClampNeg)), (1, .int a1)]) hx hb dX0_bodyFrom_43 hl (k := 3) rfl rfl (by decide) rfl (fun ls hl => ?_)
            refine lv_goto (tgt := 4) hx hb dX0_bodyFrom_46 (by decide) ?_
            cases h
            exact K_4 H locs ls hP hS (lv_sub hl [3, 1, 0] rfl)
          · replace h := z_in_ c_31 h
            refine lv_iload hx hb dX0_bodyFrom_34 (lv_at hl 0 rfl) ?_
            cases h
            have K_4 : (z_bo ((x2_1 * (4 : Int32)) + a1).toNatClampNeg) = r_ := K_4
            cases K_4
            rw [hQ]
            exact g_reti hc hr hlocks hP hS dX0_bodyFrom_36
  rcases z_bs_some h with hlp | ⟨y, hlp, h⟩
  · exact LP_4 _ hlp rfl
  · refine LP_4 _ hlp ?_
    skip
    clear hlp LP_4 hP hS hl
    show ∀ (H : Heap) (locs : List Loc) (ls : Array Slot), g_P D cs A S H → va_S A s.heap H locs → lv_has ls 5 [] → W p l e (z_rmA 0 0 0 0) s m args below meth c H locs (0) (0) Q (F0 m 49 ls [])
    intro H locs ls hP hS hl
    have hP : g_P D cs A S H := hP
    have hl : lv_has ls 5 [] := hl
    refine lv_iconst (v := 0) hx hb dX0_bodyFrom_49 (by decide) ?_
    cases h
    rw [hQ]
    exact g_reti hc hr hlocks hP hS dX0_bodyFrom_50
theorem md_X0_bodyFrom : yX0_bodyFrom.cls ≠ "java/lang/invoke/MethodHandle" ∧ yX0_bodyFrom.cls ≠ "java/lang/invoke/VarHandle" ∧ (parseMethodDescriptor yX0_bodyFrom.desc).map (fun d => d.parameters.length) = some 2 := by decide +kernel
noncomputable def f_J9_max_7cf53 (a0 : Int32) (a1 : Int32) : Option (Int32) :=
  if a0 < a1 then some a1 else some a0
set_option maxHeartbeats 4000000 in
set_option maxRecDepth 100000 in
theorem mt_J9_max_7cf53 (l : Launch) (a0 : Int32) (a1 : Int32) {r_ : Int32} (h : f_J9_max_7cf53 a0 a1 = some r_) : Met l yJ9_max_7cf53 (z_wd yJ9_max_7cf53 cJ9_max_7cf53 2 (some .int)) (z_rm 0 0) (va_Pc [.int a0, .int a1] (fun _ => True)) (vp_Si (fun r1 : Int32 => r1 = r_)) 0 0 (fun _ => False) := by
  refine z_ofWF (cc := cJ9_max_7cf53) (maxL := 2) (ret := (some .int)) (by decide +kernel) rfl ?_
  intro p e s m args below meth c s₁ B hml hv
  obtain ⟨hav, -⟩ := hv
  have hx := B.exec
  have hb := B.bytes
  have hr := B.returns
  have hts := atoms_spec (ws := z_wd yJ9_max_7cf53 cJ9_max_7cf53 2 (some .int)) B.pre
  have hown : s.vm.findClass RJ9 = some m.cls := findClass_of_methodNamed B.named
  have hlocks := B.notSynchronized
  have hc : s_X p s m args c cJ9_max_7cf53 2 RJ9 := ⟨hx, hb, hml, fun w hw => hts w (List.mem_cons_of_mem _ hw), hown⟩
  have hl := lv_entry ([.int a0, .int a1]) (n := 2) (Nat.le_of_ble_eq_true rfl)
  have hE : entryFrame m args 2 = F0 m 0 ((lg_sl ([.int a0, .int a1]) ++ List.replicate (2 - (lg_sl ([.int a0, .int a1])).length) Slot.unset).toArray) [] := by rw [hav]; exact lg_entry_eq m _ _
  rw [hE]
  clear hE hav
  generalize (lg_sl ([.int a0, .int a1]) ++ List.replicate (2 - (lg_sl ([.int a0, .int a1])).length) Slot.unset).toArray = ls at hl ⊢
  have hl : lv_has ls 2 [(0, .int a0), (1, .int a1)] := hl
  obtain ⟨Q, hQ⟩ : ∃ Q, Q = MQ below (vp_Si (fun r1 : Int32 => r1 = r_)) args s 0 0 (fun _ => False) := ⟨_, rfl⟩
  rw [← hQ]
  show W p l e (z_rm 0 0) s m args below meth c s.heap [] 0 0 Q (F0 m 0 ls [])
  unfold f_J9_max_7cf53 at h
  refine lv_iload_n hx hb dJ9_max_7cf53_0 rfl (lv_at hl 0 rfl) ?_
  refine lv_iload_n hx hb dJ9_max_7cf53_1 rfl (lv_at hl 1 rfl) ?_
  refine lv_icmp_lt (tgt := 9) hx hb dJ9_max_7cf53_2 (by decide) (fun c_2 => ?_) (fun c_2 => ?_)
  · replace h := z_ip_ c_2 h
    refine lv_iload_n hx hb dJ9_max_7cf53_9 rfl (lv_at hl 1 rfl) ?_
    cases h
    rw [hQ]
    exact s_reti hc hr hlocks dJ9_max_7cf53_10
  · replace h := z_in_ c_2 h
    refine lv_iload_n hx hb dJ9_max_7cf53_5 rfl (lv_at hl 0 rfl) ?_
    refine lv_goto (tgt := 10) hx hb dJ9_max_7cf53_6 (by decide) ?_
    cases h
    rw [hQ]
    exact s_reti hc hr hlocks dJ9_max_7cf53_10
theorem md_J9_max_7cf53 : yJ9_max_7cf53.cls ≠ "java/lang/invoke/MethodHandle" ∧ yJ9_max_7cf53.cls ≠ "java/lang/invoke/VarHandle" ∧ (parseMethodDescriptor yJ9_max_7cf53.desc).map (fun d => d.parameters.length) = some 2 := by decide +kernel
noncomputable def f_X4_init (S : GS) (o : Nat) : Option (GS) :=
  z_bd (g_put S 4 0 o (.long (0 : Int64))) fun S_1 => z_bd (g_put S_1 4 1 o (.long (0 : Int64))) fun S_2 => z_bd (g_put S_2 4 2 o (.long (0 : Int64))) fun S_3 => z_bd (g_put S_3 4 3 o (.long (1 : Int64))) fun S_4 => some S_4
set_option maxHeartbeats 4000000 in
set_option maxRecDepth 100000 in
theorem mt_X4_init (l : Launch) (D : va_G) (cs : Nat → ClassId) (A : Nat → Prop) (S : GS) (o : Nat) {N_ : GS} (h : f_X4_init S o = some N_) : Met l yX4_init (z_wd yX4_init cX4_init 1 none) (z_rmA 1 40 0 0) (va_Pc [.ref o] (g_C D cs A S)) (g_Q none N_ D cs A) 0 0 A := by
  refine Met.ofW (cc := cX4_init) (maxL := 1) (ret := none) (by decide) rfl ?_
  intro p e s m args below meth c s₁ B hml hv
  obtain ⟨hav, hP0, hK, hN, hSt, hAn⟩ := hv
  have hx := B.exec
  have hb := B.bytes
  have hr := B.returns
  have hts := atoms_spec (ws := z_wd yX4_init cX4_init 1 none) B.pre
  have hown : s.vm.findClass RX4 = some m.cls := findClass_of_methodNamed B.named
  have hlocks := B.notSynchronized
  have hin : meth.name = "<init>" := (name_of_methodNamed B.named B.method).1
  have hc : g_X p s m args c cX4_init 1 RX4 D cs A := ⟨⟨hx, hb, hml, fun w hw => hts w (List.mem_cons_of_mem _ hw), hown⟩, hK, hN, hSt, hAn⟩
  have hl := lv_entry ([.ref o]) (n := 1) (Nat.le_of_ble_eq_true rfl)
  have hE : entryFrame m args 1 = F0 m 0 ((lg_sl ([.ref o]) ++ List.replicate (1 - (lg_sl ([.ref o])).length) Slot.unset).toArray) [] := by rw [hav]; exact lg_entry_eq m _ _
  rw [hE]
  clear hE hav
  generalize (lg_sl ([.ref o]) ++ List.replicate (1 - (lg_sl ([.ref o])).length) Slot.unset).toArray = ls at hl ⊢
  have hl : lv_has ls 1 [(0, .ref o)] := hl
  obtain ⟨Q, hQ⟩ : ∃ Q, Q = MQ below (g_Q none N_ D cs A) args s 0 0 A := ⟨_, rfl⟩
  rw [← hQ]
  suffices hmain : ∀ (H : Heap) (locs : List Loc), g_P D cs A S H → va_S A s.heap H locs → W p l e (z_rmA 1 40 0 0) s m args below meth c H locs 0 0 Q (F0 m 0 ls []) from hmain s.heap [] hP0 va_S.rf
  clear hP0
  intro H locs hP hS
  unfold f_X4_init at h
  refine lv_aload_n hx hb dX4_init_0 rfl (lv_at hl 0 rfl) ?_
  refine g_obj hc wM_X4_1 hl.1 (Nat.le_of_ble_eq_true rfl) (Nat.le_of_ble_eq_true rfl) dX4_init_1 ?_
  show W p l e (z_rmA 1 40 0 0) s m args below meth c H locs (0) (0) Q (F0 m 4 ls [])
  refine lv_aload_n hx hb dX4_init_4 rfl (lv_at hl 0 rfl) ?_
  refine lv_lconst (v := 0) hx hb dX4_init_5 (by decide) ?_
  obtain ⟨S_1, eS_1, h⟩ := z_bd_some h
  refine g_putf (ci := 4) (k := 0) (ty := .long) tyX4 hc hP hS rfl z_inX4 tyX4_ok nmX4 (by decide) wF_X4_7 rfl (by decide +kernel) rfl rfl eS_1 dX4_init_6 (fun H locs hP hS => ?_)
  refine lv_aload_n hx hb dX4_init_9 rfl (lv_at hl 0 rfl) ?_
  refine lv_lconst (v := 0) hx hb dX4_init_10 (by decide) ?_
  obtain ⟨S_2, eS_2, h⟩ := z_bd_some h
  refine g_putf (ci := 4) (k := 1) (ty := .long) tyX4 hc hP hS rfl z_inX4 tyX4_ok nmX4 (by decide) wF_X4_13 rfl (by decide +kernel) rfl rfl eS_2 dX4_init_11 (fun H locs hP hS => ?_)
  refine lv_aload_n hx hb dX4_init_14 rfl (lv_at hl 0 rfl) ?_
  refine lv_lconst (v := 0) hx hb dX4_init_15 (by decide) ?_
  obtain ⟨S_3, eS_3, h⟩ := z_bd_some h
  refine g_putf (ci := 4) (k := 2) (ty := .long) tyX4 hc hP hS rfl z_inX4 tyX4_ok nmX4 (by decide) wF_X4_16 rfl (by decide +kernel) rfl rfl eS_3 dX4_init_16 (fun H locs hP hS => ?_)
  refine lv_aload_n hx hb dX4_init_19 rfl (lv_at hl 0 rfl) ?_
  refine lv_lconst (v := 1) hx hb dX4_init_20 (by decide) ?_
  obtain ⟨S_4, eS_4, h⟩ := z_bd_some h
  refine g_putf (ci := 4) (k := 3) (ty := .long) tyX4 hc hP hS rfl z_inX4 tyX4_ok nmX4 (by decide) wF_X4_19 rfl (by decide +kernel) rfl rfl eS_4 dX4_init_21 (fun H locs hP hS => ?_)
  cases h
  rw [hQ]
  exact g_retv hc hr hlocks hP hS dX4_init_24
theorem md_X4_init : yX4_init.cls ≠ "java/lang/invoke/MethodHandle" ∧ yX4_init.cls ≠ "java/lang/invoke/VarHandle" ∧ (parseMethodDescriptor yX4_init.desc).map (fun d => d.parameters.length) = some 0 := by decide +kernel
noncomputable def f_X1_init (S : GS) (o : Nat) (a0 : Int32) (a1 : Int32) (a2 : Int32) (a3 : Nat) : Option (GS) :=
  z_bd (g_put S 1 0 o (.int a0)) fun S_1 => z_bd (g_put S_1 1 1 o (.int a1)) fun S_2 => z_bd (g_put S_2 1 2 o (.int a2)) fun S_3 => z_bd (g_put S_3 1 3 o (.ref a3)) fun S_4 => z_bd (if a1 = (4 : Int32) then z_bd (g_i S_4 3 3 a3) fun f_6 => z_bd (f_J9_max_7cf53 f_6 (1 : Int32)) fun r_7 => some (r_7) else some ((1 : Int32))) fun v_5 => z_chk (z_sz v_5 12) (z_lt (g_nw S_4 (.inr (.inr (.inl (3, v_5.toNatClampNeg, fun _ => none))))) fun S_8 => z_bd (g_put S_8 1 4 o (.ref S_4.2)) fun S_9 => z_chk (z_sz v_5 12) (z_lt (g_nw S_9 (.inl (v_5.toNatClampNeg, fun _ => 0))) fun S_10 => z_bd (g_put S_10 1 5 o (.ref S_9.2)) fun S_11 => z_bd (g_r S_11 1 4 o) fun f_12 => z_lt (g_nw S_11 (.inr (.inr (.inr (4, [.long 0, .long 0, .long 0, .long 0]))))) fun S_13 => z_bd (f_X4_init S_13 S_11.2 ) fun S_14 => z_chk (g_is S_14 4 S_11.2) (z_bd (g_wQ S_14 3 f_12 (0 : Int32) (some S_11.2)) fun S_15 => if a1 = (4 : Int32) then z_bd (g_put S_15 1 6 o (.int (0 : Int32))) fun S_17 => some S_17 else z_bd (g_put S_15 1 6 o (.int (1 : Int32))) fun S_16 => some S_16)))
set_option maxHeartbeats 4000000 in
set_option maxRecDepth 100000 in
theorem mt_X1_init (l : Launch) (D : va_G) (cs : Nat → ClassId) (A : Nat → Prop) (S : GS) (o : Nat) (a0 : Int32) (a1 : Int32) (a2 : Int32) (a3 : Nat) {N_ : GS} (h : f_X1_init S o a0 a1 a2 a3 = some N_) : Met l yX1_init (z_wd yX1_init cX1_init 6 none) (z_rmA 2 76 3 28) (va_Pc [.ref o, .int a0, .int a1, .int a2, .ref a3] (g_C D cs A S)) (g_Q none N_ D cs A) 3 28 A := by
  refine Met.ofW (cc := cX1_init) (maxL := 6) (ret := none) (by decide) rfl ?_
  intro p e s m args below meth c s₁ B hml hv
  obtain ⟨hav, hP0, hK, hN, hSt, hAn⟩ := hv
  have hx := B.exec
  have hb := B.bytes
  have hr := B.returns
  have hts := atoms_spec (ws := z_wd yX1_init cX1_init 6 none) B.pre
  have hown : s.vm.findClass RX1 = some m.cls := findClass_of_methodNamed B.named
  have hlocks := B.notSynchronized
  have hin : meth.name = "<init>" := (name_of_methodNamed B.named B.method).1
  have hc : g_X p s m args c cX1_init 6 RX1 D cs A := ⟨⟨hx, hb, hml, fun w hw => hts w (List.mem_cons_of_mem _ hw), hown⟩, hK, hN, hSt, hAn⟩
  have hl := lv_entry ([.ref o, .int a0, .int a1, .int a2, .ref a3]) (n := 6) (Nat.le_of_ble_eq_true rfl)
  have hE : entryFrame m args 6 = F0 m 0 ((lg_sl ([.ref o, .int a0, .int a1, .int a2, .ref a3]) ++ List.replicate (6 - (lg_sl ([.ref o, .int a0, .int a1, .int a2, .ref a3])).length) Slot.unset).toArray) [] := by rw [hav]; exact lg_entry_eq m _ _
  rw [hE]
  clear hE hav
  generalize (lg_sl ([.ref o, .int a0, .int a1, .int a2, .ref a3]) ++ List.replicate (6 - (lg_sl ([.ref o, .int a0, .int a1, .int a2, .ref a3])).length) Slot.unset).toArray = ls at hl ⊢
  have hl : lv_has ls 6 [(0, .ref o), (1, .int a0), (2, .int a1), (3, .int a2), (4, .ref a3)] := hl
  obtain ⟨Q, hQ⟩ : ∃ Q, Q = MQ below (g_Q none N_ D cs A) args s 3 28 A := ⟨_, rfl⟩
  rw [← hQ]
  suffices hmain : ∀ (H : Heap) (locs : List Loc), g_P D cs A S H → va_S A s.heap H locs → W p l e (z_rmA 2 76 3 28) s m args below meth c H locs 0 0 Q (F0 m 0 ls []) from hmain s.heap [] hP0 va_S.rf
  clear hP0
  intro H locs hP hS
  unfold f_X1_init at h
  refine lv_aload_n hx hb dX1_init_0 rfl (lv_at hl 0 rfl) ?_
  refine g_obj hc wM_X1_3 hl.1 (Nat.le_of_ble_eq_true rfl) (Nat.le_of_ble_eq_true rfl) dX1_init_1 ?_
  show W p l e (z_rmA 2 76 3 28) s m args below meth c H locs (0) (0) Q (F0 m 4 ls [])
  refine lv_aload_n hx hb dX1_init_4 rfl (lv_at hl 0 rfl) ?_
  refine lv_iload_n hx hb dX1_init_5 rfl (lv_at hl 1 rfl) ?_
  obtain ⟨S_1, eS_1, h⟩ := z_bd_some h
  refine g_putF (ci := 1) (k := 0) (ty := .int) tyX1 hc hP hS rfl z_inX1 tyX1_ok nmX1 (by decide) wF_X1_9 rfl hin rfl (by decide +kernel) rfl rfl eS_1 dX1_init_6 (fun H locs hP hS => ?_)
  refine lv_aload_n hx hb dX1_init_9 rfl (lv_at hl 0 rfl) ?_
  refine lv_iload_n hx hb dX1_init_10 rfl (lv_at hl 2 rfl) ?_
  obtain ⟨S_2, eS_2, h⟩ := z_bd_some h
  refine g_putF (ci := 1) (k := 1) (ty := .int) tyX1 hc hP hS rfl z_inX1 tyX1_ok nmX1 (by decide) wF_X1_15 rfl hin rfl (by decide +kernel) rfl rfl eS_2 dX1_init_11 (fun H locs hP hS => ?_)
  refine lv_aload_n hx hb dX1_init_14 rfl (lv_at hl 0 rfl) ?_
  refine lv_iload_n hx hb dX1_init_15 rfl (lv_at hl 3 rfl) ?_
  obtain ⟨S_3, eS_3, h⟩ := z_bd_some h
  refine g_putF (ci := 1) (k := 2) (ty := .int) tyX1 hc hP hS rfl z_inX1 tyX1_ok nmX1 (by decide) wF_X1_18 rfl hin rfl (by decide +kernel) rfl rfl eS_3 dX1_init_16 (fun H locs hP hS => ?_)
  refine lv_aload_n hx hb dX1_init_19 rfl (lv_at hl 0 rfl) ?_
  refine lv_aload hx hb dX1_init_20 (lv_at hl 4 rfl) ?_
  obtain ⟨S_4, eS_4, h⟩ := z_bd_some h
  refine g_putF (ci := 1) (k := 3) (ty := (.object "LevelFits$Points")) tyX1 hc hP hS rfl z_inX1 tyX1_ok nmX1 (by decide) wF_X1_21 rfl hin rfl (by decide +kernel) rfl rfl eS_4 dX1_init_22 (fun H locs hP hS => ?_)
  refine lv_iload_n hx hb dX1_init_25 rfl (lv_at hl 2 rfl) ?_
  refine lv_iconst (v := 4) hx hb dX1_init_26 (by decide) ?_
  obtain ⟨v_5, hJ, h⟩ := z_bd_some h
  have J_43 : ∀ (H : Heap) (locs : List Loc) (ls : Array Slot), g_P D cs A S_4 H → va_S A s.heap H locs → lv_has ls 6 [(0, .ref o), (2, .int a1)] → W p l e (z_rmA 2 76 3 28) s m args below meth c H locs (0) (0) Q (F0 m 43 ls [.int v_5]) := by
    intro H locs ls hP hS hl
    refine lv_istore (lv' := [(5, .int v_5), (0, .ref o), (2, .int a1)]) hx hb dX1_init_43 hl (by decide) rfl (fun ls hl => ?_)
    refine lv_aload_n hx hb dX1_init_45 rfl (lv_at hl 1 rfl) ?_
    refine lv_iload hx hb dX1_init_46 (lv_at hl 0 rfl) ?_
    obtain ⟨cz_48, h⟩ := z_chk_some h
    obtain ⟨S_8, eS_8, h⟩ := z_lt_some h
    refine g_newQ (t := 3) (N' := v_5.toNatClampNeg) hc hP hS rfl wK_X1_36 wA_Polynomial cz_48.1 rfl (by have := cz_48.2; omega) (Nat.le_of_ble_eq_true rfl) (Nat.le_trans (Nat.add_le_add_left cz_48.2 _) (Nat.le_of_ble_eq_true rfl)) eS_8 dX1_init_48 (fun H hP hS => ?_)
    refine W.widen (k := 1) (n := 12) (Nat.le_refl _) (Nat.add_le_add_left cz_48.2 _) ?_
    show W p l e (z_rmA 2 76 3 28) s m args below meth c H locs (1) (12) Q (F0 m 51 ls [.ref S_4.2, .ref o])
    obtain ⟨S_9, eS_9, h⟩ := z_bd_some h
    refine g_putF (ci := 1) (k := 4) (ty := (.array (.object "LevelFits$Polynomial"))) tyX1 hc hP hS rfl z_inX1 tyX1_ok nmX1 (by decide) wF_X1_38 rfl hin rfl (by decide +kernel) rfl rfl eS_9 dX1_init_51 (fun H locs hP hS => ?_)
    refine lv_aload_n hx hb dX1_init_54 rfl (lv_at hl 1 rfl) ?_
    refine lv_iload hx hb dX1_init_55 (lv_at hl 0 rfl) ?_
    obtain ⟨cz_57, h⟩ := z_chk_some h
    obtain ⟨S_10, eS_10, h⟩ := z_lt_some h
    refine g_newI (N' := v_5.toNatClampNeg) hc hP hS wY_int cz_57.1 rfl (by have := cz_57.2; omega) (Nat.le_of_ble_eq_true rfl) (Nat.le_trans (Nat.add_le_add_left cz_57.2 _) (Nat.le_of_ble_eq_true rfl)) eS_10 dX1_init_57 (fun H hP hS => ?_)
    refine W.widen (k := 2) (n := 24) (Nat.le_refl _) (Nat.add_le_add_left cz_57.2 _) ?_
    show W p l e (z_rmA 2 76 3 28) s m args below meth c H locs (2) (24) Q (F0 m 59 ls [.ref S_9.2, .ref o])
    obtain ⟨S_11, eS_11, h⟩ := z_bd_some h
    refine g_putF (ci := 1) (k := 5) (ty := (.array .int)) tyX1 hc hP hS rfl z_inX1 tyX1_ok nmX1 (by decide) wF_X1_42 rfl hin rfl (by decide +kernel) rfl rfl eS_11 dX1_init_59 (fun H locs hP hS => ?_)
    refine lv_aload_n hx hb dX1_init_62 rfl (lv_at hl 1 rfl) ?_
    obtain ⟨f_12, ef_12, h⟩ := z_bd_some h
    refine g_get (ci := 1) (k := 4) (v := .ref f_12) hc hP rfl z_inX1 (by decide) wF_X1_38 (g_r_v ef_12) dX1_init_63 ?_
    refine lv_iconst (v := 0) hx hb dX1_init_66 (by decide) ?_
    obtain ⟨S_13, eS_13, h⟩ := z_lt_some h
    refine g_new (ci := 4) tyX4 hc hP hS rfl z_inX4 tyX4_ok wK_X1_36 wN_X4 wZ_X4 gd_4 (Nat.le_of_ble_eq_true rfl) (Nat.le_of_ble_eq_true rfl) eS_13 dX1_init_67 (fun H hP hS => ?_)
    show W p l e (z_rmA 2 76 3 28) s m args below meth c H locs (3) (28) Q (F0 m 70 ls [.ref S_11.2, .int (0 : Int32), .ref f_12])
    refine lv_dup hx hb dX1_init_70 rfl ?_
    obtain ⟨S_14, e_71, h⟩ := z_bd_some h
    refine g_callIN (As := []) (rv := none) (n := 0) hc hP hS (mt_X4_init l D cs A S_13 S_11.2  e_71) wH_X1_46 wI_X4_init rfl wZ_X4 wC_X4_init md_X4_init ⟨rfl, rfl, Nat.le_of_ble_eq_true rfl, Nat.le_of_ble_eq_true rfl⟩ rfl hl.1 rfl (Nat.le_of_ble_eq_true rfl) dX1_init_71 ⟨Nat.le_of_ble_eq_true rfl, Nat.le_of_ble_eq_true rfl⟩ (fun H locs hP hS => ?_)
    show W p l e (z_rmA 2 76 3 28) s m args below meth c H locs (3) (28) Q (F0 m 74 ls [.ref S_11.2, .int (0 : Int32), .ref f_12])
    obtain ⟨ho_74, h⟩ := z_chk_some h
    obtain ⟨vs_, ho_74⟩ := Option.isSome_iff_exists.mp ho_74
    obtain ⟨S_15, eS_15, h⟩ := z_bd_some h
    refine g_aast (t := 3) (ci := 4) hc hP hS rfl rfl ho_74 eS_15 dX1_init_74 (fun H locs hP hS => ?_)
    refine lv_aload_n hx hb dX1_init_75 rfl (lv_at hl 1 rfl) ?_
    refine lv_iload_n hx hb dX1_init_76 rfl (lv_at hl 2 rfl) ?_
    refine lv_iconst (v := 4) hx hb dX1_init_77 (by decide) ?_
    refine lv_icmp_ne (tgt := 85) hx hb dX1_init_78 (by decide) (fun c_78 => ?_) (fun c_78 => ?_)
    · replace h := z_in_ c_78 h
      refine lv_iconst (v := 1) hx hb dX1_init_85 (by decide) ?_
      obtain ⟨S_16, eS_16, h⟩ := z_bd_some h
      refine g_putf (ci := 1) (k := 6) (ty := .int) tyX1 hc hP hS rfl z_inX1 tyX1_ok nmX1 (by decide) wF_X1_47 rfl (by decide +kernel) rfl rfl eS_16 dX1_init_86 (fun H locs hP hS => ?_)
      cases h
      rw [hQ]
      exact g_retv hc hr hlocks hP hS dX1_init_89
    · replace h := z_ip_ c_78 h
      refine lv_iconst (v := 0) hx hb dX1_init_81 (by decide) ?_
      refine lv_goto (tgt := 86) hx hb dX1_init_82 (by decide) ?_
      obtain ⟨S_17, eS_17, h⟩ := z_bd_some h
      refine g_putf (ci := 1) (k := 6) (ty := .int) tyX1 hc hP hS rfl z_inX1 tyX1_ok nmX1 (by decide) wF_X1_47 rfl (by decide +kernel) rfl rfl eS_17 dX1_init_86 (fun H locs hP hS => ?_)
      cases h
      rw [hQ]
      exact g_retv hc hr hlocks hP hS dX1_init_89
  clear h
  have h := hJ
  clear hJ
  refine lv_icmp_ne (tgt := 42) hx hb dX1_init_27 (by decide) (fun c_27 => ?_) (fun c_27 => ?_)
  · replace h := z_in_ c_27 h
    refine lv_iconst (v := 1) hx hb dX1_init_42 (by decide) ?_
    cases h
    exact J_43 H locs ls hP hS (lv_sub hl [0, 2] rfl)
  · replace h := z_ip_ c_27 h
    refine lv_aload hx hb dX1_init_30 (lv_at hl 4 rfl) ?_
    obtain ⟨f_6, ef_6, h⟩ := z_bd_some h
    refine g_getN (ci := 3) (k := 3) (v := .int f_6) hc hP rfl z_inX3 (by decide) wG_X1_25 (g_i_v ef_6) dX1_init_32 ?_
    refine lv_iconst (v := 1) hx hb dX1_init_35 (by decide) ?_
    obtain ⟨r_7, er_7, h⟩ := z_bd_some h
    refine s_calli (As := [.int f_6, .int (1 : Int32)]) (r := r_7) (n := 2) hc.1 (mt_J9_max_7cf53 l f_6 (1 : Int32) er_7) wM_X1_30 wT_J9_max_7cf53 wZ_J9 wC_J9_max_7cf53 md_J9_max_7cf53 ⟨rfl, rfl, Nat.le_of_ble_eq_true rfl, Nat.le_of_ble_eq_true rfl⟩ rfl hl.1 rfl (Nat.le_of_ble_eq_true rfl) dX1_init_36 ⟨Nat.le_of_ble_eq_true rfl, Nat.le_of_ble_eq_true rfl⟩ ?_
    refine lv_goto (tgt := 43) hx hb dX1_init_39 (by decide) ?_
    cases h
    exact J_43 H locs ls hP hS (lv_sub hl [0, 2] rfl)
theorem md_X1_init : yX1_init.cls ≠ "java/lang/invoke/MethodHandle" ∧ yX1_init.cls ≠ "java/lang/invoke/VarHandle" ∧ (parseMethodDescriptor yX1_init.desc).map (fun d => d.parameters.length) = some 4 := by decide +kernel
noncomputable def f_X1_firstPart (S : GS) (o : Nat) : Option (Option Nat) :=
  z_bd (g_r S 1 4 o) fun f_1 => z_bd (g_rQ S 3 f_1 (0 : Int32)) fun q_2 => some q_2
set_option maxHeartbeats 4000000 in
set_option maxRecDepth 100000 in
theorem mt_X1_firstPart (l : Launch) (D : va_G) (cs : Nat → ClassId) (A : Nat → Prop) (S : GS) (o : Nat) {r_ : Option Nat} (h : f_X1_firstPart S o = some r_) : Met l yX1_firstPart (z_wd yX1_firstPart cX1_firstPart 1 (some (.object "LevelFits$Polynomial"))) (z_rmA 0 0 0 0) (va_Pc [.ref o] (g_C D cs A S)) (g_Q (some (va_rf r_)) S D cs A) 0 0 A := by
  refine Met.ofW (cc := cX1_firstPart) (maxL := 1) (ret := (some (.object "LevelFits$Polynomial"))) (by decide) rfl ?_
  intro p e s m args below meth c s₁ B hml hv
  obtain ⟨hav, hP0, hK, hN, hSt, hAn⟩ := hv
  have hx := B.exec
  have hb := B.bytes
  have hr := B.returns
  have hts := atoms_spec (ws := z_wd yX1_firstPart cX1_firstPart 1 (some (.object "LevelFits$Polynomial"))) B.pre
  have hown : s.vm.findClass RX1 = some m.cls := findClass_of_methodNamed B.named
  have hlocks := B.notSynchronized
  have hc : g_X p s m args c cX1_firstPart 1 RX1 D cs A := ⟨⟨hx, hb, hml, fun w hw => hts w (List.mem_cons_of_mem _ hw), hown⟩, hK, hN, hSt, hAn⟩
  have hl := lv_entry ([.ref o]) (n := 1) (Nat.le_of_ble_eq_true rfl)
  have hE : entryFrame m args 1 = F0 m 0 ((lg_sl ([.ref o]) ++ List.replicate (1 - (lg_sl ([.ref o])).length) Slot.unset).toArray) [] := by rw [hav]; exact lg_entry_eq m _ _
  rw [hE]
  clear hE hav
  generalize (lg_sl ([.ref o]) ++ List.replicate (1 - (lg_sl ([.ref o])).length) Slot.unset).toArray = ls at hl ⊢
  have hl : lv_has ls 1 [(0, .ref o)] := hl
  obtain ⟨Q, hQ⟩ : ∃ Q, Q = MQ below (g_Q (some (va_rf r_)) S D cs A) args s 0 0 A := ⟨_, rfl⟩
  rw [← hQ]
  suffices hmain : ∀ (H : Heap) (locs : List Loc), g_P D cs A S H → va_S A s.heap H locs → W p l e (z_rmA 0 0 0 0) s m args below meth c H locs 0 0 Q (F0 m 0 ls []) from hmain s.heap [] hP0 va_S.rf
  clear hP0
  intro H locs hP hS
  unfold f_X1_firstPart at h
  refine lv_aload_n hx hb dX1_firstPart_0 rfl (lv_at hl 0 rfl) ?_
  obtain ⟨f_1, ef_1, h⟩ := z_bd_some h
  refine g_get (ci := 1) (k := 4) (v := .ref f_1) hc hP rfl z_inX1 (by decide) wF_X1_38 (g_r_v ef_1) dX1_firstPart_1 ?_
  refine lv_iconst (v := 0) hx hb dX1_firstPart_4 (by decide) ?_
  obtain ⟨q_2, eq_2, h⟩ := z_bd_some h
  refine g_aald (t := 3) hc hP rfl eq_2 dX1_firstPart_5 ?_
  cases h
  rw [hQ]
  exact g_retq hc hr hlocks hP hS dX1_firstPart_6
theorem md_X1_firstPart : yX1_firstPart.cls ≠ "java/lang/invoke/MethodHandle" ∧ yX1_firstPart.cls ≠ "java/lang/invoke/VarHandle" ∧ (parseMethodDescriptor yX1_firstPart.desc).map (fun d => d.parameters.length) = some 0 := by decide +kernel
