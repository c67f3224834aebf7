noncomputable def f_X8_swap (M : MS) (a0 : Int32) (a1 : Int32) : Option (Int32 × MS) :=
  z_bd (f_X8_areTurns M a0 a1) fun r_1 => if r_1 = 0 then some ((-1 : Int32), M) else z_bd2 (f_X8_swapped M a0 a1) fun r_3 M_2 => some (r_3, M_2)
set_option maxHeartbeats 4000000 in
set_option maxRecDepth 100000 in
theorem mt_X8_swap (l : Launch) (D : va_G) (cI cJ : ClassId) (o sz : Nat) (M : MS) (a0 : Int32) (a1 : Int32) {r_ : Int32} {N_ : MS} (h : f_X8_swap M a0 a1 = some (r_, N_)) : Met l yX8_swap (z_wd yX8_swap cX8_swap 3 (some .int)) (z_rm 7 309) (va_Pc [.ref o, .int a0, .int a1] (m_C D cI cJ o sz M)) (va_Qi (fun (r1 : Int32) (M1 : MS) => r1 = r_ ∧ M1 = N_) (m_C D cI cJ o sz) (m_A o)) 0 0 (m_A o) := by
  refine Met.ofW (cc := cX8_swap) (maxL := 3) (ret := (some .int)) (by decide) rfl ?_
  intro p e s m args below meth c s₁ B hml hv
  obtain ⟨hav, hz, hP0, hK⟩ := hv
  have hx := B.exec
  have hb := B.bytes
  have hr := B.returns
  have hts := atoms_spec (ws := z_wd yX8_swap cX8_swap 3 (some .int)) B.pre
  have hown : s.vm.findClass RX8 = some m.cls := findClass_of_methodNamed B.named
  have hlocks := B.notSynchronized
  have hc : m_X p s m args c cX8_swap 3 D cI cJ := ⟨hx, hb, hml, fun w hw => hts w (List.mem_cons_of_mem _ hw), hown, hK⟩
  have hl := lv_entry ([.ref o, .int a0, .int a1]) (n := 3) (Nat.le_of_ble_eq_true rfl)
  have hE : entryFrame m args 3 = F0 m 0 ((lg_sl ([.ref o, .int a0, .int a1]) ++ List.replicate (3 - (lg_sl ([.ref o, .int a0, .int a1])).length) Slot.unset).toArray) [] := by rw [hav]; exact lg_entry_eq m _ _
  rw [hE]
  clear hE hav
  generalize (lg_sl ([.ref o, .int a0, .int a1]) ++ List.replicate (3 - (lg_sl ([.ref o, .int a0, .int a1])).length) Slot.unset).toArray = ls at hl ⊢
  have hl : lv_has ls 3 [(0, .ref o), (1, .int a0), (2, .int a1)] := hl
  obtain ⟨Q, hQ⟩ : ∃ Q, Q = MQ below (va_Qi (fun (r1 : Int32) (M1 : MS) => r1 = r_ ∧ M1 = N_) (m_C D cI cJ o sz) (m_A o)) args s 0 0 (m_A o) := ⟨_, rfl⟩
  rw [← hQ]
  suffices hmain : ∀ (H : Heap) (locs : List Loc), va_P D z_cls (m_W cI cJ o M) H → va_S (m_A o) s.heap H locs → W p l e (z_rm 7 309) s m args below meth c H locs 0 0 Q (F0 m 0 ls []) from hmain s.heap [] hP0 va_S.rf
  clear hP0
  intro H locs hP hS
  unfold f_X8_swap at h
  refine lv_aload_n hx hb dX8_swap_0 rfl (lv_at hl 0 rfl) ?_
  refine lv_iload_n hx hb dX8_swap_1 rfl (lv_at hl 1 rfl) ?_
  refine lv_iload_n hx hb dX8_swap_2 rfl (lv_at hl 2 rfl) ?_
  obtain ⟨r_1, er_1, h⟩ := z_bd_some h
  refine m_calli (As := [.int a0, .int a1]) (r := r_1) (M' := M) (n := 2) hc hP hS (mt_X8_areTurns l D cI cJ o H.size M a0 a1 er_1) wM_X8_195 wI_X8_areTurns wS_X8_areTurns wZ_X8 wC_X8_areTurns md_X8_areTurns ⟨rfl, rfl, Nat.le_of_ble_eq_true rfl, Nat.le_of_ble_eq_true rfl⟩ rfl hl.1 rfl (Nat.le_of_ble_eq_true rfl) dX8_swap_3 ⟨Nat.zero_le _, Nat.zero_le _⟩ (fun H locs hP hS => ?_)
  refine lv_if_eq (tgt := 18) hx hb dX8_swap_6 (by decide) (fun c_6 => ?_) (fun c_6 => ?_)
  · replace h := z_ip_ c_6 h
    refine lv_iconst (v := -1) hx hb dX8_swap_18 (by decide) ?_
    cases h
    rw [hQ]
    exact m_reti hc hr hlocks hP hS hz dX8_swap_19
  · replace h := z_in_ c_6 h
    refine lv_aload_n hx hb dX8_swap_9 rfl (lv_at hl 0 rfl) ?_
    refine lv_iload_n hx hb dX8_swap_10 rfl (lv_at hl 1 rfl) ?_
    refine lv_iload_n hx hb dX8_swap_11 rfl (lv_at hl 2 rfl) ?_
    obtain ⟨r_3, M_2, er_3, h⟩ := z_bd2_some h
    refine m_calli (As := [.int a0, .int a1]) (r := r_3) (M' := M_2) (n := 2) hc hP hS (mt_X8_swapped l D cI cJ o H.size M a0 a1 er_3) wM_X8_260 wI_X8_swapped wS_X8_swapped wZ_X8 wC_X8_swapped md_X8_swapped ⟨rfl, rfl, Nat.le_of_ble_eq_true rfl, Nat.le_of_ble_eq_true rfl⟩ rfl hl.1 rfl (Nat.le_of_ble_eq_true rfl) dX8_swap_12 ⟨Nat.zero_le _, Nat.zero_le _⟩ (fun H locs hP hS => ?_)
    refine lv_goto (tgt := 19) hx hb dX8_swap_15 (by decide) ?_
    cases h
    rw [hQ]
    exact m_reti hc hr hlocks hP hS hz dX8_swap_19
theorem md_X8_swap : yX8_swap.cls ≠ "java/lang/invoke/MethodHandle" ∧ yX8_swap.cls ≠ "java/lang/invoke/VarHandle" ∧ (parseMethodDescriptor yX8_swap.desc).map (fun d => d.parameters.length) = some 2 := by decide +kernel
noncomputable def f_X8_swaps_L25 (a0 : Int32) (x3_4 : Int32) (x4_5 : Int32) (x5_6 : Int32) (M_7 : MS) : Option ((Int32 × MS) ⊕ (Int32 × Int32 × Int32 × MS)) :=
  if x5_6 = x4_5 then some (.inl (x3_4, M_7)) else z_bd2 (f_X8_swapped M_7 a0 x5_6) fun r_11 M_10 => some (.inr ((x3_4 + 1), x5_6, r_11, M_10))
noncomputable def f_X8_swaps (M : MS) (a0 : Int32) (a1 : Int32) : Option (Int32 × MS) :=
  z_bd (f_X8_areTurns M a0 a1) fun r_1 => if r_1 = 0 then some ((-1 : Int32), M) else z_bd2 (f_X8_swapped M a0 a1) fun r_3 M_2 => z_bd2 (z_lp (fun x => f_X8_swaps_L25 a0 x.1 x.2.1 x.2.2.1 x.2.2.2) ((0 : Int32), a1, r_3, M_2)) fun y3_8 M_9 => some (y3_8, M_9)
set_option maxHeartbeats 4000000 in
set_option maxRecDepth 100000 in
theorem mt_X8_swaps (l : Launch) (D : va_G) (cI cJ : ClassId) (o sz : Nat) (M : MS) (a0 : Int32) (a1 : Int32) {r_ : Int32} {N_ : MS} (h : f_X8_swaps M a0 a1 = some (r_, N_)) : Met l yX8_swaps (z_wd yX8_swaps cX8_swaps 6 (some .int)) (z_rm 7 309) (va_Pc [.ref o, .int a0, .int a1] (m_C D cI cJ o sz M)) (va_Qi (fun (r1 : Int32) (M1 : MS) => r1 = r_ ∧ M1 = N_) (m_C D cI cJ o sz) (m_A o)) 0 0 (m_A o) := by
  refine Met.ofW (cc := cX8_swaps) (maxL := 6) (ret := (some .int)) (by decide) rfl ?_
  intro p e s m args below meth c s₁ B hml hv
  obtain ⟨hav, hz, hP0, hK⟩ := hv
  have hx := B.exec
  have hb := B.bytes
  have hr := B.returns
  have hts := atoms_spec (ws := z_wd yX8_swaps cX8_swaps 6 (some .int)) B.pre
  have hown : s.vm.findClass RX8 = some m.cls := findClass_of_methodNamed B.named
  have hlocks := B.notSynchronized
  have hc : m_X p s m args c cX8_swaps 6 D cI cJ := ⟨hx, hb, hml, fun w hw => hts w (List.mem_cons_of_mem _ hw), hown, hK⟩
  have hl := lv_entry ([.ref o, .int a0, .int a1]) (n := 6) (Nat.le_of_ble_eq_true rfl)
  have hE : entryFrame m args 6 = F0 m 0 ((lg_sl ([.ref o, .int a0, .int a1]) ++ List.replicate (6 - (lg_sl ([.ref o, .int a0, .int a1])).length) Slot.unset).toArray) [] := by rw [hav]; exact lg_entry_eq m _ _
  rw [hE]
  clear hE hav
  generalize (lg_sl ([.ref o, .int a0, .int a1]) ++ List.replicate (6 - (lg_sl ([.ref o, .int a0, .int a1])).length) Slot.unset).toArray = ls at hl ⊢
  have hl : lv_has ls 6 [(0, .ref o), (1, .int a0), (2, .int a1)] := hl
  obtain ⟨Q, hQ⟩ : ∃ Q, Q = MQ below (va_Qi (fun (r1 : Int32) (M1 : MS) => r1 = r_ ∧ M1 = N_) (m_C D cI cJ o sz) (m_A o)) args s 0 0 (m_A o) := ⟨_, rfl⟩
  rw [← hQ]
  suffices hmain : ∀ (H : Heap) (locs : List Loc), va_P D z_cls (m_W cI cJ o M) H → va_S (m_A o) s.heap H locs → W p l e (z_rm 7 309) s m args below meth c H locs 0 0 Q (F0 m 0 ls []) from hmain s.heap [] hP0 va_S.rf
  clear hP0
  intro H locs hP hS
  unfold f_X8_swaps at h
  refine lv_aload_n hx hb dX8_swaps_0 rfl (lv_at hl 0 rfl) ?_
  refine lv_iload_n hx hb dX8_swaps_1 rfl (lv_at hl 1 rfl) ?_
  refine lv_iload_n hx hb dX8_swaps_2 rfl (lv_at hl 2 rfl) ?_
  obtain ⟨r_1, er_1, h⟩ := z_bd_some h
  refine m_calli (As := [.int a0, .int a1]) (r := r_1) (M' := M) (n := 2) hc hP hS (mt_X8_areTurns l D cI cJ o H.size M a0 a1 er_1) wM_X8_195 wI_X8_areTurns wS_X8_areTurns wZ_X8 wC_X8_areTurns md_X8_areTurns ⟨rfl, rfl, Nat.le_of_ble_eq_true rfl, Nat.le_of_ble_eq_true rfl⟩ rfl hl.1 rfl (Nat.le_of_ble_eq_true rfl) dX8_swaps_3 ⟨Nat.zero_le _, Nat.zero_le _⟩ (fun H locs hP hS => ?_)
  refine lv_if_ne (tgt := 11) hx hb dX8_swaps_6 (by decide) (fun c_6 => ?_) (fun c_6 => ?_)
  · replace h := z_in_ c_6 h
    refine lv_iconst (v := 0) hx hb dX8_swaps_11 (by decide) ?_
    refine lv_istore_n (lv' := [(3, .int (0 : Int32)), (0, .ref o), (1, .int a0), (2, .int a1)]) hx hb dX8_swaps_12 rfl hl (by decide) rfl (fun ls hl => ?_)
    refine lv_iload_n hx hb dX8_swaps_13 rfl (lv_at hl 3 rfl) ?_
    refine lv_istore (lv' := [(4, .int a1), (3, .int (0 : Int32)), (0, .ref o), (1, .int a0), (2, .int a1)]) hx hb dX8_swaps_14 hl (by decide) rfl (fun ls hl => ?_)
    refine lv_aload_n hx hb dX8_swaps_16 rfl (lv_at hl 2 rfl) ?_
    refine lv_iload_n hx hb dX8_swaps_17 rfl (lv_at hl 3 rfl) ?_
    refine lv_iload hx hb dX8_swaps_18 (lv_at hl 0 rfl) ?_
    obtain ⟨r_3, M_2, er_3, h⟩ := z_bd2_some h
    refine m_calli (As := [.int a0, .int a1]) (r := r_3) (M' := M_2) (n := 2) hc hP hS (mt_X8_swapped l D cI cJ o H.size M a0 a1 er_3) wM_X8_260 wI_X8_swapped wS_X8_swapped wZ_X8 wC_X8_swapped md_X8_swapped ⟨rfl, rfl, Nat.le_of_ble_eq_true rfl, Nat.le_of_ble_eq_true rfl⟩ rfl hl.1 rfl (Nat.le_of_ble_eq_true rfl) dX8_swaps_20 ⟨Nat.zero_le _, Nat.zero_le _⟩ (fun H locs hP hS => ?_)
    refine lv_istore (lv' := [(5, .int r_3), (4, .int a1), (3, .int (0 : Int32)), (0, .ref o), (1, .int a0), (2, .int a1)]) hx hb dX8_swaps_23 hl (by decide) rfl (fun ls hl => ?_)
    obtain ⟨y3_8, M_9, hlp, h⟩ := z_bd2_some h
    refine z_lp_ind (P := fun x => ∀ (H : Heap) (locs : List Loc) (ls : Array Slot), va_P D z_cls (m_W cI cJ o x.2.2.2) H → va_S (m_A o) s.heap H locs → lv_has ls 6 [(0, .ref o), (1, .int a0), (3, .int x.1), (4, .int x.2.1), (5, .int x.2.2.1)] → W p l e (z_rm 7 309) s m args below meth c H locs 0 0 Q (F0 m 25 ls [])) (Qe := fun y => ∀ (H : Heap) (locs : List Loc) (ls : Array Slot), va_P D z_cls (m_W cI cJ o y.2) H → va_S (m_A o) s.heap H locs → lv_has ls 6 [(3, .int y.1)] → W p l e (z_rm 7 309) s m args below meth c H locs 0 0 Q (F0 m 51 ls [])) ?_ hlp ?_ H locs ls hP hS (lv_sub hl [3, 4, 2, 1, 0] rfl)
    · clear h hlp hP hS hl
      rintro ⟨x3_4, x4_5, x5_6, M_7⟩ oo h K_25 H locs ls hP hS hl
      have hP : va_P D z_cls (m_W cI cJ o M_7) H := hP
      have hl : lv_has ls 6 [(0, .ref o), (1, .int a0), (3, .int x3_4), (4, .int x4_5), (5, .int x5_6)] := hl
      have h : f_X8_swaps_L25 a0 x3_4 x4_5 x5_6 M_7 = some oo := h
      unfold f_X8_swaps_L25 at h
      refine lv_iload hx hb dX8_swaps_25 (lv_at hl 4 rfl) ?_
      refine lv_iload hx hb dX8_swaps_27 (lv_at hl 3 rfl) ?_
      refine lv_icmp_eq (tgt := 51) hx hb dX8_swaps_29 (by decide) (fun c_29 => ?_) (fun c_29 => ?_)
      · replace h := z_ip_ c_29 h
        cases h
        exact K_25 H locs ls hP hS (lv_sub hl [2] rfl)
      · replace h := z_in_ c_29 h
        refine lv_iload hx hb dX8_swaps_32 (lv_at hl 4 rfl) ?_
        refine lv_istore (lv' := [(4, .int x5_6), (0, .ref o), (1, .int a0), (3, .int x3_4), (5, .int x5_6)]) hx hb dX8_swaps_34 hl (by decide) rfl (fun ls hl => ?_)
        refine lv_aload_n hx hb dX8_swaps_36 rfl (lv_at hl 1 rfl) ?_
        refine lv_iload_n hx hb dX8_swaps_37 rfl (lv_at hl 2 rfl) ?_
        refine lv_iload hx hb dX8_swaps_38 (lv_at hl 0 rfl) ?_
        obtain ⟨r_11, M_10, er_11, h⟩ := z_bd2_some h
        refine m_calli (As := [.int a0, .int x5_6]) (r := r_11) (M' := M_10) (n := 2) hc hP hS (mt_X8_swapped l D cI cJ o H.size M_7 a0 x5_6 er_11) wM_X8_260 wI_X8_swapped wS_X8_swapped wZ_X8 wC_X8_swapped md_X8_swapped ⟨rfl, rfl, Nat.le_of_ble_eq_true rfl, Nat.le_of_ble_eq_true rfl⟩ rfl hl.1 rfl (Nat.le_of_ble_eq_true rfl) dX8_swaps_40 ⟨Nat.zero_le _, Nat.zero_le _⟩ (fun H locs hP hS => ?_)
        refine lv_istore (lv' := [(5, .int r_11), (4, .int x5_6), (0, .ref o), (1, .int a0), (3, .int x3_4)]) hx hb dX8_swaps_43 hl (by decide) rfl (fun ls hl => ?_)
        refine lv_iinc (v := (x3_4 + 1)) (lv' := [(3, .int (x3_4 + 1)), (5, .int r_11), (4, .int x5_6), (0, .ref o), (1, .int a0)]) hx hb dX8_swaps_45 hl (k := 4) rfl rfl (by decide) rfl (fun ls hl => ?_)
        refine lv_goto (tgt := 25) hx hb dX8_swaps_48 (by decide) ?_
        cases h
        exact K_25 H locs ls hP hS (lv_sub hl [3, 4, 0, 2, 1] rfl)
    · clear hlp hP hS hl
      intro H locs ls hP hS hl
      have hP : va_P D z_cls (m_W cI cJ o M_9) H := hP
      have hl : lv_has ls 6 [(3, .int y3_8)] := hl
      refine lv_iload_n hx hb dX8_swaps_51 rfl (lv_at hl 0 rfl) ?_
      cases h
      rw [hQ]
      exact m_reti hc hr hlocks hP hS hz dX8_swaps_52
  · replace h := z_ip_ c_6 h
    refine lv_iconst (v := -1) hx hb dX8_swaps_9 (by decide) ?_
    cases h
    rw [hQ]
    exact m_reti hc hr hlocks hP hS hz dX8_swaps_10
theorem md_X8_swaps : yX8_swaps.cls ≠ "java/lang/invoke/MethodHandle" ∧ yX8_swaps.cls ≠ "java/lang/invoke/VarHandle" ∧ (parseMethodDescriptor yX8_swaps.desc).map (fun d => d.parameters.length) = some 2 := by decide +kernel
noncomputable def f_X8_against (M : MS) (a0 : Int32) (a1 : Int32) : Option (Int32 × MS) :=
  z_bd (f_X8_isFit M a0) fun r_1 => if r_1 = 0 then some ((-2 : Int32), M) else z_bd (f_X8_isFit M a1) fun r_2 => if r_2 = 0 then some ((-2 : Int32), M) else z_bd (f_X8_findLevel M a0) fun M_3 => z_bd (f_X8_findLevel M_3 a1) fun M_4 => z_bd (f_X8_compare (M_3.2 33 0) (M_3.2 34 0) (M_4.2 33 0) (M_4.2 34 0)) fun r_5 => some (r_5, M_4)
set_option maxHeartbeats 4000000 in
set_option maxRecDepth 100000 in
theorem mt_X8_against (l : Launch) (D : va_G) (cI cJ : ClassId) (o sz : Nat) (M : MS) (a0 : Int32) (a1 : Int32) {r_ : Int32} {N_ : MS} (h : f_X8_against M a0 a1 = some (r_, N_)) : Met l yX8_against (z_wd yX8_against cX8_against 7 (some .int)) (z_rm 7 303) (va_Pc [.ref o, .int a0, .int a1] (m_C D cI cJ o sz M)) (va_Qi (fun (r1 : Int32) (M1 : MS) => r1 = r_ ∧ M1 = N_) (m_C D cI cJ o sz) (m_A o)) 0 0 (m_A o) := by
  refine Met.ofW (cc := cX8_against) (maxL := 7) (ret := (some .int)) (by decide) rfl ?_
  intro p e s m args below meth c s₁ B hml hv
  obtain ⟨hav, hz, hP0, hK⟩ := hv
  have hx := B.exec
  have hb := B.bytes
  have hr := B.returns
  have hts := atoms_spec (ws := z_wd yX8_against cX8_against 7 (some .int)) B.pre
  have hown : s.vm.findClass RX8 = some m.cls := findClass_of_methodNamed B.named
  have hlocks := B.notSynchronized
  have hc : m_X p s m args c cX8_against 7 D cI cJ := ⟨hx, hb, hml, fun w hw => hts w (List.mem_cons_of_mem _ hw), hown, hK⟩
  have hl := lv_entry ([.ref o, .int a0, .int a1]) (n := 7) (Nat.le_of_ble_eq_true rfl)
  have hE : entryFrame m args 7 = F0 m 0 ((lg_sl ([.ref o, .int a0, .int a1]) ++ List.replicate (7 - (lg_sl ([.ref o, .int a0, .int a1])).length) Slot.unset).toArray) [] := by rw [hav]; exact lg_entry_eq m _ _
  rw [hE]
  clear hE hav
  generalize (lg_sl ([.ref o, .int a0, .int a1]) ++ List.replicate (7 - (lg_sl ([.ref o, .int a0, .int a1])).length) Slot.unset).toArray = ls at hl ⊢
  have hl : lv_has ls 7 [(0, .ref o), (1, .int a0), (2, .int a1)] := hl
  obtain ⟨Q, hQ⟩ : ∃ Q, Q = MQ below (va_Qi (fun (r1 : Int32) (M1 : MS) => r1 = r_ ∧ M1 = N_) (m_C D cI cJ o sz) (m_A o)) args s 0 0 (m_A o) := ⟨_, rfl⟩
  rw [← hQ]
  suffices hmain : ∀ (H : Heap) (locs : List Loc), va_P D z_cls (m_W cI cJ o M) H → va_S (m_A o) s.heap H locs → W p l e (z_rm 7 303) s m args below meth c H locs 0 0 Q (F0 m 0 ls []) from hmain s.heap [] hP0 va_S.rf
  clear hP0
  intro H locs hP hS
  unfold f_X8_against at h
  refine lv_aload_n hx hb dX8_against_0 rfl (lv_at hl 0 rfl) ?_
  refine lv_iload_n hx hb dX8_against_1 rfl (lv_at hl 1 rfl) ?_
  obtain ⟨r_1, er_1, h⟩ := z_bd_some h
  refine m_calli (As := [.int a0]) (r := r_1) (M' := M) (n := 1) hc hP hS (mt_X8_isFit l D cI cJ o H.size M a0 er_1) wM_X8_185 wI_X8_isFit wS_X8_isFit wZ_X8 wC_X8_isFit md_X8_isFit ⟨rfl, rfl, Nat.le_of_ble_eq_true rfl, Nat.le_of_ble_eq_true rfl⟩ rfl hl.1 rfl (Nat.le_of_ble_eq_true rfl) dX8_against_2 ⟨Nat.zero_le _, Nat.zero_le _⟩ (fun H locs hP hS => ?_)
  refine lv_if_eq (tgt := 16) hx hb dX8_against_5 (by decide) (fun c_5 => ?_) (fun c_5 => ?_)
  · replace h := z_ip_ c_5 h
    refine lv_bipush (v := -2) hx hb dX8_against_16 (by decide) ?_
    cases h
    rw [hQ]
    exact m_reti hc hr hlocks hP hS hz dX8_against_18
  · replace h := z_in_ c_5 h
    refine lv_aload_n hx hb dX8_against_8 rfl (lv_at hl 0 rfl) ?_
    refine lv_iload_n hx hb dX8_against_9 rfl (lv_at hl 2 rfl) ?_
    obtain ⟨r_2, er_2, h⟩ := z_bd_some h
    refine m_calli (As := [.int a1]) (r := r_2) (M' := M) (n := 1) hc hP hS (mt_X8_isFit l D cI cJ o H.size M a1 er_2) wM_X8_185 wI_X8_isFit wS_X8_isFit wZ_X8 wC_X8_isFit md_X8_isFit ⟨rfl, rfl, Nat.le_of_ble_eq_true rfl, Nat.le_of_ble_eq_true rfl⟩ rfl hl.1 rfl (Nat.le_of_ble_eq_true rfl) dX8_against_10 ⟨Nat.zero_le _, Nat.zero_le _⟩ (fun H locs hP hS => ?_)
    refine lv_if_ne (tgt := 19) hx hb dX8_against_13 (by decide) (fun c_13 => ?_) (fun c_13 => ?_)
    · replace h := z_in_ c_13 h
      refine lv_aload_n hx hb dX8_against_19 rfl (lv_at hl 0 rfl) ?_
      refine lv_iload_n hx hb dX8_against_20 rfl (lv_at hl 1 rfl) ?_
      obtain ⟨M_3, eM_3, h⟩ := z_bd_some h
      refine m_callv (As := [.int a0]) (M' := M_3) (n := 1) hc hP hS (mt_X8_findLevel l D cI cJ o H.size M a0 eM_3) wM_X8_241 wI_X8_findLevel wS_X8_findLevel wZ_X8 wC_X8_findLevel md_X8_findLevel ⟨rfl, rfl, Nat.le_of_ble_eq_true rfl, Nat.le_of_ble_eq_true rfl⟩ rfl hl.1 rfl (Nat.le_of_ble_eq_true rfl) dX8_against_21 ⟨Nat.zero_le _, Nat.zero_le _⟩ (fun H locs hP hS => ?_)
      refine lv_aload_n hx hb dX8_against_24 rfl (lv_at hl 0 rfl) ?_
      refine m_get (k := 33) (v := .long (M_3.2 33 0)) hc hP (by decide) wF_X8_232 rfl dX8_against_25 ?_
      refine lv_lstore_n (lv' := [(3, .long (M_3.2 33 0)), (0, .ref o), (1, .int a0), (2, .int a1)]) hx hb dX8_against_28 rfl hl (by decide) rfl (fun ls hl => ?_)
      refine lv_aload_n hx hb dX8_against_29 rfl (lv_at hl 1 rfl) ?_
      refine m_get (k := 34) (v := .long (M_3.2 34 0)) hc hP (by decide) wF_X8_235 rfl dX8_against_30 ?_
      refine lv_lstore (lv' := [(5, .long (M_3.2 34 0)), (3, .long (M_3.2 33 0)), (0, .ref o), (1, .int a0), (2, .int a1)]) hx hb dX8_against_33 hl (by decide) rfl (fun ls hl => ?_)
      refine lv_aload_n hx hb dX8_against_35 rfl (lv_at hl 2 rfl) ?_
      refine lv_iload_n hx hb dX8_against_36 rfl (lv_at hl 4 rfl) ?_
      obtain ⟨M_4, eM_4, h⟩ := z_bd_some h
      refine m_callv (As := [.int a1]) (M' := M_4) (n := 1) hc hP hS (mt_X8_findLevel l D cI cJ o H.size M_3 a1 eM_4) wM_X8_241 wI_X8_findLevel wS_X8_findLevel wZ_X8 wC_X8_findLevel md_X8_findLevel ⟨rfl, rfl, Nat.le_of_ble_eq_true rfl, Nat.le_of_ble_eq_true rfl⟩ rfl hl.1 rfl (Nat.le_of_ble_eq_true rfl) dX8_against_37 ⟨Nat.zero_le _, Nat.zero_le _⟩ (fun H locs hP hS => ?_)
      refine lv_lload_n hx hb dX8_against_40 rfl (lv_at hl 1 rfl) ?_
      refine lv_lload hx hb dX8_against_41 (lv_at hl 0 rfl) ?_
      refine lv_aload_n hx hb dX8_against_43 rfl (lv_at hl 2 rfl) ?_
      refine m_get (k := 33) (v := .long (M_4.2 33 0)) hc hP (by decide) wF_X8_232 rfl dX8_against_44 ?_
      refine lv_aload_n hx hb dX8_against_47 rfl (lv_at hl 2 rfl) ?_
      refine m_get (k := 34) (v := .long (M_4.2 34 0)) hc hP (by decide) wF_X8_235 rfl dX8_against_48 ?_
      obtain ⟨r_5, er_5, h⟩ := z_bd_some h
      refine s_calli (As := [.long (M_3.2 33 0), .long (M_3.2 34 0), .long (M_4.2 33 0), .long (M_4.2 34 0)]) (r := r_5) (n := 4) hc.s (mt_X8_compare l (M_3.2 33 0) (M_3.2 34 0) (M_4.2 33 0) (M_4.2 34 0) er_5) wM_X8_201 wT_X8_compare wZ_X8 wC_X8_compare md_X8_compare ⟨rfl, rfl, Nat.le_of_ble_eq_true rfl, Nat.le_of_ble_eq_true rfl⟩ rfl hl.1 rfl (Nat.le_of_ble_eq_true rfl) dX8_against_51 ⟨Nat.zero_le _, Nat.zero_le _⟩ ?_
      cases h
      rw [hQ]
      exact m_reti hc hr hlocks hP hS hz dX8_against_54
    · replace h := z_ip_ c_13 h
      refine lv_bipush (v := -2) hx hb dX8_against_16 (by decide) ?_
      cases h
      rw [hQ]
      exact m_reti hc hr hlocks hP hS hz dX8_against_18
theorem md_X8_against : yX8_against.cls ≠ "java/lang/invoke/MethodHandle" ∧ yX8_against.cls ≠ "java/lang/invoke/VarHandle" ∧ (parseMethodDescriptor yX8_against.desc).map (fun d => d.parameters.length) = some 2 := by decide +kernel
