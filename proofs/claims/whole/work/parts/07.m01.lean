noncomputable def f_X8_isFit (M : MS) (a0 : Int32) : Option (Int32) :=
  z_bd (f_X8_in a0 (0 : Int32) ((M.1 4 0) - (1 : Int32))) fun r_1 => z_chk (r_1 = 0 ∨ r_1 = 1) (some r_1)
set_option maxHeartbeats 4000000 in
set_option maxRecDepth 100000 in
theorem mt_X8_isFit (l : Launch) (D : va_G) (cI cJ : ClassId) (o sz : Nat) (M : MS) (a0 : Int32) {r_ : Int32} (h : f_X8_isFit M a0 = some r_) : Met l yX8_isFit (z_wd yX8_isFit cX8_isFit 2 (some .boolean)) (z_rm 1 38) (va_Pc [.ref o, .int a0] (m_C D cI cJ o sz M)) (va_Qi (fun (r1 : Int32) (M1 : MS) => r1 = r_ ∧ M1 = M) (m_C D cI cJ o sz) (m_A o)) 0 0 (m_A o) := by
  refine Met.ofW (cc := cX8_isFit) (maxL := 2) (ret := (some .boolean)) (by decide) rfl ?_
  intro p e s m args below meth c s₁ B hml hv
  obtain ⟨hav, hz, hP0, hK⟩ := hv
  have hx := B.exec
  have hb := B.bytes
  have hr := B.returns
  have hts := atoms_spec (ws := z_wd yX8_isFit cX8_isFit 2 (some .boolean)) B.pre
  have hown : s.vm.findClass RX8 = some m.cls := findClass_of_methodNamed B.named
  have hlocks := B.notSynchronized
  have hc : m_X p s m args c cX8_isFit 2 D cI cJ := ⟨hx, hb, hml, fun w hw => hts w (List.mem_cons_of_mem _ hw), hown, hK⟩
  have hl := lv_entry ([.ref o, .int a0]) (n := 2) (Nat.le_of_ble_eq_true rfl)
  have hE : entryFrame m args 2 = F0 m 0 ((lg_sl ([.ref o, .int a0]) ++ List.replicate (2 - (lg_sl ([.ref o, .int a0])).length) Slot.unset).toArray) [] := by rw [hav]; exact lg_entry_eq m _ _
  rw [hE]
  clear hE hav
  generalize (lg_sl ([.ref o, .int a0]) ++ List.replicate (2 - (lg_sl ([.ref o, .int a0])).length) Slot.unset).toArray = ls at hl ⊢
  have hl : lv_has ls 2 [(0, .ref o), (1, .int a0)] := hl
  obtain ⟨Q, hQ⟩ : ∃ Q, Q = MQ below (va_Qi (fun (r1 : Int32) (M1 : MS) => r1 = r_ ∧ M1 = M) (m_C D cI cJ o sz) (m_A o)) args s 0 0 (m_A o) := ⟨_, rfl⟩
  rw [← hQ]
  suffices hmain : ∀ (H : Heap) (locs : List Loc), va_P D z_cls (m_W cI cJ o M) H → va_S (m_A o) s.heap H locs → W p l e (z_rm 1 38) s m args below meth c H locs 0 0 Q (F0 m 0 ls []) from hmain s.heap [] hP0 va_S.rf
  clear hP0
  intro H locs hP hS
  unfold f_X8_isFit at h
  refine lv_iload_n hx hb dX8_isFit_0 rfl (lv_at hl 1 rfl) ?_
  refine lv_iconst (v := 0) hx hb dX8_isFit_1 (by decide) ?_
  refine lv_aload_n hx hb dX8_isFit_2 rfl (lv_at hl 0 rfl) ?_
  refine m_get (k := 4) (v := .int (M.1 4 0)) hc hP (by decide) wF_X8_97 rfl dX8_isFit_3 ?_
  refine lv_iconst (v := 1) hx hb dX8_isFit_6 (by decide) ?_
  refine lv_isub hx hb dX8_isFit_7 ?_
  obtain ⟨r_1, er_1, h⟩ := z_bd_some h
  refine s_calli (As := [.int a0, .int (0 : Int32), .int ((M.1 4 0) - (1 : Int32))]) (r := r_1) (n := 3) hc.s (mt_X8_in l a0 (0 : Int32) ((M.1 4 0) - (1 : Int32)) er_1) wM_X8_100 wT_X8_in wZ_X8 wC_X8_in md_X8_in ⟨rfl, rfl, Nat.le_of_ble_eq_true rfl, Nat.le_of_ble_eq_true rfl⟩ rfl hl.1 rfl (Nat.le_of_ble_eq_true rfl) dX8_isFit_8 ⟨Nat.zero_le _, Nat.zero_le _⟩ ?_
  obtain ⟨cb, h⟩ := z_chk_some h
  cases h
  rw [hQ]
  exact m_retz hc hr hlocks cb hP hS hz dX8_isFit_11
theorem md_X8_isFit : yX8_isFit.cls ≠ "java/lang/invoke/MethodHandle" ∧ yX8_isFit.cls ≠ "java/lang/invoke/VarHandle" ∧ (parseMethodDescriptor yX8_isFit.desc).map (fun d => d.parameters.length) = some 1 := by decide +kernel
noncomputable def f_X8_has (a0 : Int32) (a1 : Int32) : Option (Int32) :=
  if ((a0 >>> (a1 &&& 31)) &&& (1 : Int32)) = (1 : Int32) then some (1 : Int32) else some (0 : Int32)
set_option maxHeartbeats 4000000 in
set_option maxRecDepth 100000 in
theorem mt_X8_has (l : Launch) (a0 : Int32) (a1 : Int32) {r_ : Int32} (h : f_X8_has a0 a1 = some r_) : Met l yX8_has (z_wd yX8_has cX8_has 2 (some .boolean)) (z_rm 0 0) (va_Pc [.int a0, .int a1] (fun _ => True)) (vp_Si (fun r1 : Int32 => r1 = r_)) 0 0 (fun _ => False) := by
  refine Met.ofW (cc := cX8_has) (maxL := 2) (ret := (some .boolean)) (by decide) rfl ?_
  intro p e s m args below meth c s₁ B hml hv
  obtain ⟨hav, -⟩ := hv
  have hx := B.exec
  have hb := B.bytes
  have hr := B.returns
  have hts := atoms_spec (ws := z_wd yX8_has cX8_has 2 (some .boolean)) B.pre
  have hown : s.vm.findClass RX8 = some m.cls := findClass_of_methodNamed B.named
  have hlocks := B.notSynchronized
  have hc : s_X p s m args c cX8_has 2 RX8 := ⟨hx, hb, hml, fun w hw => hts w (List.mem_cons_of_mem _ hw), hown⟩
  have hl := lv_entry ([.int a0, .int a1]) (n := 2) (Nat.le_of_ble_eq_true rfl)
  have hE : entryFrame m args 2 = F0 m 0 ((lg_sl ([.int a0, .int a1]) ++ List.replicate (2 - (lg_sl ([.int a0, .int a1])).length) Slot.unset).toArray) [] := by rw [hav]; exact lg_entry_eq m _ _
  rw [hE]
  clear hE hav
  generalize (lg_sl ([.int a0, .int a1]) ++ List.replicate (2 - (lg_sl ([.int a0, .int a1])).length) Slot.unset).toArray = ls at hl ⊢
  have hl : lv_has ls 2 [(0, .int a0), (1, .int a1)] := hl
  obtain ⟨Q, hQ⟩ : ∃ Q, Q = MQ below (vp_Si (fun r1 : Int32 => r1 = r_)) args s 0 0 (fun _ => False) := ⟨_, rfl⟩
  rw [← hQ]
  show W p l e (z_rm 0 0) s m args below meth c s.heap [] 0 0 Q (F0 m 0 ls [])
  unfold f_X8_has at h
  refine lv_iload_n hx hb dX8_has_0 rfl (lv_at hl 0 rfl) ?_
  refine lv_iload_n hx hb dX8_has_1 rfl (lv_at hl 1 rfl) ?_
  refine lv_ishr hx hb dX8_has_2 ?_
  refine lv_iconst (v := 1) hx hb dX8_has_3 (by decide) ?_
  refine lv_iand hx hb dX8_has_4 ?_
  refine lv_iconst (v := 1) hx hb dX8_has_5 (by decide) ?_
  refine lv_icmp_ne (tgt := 13) hx hb dX8_has_6 (by decide) (fun c_6 => ?_) (fun c_6 => ?_)
  · replace h := z_in_ c_6 h
    refine lv_iconst (v := 0) hx hb dX8_has_13 (by decide) ?_
    cases h
    rw [hQ]
    exact s_retz hc hr hlocks (by decide) dX8_has_14
  · replace h := z_ip_ c_6 h
    refine lv_iconst (v := 1) hx hb dX8_has_9 (by decide) ?_
    refine lv_goto (tgt := 14) hx hb dX8_has_10 (by decide) ?_
    cases h
    rw [hQ]
    exact s_retz hc hr hlocks (by decide) dX8_has_14
theorem md_X8_has : yX8_has.cls ≠ "java/lang/invoke/MethodHandle" ∧ yX8_has.cls ≠ "java/lang/invoke/VarHandle" ∧ (parseMethodDescriptor yX8_has.desc).map (fun d => d.parameters.length) = some 2 := by decide +kernel
noncomputable def f_X8_ones_L4 (a0 : Int32) (x1_1 : Int32) (x2_2 : Int32) : Option ((Int32) ⊕ (Int32 × Int32)) :=
  if (12 : Int32) ≤ x2_2 then some (.inl (x1_1)) else some (.inr ((x1_1 + ((a0 >>> (x2_2 &&& 31)) &&& (1 : Int32))), (x2_2 + 1)))
noncomputable def f_X8_ones (a0 : Int32) : Option (Int32) :=
  z_bd (z_lp (fun x => f_X8_ones_L4 a0 x.1 x.2) ((0 : Int32), (0 : Int32))) fun y1_3 => some y1_3
set_option maxHeartbeats 4000000 in
set_option maxRecDepth 100000 in
theorem mt_X8_ones (l : Launch) (a0 : Int32) {r_ : Int32} (h : f_X8_ones a0 = some r_) : Met l yX8_ones (z_wd yX8_ones cX8_ones 3 (some .int)) (z_rm 0 0) (va_Pc [.int a0] (fun _ => True)) (vp_Si (fun r1 : Int32 => r1 = r_)) 0 0 (fun _ => False) := by
  refine Met.ofW (cc := cX8_ones) (maxL := 3) (ret := (some .int)) (by decide) rfl ?_
  intro p e s m args below meth c s₁ B hml hv
  obtain ⟨hav, -⟩ := hv
  have hx := B.exec
  have hb := B.bytes
  have hr := B.returns
  have hts := atoms_spec (ws := z_wd yX8_ones cX8_ones 3 (some .int)) B.pre
  have hown : s.vm.findClass RX8 = some m.cls := findClass_of_methodNamed B.named
  have hlocks := B.notSynchronized
  have hc : s_X p s m args c cX8_ones 3 RX8 := ⟨hx, hb, hml, fun w hw => hts w (List.mem_cons_of_mem _ hw), hown⟩
  have hl := lv_entry ([.int a0]) (n := 3) (Nat.le_of_ble_eq_true rfl)
  have hE : entryFrame m args 3 = F0 m 0 ((lg_sl ([.int a0]) ++ List.replicate (3 - (lg_sl ([.int a0])).length) Slot.unset).toArray) [] := by rw [hav]; exact lg_entry_eq m _ _
  rw [hE]
  clear hE hav
  generalize (lg_sl ([.int a0]) ++ List.replicate (3 - (lg_sl ([.int a0])).length) Slot.unset).toArray = ls at hl ⊢
  have hl : lv_has ls 3 [(0, .int a0)] := hl
  obtain ⟨Q, hQ⟩ : ∃ Q, Q = MQ below (vp_Si (fun r1 : Int32 => r1 = r_)) args s 0 0 (fun _ => False) := ⟨_, rfl⟩
  rw [← hQ]
  show W p l e (z_rm 0 0) s m args below meth c s.heap [] 0 0 Q (F0 m 0 ls [])
  unfold f_X8_ones at h
  refine lv_iconst (v := 0) hx hb dX8_ones_0 (by decide) ?_
  refine lv_istore_n (lv' := [(1, .int (0 : Int32)), (0, .int a0)]) hx hb dX8_ones_1 rfl hl (by decide) rfl (fun ls hl => ?_)
  refine lv_iconst (v := 0) hx hb dX8_ones_2 (by decide) ?_
  refine lv_istore_n (lv' := [(2, .int (0 : Int32)), (1, .int (0 : Int32)), (0, .int a0)]) hx hb dX8_ones_3 rfl hl (by decide) rfl (fun ls hl => ?_)
  obtain ⟨y1_3, hlp, h⟩ := z_bd_some h
  refine z_lp_ind (P := fun x => ∀ (ls : Array Slot), lv_has ls 3 [(0, .int a0), (1, .int x.1), (2, .int x.2)] → W p l e (z_rm 0 0) s m args below meth c s.heap [] 0 0 Q (F0 m 4 ls [])) (Qe := fun y => ∀ (ls : Array Slot), lv_has ls 3 [(1, .int y)] → W p l e (z_rm 0 0) s m args below meth c s.heap [] 0 0 Q (F0 m 24 ls [])) ?_ hlp ?_ ls (lv_sub hl [2, 1, 0] rfl)
  · clear h hlp hl
    rintro ⟨x1_1, x2_2⟩ oo h K_4 ls hl
    have hl : lv_has ls 3 [(0, .int a0), (1, .int x1_1), (2, .int x2_2)] := hl
    have h : f_X8_ones_L4 a0 x1_1 x2_2 = some oo := h
    unfold f_X8_ones_L4 at h
    refine lv_iload_n hx hb dX8_ones_4 rfl (lv_at hl 2 rfl) ?_
    refine lv_bipush (v := 12) hx hb dX8_ones_5 (by decide) ?_
    refine lv_icmp_ge (tgt := 24) hx hb dX8_ones_7 (by decide) (fun c_7 => ?_) (fun c_7 => ?_)
    · replace h := z_ip_ c_7 h
      cases h
      exact K_4 ls (lv_sub hl [1] rfl)
    · replace h := z_in_ c_7 h
      refine lv_iload_n hx hb dX8_ones_10 rfl (lv_at hl 1 rfl) ?_
      refine lv_iload_n hx hb dX8_ones_11 rfl (lv_at hl 0 rfl) ?_
      refine lv_iload_n hx hb dX8_ones_12 rfl (lv_at hl 2 rfl) ?_
      refine lv_ishr hx hb dX8_ones_13 ?_
      refine lv_iconst (v := 1) hx hb dX8_ones_14 (by decide) ?_
      refine lv_iand hx hb dX8_ones_15 ?_
      refine lv_iadd hx hb dX8_ones_16 ?_
      refine lv_istore_n (lv' := [(1, .int (x1_1 + ((a0 >>> (x2_2 &&& 31)) &&& (1 : Int32)))), (0, .int a0), (2, .int x2_2)]) hx hb dX8_ones_17 rfl hl (by decide) rfl (fun ls hl => ?_)
      refine lv_iinc (v := (x2_2 + 1)) (lv' := [(2, .int (x2_2 + 1)), (1, .int (x1_1 + ((a0 >>> (x2_2 &&& 31)) &&& (1 : Int32)))), (0, .int a0)]) hx hb dX8_ones_18 hl (k := 2) rfl rfl (by decide) rfl (fun ls hl => ?_)
      refine lv_goto (tgt := 4) hx hb dX8_ones_21 (by decide) ?_
      cases h
      exact K_4 ls (lv_sub hl [2, 1, 0] rfl)
  · clear hlp hl
    intro ls hl
    have hl : lv_has ls 3 [(1, .int y1_3)] := hl
    refine lv_iload_n hx hb dX8_ones_24 rfl (lv_at hl 0 rfl) ?_
    cases h
    rw [hQ]
    exact s_reti hc hr hlocks dX8_ones_25
theorem md_X8_ones : yX8_ones.cls ≠ "java/lang/invoke/MethodHandle" ∧ yX8_ones.cls ≠ "java/lang/invoke/VarHandle" ∧ (parseMethodDescriptor yX8_ones.desc).map (fun d => d.parameters.length) = some 1 := by decide +kernel
