noncomputable def f_X8_divisor_L28  (x4_3 : Int64) (x6_4 : Int64) : Option ((Int64) ⊕ (Int64 × Int64)) :=
  if (lg_cmp x6_4 (0 : Int64)) = 0 then some (.inl (x4_3)) else z_chk (¬ x6_4 = 0) (some (.inr (x6_4, (x4_3 - x4_3 / x6_4 * x6_4))))
noncomputable def f_X8_divisor (a0 : Int64) (a1 : Int64) : Option (Int64) :=
  z_bd (if 0 ≤ (lg_cmp a0 (0 : Int64)) then some (a0) else some ((-a0))) fun v_1 => z_bd (if 0 ≤ (lg_cmp a1 (0 : Int64)) then some (a1) else some ((-a1))) fun v_2 => z_bd (z_lp (fun x => f_X8_divisor_L28  x.1 x.2) (v_1, v_2)) fun y4_5 => some y4_5
set_option maxHeartbeats 4000000 in
set_option maxRecDepth 100000 in
theorem mt_X8_divisor (l : Launch) (a0 : Int64) (a1 : Int64) {r_ : Int64} (h : f_X8_divisor a0 a1 = some r_) : Met l yX8_divisor (z_wd yX8_divisor cX8_divisor 10 (some .long)) (z_rm 0 0) (va_Pc [.long a0, .long a1] (fun _ => True)) (vp_Sl (fun r1 : Int64 => r1 = r_)) 0 0 (fun _ => False) := by
  refine Met.ofW (cc := cX8_divisor) (maxL := 10) (ret := (some .long)) (by decide) rfl ?_
  intro p e s m args below meth c s₁ B hml hv
  obtain ⟨hav, -⟩ := hv
  have hx := B.exec
  have hb := B.bytes
  have hr := B.returns
  have hts := atoms_spec (ws := z_wd yX8_divisor cX8_divisor 10 (some .long)) B.pre
  have hown : s.vm.findClass RX8 = some m.cls := findClass_of_methodNamed B.named
  have hlocks := B.notSynchronized
  have hc : s_X p s m args c cX8_divisor 10 RX8 := ⟨hx, hb, hml, fun w hw => hts w (List.mem_cons_of_mem _ hw), hown⟩
  have hl := lv_entry ([.long a0, .long a1]) (n := 10) (Nat.le_of_ble_eq_true rfl)
  have hE : entryFrame m args 10 = F0 m 0 ((lg_sl ([.long a0, .long a1]) ++ List.replicate (10 - (lg_sl ([.long a0, .long a1])).length) Slot.unset).toArray) [] := by rw [hav]; exact lg_entry_eq m _ _
  rw [hE]
  clear hE hav
  generalize (lg_sl ([.long a0, .long a1]) ++ List.replicate (10 - (lg_sl ([.long a0, .long a1])).length) Slot.unset).toArray = ls at hl ⊢
  have hl : lv_has ls 10 [(0, .long a0), (2, .long a1)] := hl
  obtain ⟨Q, hQ⟩ : ∃ Q, Q = MQ below (vp_Sl (fun r1 : Int64 => r1 = r_)) args s 0 0 (fun _ => False) := ⟨_, rfl⟩
  rw [← hQ]
  show W p l e (z_rm 0 0) s m args below meth c s.heap [] 0 0 Q (F0 m 0 ls [])
  unfold f_X8_divisor at h
  refine lv_lload_n hx hb dX8_divisor_0 rfl (lv_at hl 0 rfl) ?_
  refine lv_lconst (v := 0) hx hb dX8_divisor_1 (by decide) ?_
  refine W.lcmp hx hb dX8_divisor_2 ?_
  obtain ⟨v_1, hJ, h⟩ := z_bd_some h
  have J_12 : ∀ (ls : Array Slot), lv_has ls 10 [(2, .long a1)] → W p l e (z_rm 0 0) s m args below meth c s.heap [] 0 0 Q (F0 m 12 ls [.long v_1]) := by
    intro ls hl
    refine lv_lstore (lv' := [(4, .long v_1), (2, .long a1)]) hx hb dX8_divisor_12 hl (by decide) rfl (fun ls hl => ?_)
    refine lv_lload_n hx hb dX8_divisor_14 rfl (lv_at hl 1 rfl) ?_
    refine lv_lconst (v := 0) hx hb dX8_divisor_15 (by decide) ?_
    refine W.lcmp hx hb dX8_divisor_16 ?_
    obtain ⟨v_2, hJ, h⟩ := z_bd_some h
    have J_26 : ∀ (ls : Array Slot), lv_has ls 10 [(4, .long v_1)] → W p l e (z_rm 0 0) s m args below meth c s.heap [] 0 0 Q (F0 m 26 ls [.long v_2]) := by
      intro ls hl
      refine lv_lstore (lv' := [(6, .long v_2), (4, .long v_1)]) hx hb dX8_divisor_26 hl (by decide) rfl (fun ls hl => ?_)
      obtain ⟨y4_5, hlp, h⟩ := z_bd_some h
      refine z_lp_ind (P := fun x => ∀ (ls : Array Slot), lv_has ls 10 [(4, .long x.1), (6, .long x.2)] → W p l e (z_rm 0 0) s m args below meth c s.heap [] 0 0 Q (F0 m 28 ls [])) (Qe := fun y => ∀ (ls : Array Slot), lv_has ls 10 [(4, .long y)] → W p l e (z_rm 0 0) s m args below meth c s.heap [] 0 0 Q (F0 m 53 ls [])) ?_ hlp ?_ ls (lv_sub hl [1, 0] rfl)
      · clear h hlp hl
        rintro ⟨x4_3, x6_4⟩ oo h K_28 ls hl
        have hl : lv_has ls 10 [(4, .long x4_3), (6, .long x6_4)] := hl
        have h : f_X8_divisor_L28  x4_3 x6_4 = some oo := h
        unfold f_X8_divisor_L28 at h
        refine lv_lload hx hb dX8_divisor_28 (lv_at hl 1 rfl) ?_
        refine lv_lconst (v := 0) hx hb dX8_divisor_30 (by decide) ?_
        refine W.lcmp hx hb dX8_divisor_31 ?_
        refine lv_if_eq (tgt := 53) hx hb dX8_divisor_32 (by decide) (fun c_32 => ?_) (fun c_32 => ?_)
        · replace h := z_ip_ c_32 h
          cases h
          exact K_28 ls (lv_sub hl [0] rfl)
        · replace h := z_in_ c_32 h
          refine lv_lload hx hb dX8_divisor_35 (lv_at hl 0 rfl) ?_
          refine lv_lload hx hb dX8_divisor_37 (lv_at hl 1 rfl) ?_
          obtain ⟨c_39, h⟩ := z_chk_some h
          refine lv_lrem hx hb dX8_divisor_39 c_39 ?_
          refine lv_lstore (lv' := [(8, .long (x4_3 - x4_3 / x6_4 * x6_4)), (4, .long x4_3), (6, .long x6_4)]) hx hb dX8_divisor_40 hl (by decide) rfl (fun ls hl => ?_)
          refine lv_lload hx hb dX8_divisor_42 (lv_at hl 2 rfl) ?_
          refine lv_lstore (lv' := [(4, .long x6_4), (8, .long (x4_3 - x4_3 / x6_4 * x6_4)), (6, .long x6_4)]) hx hb dX8_divisor_44 hl (by decide) rfl (fun ls hl => ?_)
          refine lv_lload hx hb dX8_divisor_46 (lv_at hl 1 rfl) ?_
          refine lv_lstore (lv' := [(6, .long (x4_3 - x4_3 / x6_4 * x6_4)), (4, .long x6_4), (8, .long (x4_3 - x4_3 / x6_4 * x6_4))]) hx hb dX8_divisor_48 hl (by decide) rfl (fun ls hl => ?_)
          refine lv_goto (tgt := 28) hx hb dX8_divisor_50 (by decide) ?_
          cases h
          exact K_28 ls (lv_sub hl [1, 0] rfl)
      · clear hlp hl
        intro ls hl
        have hl : lv_has ls 10 [(4, .long y4_5)] := hl
        refine lv_lload hx hb dX8_divisor_53 (lv_at hl 0 rfl) ?_
        cases h
        rw [hQ]
        exact s_retl hc hr hlocks dX8_divisor_55
    clear h
    have h := hJ
    clear hJ
    refine lv_if_ge (tgt := 25) hx hb dX8_divisor_17 (by decide) (fun c_17 => ?_) (fun c_17 => ?_)
    · replace h := z_ip_ c_17 h
      refine lv_lload_n hx hb dX8_divisor_25 rfl (lv_at hl 1 rfl) ?_
      cases h
      exact J_26 ls (lv_sub hl [0] rfl)
    · replace h := z_in_ c_17 h
      refine lv_lload_n hx hb dX8_divisor_20 rfl (lv_at hl 1 rfl) ?_
      refine lv_lneg hx hb dX8_divisor_21 ?_
      refine lv_goto (tgt := 26) hx hb dX8_divisor_22 (by decide) ?_
      cases h
      exact J_26 ls (lv_sub hl [0] rfl)
  clear h
  have h := hJ
  clear hJ
  refine lv_if_ge (tgt := 11) hx hb dX8_divisor_3 (by decide) (fun c_3 => ?_) (fun c_3 => ?_)
  · replace h := z_ip_ c_3 h
    refine lv_lload_n hx hb dX8_divisor_11 rfl (lv_at hl 0 rfl) ?_
    cases h
    exact J_12 ls (lv_sub hl [1] rfl)
  · replace h := z_in_ c_3 h
    refine lv_lload_n hx hb dX8_divisor_6 rfl (lv_at hl 0 rfl) ?_
    refine lv_lneg hx hb dX8_divisor_7 ?_
    refine lv_goto (tgt := 12) hx hb dX8_divisor_8 (by decide) ?_
    cases h
    exact J_12 ls (lv_sub hl [1] rfl)
theorem md_X8_divisor : yX8_divisor.cls ≠ "java/lang/invoke/MethodHandle" ∧ yX8_divisor.cls ≠ "java/lang/invoke/VarHandle" ∧ (parseMethodDescriptor yX8_divisor.desc).map (fun d => d.parameters.length) = some 2 := by decide +kernel
noncomputable def f_X8_is (M : MS) (a0 : Int64) (a1 : Int64) : Option (MS) :=
  z_bd (f_X8_divisor a0 a1) fun r_1 => z_bd (if 0 ≤ (lg_cmp a1 (0 : Int64)) then some (r_1) else some ((-r_1))) fun v_2 => z_chk (¬ v_2 = 0) (z_lt (sJ M 21 0 (a0 / v_2)) fun M_3 => z_chk (¬ v_2 = 0) (z_lt (sJ M_3 22 0 (a1 / v_2)) fun M_4 => some M_4))
set_option maxHeartbeats 4000000 in
set_option maxRecDepth 100000 in
theorem mt_X8_is (l : Launch) (D : va_G) (cI cJ : ClassId) (o sz : Nat) (M : MS) (a0 : Int64) (a1 : Int64) {N_ : MS} (h : f_X8_is M a0 a1 = some N_) : Met l yX8_is (z_wd yX8_is cX8_is 7 none) (z_rm 1 45) (va_Pc [.ref o, .long a0, .long a1] (m_C D cI cJ o sz M)) (va_Qv (fun (M1 : MS) => M1 = N_) (m_C D cI cJ o sz) (m_A o)) 0 0 (m_A o) := by
  refine Met.ofW (cc := cX8_is) (maxL := 7) (ret := none) (by decide) rfl ?_
  intro p e s m args below meth c s₁ B hml hv
  obtain ⟨hav, hz, hP0, hK⟩ := hv
  have hx := B.exec
  have hb := B.bytes
  have hr := B.returns
  have hts := atoms_spec (ws := z_wd yX8_is cX8_is 7 none) B.pre
  have hown : s.vm.findClass RX8 = some m.cls := findClass_of_methodNamed B.named
  have hlocks := B.notSynchronized
  have hc : m_X p s m args c cX8_is 7 D cI cJ := ⟨hx, hb, hml, fun w hw => hts w (List.mem_cons_of_mem _ hw), hown, hK⟩
  have hl := lv_entry ([.ref o, .long a0, .long a1]) (n := 7) (Nat.le_of_ble_eq_true rfl)
  have hE : entryFrame m args 7 = F0 m 0 ((lg_sl ([.ref o, .long a0, .long a1]) ++ List.replicate (7 - (lg_sl ([.ref o, .long a0, .long a1])).length) Slot.unset).toArray) [] := by rw [hav]; exact lg_entry_eq m _ _
  rw [hE]
  clear hE hav
  generalize (lg_sl ([.ref o, .long a0, .long a1]) ++ List.replicate (7 - (lg_sl ([.ref o, .long a0, .long a1])).length) Slot.unset).toArray = ls at hl ⊢
  have hl : lv_has ls 7 [(0, .ref o), (1, .long a0), (3, .long a1)] := hl
  obtain ⟨Q, hQ⟩ : ∃ Q, Q = MQ below (va_Qv (fun (M1 : MS) => M1 = N_) (m_C D cI cJ o sz) (m_A o)) args s 0 0 (m_A o) := ⟨_, rfl⟩
  rw [← hQ]
  suffices hmain : ∀ (H : Heap) (locs : List Loc), va_P D z_cls (m_W cI cJ o M) H → va_S (m_A o) s.heap H locs → W p l e (z_rm 1 45) s m args below meth c H locs 0 0 Q (F0 m 0 ls []) from hmain s.heap [] hP0 va_S.rf
  clear hP0
  intro H locs hP hS
  unfold f_X8_is at h
  refine lv_lload_n hx hb dX8_is_0 rfl (lv_at hl 1 rfl) ?_
  refine lv_lload_n hx hb dX8_is_1 rfl (lv_at hl 2 rfl) ?_
  obtain ⟨r_1, er_1, h⟩ := z_bd_some h
  refine s_calll (As := [.long a0, .long a1]) (r := r_1) (n := 2) hc.s (mt_X8_divisor l a0 a1 er_1) wM_X8_104 wT_X8_divisor wZ_X8 wC_X8_divisor md_X8_divisor ⟨rfl, rfl, Nat.le_of_ble_eq_true rfl, Nat.le_of_ble_eq_true rfl⟩ rfl hl.1 rfl (Nat.le_of_ble_eq_true rfl) dX8_is_2 ⟨Nat.zero_le _, Nat.zero_le _⟩ ?_
  refine lv_lstore (lv' := [(5, .long r_1), (0, .ref o), (1, .long a0), (3, .long a1)]) hx hb dX8_is_5 hl (by decide) rfl (fun ls hl => ?_)
  refine lv_lload_n hx hb dX8_is_7 rfl (lv_at hl 3 rfl) ?_
  refine lv_lconst (v := 0) hx hb dX8_is_8 (by decide) ?_
  refine W.lcmp hx hb dX8_is_9 ?_
  obtain ⟨v_2, hJ, h⟩ := z_bd_some h
  have J_21 : ∀ (H : Heap) (locs : List Loc) (ls : Array Slot), va_P D z_cls (m_W cI cJ o M) H → va_S (m_A o) s.heap H locs → lv_has ls 7 [(0, .ref o), (1, .long a0), (3, .long a1)] → W p l e (z_rm 1 45) s m args below meth c H locs 0 0 Q (F0 m 21 ls [.long v_2]) := by
    intro H locs ls hP hS hl
    refine lv_lstore (lv' := [(5, .long v_2), (0, .ref o), (1, .long a0), (3, .long a1)]) hx hb dX8_is_21 hl (by decide) rfl (fun ls hl => ?_)
    refine lv_aload_n hx hb dX8_is_23 rfl (lv_at hl 1 rfl) ?_
    refine lv_lload_n hx hb dX8_is_24 rfl (lv_at hl 2 rfl) ?_
    refine lv_lload hx hb dX8_is_25 (lv_at hl 0 rfl) ?_
    obtain ⟨c_27, h⟩ := z_chk_some h
    refine lv_ldiv hx hb dX8_is_27 c_27 ?_
    obtain ⟨M_3, eM_3, h⟩ := z_lt_some h
    refine m_put (k := 21) (M' := M_3) (ty := .long) hc hP hS (by decide) wF_X8_108 rfl (by decide +kernel) rfl rfl (by rw [eM_3]; exact mp_21 ..) dX8_is_28 (fun H locs hP hS => ?_)
    refine lv_aload_n hx hb dX8_is_31 rfl (lv_at hl 1 rfl) ?_
    refine lv_lload_n hx hb dX8_is_32 rfl (lv_at hl 3 rfl) ?_
    refine lv_lload hx hb dX8_is_33 (lv_at hl 0 rfl) ?_
    obtain ⟨c_35, h⟩ := z_chk_some h
    refine lv_ldiv hx hb dX8_is_35 c_35 ?_
    obtain ⟨M_4, eM_4, h⟩ := z_lt_some h
    refine m_put (k := 22) (M' := M_4) (ty := .long) hc hP hS (by decide) wF_X8_65 rfl (by decide +kernel) rfl rfl (by rw [eM_4]; exact mp_22 ..) dX8_is_36 (fun H locs hP hS => ?_)
    cases h
    rw [hQ]
    exact m_retv hc hr hlocks hP hS hz dX8_is_39
  clear h
  have h := hJ
  clear hJ
  refine lv_if_ge (tgt := 19) hx hb dX8_is_10 (by decide) (fun c_10 => ?_) (fun c_10 => ?_)
  · replace h := z_ip_ c_10 h
    refine lv_lload hx hb dX8_is_19 (lv_at hl 0 rfl) ?_
    cases h
    exact J_21 H locs ls hP hS (lv_sub hl [1, 2, 3] rfl)
  · replace h := z_in_ c_10 h
    refine lv_lload hx hb dX8_is_13 (lv_at hl 0 rfl) ?_
    refine lv_lneg hx hb dX8_is_15 ?_
    refine lv_goto (tgt := 21) hx hb dX8_is_16 (by decide) ?_
    cases h
    exact J_21 H locs ls hP hS (lv_sub hl [1, 2, 3] rfl)
theorem md_X8_is : yX8_is.cls ≠ "java/lang/invoke/MethodHandle" ∧ yX8_is.cls ≠ "java/lang/invoke/VarHandle" ∧ (parseMethodDescriptor yX8_is.desc).map (fun d => d.parameters.length) = some 2 := by decide +kernel
noncomputable def f_X8_plus (M : MS) (a0 : Int64) (a1 : Int64) (a2 : Int64) (a3 : Int64) : Option (MS) :=
  z_bd (f_X8_divisor a1 a3) fun r_1 => z_chk (¬ r_1 = 0) (z_chk (¬ r_1 = 0) (z_chk (¬ r_1 = 0) (z_bd (f_X8_is M ((a0 * (a3 / r_1)) + (a2 * (a1 / r_1))) ((a1 / r_1) * a3)) fun M_2 => some M_2)))
set_option maxHeartbeats 4000000 in
set_option maxRecDepth 100000 in
theorem mt_X8_plus (l : Launch) (D : va_G) (cI cJ : ClassId) (o sz : Nat) (M : MS) (a0 : Int64) (a1 : Int64) (a2 : Int64) (a3 : Int64) {N_ : MS} (h : f_X8_plus M a0 a1 a2 a3 = some N_) : Met l yX8_plus (z_wd yX8_plus cX8_plus 11 none) (z_rm 2 87) (va_Pc [.ref o, .long a0, .long a1, .long a2, .long a3] (m_C D cI cJ o sz M)) (va_Qv (fun (M1 : MS) => M1 = N_) (m_C D cI cJ o sz) (m_A o)) 0 0 (m_A o) := by
  refine Met.ofW (cc := cX8_plus) (maxL := 11) (ret := none) (by decide) rfl ?_
  intro p e s m args below meth c s₁ B hml hv
  obtain ⟨hav, hz, hP0, hK⟩ := hv
  have hx := B.exec
  have hb := B.bytes
  have hr := B.returns
  have hts := atoms_spec (ws := z_wd yX8_plus cX8_plus 11 none) B.pre
  have hown : s.vm.findClass RX8 = some m.cls := findClass_of_methodNamed B.named
  have hlocks := B.notSynchronized
  have hc : m_X p s m args c cX8_plus 11 D cI cJ := ⟨hx, hb, hml, fun w hw => hts w (List.mem_cons_of_mem _ hw), hown, hK⟩
  have hl := lv_entry ([.ref o, .long a0, .long a1, .long a2, .long a3]) (n := 11) (Nat.le_of_ble_eq_true rfl)
  have hE : entryFrame m args 11 = F0 m 0 ((lg_sl ([.ref o, .long a0, .long a1, .long a2, .long a3]) ++ List.replicate (11 - (lg_sl ([.ref o, .long a0, .long a1, .long a2, .long a3])).length) Slot.unset).toArray) [] := by rw [hav]; exact lg_entry_eq m _ _
  rw [hE]
  clear hE hav
  generalize (lg_sl ([.ref o, .long a0, .long a1, .long a2, .long a3]) ++ List.replicate (11 - (lg_sl ([.ref o, .long a0, .long a1, .long a2, .long a3])).length) Slot.unset).toArray = ls at hl ⊢
  have hl : lv_has ls 11 [(0, .ref o), (1, .long a0), (3, .long a1), (5, .long a2), (7, .long a3)] := hl
  obtain ⟨Q, hQ⟩ : ∃ Q, Q = MQ below (va_Qv (fun (M1 : MS) => M1 = N_) (m_C D cI cJ o sz) (m_A o)) args s 0 0 (m_A o) := ⟨_, rfl⟩
  rw [← hQ]
  suffices hmain : ∀ (H : Heap) (locs : List Loc), va_P D z_cls (m_W cI cJ o M) H → va_S (m_A o) s.heap H locs → W p l e (z_rm 2 87) s m args below meth c H locs 0 0 Q (F0 m 0 ls []) from hmain s.heap [] hP0 va_S.rf
  clear hP0
  intro H locs hP hS
  unfold f_X8_plus at h
  refine lv_lload_n hx hb dX8_plus_0 rfl (lv_at hl 2 rfl) ?_
  refine lv_lload hx hb dX8_plus_1 (lv_at hl 4 rfl) ?_
  obtain ⟨r_1, er_1, h⟩ := z_bd_some h
  refine s_calll (As := [.long a1, .long a3]) (r := r_1) (n := 2) hc.s (mt_X8_divisor l a1 a3 er_1) wM_X8_104 wT_X8_divisor wZ_X8 wC_X8_divisor md_X8_divisor ⟨rfl, rfl, Nat.le_of_ble_eq_true rfl, Nat.le_of_ble_eq_true rfl⟩ rfl hl.1 rfl (Nat.le_of_ble_eq_true rfl) dX8_plus_3 ⟨Nat.zero_le _, Nat.zero_le _⟩ ?_
  refine lv_lstore (lv' := [(9, .long r_1), (0, .ref o), (1, .long a0), (3, .long a1), (5, .long a2), (7, .long a3)]) hx hb dX8_plus_6 hl (by decide) rfl (fun ls hl => ?_)
  refine lv_aload_n hx hb dX8_plus_8 rfl (lv_at hl 1 rfl) ?_
  refine lv_lload_n hx hb dX8_plus_9 rfl (lv_at hl 2 rfl) ?_
  refine lv_lload hx hb dX8_plus_10 (lv_at hl 5 rfl) ?_
  refine lv_lload hx hb dX8_plus_12 (lv_at hl 0 rfl) ?_
  obtain ⟨c_14, h⟩ := z_chk_some h
  refine lv_ldiv hx hb dX8_plus_14 c_14 ?_
  refine lv_lmul hx hb dX8_plus_15 ?_
  refine lv_lload hx hb dX8_plus_16 (lv_at hl 4 rfl) ?_
  refine lv_lload_n hx hb dX8_plus_18 rfl (lv_at hl 3 rfl) ?_
  refine lv_lload hx hb dX8_plus_19 (lv_at hl 0 rfl) ?_
  obtain ⟨c_21, h⟩ := z_chk_some h
  refine lv_ldiv hx hb dX8_plus_21 c_21 ?_
  refine lv_lmul hx hb dX8_plus_22 ?_
  refine lv_ladd hx hb dX8_plus_23 ?_
  refine lv_lload_n hx hb dX8_plus_24 rfl (lv_at hl 3 rfl) ?_
  refine lv_lload hx hb dX8_plus_25 (lv_at hl 0 rfl) ?_
  obtain ⟨c_27, h⟩ := z_chk_some h
  refine lv_ldiv hx hb dX8_plus_27 c_27 ?_
  refine lv_lload hx hb dX8_plus_28 (lv_at hl 5 rfl) ?_
  refine lv_lmul hx hb dX8_plus_30 ?_
  obtain ⟨M_2, eM_2, h⟩ := z_bd_some h
  refine m_callv (As := [.long ((a0 * (a3 / r_1)) + (a2 * (a1 / r_1))), .long ((a1 / r_1) * a3)]) (M' := M_2) (n := 2) hc hP hS (mt_X8_is l D cI cJ o H.size M ((a0 * (a3 / r_1)) + (a2 * (a1 / r_1))) ((a1 / r_1) * a3) eM_2) wM_X8_111 wI_X8_is wS_X8_is wZ_X8 wC_X8_is md_X8_is ⟨rfl, rfl, Nat.le_of_ble_eq_true rfl, Nat.le_of_ble_eq_true rfl⟩ rfl hl.1 rfl (Nat.le_of_ble_eq_true rfl) dX8_plus_31 ⟨Nat.zero_le _, Nat.zero_le _⟩ (fun H locs hP hS => ?_)
  cases h
  rw [hQ]
  exact m_retv hc hr hlocks hP hS hz dX8_plus_34
theorem md_X8_plus : yX8_plus.cls ≠ "java/lang/invoke/MethodHandle" ∧ yX8_plus.cls ≠ "java/lang/invoke/VarHandle" ∧ (parseMethodDescriptor yX8_plus.desc).map (fun d => d.parameters.length) = some 4 := by decide +kernel
