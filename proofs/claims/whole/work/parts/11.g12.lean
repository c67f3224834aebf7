noncomputable def f_X7_setAt (S : GS) (o : Nat) (a0 : Int32) : Option (Option Nat) :=
  if a0 < 0 then some none else if (6 : Int32) ≤ a0 then some none else z_bd (g_r S 7 0 o) fun f_1 => z_bd (g_rQ S 0 f_1 a0) fun q_2 => some q_2
set_option maxHeartbeats 4000000 in
set_option maxRecDepth 100000 in
theorem mt_X7_setAt (l : Launch) (D : va_G) (cs : Nat → ClassId) (A : Nat → Prop) (S : GS) (o : Nat) (a0 : Int32) {r_ : Option Nat} (h : f_X7_setAt S o a0 = some r_) : Met l yX7_setAt (z_wd yX7_setAt cX7_setAt 2 (some (.object "LevelFits$Points"))) (z_rmA 0 0 0 0) (va_Pc [.ref o, .int a0] (g_C D cs A S)) (g_Q (some (va_rf r_)) S D cs A) 0 0 A := by
  refine Met.ofW (cc := cX7_setAt) (maxL := 2) (ret := (some (.object "LevelFits$Points"))) (by decide) rfl ?_
  intro p e s m args below meth c s₁ B hml hv
  obtain ⟨hav, hP0, hK, hN, hSt, hAn⟩ := hv
  have hx := B.exec
  have hb := B.bytes
  have hr := B.returns
  have hts := atoms_spec (ws := z_wd yX7_setAt cX7_setAt 2 (some (.object "LevelFits$Points"))) B.pre
  have hown : s.vm.findClass RX7 = some m.cls := findClass_of_methodNamed B.named
  have hlocks := B.notSynchronized
  have hc : g_X p s m args c cX7_setAt 2 RX7 D cs A := ⟨⟨hx, hb, hml, fun w hw => hts w (List.mem_cons_of_mem _ hw), hown⟩, hK, hN, hSt, hAn⟩
  have hl := lv_entry ([.ref o, .int a0]) (n := 2) (Nat.le_of_ble_eq_true rfl)
  have hE : entryFrame m args 2 = F0 m 0 ((lg_sl ([.ref o, .int a0]) ++ List.replicate (2 - (lg_sl ([.ref o, .int a0])).length) Slot.unset).toArray) [] := by rw [hav]; exact lg_entry_eq m _ _
  rw [hE]
  clear hE hav
  generalize (lg_sl ([.ref o, .int a0]) ++ List.replicate (2 - (lg_sl ([.ref o, .int a0])).length) Slot.unset).toArray = ls at hl ⊢
  have hl : lv_has ls 2 [(0, .ref o), (1, .int a0)] := hl
  obtain ⟨Q, hQ⟩ : ∃ Q, Q = MQ below (g_Q (some (va_rf r_)) S D cs A) args s 0 0 A := ⟨_, rfl⟩
  rw [← hQ]
  suffices hmain : ∀ (H : Heap) (locs : List Loc), g_P D cs A S H → va_S A s.heap H locs → W p l e (z_rmA 0 0 0 0) s m args below meth c H locs 0 0 Q (F0 m 0 ls []) from hmain s.heap [] hP0 va_S.rf
  clear hP0
  intro H locs hP hS
  unfold f_X7_setAt at h
  refine lv_iload_n hx hb dX7_setAt_0 rfl (lv_at hl 1 rfl) ?_
  refine lv_if_lt (tgt := 19) hx hb dX7_setAt_1 (by decide) (fun c_1 => ?_) (fun c_1 => ?_)
  · replace h := z_ip_ c_1 h
    refine lv_null hx hb dX7_setAt_19 ?_
    cases h
    rw [hQ]
    exact g_retq (r := none) hc hr hlocks hP hS dX7_setAt_20
  · replace h := z_in_ c_1 h
    refine lv_iload_n hx hb dX7_setAt_4 rfl (lv_at hl 1 rfl) ?_
    refine lv_bipush (v := 6) hx hb dX7_setAt_5 (by decide) ?_
    refine lv_icmp_ge (tgt := 19) hx hb dX7_setAt_7 (by decide) (fun c_7 => ?_) (fun c_7 => ?_)
    · replace h := z_ip_ c_7 h
      refine lv_null hx hb dX7_setAt_19 ?_
      cases h
      rw [hQ]
      exact g_retq (r := none) hc hr hlocks hP hS dX7_setAt_20
    · replace h := z_in_ c_7 h
      refine lv_aload_n hx hb dX7_setAt_10 rfl (lv_at hl 0 rfl) ?_
      obtain ⟨f_1, ef_1, h⟩ := z_bd_some h
      refine g_get (ci := 7) (k := 0) (v := .ref f_1) hc hP rfl z_inX7 (by decide) wF_X7_11 (g_r_v ef_1) dX7_setAt_11 ?_
      refine lv_iload_n hx hb dX7_setAt_14 rfl (lv_at hl 1 rfl) ?_
      obtain ⟨q_2, eq_2, h⟩ := z_bd_some h
      refine g_aald (t := 0) hc hP rfl eq_2 dX7_setAt_15 ?_
      refine lv_goto (tgt := 20) hx hb dX7_setAt_16 (by decide) ?_
      cases h
      rw [hQ]
      exact g_retq hc hr hlocks hP hS dX7_setAt_20
theorem md_X7_setAt : yX7_setAt.cls ≠ "java/lang/invoke/MethodHandle" ∧ yX7_setAt.cls ≠ "java/lang/invoke/VarHandle" ∧ (parseMethodDescriptor yX7_setAt.desc).map (fun d => d.parameters.length) = some 1 := by decide +kernel
noncomputable def f_X7_refuse (S : GS) (o : Nat) (a0 : Int32) : Option ((Int32) × GS) :=
  z_bd (g_put S 7 7 o (.int a0)) fun S_1 => some ((-1 : Int32), S_1)
set_option maxHeartbeats 4000000 in
set_option maxRecDepth 100000 in
theorem mt_X7_refuse (l : Launch) (D : va_G) (cs : Nat → ClassId) (A : Nat → Prop) (S : GS) (o : Nat) (a0 : Int32) {r_ : Int32} {N_ : GS} (h : f_X7_refuse S o a0 = some (r_, N_)) : Met l yX7_refuse (z_wd yX7_refuse cX7_refuse 2 (some .int)) (z_rmA 0 0 0 0) (va_Pc [.ref o, .int a0] (g_C D cs A S)) (g_Q (some (.int r_)) N_ D cs A) 0 0 A := by
  refine Met.ofW (cc := cX7_refuse) (maxL := 2) (ret := (some .int)) (by decide) rfl ?_
  intro p e s m args below meth c s₁ B hml hv
  obtain ⟨hav, hP0, hK, hN, hSt, hAn⟩ := hv
  have hx := B.exec
  have hb := B.bytes
  have hr := B.returns
  have hts := atoms_spec (ws := z_wd yX7_refuse cX7_refuse 2 (some .int)) B.pre
  have hown : s.vm.findClass RX7 = some m.cls := findClass_of_methodNamed B.named
  have hlocks := B.notSynchronized
  have hc : g_X p s m args c cX7_refuse 2 RX7 D cs A := ⟨⟨hx, hb, hml, fun w hw => hts w (List.mem_cons_of_mem _ hw), hown⟩, hK, hN, hSt, hAn⟩
  have hl := lv_entry ([.ref o, .int a0]) (n := 2) (Nat.le_of_ble_eq_true rfl)
  have hE : entryFrame m args 2 = F0 m 0 ((lg_sl ([.ref o, .int a0]) ++ List.replicate (2 - (lg_sl ([.ref o, .int a0])).length) Slot.unset).toArray) [] := by rw [hav]; exact lg_entry_eq m _ _
  rw [hE]
  clear hE hav
  generalize (lg_sl ([.ref o, .int a0]) ++ List.replicate (2 - (lg_sl ([.ref o, .int a0])).length) Slot.unset).toArray = ls at hl ⊢
  have hl : lv_has ls 2 [(0, .ref o), (1, .int a0)] := hl
  obtain ⟨Q, hQ⟩ : ∃ Q, Q = MQ below (g_Q (some (.int r_)) N_ D cs A) args s 0 0 A := ⟨_, rfl⟩
  rw [← hQ]
  suffices hmain : ∀ (H : Heap) (locs : List Loc), g_P D cs A S H → va_S A s.heap H locs → W p l e (z_rmA 0 0 0 0) s m args below meth c H locs 0 0 Q (F0 m 0 ls []) from hmain s.heap [] hP0 va_S.rf
  clear hP0
  intro H locs hP hS
  unfold f_X7_refuse at h
  refine lv_aload_n hx hb dX7_refuse_0 rfl (lv_at hl 0 rfl) ?_
  refine lv_iload_n hx hb dX7_refuse_1 rfl (lv_at hl 1 rfl) ?_
  obtain ⟨S_1, eS_1, h⟩ := z_bd_some h
  refine g_putf (ci := 7) (k := 7) (ty := .int) tyX7 hc hP hS rfl z_inX7 tyX7_ok nmX7 (by decide) wF_X7_52 rfl (by decide +kernel) rfl rfl eS_1 dX7_refuse_2 (fun H locs hP hS => ?_)
  refine lv_iconst (v := -1) hx hb dX7_refuse_5 (by decide) ?_
  cases h
  rw [hQ]
  exact g_reti hc hr hlocks hP hS dX7_refuse_6
theorem md_X7_refuse : yX7_refuse.cls ≠ "java/lang/invoke/MethodHandle" ∧ yX7_refuse.cls ≠ "java/lang/invoke/VarHandle" ∧ (parseMethodDescriptor yX7_refuse.desc).map (fun d => d.parameters.length) = some 1 := by decide +kernel
noncomputable def f_X7_done (S : GS) (o : Nat) (a0 : Int32) : Option ((Int32) × GS) :=
  z_bd (g_put S 7 7 o (.int (0 : Int32))) fun S_1 => some (a0, S_1)
set_option maxHeartbeats 4000000 in
set_option maxRecDepth 100000 in
theorem mt_X7_done (l : Launch) (D : va_G) (cs : Nat → ClassId) (A : Nat → Prop) (S : GS) (o : Nat) (a0 : Int32) {r_ : Int32} {N_ : GS} (h : f_X7_done S o a0 = some (r_, N_)) : Met l yX7_done (z_wd yX7_done cX7_done 2 (some .int)) (z_rmA 0 0 0 0) (va_Pc [.ref o, .int a0] (g_C D cs A S)) (g_Q (some (.int r_)) N_ D cs A) 0 0 A := by
  refine Met.ofW (cc := cX7_done) (maxL := 2) (ret := (some .int)) (by decide) rfl ?_
  intro p e s m args below meth c s₁ B hml hv
  obtain ⟨hav, hP0, hK, hN, hSt, hAn⟩ := hv
  have hx := B.exec
  have hb := B.bytes
  have hr := B.returns
  have hts := atoms_spec (ws := z_wd yX7_done cX7_done 2 (some .int)) B.pre
  have hown : s.vm.findClass RX7 = some m.cls := findClass_of_methodNamed B.named
  have hlocks := B.notSynchronized
  have hc : g_X p s m args c cX7_done 2 RX7 D cs A := ⟨⟨hx, hb, hml, fun w hw => hts w (List.mem_cons_of_mem _ hw), hown⟩, hK, hN, hSt, hAn⟩
  have hl := lv_entry ([.ref o, .int a0]) (n := 2) (Nat.le_of_ble_eq_true rfl)
  have hE : entryFrame m args 2 = F0 m 0 ((lg_sl ([.ref o, .int a0]) ++ List.replicate (2 - (lg_sl ([.ref o, .int a0])).length) Slot.unset).toArray) [] := by rw [hav]; exact lg_entry_eq m _ _
  rw [hE]
  clear hE hav
  generalize (lg_sl ([.ref o, .int a0]) ++ List.replicate (2 - (lg_sl ([.ref o, .int a0])).length) Slot.unset).toArray = ls at hl ⊢
  have hl : lv_has ls 2 [(0, .ref o), (1, .int a0)] := hl
  obtain ⟨Q, hQ⟩ : ∃ Q, Q = MQ below (g_Q (some (.int r_)) N_ D cs A) args s 0 0 A := ⟨_, rfl⟩
  rw [← hQ]
  suffices hmain : ∀ (H : Heap) (locs : List Loc), g_P D cs A S H → va_S A s.heap H locs → W p l e (z_rmA 0 0 0 0) s m args below meth c H locs 0 0 Q (F0 m 0 ls []) from hmain s.heap [] hP0 va_S.rf
  clear hP0
  intro H locs hP hS
  unfold f_X7_done at h
  refine lv_aload_n hx hb dX7_done_0 rfl (lv_at hl 0 rfl) ?_
  refine lv_iconst (v := 0) hx hb dX7_done_1 (by decide) ?_
  obtain ⟨S_1, eS_1, h⟩ := z_bd_some h
  refine g_putf (ci := 7) (k := 7) (ty := .int) tyX7 hc hP hS rfl z_inX7 tyX7_ok nmX7 (by decide) wF_X7_52 rfl (by decide +kernel) rfl rfl eS_1 dX7_done_2 (fun H locs hP hS => ?_)
  refine lv_iload_n hx hb dX7_done_5 rfl (lv_at hl 1 rfl) ?_
  cases h
  rw [hQ]
  exact g_reti hc hr hlocks hP hS dX7_done_6
theorem md_X7_done : yX7_done.cls ≠ "java/lang/invoke/MethodHandle" ∧ yX7_done.cls ≠ "java/lang/invoke/VarHandle" ∧ (parseMethodDescriptor yX7_done.desc).map (fun d => d.parameters.length) = some 1 := by decide +kernel
noncomputable def f_X7_point (S : GS) (o : Nat) (a0 : Int32) (a1 : Int32) (a2 : Int32) (a3 : Int32) : Option ((Int32) × GS) :=
  z_chk (g_is S 7 o) (z_bd (f_X7_setAt S o a0) fun q_1 => z_mt q_1 (z_chk (g_is S 7 o) (z_bd2 (f_X7_refuse S o (1 : Int32)) fun r_4 S_3 => some (r_4, S_3))) fun a_2 => z_bd (f_X3_allows S a1 a2 a3) fun r_5 => if r_5 = 0 then z_chk (g_is S 7 o) (z_bd2 (f_X7_refuse S o (1 : Int32)) fun r_17 S_16 => some (r_17, S_16)) else z_chk (g_is S 3 a_2) (z_bd (f_X3_isFull S a_2 ) fun r_6 => if r_6 = 0 then z_chk (g_is S 3 a_2) (z_bd (f_X3_holds S a_2 a1) fun r_7 => if r_7 = 0 then z_chk (g_is S 3 a_2) (z_bd2 (f_X3_insert S a_2 a1 a2 a3) fun r_9 S_8 => z_chk (g_is S_8 7 o) (z_bd2 (f_X7_done S_8 o r_9) fun r_11 S_10 => some (r_11, S_10))) else z_chk (g_is S 7 o) (z_bd2 (f_X7_refuse S o (3 : Int32)) fun r_13 S_12 => some (r_13, S_12))) else z_chk (g_is S 7 o) (z_bd2 (f_X7_refuse S o (2 : Int32)) fun r_15 S_14 => some (r_15, S_14))))
set_option maxHeartbeats 4000000 in
set_option maxRecDepth 100000 in
theorem mt_X7_point (l : Launch) (D : va_G) (cs : Nat → ClassId) (A : Nat → Prop) (S : GS) (o : Nat) (a0 : Int32) (a1 : Int32) (a2 : Int32) (a3 : Int32) {r_ : Int32} {N_ : GS} (h : f_X7_point S o a0 a1 a2 a3 = some (r_, N_)) : Met l yX7_point (z_wd yX7_point cX7_point 6 (some .int)) (z_rmA 2 78 0 0) (va_Pc [.ref o, .int a0, .int a1, .int a2, .int a3] (g_C D cs A S)) (g_Q (some (.int r_)) N_ D cs A) 0 0 A := by
  refine Met.ofW (cc := cX7_point) (maxL := 6) (ret := (some .int)) (by decide) rfl ?_
  intro p e s m args below meth c s₁ B hml hv
  obtain ⟨hav, hP0, hK, hN, hSt, hAn⟩ := hv
  have hx := B.exec
  have hb := B.bytes
  have hr := B.returns
  have hts := atoms_spec (ws := z_wd yX7_point cX7_point 6 (some .int)) B.pre
  have hown : s.vm.findClass RX7 = some m.cls := findClass_of_methodNamed B.named
  have hlocks := B.notSynchronized
  have hc : g_X p s m args c cX7_point 6 RX7 D cs A := ⟨⟨hx, hb, hml, fun w hw => hts w (List.mem_cons_of_mem _ hw), hown⟩, hK, hN, hSt, hAn⟩
  have hl := lv_entry ([.ref o, .int a0, .int a1, .int a2, .int a3]) (n := 6) (Nat.le_of_ble_eq_true rfl)
  have hE : entryFrame m args 6 = F0 m 0 ((lg_sl ([.ref o, .int a0, .int a1, .int a2, .int a3]) ++ List.replicate (6 - (lg_sl ([.ref o, .int a0, .int a1, .int a2, .int a3])).length) Slot.unset).toArray) [] := by rw [hav]; exact lg_entry_eq m _ _
  rw [hE]
  clear hE hav
  generalize (lg_sl ([.ref o, .int a0, .int a1, .int a2, .int a3]) ++ List.replicate (6 - (lg_sl ([.ref o, .int a0, .int a1, .int a2, .int a3])).length) Slot.unset).toArray = ls at hl ⊢
  have hl : lv_has ls 6 [(0, .ref o), (1, .int a0), (2, .int a1), (3, .int a2), (4, .int a3)] := hl
  obtain ⟨Q, hQ⟩ : ∃ Q, Q = MQ below (g_Q (some (.int r_)) N_ D cs A) args s 0 0 A := ⟨_, rfl⟩
  rw [← hQ]
  suffices hmain : ∀ (H : Heap) (locs : List Loc), g_P D cs A S H → va_S A s.heap H locs → W p l e (z_rmA 2 78 0 0) s m args below meth c H locs 0 0 Q (F0 m 0 ls []) from hmain s.heap [] hP0 va_S.rf
  clear hP0
  intro H locs hP hS
  unfold f_X7_point at h
  refine lv_aload_n hx hb dX7_point_0 rfl (lv_at hl 0 rfl) ?_
  refine lv_iload_n hx hb dX7_point_1 rfl (lv_at hl 1 rfl) ?_
  obtain ⟨ho_2, h⟩ := z_chk_some h
  obtain ⟨vs_, ho_2⟩ := Option.isSome_iff_exists.mp ho_2
  obtain ⟨q_1, e_2, h⟩ := z_bd_some h
  refine g_callV (ci := 7) (As := [.int a0]) (rv := (some (va_rf q_1))) (n := 1) hc hP hS rfl ho_2 (mt_X7_setAt l D cs A S o a0 e_2) wM_X7_56 wI_X7_setAt wS_X7_setAt wZ_X7 wC_X7_setAt md_X7_setAt ⟨rfl, rfl, Nat.le_of_ble_eq_true rfl, Nat.le_of_ble_eq_true rfl⟩ rfl hl.1 rfl (Nat.le_of_ble_eq_true rfl) dX7_point_2 ⟨Nat.le_of_ble_eq_true rfl, Nat.le_of_ble_eq_true rfl⟩ (fun H locs hP hS => ?_)
  show W p l e (z_rmA 2 78 0 0) s m args below meth c H locs (0) (0) Q (F0 m 5 ls [va_rf q_1])
  refine q_astore (lv' := [(5, va_rf q_1), (0, .ref o), (1, .int a0), (2, .int a1), (3, .int a2), (4, .int a3)]) hx hb dX7_point_5 hl (by decide) rfl (fun ls hl => ?_)
  refine q_aload hx hb dX7_point_7 (lv_at hl 0 rfl) ?_
  rcases q_1 with _ | a_2
  · replace h := z_mt_n h
    refine lv_ifnullN (tgt := 22) hx hb dX7_point_9 (by decide) ?_
    refine lv_aload_n hx hb dX7_point_22 rfl (lv_at hl 1 rfl) ?_
    refine lv_iconst (v := 1) hx hb dX7_point_23 (by decide) ?_
    obtain ⟨ho_24, h⟩ := z_chk_some h
    obtain ⟨vs_, ho_24⟩ := Option.isSome_iff_exists.mp ho_24
    obtain ⟨r_4, S_3, e_24, h⟩ := z_bd2_some h
    refine g_callV (ci := 7) (As := [.int (1 : Int32)]) (rv := (some (.int r_4))) (n := 1) hc hP hS rfl ho_24 (mt_X7_refuse l D cs A S o (1 : Int32) e_24) wM_X7_64 wI_X7_refuse wS_X7_refuse wZ_X7 wC_X7_refuse md_X7_refuse ⟨rfl, rfl, Nat.le_of_ble_eq_true rfl, Nat.le_of_ble_eq_true rfl⟩ rfl hl.1 rfl (Nat.le_of_ble_eq_true rfl) dX7_point_24 ⟨Nat.le_of_ble_eq_true rfl, Nat.le_of_ble_eq_true rfl⟩ (fun H locs hP hS => ?_)
    show W p l e (z_rmA 2 78 0 0) s m args below meth c H locs (0) (0) Q (F0 m 27 ls [.int r_4])
    cases h
    rw [hQ]
    exact g_reti hc hr hlocks hP hS dX7_point_27
  · replace h := z_mt_s h
    refine lv_ifnull hx hb dX7_point_9 ?_
    refine lv_iload_n hx hb dX7_point_12 rfl (lv_at hl 3 rfl) ?_
    refine lv_iload_n hx hb dX7_point_13 rfl (lv_at hl 4 rfl) ?_
    refine lv_iload hx hb dX7_point_14 (lv_at hl 5 rfl) ?_
    obtain ⟨r_5, e_16, h⟩ := z_bd_some h
    refine g_callS (As := [.int a1, .int a2, .int a3]) (rv := (some (.int r_5))) (n := 3) hc hP hS (mt_X3_allows l D cs A S a1 a2 a3 e_16) wM_X7_60 wT_X3_allows wZ_X3 wC_X3_allows md_X3_allows ⟨rfl, rfl, Nat.le_of_ble_eq_true rfl, Nat.le_of_ble_eq_true rfl⟩ rfl hl.1 rfl (Nat.le_of_ble_eq_true rfl) dX7_point_16 ⟨Nat.le_of_ble_eq_true rfl, Nat.le_of_ble_eq_true rfl⟩ (fun H locs hP hS => ?_)
    show W p l e (z_rmA 2 78 0 0) s m args below meth c H locs (0) (0) Q (F0 m 19 ls [.int r_5])
    refine lv_if_ne (tgt := 28) hx hb dX7_point_19 (by decide) (fun c_19 => ?_) (fun c_19 => ?_)
    · replace h := z_in_ c_19 h
      refine lv_aload hx hb dX7_point_28 (lv_at hl 0 rfl) ?_
      obtain ⟨ho_30, h⟩ := z_chk_some h
      obtain ⟨vs_, ho_30⟩ := Option.isSome_iff_exists.mp ho_30
      obtain ⟨r_6, e_30, h⟩ := z_bd_some h
      refine g_callV (ci := 3) (As := []) (rv := (some (.int r_6))) (n := 0) hc hP hS rfl ho_30 (mt_X3_isFull l D cs A S a_2  e_30) wM_X7_68 wI_X3_isFull wS_X3_isFull wZ_X3 wC_X3_isFull md_X3_isFull ⟨rfl, rfl, Nat.le_of_ble_eq_true rfl, Nat.le_of_ble_eq_true rfl⟩ rfl hl.1 rfl (Nat.le_of_ble_eq_true rfl) dX7_point_30 ⟨Nat.le_of_ble_eq_true rfl, Nat.le_of_ble_eq_true rfl⟩ (fun H locs hP hS => ?_)
      show W p l e (z_rmA 2 78 0 0) s m args below meth c H locs (0) (0) Q (F0 m 33 ls [.int r_6])
      refine lv_if_eq (tgt := 42) hx hb dX7_point_33 (by decide) (fun c_33 => ?_) (fun c_33 => ?_)
      · replace h := z_ip_ c_33 h
        refine lv_aload hx hb dX7_point_42 (lv_at hl 0 rfl) ?_
        refine lv_iload_n hx hb dX7_point_44 rfl (lv_at hl 3 rfl) ?_
        obtain ⟨ho_45, h⟩ := z_chk_some h
        obtain ⟨vs_, ho_45⟩ := Option.isSome_iff_exists.mp ho_45
        obtain ⟨r_7, e_45, h⟩ := z_bd_some h
        refine g_callV (ci := 3) (As := [.int a1]) (rv := (some (.int r_7))) (n := 1) hc hP hS rfl ho_45 (mt_X3_holds l D cs A S a_2 a1 e_45) wM_X7_72 wI_X3_holds wS_X3_holds wZ_X3 wC_X3_holds md_X3_holds ⟨rfl, rfl, Nat.le_of_ble_eq_true rfl, Nat.le_of_ble_eq_true rfl⟩ rfl hl.1 rfl (Nat.le_of_ble_eq_true rfl) dX7_point_45 ⟨Nat.le_of_ble_eq_true rfl, Nat.le_of_ble_eq_true rfl⟩ (fun H locs hP hS => ?_)
        show W p l e (z_rmA 2 78 0 0) s m args below meth c H locs (0) (0) Q (F0 m 48 ls [.int r_7])
        refine lv_if_eq (tgt := 57) hx hb dX7_point_48 (by decide) (fun c_48 => ?_) (fun c_48 => ?_)
        · replace h := z_ip_ c_48 h
          refine lv_aload_n hx hb dX7_point_57 rfl (lv_at hl 1 rfl) ?_
          refine lv_aload hx hb dX7_point_58 (lv_at hl 0 rfl) ?_
          refine lv_iload_n hx hb dX7_point_60 rfl (lv_at hl 3 rfl) ?_
          refine lv_iload_n hx hb dX7_point_61 rfl (lv_at hl 4 rfl) ?_
          refine lv_iload hx hb dX7_point_62 (lv_at hl 5 rfl) ?_
          obtain ⟨ho_64, h⟩ := z_chk_some h
          obtain ⟨vs_, ho_64⟩ := Option.isSome_iff_exists.mp ho_64
          obtain ⟨r_9, S_8, e_64, h⟩ := z_bd2_some h
          refine g_callV (ci := 3) (As := [.int a1, .int a2, .int a3]) (rv := (some (.int r_9))) (n := 3) hc hP hS rfl ho_64 (mt_X3_insert l D cs A S a_2 a1 a2 a3 e_64) wM_X7_76 wI_X3_insert wS_X3_insert wZ_X3 wC_X3_insert md_X3_insert ⟨rfl, rfl, Nat.le_of_ble_eq_true rfl, Nat.le_of_ble_eq_true rfl⟩ rfl hl.1 rfl (Nat.le_of_ble_eq_true rfl) dX7_point_64 ⟨Nat.le_of_ble_eq_true rfl, Nat.le_of_ble_eq_true rfl⟩ (fun H locs hP hS => ?_)
          show W p l e (z_rmA 2 78 0 0) s m args below meth c H locs (0) (0) Q (F0 m 67 ls [.int r_9, .ref o])
          obtain ⟨ho_67, h⟩ := z_chk_some h
          obtain ⟨vs_, ho_67⟩ := Option.isSome_iff_exists.mp ho_67
          obtain ⟨r_11, S_10, e_67, h⟩ := z_bd2_some h
          refine g_callV (ci := 7) (As := [.int r_9]) (rv := (some (.int r_11))) (n := 1) hc hP hS rfl ho_67 (mt_X7_done l D cs A S_8 o r_9 e_67) wM_X7_80 wI_X7_done wS_X7_done wZ_X7 wC_X7_done md_X7_done ⟨rfl, rfl, Nat.le_of_ble_eq_true rfl, Nat.le_of_ble_eq_true rfl⟩ rfl hl.1 rfl (Nat.le_of_ble_eq_true rfl) dX7_point_67 ⟨Nat.le_of_ble_eq_true rfl, Nat.le_of_ble_eq_true rfl⟩ (fun H locs hP hS => ?_)
          show W p l e (z_rmA 2 78 0 0) s m args below meth c H locs (0) (0) Q (F0 m 70 ls [.int r_11])
          cases h
          rw [hQ]
          exact g_reti hc hr hlocks hP hS dX7_point_70
        · replace h := z_in_ c_48 h
          refine lv_aload_n hx hb dX7_point_51 rfl (lv_at hl 1 rfl) ?_
          refine lv_iconst (v := 3) hx hb dX7_point_52 (by decide) ?_
          obtain ⟨ho_53, h⟩ := z_chk_some h
          obtain ⟨vs_, ho_53⟩ := Option.isSome_iff_exists.mp ho_53
          obtain ⟨r_13, S_12, e_53, h⟩ := z_bd2_some h
          refine g_callV (ci := 7) (As := [.int (3 : Int32)]) (rv := (some (.int r_13))) (n := 1) hc hP hS rfl ho_53 (mt_X7_refuse l D cs A S o (3 : Int32) e_53) wM_X7_64 wI_X7_refuse wS_X7_refuse wZ_X7 wC_X7_refuse md_X7_refuse ⟨rfl, rfl, Nat.le_of_ble_eq_true rfl, Nat.le_of_ble_eq_true rfl⟩ rfl hl.1 rfl (Nat.le_of_ble_eq_true rfl) dX7_point_53 ⟨Nat.le_of_ble_eq_true rfl, Nat.le_of_ble_eq_true rfl⟩ (fun H locs hP hS => ?_)
          show W p l e (z_rmA 2 78 0 0) s m args below meth c H locs (0) (0) Q (F0 m 56 ls [.int r_13])
          cases h
          rw [hQ]
          exact g_reti hc hr hlocks hP hS dX7_point_56
      · replace h := z_in_ c_33 h
        refine lv_aload_n hx hb dX7_point_36 rfl (lv_at hl 1 rfl) ?_
        refine lv_iconst (v := 2) hx hb dX7_point_37 (by decide) ?_
        obtain ⟨ho_38, h⟩ := z_chk_some h
        obtain ⟨vs_, ho_38⟩ := Option.isSome_iff_exists.mp ho_38
        obtain ⟨r_15, S_14, e_38, h⟩ := z_bd2_some h
        refine g_callV (ci := 7) (As := [.int (2 : Int32)]) (rv := (some (.int r_15))) (n := 1) hc hP hS rfl ho_38 (mt_X7_refuse l D cs A S o (2 : Int32) e_38) wM_X7_64 wI_X7_refuse wS_X7_refuse wZ_X7 wC_X7_refuse md_X7_refuse ⟨rfl, rfl, Nat.le_of_ble_eq_true rfl, Nat.le_of_ble_eq_true rfl⟩ rfl hl.1 rfl (Nat.le_of_ble_eq_true rfl) dX7_point_38 ⟨Nat.le_of_ble_eq_true rfl, Nat.le_of_ble_eq_true rfl⟩ (fun H locs hP hS => ?_)
        show W p l e (z_rmA 2 78 0 0) s m args below meth c H locs (0) (0) Q (F0 m 41 ls [.int r_15])
        cases h
        rw [hQ]
        exact g_reti hc hr hlocks hP hS dX7_point_41
    · replace h := z_ip_ c_19 h
      refine lv_aload_n hx hb dX7_point_22 rfl (lv_at hl 1 rfl) ?_
      refine lv_iconst (v := 1) hx hb dX7_point_23 (by decide) ?_
      obtain ⟨ho_24, h⟩ := z_chk_some h
      obtain ⟨vs_, ho_24⟩ := Option.isSome_iff_exists.mp ho_24
      obtain ⟨r_17, S_16, e_24, h⟩ := z_bd2_some h
      refine g_callV (ci := 7) (As := [.int (1 : Int32)]) (rv := (some (.int r_17))) (n := 1) hc hP hS rfl ho_24 (mt_X7_refuse l D cs A S o (1 : Int32) e_24) wM_X7_64 wI_X7_refuse wS_X7_refuse wZ_X7 wC_X7_refuse md_X7_refuse ⟨rfl, rfl, Nat.le_of_ble_eq_true rfl, Nat.le_of_ble_eq_true rfl⟩ rfl hl.1 rfl (Nat.le_of_ble_eq_true rfl) dX7_point_24 ⟨Nat.le_of_ble_eq_true rfl, Nat.le_of_ble_eq_true rfl⟩ (fun H locs hP hS => ?_)
      show W p l e (z_rmA 2 78 0 0) s m args below meth c H locs (0) (0) Q (F0 m 27 ls [.int r_17])
      cases h
      rw [hQ]
      exact g_reti hc hr hlocks hP hS dX7_point_27
theorem md_X7_point : yX7_point.cls ≠ "java/lang/invoke/MethodHandle" ∧ yX7_point.cls ≠ "java/lang/invoke/VarHandle" ∧ (parseMethodDescriptor yX7_point.desc).map (fun d => d.parameters.length) = some 4 := by decide +kernel
noncomputable def f_X7_take (S : GS) (o : Nat) (a0 : Int32) (a1 : Int32) : Option ((Int32) × GS) :=
  z_chk (g_is S 7 o) (z_bd (f_X7_setAt S o a0) fun q_1 => z_mt q_1 (z_chk (g_is S 7 o) (z_bd2 (f_X7_refuse S o (1 : Int32)) fun r_4 S_3 => some (r_4, S_3))) fun a_2 => z_chk (g_is S 3 a_2) (z_bd (f_X3_has S a_2 a1) fun r_5 => if r_5 = 0 then z_chk (g_is S 7 o) (z_bd2 (f_X7_refuse S o (1 : Int32)) fun r_11 S_10 => some (r_11, S_10)) else z_chk (g_is S 3 a_2) (z_bd2 (f_X3_remove S a_2 a1) fun r_7 S_6 => z_chk (g_is S_6 7 o) (z_bd2 (f_X7_done S_6 o r_7) fun r_9 S_8 => some (r_9, S_8)))))
set_option maxHeartbeats 4000000 in
set_option maxRecDepth 100000 in
theorem mt_X7_take (l : Launch) (D : va_G) (cs : Nat → ClassId) (A : Nat → Prop) (S : GS) (o : Nat) (a0 : Int32) (a1 : Int32) {r_ : Int32} {N_ : GS} (h : f_X7_take S o a0 a1 = some (r_, N_)) : Met l yX7_take (z_wd yX7_take cX7_take 4 (some .int)) (z_rmA 2 76 0 0) (va_Pc [.ref o, .int a0, .int a1] (g_C D cs A S)) (g_Q (some (.int r_)) N_ D cs A) 0 0 A := by
  refine Met.ofW (cc := cX7_take) (maxL := 4) (ret := (some .int)) (by decide) rfl ?_
  intro p e s m args below meth c s₁ B hml hv
  obtain ⟨hav, hP0, hK, hN, hSt, hAn⟩ := hv
  have hx := B.exec
  have hb := B.bytes
  have hr := B.returns
  have hts := atoms_spec (ws := z_wd yX7_take cX7_take 4 (some .int)) B.pre
  have hown : s.vm.findClass RX7 = some m.cls := findClass_of_methodNamed B.named
  have hlocks := B.notSynchronized
  have hc : g_X p s m args c cX7_take 4 RX7 D cs A := ⟨⟨hx, hb, hml, fun w hw => hts w (List.mem_cons_of_mem _ hw), hown⟩, hK, hN, hSt, hAn⟩
  have hl := lv_entry ([.ref o, .int a0, .int a1]) (n := 4) (Nat.le_of_ble_eq_true rfl)
  have hE : entryFrame m args 4 = F0 m 0 ((lg_sl ([.ref o, .int a0, .int a1]) ++ List.replicate (4 - (lg_sl ([.ref o, .int a0, .int a1])).length) Slot.unset).toArray) [] := by rw [hav]; exact lg_entry_eq m _ _
  rw [hE]
  clear hE hav
  generalize (lg_sl ([.ref o, .int a0, .int a1]) ++ List.replicate (4 - (lg_sl ([.ref o, .int a0, .int a1])).length) Slot.unset).toArray = ls at hl ⊢
  have hl : lv_has ls 4 [(0, .ref o), (1, .int a0), (2, .int a1)] := hl
  obtain ⟨Q, hQ⟩ : ∃ Q, Q = MQ below (g_Q (some (.int r_)) N_ D cs A) args s 0 0 A := ⟨_, rfl⟩
  rw [← hQ]
  suffices hmain : ∀ (H : Heap) (locs : List Loc), g_P D cs A S H → va_S A s.heap H locs → W p l e (z_rmA 2 76 0 0) s m args below meth c H locs 0 0 Q (F0 m 0 ls []) from hmain s.heap [] hP0 va_S.rf
  clear hP0
  intro H locs hP hS
  unfold f_X7_take at h
  refine lv_aload_n hx hb dX7_take_0 rfl (lv_at hl 0 rfl) ?_
  refine lv_iload_n hx hb dX7_take_1 rfl (lv_at hl 1 rfl) ?_
  obtain ⟨ho_2, h⟩ := z_chk_some h
  obtain ⟨vs_, ho_2⟩ := Option.isSome_iff_exists.mp ho_2
  obtain ⟨q_1, e_2, h⟩ := z_bd_some h
  refine g_callV (ci := 7) (As := [.int a0]) (rv := (some (va_rf q_1))) (n := 1) hc hP hS rfl ho_2 (mt_X7_setAt l D cs A S o a0 e_2) wM_X7_56 wI_X7_setAt wS_X7_setAt wZ_X7 wC_X7_setAt md_X7_setAt ⟨rfl, rfl, Nat.le_of_ble_eq_true rfl, Nat.le_of_ble_eq_true rfl⟩ rfl hl.1 rfl (Nat.le_of_ble_eq_true rfl) dX7_take_2 ⟨Nat.le_of_ble_eq_true rfl, Nat.le_of_ble_eq_true rfl⟩ (fun H locs hP hS => ?_)
  show W p l e (z_rmA 2 76 0 0) s m args below meth c H locs (0) (0) Q (F0 m 5 ls [va_rf q_1])
  refine q_astore_n (lv' := [(3, va_rf q_1), (0, .ref o), (1, .int a0), (2, .int a1)]) hx hb dX7_take_5 rfl hl (by decide) rfl (fun ls hl => ?_)
  refine q_aload_n hx hb dX7_take_6 rfl (lv_at hl 0 rfl) ?_
  rcases q_1 with _ | a_2
  · replace h := z_mt_n h
    refine lv_ifnullN (tgt := 18) hx hb dX7_take_7 (by decide) ?_
    refine lv_aload_n hx hb dX7_take_18 rfl (lv_at hl 1 rfl) ?_
    refine lv_iconst (v := 1) hx hb dX7_take_19 (by decide) ?_
    obtain ⟨ho_20, h⟩ := z_chk_some h
    obtain ⟨vs_, ho_20⟩ := Option.isSome_iff_exists.mp ho_20
    obtain ⟨r_4, S_3, e_20, h⟩ := z_bd2_some h
    refine g_callV (ci := 7) (As := [.int (1 : Int32)]) (rv := (some (.int r_4))) (n := 1) hc hP hS rfl ho_20 (mt_X7_refuse l D cs A S o (1 : Int32) e_20) wM_X7_64 wI_X7_refuse wS_X7_refuse wZ_X7 wC_X7_refuse md_X7_refuse ⟨rfl, rfl, Nat.le_of_ble_eq_true rfl, Nat.le_of_ble_eq_true rfl⟩ rfl hl.1 rfl (Nat.le_of_ble_eq_true rfl) dX7_take_20 ⟨Nat.le_of_ble_eq_true rfl, Nat.le_of_ble_eq_true rfl⟩ (fun H locs hP hS => ?_)
    show W p l e (z_rmA 2 76 0 0) s m args below meth c H locs (0) (0) Q (F0 m 23 ls [.int r_4])
    cases h
    rw [hQ]
    exact g_reti hc hr hlocks hP hS dX7_take_23
  · replace h := z_mt_s h
    refine lv_ifnull hx hb dX7_take_7 ?_
    refine lv_aload_n hx hb dX7_take_10 rfl (lv_at hl 0 rfl) ?_
    refine lv_iload_n hx hb dX7_take_11 rfl (lv_at hl 3 rfl) ?_
    obtain ⟨ho_12, h⟩ := z_chk_some h
    obtain ⟨vs_, ho_12⟩ := Option.isSome_iff_exists.mp ho_12
    obtain ⟨r_5, e_12, h⟩ := z_bd_some h
    refine g_callV (ci := 3) (As := [.int a1]) (rv := (some (.int r_5))) (n := 1) hc hP hS rfl ho_12 (mt_X3_has l D cs A S a_2 a1 e_12) wM_X7_83 wI_X3_has wS_X3_has wZ_X3 wC_X3_has md_X3_has ⟨rfl, rfl, Nat.le_of_ble_eq_true rfl, Nat.le_of_ble_eq_true rfl⟩ rfl hl.1 rfl (Nat.le_of_ble_eq_true rfl) dX7_take_12 ⟨Nat.le_of_ble_eq_true rfl, Nat.le_of_ble_eq_true rfl⟩ (fun H locs hP hS => ?_)
    show W p l e (z_rmA 2 76 0 0) s m args below meth c H locs (0) (0) Q (F0 m 15 ls [.int r_5])
    refine lv_if_ne (tgt := 24) hx hb dX7_take_15 (by decide) (fun c_15 => ?_) (fun c_15 => ?_)
    · replace h := z_in_ c_15 h
      refine lv_aload_n hx hb dX7_take_24 rfl (lv_at hl 1 rfl) ?_
      refine lv_aload_n hx hb dX7_take_25 rfl (lv_at hl 0 rfl) ?_
      refine lv_iload_n hx hb dX7_take_26 rfl (lv_at hl 3 rfl) ?_
      obtain ⟨ho_27, h⟩ := z_chk_some h
      obtain ⟨vs_, ho_27⟩ := Option.isSome_iff_exists.mp ho_27
      obtain ⟨r_7, S_6, e_27, h⟩ := z_bd2_some h
      refine g_callV (ci := 3) (As := [.int a1]) (rv := (some (.int r_7))) (n := 1) hc hP hS rfl ho_27 (mt_X3_remove l D cs A S a_2 a1 e_27) wM_X7_86 wI_X3_remove wS_X3_remove wZ_X3 wC_X3_remove md_X3_remove ⟨rfl, rfl, Nat.le_of_ble_eq_true rfl, Nat.le_of_ble_eq_true rfl⟩ rfl hl.1 rfl (Nat.le_of_ble_eq_true rfl) dX7_take_27 ⟨Nat.le_of_ble_eq_true rfl, Nat.le_of_ble_eq_true rfl⟩ (fun H locs hP hS => ?_)
      show W p l e (z_rmA 2 76 0 0) s m args below meth c H locs (0) (0) Q (F0 m 30 ls [.int r_7, .ref o])
      obtain ⟨ho_30, h⟩ := z_chk_some h
      obtain ⟨vs_, ho_30⟩ := Option.isSome_iff_exists.mp ho_30
      obtain ⟨r_9, S_8, e_30, h⟩ := z_bd2_some h
      refine g_callV (ci := 7) (As := [.int r_7]) (rv := (some (.int r_9))) (n := 1) hc hP hS rfl ho_30 (mt_X7_done l D cs A S_6 o r_7 e_30) wM_X7_80 wI_X7_done wS_X7_done wZ_X7 wC_X7_done md_X7_done ⟨rfl, rfl, Nat.le_of_ble_eq_true rfl, Nat.le_of_ble_eq_true rfl⟩ rfl hl.1 rfl (Nat.le_of_ble_eq_true rfl) dX7_take_30 ⟨Nat.le_of_ble_eq_true rfl, Nat.le_of_ble_eq_true rfl⟩ (fun H locs hP hS => ?_)
      show W p l e (z_rmA 2 76 0 0) s m args below meth c H locs (0) (0) Q (F0 m 33 ls [.int r_9])
      cases h
      rw [hQ]
      exact g_reti hc hr hlocks hP hS dX7_take_33
    · replace h := z_ip_ c_15 h
      refine lv_aload_n hx hb dX7_take_18 rfl (lv_at hl 1 rfl) ?_
      refine lv_iconst (v := 1) hx hb dX7_take_19 (by decide) ?_
      obtain ⟨ho_20, h⟩ := z_chk_some h
      obtain ⟨vs_, ho_20⟩ := Option.isSome_iff_exists.mp ho_20
      obtain ⟨r_11, S_10, e_20, h⟩ := z_bd2_some h
      refine g_callV (ci := 7) (As := [.int (1 : Int32)]) (rv := (some (.int r_11))) (n := 1) hc hP hS rfl ho_20 (mt_X7_refuse l D cs A S o (1 : Int32) e_20) wM_X7_64 wI_X7_refuse wS_X7_refuse wZ_X7 wC_X7_refuse md_X7_refuse ⟨rfl, rfl, Nat.le_of_ble_eq_true rfl, Nat.le_of_ble_eq_true rfl⟩ rfl hl.1 rfl (Nat.le_of_ble_eq_true rfl) dX7_take_20 ⟨Nat.le_of_ble_eq_true rfl, Nat.le_of_ble_eq_true rfl⟩ (fun H locs hP hS => ?_)
      show W p l e (z_rmA 2 76 0 0) s m args below meth c H locs (0) (0) Q (F0 m 23 ls [.int r_11])
      cases h
      rw [hQ]
      exact g_reti hc hr hlocks hP hS dX7_take_23
theorem md_X7_take : yX7_take.cls ≠ "java/lang/invoke/MethodHandle" ∧ yX7_take.cls ≠ "java/lang/invoke/VarHandle" ∧ (parseMethodDescriptor yX7_take.desc).map (fun d => d.parameters.length) = some 2 := by decide +kernel
noncomputable def f_X7_pointTold (S : GS) (o : Nat) (a0 : Int32) (a1 : Int32) (a2 : Int32) : Option (Int64) :=
  z_chk (g_is S 7 o) (z_bd (f_X7_setAt S o a0) fun q_1 => z_mt q_1 (some (-1000000000000 : Int64)) fun a_2 => z_chk (g_is S 3 a_2) (z_bd (f_X3_has S a_2 a1) fun r_3 => if r_3 = 0 then some (-1000000000000 : Int64) else if a2 = 0 then z_bd (g_r S 3 0 a_2) fun f_4 => z_bd (g_rI S f_4 a1) fun v_5 => some (v_5.toInt64) else if a2 = 1 then z_bd (g_r S 3 1 a_2) fun f_6 => z_bd (g_rI S f_6 a1) fun v_7 => some (v_7.toInt64) else if a2 = 2 then z_bd (g_r S 3 2 a_2) fun f_8 => z_bd (g_rI S f_8 a1) fun v_9 => some (v_9.toInt64) else some (-1000000000000 : Int64)))
set_option maxHeartbeats 4000000 in
set_option maxRecDepth 100000 in
theorem mt_X7_pointTold (l : Launch) (D : va_G) (cs : Nat → ClassId) (A : Nat → Prop) (S : GS) (o : Nat) (a0 : Int32) (a1 : Int32) (a2 : Int32) {r_ : Int64} (h : f_X7_pointTold S o a0 a1 a2 = some r_) : Met l yX7_pointTold (z_wd yX7_pointTold cX7_pointTold 5 (some .long)) (z_rmA 1 37 0 0) (va_Pc [.ref o, .int a0, .int a1, .int a2] (g_C D cs A S)) (g_Q (some (.long r_)) S D cs A) 0 0 A := by
  refine Met.ofW (cc := cX7_pointTold) (maxL := 5) (ret := (some .long)) (by decide) rfl ?_
  intro p e s m args below meth c s₁ B hml hv
  obtain ⟨hav, hP0, hK, hN, hSt, hAn⟩ := hv
  have hx := B.exec
  have hb := B.bytes
  have hr := B.returns
  have hts := atoms_spec (ws := z_wd yX7_pointTold cX7_pointTold 5 (some .long)) B.pre
  have hown : s.vm.findClass RX7 = some m.cls := findClass_of_methodNamed B.named
  have hlocks := B.notSynchronized
  have hc : g_X p s m args c cX7_pointTold 5 RX7 D cs A := ⟨⟨hx, hb, hml, fun w hw => hts w (List.mem_cons_of_mem _ hw), hown⟩, hK, hN, hSt, hAn⟩
  have hl := lv_entry ([.ref o, .int a0, .int a1, .int a2]) (n := 5) (Nat.le_of_ble_eq_true rfl)
  have hE : entryFrame m args 5 = F0 m 0 ((lg_sl ([.ref o, .int a0, .int a1, .int a2]) ++ List.replicate (5 - (lg_sl ([.ref o, .int a0, .int a1, .int a2])).length) Slot.unset).toArray) [] := by rw [hav]; exact lg_entry_eq m _ _
  rw [hE]
  clear hE hav
  generalize (lg_sl ([.ref o, .int a0, .int a1, .int a2]) ++ List.replicate (5 - (lg_sl ([.ref o, .int a0, .int a1, .int a2])).length) Slot.unset).toArray = ls at hl ⊢
  have hl : lv_has ls 5 [(0, .ref o), (1, .int a0), (2, .int a1), (3, .int a2)] := hl
  obtain ⟨Q, hQ⟩ : ∃ Q, Q = MQ below (g_Q (some (.long r_)) S D cs A) args s 0 0 A := ⟨_, rfl⟩
  rw [← hQ]
  suffices hmain : ∀ (H : Heap) (locs : List Loc), g_P D cs A S H → va_S A s.heap H locs → W p l e (z_rmA 1 37 0 0) s m args below meth c H locs 0 0 Q (F0 m 0 ls []) from hmain s.heap [] hP0 va_S.rf
  clear hP0
  intro H locs hP hS
  unfold f_X7_pointTold at h
  refine lv_aload_n hx hb dX7_pointTold_0 rfl (lv_at hl 0 rfl) ?_
  refine lv_iload_n hx hb dX7_pointTold_1 rfl (lv_at hl 1 rfl) ?_
  obtain ⟨ho_2, h⟩ := z_chk_some h
  obtain ⟨vs_, ho_2⟩ := Option.isSome_iff_exists.mp ho_2
  obtain ⟨q_1, e_2, h⟩ := z_bd_some h
  refine g_callV (ci := 7) (As := [.int a0]) (rv := (some (va_rf q_1))) (n := 1) hc hP hS rfl ho_2 (mt_X7_setAt l D cs A S o a0 e_2) wM_X7_56 wI_X7_setAt wS_X7_setAt wZ_X7 wC_X7_setAt md_X7_setAt ⟨rfl, rfl, Nat.le_of_ble_eq_true rfl, Nat.le_of_ble_eq_true rfl⟩ rfl hl.1 rfl (Nat.le_of_ble_eq_true rfl) dX7_pointTold_2 ⟨Nat.le_of_ble_eq_true rfl, Nat.le_of_ble_eq_true rfl⟩ (fun H locs hP hS => ?_)
  show W p l e (z_rmA 1 37 0 0) s m args below meth c H locs (0) (0) Q (F0 m 5 ls [va_rf q_1])
  refine q_astore (lv' := [(4, va_rf q_1), (0, .ref o), (1, .int a0), (2, .int a1), (3, .int a2)]) hx hb dX7_pointTold_5 hl (by decide) rfl (fun ls hl => ?_)
  refine q_aload hx hb dX7_pointTold_7 (lv_at hl 0 rfl) ?_
  rcases q_1 with _ | a_2
  · replace h := z_mt_n h
    refine lv_ifnullN (tgt := 21) hx hb dX7_pointTold_9 (by decide) ?_
    refine lv_ldc2 (v := -1000000000000) hx hb hc.1.2.2.2.2 (hc.1.2.2.2.1 _ wL_X7_89) dX7_pointTold_21 ?_
    cases h
    rw [hQ]
    exact g_retl hc hr hlocks hP hS dX7_pointTold_24
  · replace h := z_mt_s h
    refine lv_ifnull hx hb dX7_pointTold_9 ?_
    refine lv_aload hx hb dX7_pointTold_12 (lv_at hl 0 rfl) ?_
    refine lv_iload_n hx hb dX7_pointTold_14 rfl (lv_at hl 3 rfl) ?_
    obtain ⟨ho_15, h⟩ := z_chk_some h
    obtain ⟨vs_, ho_15⟩ := Option.isSome_iff_exists.mp ho_15
    obtain ⟨r_3, e_15, h⟩ := z_bd_some h
    refine g_callV (ci := 3) (As := [.int a1]) (rv := (some (.int r_3))) (n := 1) hc hP hS rfl ho_15 (mt_X3_has l D cs A S a_2 a1 e_15) wM_X7_83 wI_X3_has wS_X3_has wZ_X3 wC_X3_has md_X3_has ⟨rfl, rfl, Nat.le_of_ble_eq_true rfl, Nat.le_of_ble_eq_true rfl⟩ rfl hl.1 rfl (Nat.le_of_ble_eq_true rfl) dX7_pointTold_15 ⟨Nat.le_of_ble_eq_true rfl, Nat.le_of_ble_eq_true rfl⟩ (fun H locs hP hS => ?_)
    show W p l e (z_rmA 1 37 0 0) s m args below meth c H locs (0) (0) Q (F0 m 18 ls [.int r_3])
    refine lv_if_ne (tgt := 25) hx hb dX7_pointTold_18 (by decide) (fun c_18 => ?_) (fun c_18 => ?_)
    · replace h := z_in_ c_18 h
      refine lv_iload_n hx hb dX7_pointTold_25 rfl (lv_at hl 4 rfl) ?_
      by_cases c_26_0 : a2 = 0
      · replace h := z_ip_ c_26_0 h
        refine lv_tableIn (off := 26) (tgt := 52) hx hb dX7_pointTold_26 (by rw [c_26_0]; decide) (by rw [c_26_0]; decide) (by rw [c_26_0]; rfl) (by decide) ?_
        refine lv_aload hx hb dX7_pointTold_52 (lv_at hl 0 rfl) ?_
        obtain ⟨f_4, ef_4, h⟩ := z_bd_some h
        refine g_getN (ci := 3) (k := 0) (v := .ref f_4) hc hP rfl z_inX3 (by decide) wG_X7_91 (g_r_v ef_4) dX7_pointTold_54 ?_
        refine lv_iload_n hx hb dX7_pointTold_57 rfl (lv_at hl 3 rfl) ?_
        obtain ⟨v_5, ev_5, h⟩ := z_bd_some h
        refine g_iald hc hP ev_5 dX7_pointTold_58 ?_
        refine lv_i2l (v := v_5.toInt64) hx hb dX7_pointTold_59 rfl ?_
        cases h
        rw [hQ]
        exact g_retl hc hr hlocks hP hS dX7_pointTold_60
      · replace h := z_in_ c_26_0 h
        by_cases c_26_1 : a2 = 1
        · replace h := z_ip_ c_26_1 h
          refine lv_tableIn (off := 35) (tgt := 61) hx hb dX7_pointTold_26 (by rw [c_26_1]; decide) (by rw [c_26_1]; decide) (by rw [c_26_1]; rfl) (by decide) ?_
          refine lv_aload hx hb dX7_pointTold_61 (lv_at hl 0 rfl) ?_
          obtain ⟨f_6, ef_6, h⟩ := z_bd_some h
          refine g_getN (ci := 3) (k := 1) (v := .ref f_6) hc hP rfl z_inX3 (by decide) wG_X7_95 (g_r_v ef_6) dX7_pointTold_63 ?_
          refine lv_iload_n hx hb dX7_pointTold_66 rfl (lv_at hl 3 rfl) ?_
          obtain ⟨v_7, ev_7, h⟩ := z_bd_some h
          refine g_iald hc hP ev_7 dX7_pointTold_67 ?_
          refine lv_i2l (v := v_7.toInt64) hx hb dX7_pointTold_68 rfl ?_
          cases h
          rw [hQ]
          exact g_retl hc hr hlocks hP hS dX7_pointTold_69
        · replace h := z_in_ c_26_1 h
          by_cases c_26_2 : a2 = 2
          · replace h := z_ip_ c_26_2 h
            refine lv_tableIn (off := 44) (tgt := 70) hx hb dX7_pointTold_26 (by rw [c_26_2]; decide) (by rw [c_26_2]; decide) (by rw [c_26_2]; rfl) (by decide) ?_
            refine lv_aload hx hb dX7_pointTold_70 (lv_at hl 0 rfl) ?_
            obtain ⟨f_8, ef_8, h⟩ := z_bd_some h
            refine g_getN (ci := 3) (k := 2) (v := .ref f_8) hc hP rfl z_inX3 (by decide) wG_X7_98 (g_r_v ef_8) dX7_pointTold_72 ?_
            refine lv_iload_n hx hb dX7_pointTold_75 rfl (lv_at hl 3 rfl) ?_
            obtain ⟨v_9, ev_9, h⟩ := z_bd_some h
            refine g_iald hc hP ev_9 dX7_pointTold_76 ?_
            refine lv_i2l (v := v_9.toInt64) hx hb dX7_pointTold_77 rfl ?_
            cases h
            rw [hQ]
            exact g_retl hc hr hlocks hP hS dX7_pointTold_78
          · replace h := z_in_ c_26_2 h
            refine lv_tableOut (tgt := 79) hx hb dX7_pointTold_26 (z_out_0_2 c_26_0 c_26_1 c_26_2) (by decide) ?_
            refine lv_ldc2 (v := -1000000000000) hx hb hc.1.2.2.2.2 (hc.1.2.2.2.1 _ wL_X7_89) dX7_pointTold_79 ?_
            cases h
            rw [hQ]
            exact g_retl hc hr hlocks hP hS dX7_pointTold_82
    · replace h := z_ip_ c_18 h
      refine lv_ldc2 (v := -1000000000000) hx hb hc.1.2.2.2.2 (hc.1.2.2.2.1 _ wL_X7_89) dX7_pointTold_21 ?_
      cases h
      rw [hQ]
      exact g_retl hc hr hlocks hP hS dX7_pointTold_24
theorem md_X7_pointTold : yX7_pointTold.cls ≠ "java/lang/invoke/MethodHandle" ∧ yX7_pointTold.cls ≠ "java/lang/invoke/VarHandle" ∧ (parseMethodDescriptor yX7_pointTold.desc).map (fun d => d.parameters.length) = some 3 := by decide +kernel
