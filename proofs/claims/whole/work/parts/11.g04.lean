noncomputable def f_J6_bitCount_0f7a4 (a0 : Int32) : Option (Int32) :=
  some ((((((((a0 - ((a0.toUInt32 >>> ((1 : Int32).toUInt32 &&& Int32.toUInt32 31)).toInt32 &&& (1431655765 : Int32))) &&& (858993459 : Int32)) + (((a0 - ((a0.toUInt32 >>> ((1 : Int32).toUInt32 &&& Int32.toUInt32 31)).toInt32 &&& (1431655765 : Int32))).toUInt32 >>> ((2 : Int32).toUInt32 &&& Int32.toUInt32 31)).toInt32 &&& (858993459 : Int32))) + ((((a0 - ((a0.toUInt32 >>> ((1 : Int32).toUInt32 &&& Int32.toUInt32 31)).toInt32 &&& (1431655765 : Int32))) &&& (858993459 : Int32)) + (((a0 - ((a0.toUInt32 >>> ((1 : Int32).toUInt32 &&& Int32.toUInt32 31)).toInt32 &&& (1431655765 : Int32))).toUInt32 >>> ((2 : Int32).toUInt32 &&& Int32.toUInt32 31)).toInt32 &&& (858993459 : Int32))).toUInt32 >>> ((4 : Int32).toUInt32 &&& Int32.toUInt32 31)).toInt32) &&& (252645135 : Int32)) + ((((((a0 - ((a0.toUInt32 >>> ((1 : Int32).toUInt32 &&& Int32.toUInt32 31)).toInt32 &&& (1431655765 : Int32))) &&& (858993459 : Int32)) + (((a0 - ((a0.toUInt32 >>> ((1 : Int32).toUInt32 &&& Int32.toUInt32 31)).toInt32 &&& (1431655765 : Int32))).toUInt32 >>> ((2 : Int32).toUInt32 &&& Int32.toUInt32 31)).toInt32 &&& (858993459 : Int32))) + ((((a0 - ((a0.toUInt32 >>> ((1 : Int32).toUInt32 &&& Int32.toUInt32 31)).toInt32 &&& (1431655765 : Int32))) &&& (858993459 : Int32)) + (((a0 - ((a0.toUInt32 >>> ((1 : Int32).toUInt32 &&& Int32.toUInt32 31)).toInt32 &&& (1431655765 : Int32))).toUInt32 >>> ((2 : Int32).toUInt32 &&& Int32.toUInt32 31)).toInt32 &&& (858993459 : Int32))).toUInt32 >>> ((4 : Int32).toUInt32 &&& Int32.toUInt32 31)).toInt32) &&& (252645135 : Int32)).toUInt32 >>> ((8 : Int32).toUInt32 &&& Int32.toUInt32 31)).toInt32) + (((((((a0 - ((a0.toUInt32 >>> ((1 : Int32).toUInt32 &&& Int32.toUInt32 31)).toInt32 &&& (1431655765 : Int32))) &&& (858993459 : Int32)) + (((a0 - ((a0.toUInt32 >>> ((1 : Int32).toUInt32 &&& Int32.toUInt32 31)).toInt32 &&& (1431655765 : Int32))).toUInt32 >>> ((2 : Int32).toUInt32 &&& Int32.toUInt32 31)).toInt32 &&& (858993459 : Int32))) + ((((a0 - ((a0.toUInt32 >>> ((1 : Int32).toUInt32 &&& Int32.toUInt32 31)).toInt32 &&& (1431655765 : Int32))) &&& (858993459 : Int32)) + (((a0 - ((a0.toUInt32 >>> ((1 : Int32).toUInt32 &&& Int32.toUInt32 31)).toInt32 &&& (1431655765 : Int32))).toUInt32 >>> ((2 : Int32).toUInt32 &&& Int32.toUInt32 31)).toInt32 &&& (858993459 : Int32))).toUInt32 >>> ((4 : Int32).toUInt32 &&& Int32.toUInt32 31)).toInt32) &&& (252645135 : Int32)) + ((((((a0 - ((a0.toUInt32 >>> ((1 : Int32).toUInt32 &&& Int32.toUInt32 31)).toInt32 &&& (1431655765 : Int32))) &&& (858993459 : Int32)) + (((a0 - ((a0.toUInt32 >>> ((1 : Int32).toUInt32 &&& Int32.toUInt32 31)).toInt32 &&& (1431655765 : Int32))).toUInt32 >>> ((2 : Int32).toUInt32 &&& Int32.toUInt32 31)).toInt32 &&& (858993459 : Int32))) + ((((a0 - ((a0.toUInt32 >>> ((1 : Int32).toUInt32 &&& Int32.toUInt32 31)).toInt32 &&& (1431655765 : Int32))) &&& (858993459 : Int32)) + (((a0 - ((a0.toUInt32 >>> ((1 : Int32).toUInt32 &&& Int32.toUInt32 31)).toInt32 &&& (1431655765 : Int32))).toUInt32 >>> ((2 : Int32).toUInt32 &&& Int32.toUInt32 31)).toInt32 &&& (858993459 : Int32))).toUInt32 >>> ((4 : Int32).toUInt32 &&& Int32.toUInt32 31)).toInt32) &&& (252645135 : Int32)).toUInt32 >>> ((8 : Int32).toUInt32 &&& Int32.toUInt32 31)).toInt32).toUInt32 >>> ((16 : Int32).toUInt32 &&& Int32.toUInt32 31)).toInt32) &&& (63 : Int32))
set_option maxHeartbeats 4000000 in
set_option maxRecDepth 100000 in
theorem mt_J6_bitCount_0f7a4 (l : Launch) (a0 : Int32) {r_ : Int32} (h : f_J6_bitCount_0f7a4 a0 = some r_) : Met l yJ6_bitCount_0f7a4 (z_wd yJ6_bitCount_0f7a4 cJ6_bitCount_0f7a4 1 (some .int)) (z_rm 0 0) (va_Pc [.int a0] (fun _ => True)) (vp_Si (fun r1 : Int32 => r1 = r_)) 0 0 (fun _ => False) := by
  refine z_ofWF (cc := cJ6_bitCount_0f7a4) (maxL := 1) (ret := (some .int)) (by decide +kernel) rfl ?_
  intro p e s m args below meth c s₁ B hml hv
  obtain ⟨hav, -⟩ := hv
  have hx := B.exec
  have hb := B.bytes
  have hr := B.returns
  have hts := atoms_spec (ws := z_wd yJ6_bitCount_0f7a4 cJ6_bitCount_0f7a4 1 (some .int)) B.pre
  have hown : s.vm.findClass RJ6 = some m.cls := findClass_of_methodNamed B.named
  have hlocks := B.notSynchronized
  have hc : s_X p s m args c cJ6_bitCount_0f7a4 1 RJ6 := ⟨hx, hb, hml, fun w hw => hts w (List.mem_cons_of_mem _ hw), hown⟩
  have hl := lv_entry ([.int a0]) (n := 1) (Nat.le_of_ble_eq_true rfl)
  have hE : entryFrame m args 1 = F0 m 0 ((lg_sl ([.int a0]) ++ List.replicate (1 - (lg_sl ([.int a0])).length) Slot.unset).toArray) [] := by rw [hav]; exact lg_entry_eq m _ _
  rw [hE]
  clear hE hav
  generalize (lg_sl ([.int a0]) ++ List.replicate (1 - (lg_sl ([.int a0])).length) Slot.unset).toArray = ls at hl ⊢
  have hl : lv_has ls 1 [(0, .int a0)] := hl
  obtain ⟨Q, hQ⟩ : ∃ Q, Q = MQ below (vp_Si (fun r1 : Int32 => r1 = r_)) args s 0 0 (fun _ => False) := ⟨_, rfl⟩
  rw [← hQ]
  show W p l e (z_rm 0 0) s m args below meth c s.heap [] 0 0 Q (F0 m 0 ls [])
  unfold f_J6_bitCount_0f7a4 at h
  refine lv_iload_n hx hb dJ6_bitCount_0f7a4_0 rfl (lv_at hl 0 rfl) ?_
  refine lv_iload_n hx hb dJ6_bitCount_0f7a4_1 rfl (lv_at hl 0 rfl) ?_
  refine lv_iconst (v := 1) hx hb dJ6_bitCount_0f7a4_2 (by decide) ?_
  refine lv_iushr (v := (a0.toUInt32 >>> ((1 : Int32).toUInt32 &&& Int32.toUInt32 31)).toInt32) hx hb dJ6_bitCount_0f7a4_3 rfl ?_
  refine lv_ldcw (v := 1431655765) hx hb hc.2.2.2.2 (hc.2.2.2.1 _ wQ_J6_265) dJ6_bitCount_0f7a4_4 ?_
  refine lv_iand hx hb dJ6_bitCount_0f7a4_7 ?_
  refine lv_isub hx hb dJ6_bitCount_0f7a4_8 ?_
  refine lv_istore_n (lv' := [(0, .int (a0 - ((a0.toUInt32 >>> ((1 : Int32).toUInt32 &&& Int32.toUInt32 31)).toInt32 &&& (1431655765 : Int32))))]) hx hb dJ6_bitCount_0f7a4_9 rfl hl (by decide) rfl (fun ls hl => ?_)
  refine lv_iload_n hx hb dJ6_bitCount_0f7a4_10 rfl (lv_at hl 0 rfl) ?_
  refine lv_ldcw (v := 858993459) hx hb hc.2.2.2.2 (hc.2.2.2.1 _ wQ_J6_266) dJ6_bitCount_0f7a4_11 ?_
  refine lv_iand hx hb dJ6_bitCount_0f7a4_14 ?_
  refine lv_iload_n hx hb dJ6_bitCount_0f7a4_15 rfl (lv_at hl 0 rfl) ?_
  refine lv_iconst (v := 2) hx hb dJ6_bitCount_0f7a4_16 (by decide) ?_
  refine lv_iushr (v := ((a0 - ((a0.toUInt32 >>> ((1 : Int32).toUInt32 &&& Int32.toUInt32 31)).toInt32 &&& (1431655765 : Int32))).toUInt32 >>> ((2 : Int32).toUInt32 &&& Int32.toUInt32 31)).toInt32) hx hb dJ6_bitCount_0f7a4_17 rfl ?_
  refine lv_ldcw (v := 858993459) hx hb hc.2.2.2.2 (hc.2.2.2.1 _ wQ_J6_266) dJ6_bitCount_0f7a4_18 ?_
  refine lv_iand hx hb dJ6_bitCount_0f7a4_21 ?_
  refine lv_iadd hx hb dJ6_bitCount_0f7a4_22 ?_
  refine lv_istore_n (lv' := [(0, .int (((a0 - ((a0.toUInt32 >>> ((1 : Int32).toUInt32 &&& Int32.toUInt32 31)).toInt32 &&& (1431655765 : Int32))) &&& (858993459 : Int32)) + (((a0 - ((a0.toUInt32 >>> ((1 : Int32).toUInt32 &&& Int32.toUInt32 31)).toInt32 &&& (1431655765 : Int32))).toUInt32 >>> ((2 : Int32).toUInt32 &&& Int32.toUInt32 31)).toInt32 &&& (858993459 : Int32))))]) hx hb dJ6_bitCount_0f7a4_23 rfl hl (by decide) rfl (fun ls hl => ?_)
  refine lv_iload_n hx hb dJ6_bitCount_0f7a4_24 rfl (lv_at hl 0 rfl) ?_
  refine lv_iload_n hx hb dJ6_bitCount_0f7a4_25 rfl (lv_at hl 0 rfl) ?_
  refine lv_iconst (v := 4) hx hb dJ6_bitCount_0f7a4_26 (by decide) ?_
  refine lv_iushr (v := ((((a0 - ((a0.toUInt32 >>> ((1 : Int32).toUInt32 &&& Int32.toUInt32 31)).toInt32 &&& (1431655765 : Int32))) &&& (858993459 : Int32)) + (((a0 - ((a0.toUInt32 >>> ((1 : Int32).toUInt32 &&& Int32.toUInt32 31)).toInt32 &&& (1431655765 : Int32))).toUInt32 >>> ((2 : Int32).toUInt32 &&& Int32.toUInt32 31)).toInt32 &&& (858993459 : Int32))).toUInt32 >>> ((4 : Int32).toUInt32 &&& Int32.toUInt32 31)).toInt32) hx hb dJ6_bitCount_0f7a4_27 rfl ?_
  refine lv_iadd hx hb dJ6_bitCount_0f7a4_28 ?_
  refine lv_ldcw (v := 252645135) hx hb hc.2.2.2.2 (hc.2.2.2.1 _ wQ_J6_267) dJ6_bitCount_0f7a4_29 ?_
  refine lv_iand hx hb dJ6_bitCount_0f7a4_32 ?_
  refine lv_istore_n (lv' := [(0, .int (((((a0 - ((a0.toUInt32 >>> ((1 : Int32).toUInt32 &&& Int32.toUInt32 31)).toInt32 &&& (1431655765 : Int32))) &&& (858993459 : Int32)) + (((a0 - ((a0.toUInt32 >>> ((1 : Int32).toUInt32 &&& Int32.toUInt32 31)).toInt32 &&& (1431655765 : Int32))).toUInt32 >>> ((2 : Int32).toUInt32 &&& Int32.toUInt32 31)).toInt32 &&& (858993459 : Int32))) + ((((a0 - ((a0.toUInt32 >>> ((1 : Int32).toUInt32 &&& Int32.toUInt32 31)).toInt32 &&& (1431655765 : Int32))) &&& (858993459 : Int32)) + (((a0 - ((a0.toUInt32 >>> ((1 : Int32).toUInt32 &&& Int32.toUInt32 31)).toInt32 &&& (1431655765 : Int32))).toUInt32 >>> ((2 : Int32).toUInt32 &&& Int32.toUInt32 31)).toInt32 &&& (858993459 : Int32))).toUInt32 >>> ((4 : Int32).toUInt32 &&& Int32.toUInt32 31)).toInt32) &&& (252645135 : Int32)))]) hx hb dJ6_bitCount_0f7a4_33 rfl hl (by decide) rfl (fun ls hl => ?_)
  refine lv_iload_n hx hb dJ6_bitCount_0f7a4_34 rfl (lv_at hl 0 rfl) ?_
  refine lv_iload_n hx hb dJ6_bitCount_0f7a4_35 rfl (lv_at hl 0 rfl) ?_
  refine lv_bipush (v := 8) hx hb dJ6_bitCount_0f7a4_36 (by decide) ?_
  refine lv_iushr (v := ((((((a0 - ((a0.toUInt32 >>> ((1 : Int32).toUInt32 &&& Int32.toUInt32 31)).toInt32 &&& (1431655765 : Int32))) &&& (858993459 : Int32)) + (((a0 - ((a0.toUInt32 >>> ((1 : Int32).toUInt32 &&& Int32.toUInt32 31)).toInt32 &&& (1431655765 : Int32))).toUInt32 >>> ((2 : Int32).toUInt32 &&& Int32.toUInt32 31)).toInt32 &&& (858993459 : Int32))) + ((((a0 - ((a0.toUInt32 >>> ((1 : Int32).toUInt32 &&& Int32.toUInt32 31)).toInt32 &&& (1431655765 : Int32))) &&& (858993459 : Int32)) + (((a0 - ((a0.toUInt32 >>> ((1 : Int32).toUInt32 &&& Int32.toUInt32 31)).toInt32 &&& (1431655765 : Int32))).toUInt32 >>> ((2 : Int32).toUInt32 &&& Int32.toUInt32 31)).toInt32 &&& (858993459 : Int32))).toUInt32 >>> ((4 : Int32).toUInt32 &&& Int32.toUInt32 31)).toInt32) &&& (252645135 : Int32)).toUInt32 >>> ((8 : Int32).toUInt32 &&& Int32.toUInt32 31)).toInt32) hx hb dJ6_bitCount_0f7a4_38 rfl ?_
  refine lv_iadd hx hb dJ6_bitCount_0f7a4_39 ?_
  refine lv_istore_n (lv' := [(0, .int ((((((a0 - ((a0.toUInt32 >>> ((1 : Int32).toUInt32 &&& Int32.toUInt32 31)).toInt32 &&& (1431655765 : Int32))) &&& (858993459 : Int32)) + (((a0 - ((a0.toUInt32 >>> ((1 : Int32).toUInt32 &&& Int32.toUInt32 31)).toInt32 &&& (1431655765 : Int32))).toUInt32 >>> ((2 : Int32).toUInt32 &&& Int32.toUInt32 31)).toInt32 &&& (858993459 : Int32))) + ((((a0 - ((a0.toUInt32 >>> ((1 : Int32).toUInt32 &&& Int32.toUInt32 31)).toInt32 &&& (1431655765 : Int32))) &&& (858993459 : Int32)) + (((a0 - ((a0.toUInt32 >>> ((1 : Int32).toUInt32 &&& Int32.toUInt32 31)).toInt32 &&& (1431655765 : Int32))).toUInt32 >>> ((2 : Int32).toUInt32 &&& Int32.toUInt32 31)).toInt32 &&& (858993459 : Int32))).toUInt32 >>> ((4 : Int32).toUInt32 &&& Int32.toUInt32 31)).toInt32) &&& (252645135 : Int32)) + ((((((a0 - ((a0.toUInt32 >>> ((1 : Int32).toUInt32 &&& Int32.toUInt32 31)).toInt32 &&& (1431655765 : Int32))) &&& (858993459 : Int32)) + (((a0 - ((a0.toUInt32 >>> ((1 : Int32).toUInt32 &&& Int32.toUInt32 31)).toInt32 &&& (1431655765 : Int32))).toUInt32 >>> ((2 : Int32).toUInt32 &&& Int32.toUInt32 31)).toInt32 &&& (858993459 : Int32))) + ((((a0 - ((a0.toUInt32 >>> ((1 : Int32).toUInt32 &&& Int32.toUInt32 31)).toInt32 &&& (1431655765 : Int32))) &&& (858993459 : Int32)) + (((a0 - ((a0.toUInt32 >>> ((1 : Int32).toUInt32 &&& Int32.toUInt32 31)).toInt32 &&& (1431655765 : Int32))).toUInt32 >>> ((2 : Int32).toUInt32 &&& Int32.toUInt32 31)).toInt32 &&& (858993459 : Int32))).toUInt32 >>> ((4 : Int32).toUInt32 &&& Int32.toUInt32 31)).toInt32) &&& (252645135 : Int32)).toUInt32 >>> ((8 : Int32).toUInt32 &&& Int32.toUInt32 31)).toInt32))]) hx hb dJ6_bitCount_0f7a4_40 rfl hl (by decide) rfl (fun ls hl => ?_)
  refine lv_iload_n hx hb dJ6_bitCount_0f7a4_41 rfl (lv_at hl 0 rfl) ?_
  refine lv_iload_n hx hb dJ6_bitCount_0f7a4_42 rfl (lv_at hl 0 rfl) ?_
  refine lv_bipush (v := 16) hx hb dJ6_bitCount_0f7a4_43 (by decide) ?_
  refine lv_iushr (v := (((((((a0 - ((a0.toUInt32 >>> ((1 : Int32).toUInt32 &&& Int32.toUInt32 31)).toInt32 &&& (1431655765 : Int32))) &&& (858993459 : Int32)) + (((a0 - ((a0.toUInt32 >>> ((1 : Int32).toUInt32 &&& Int32.toUInt32 31)).toInt32 &&& (1431655765 : Int32))).toUInt32 >>> ((2 : Int32).toUInt32 &&& Int32.toUInt32 31)).toInt32 &&& (858993459 : Int32))) + ((((a0 - ((a0.toUInt32 >>> ((1 : Int32).toUInt32 &&& Int32.toUInt32 31)).toInt32 &&& (1431655765 : Int32))) &&& (858993459 : Int32)) + (((a0 - ((a0.toUInt32 >>> ((1 : Int32).toUInt32 &&& Int32.toUInt32 31)).toInt32 &&& (1431655765 : Int32))).toUInt32 >>> ((2 : Int32).toUInt32 &&& Int32.toUInt32 31)).toInt32 &&& (858993459 : Int32))).toUInt32 >>> ((4 : Int32).toUInt32 &&& Int32.toUInt32 31)).toInt32) &&& (252645135 : Int32)) + ((((((a0 - ((a0.toUInt32 >>> ((1 : Int32).toUInt32 &&& Int32.toUInt32 31)).toInt32 &&& (1431655765 : Int32))) &&& (858993459 : Int32)) + (((a0 - ((a0.toUInt32 >>> ((1 : Int32).toUInt32 &&& Int32.toUInt32 31)).toInt32 &&& (1431655765 : Int32))).toUInt32 >>> ((2 : Int32).toUInt32 &&& Int32.toUInt32 31)).toInt32 &&& (858993459 : Int32))) + ((((a0 - ((a0.toUInt32 >>> ((1 : Int32).toUInt32 &&& Int32.toUInt32 31)).toInt32 &&& (1431655765 : Int32))) &&& (858993459 : Int32)) + (((a0 - ((a0.toUInt32 >>> ((1 : Int32).toUInt32 &&& Int32.toUInt32 31)).toInt32 &&& (1431655765 : Int32))).toUInt32 >>> ((2 : Int32).toUInt32 &&& Int32.toUInt32 31)).toInt32 &&& (858993459 : Int32))).toUInt32 >>> ((4 : Int32).toUInt32 &&& Int32.toUInt32 31)).toInt32) &&& (252645135 : Int32)).toUInt32 >>> ((8 : Int32).toUInt32 &&& Int32.toUInt32 31)).toInt32).toUInt32 >>> ((16 : Int32).toUInt32 &&& Int32.toUInt32 31)).toInt32) hx hb dJ6_bitCount_0f7a4_45 rfl ?_
  refine lv_iadd hx hb dJ6_bitCount_0f7a4_46 ?_
  refine lv_istore_n (lv' := [(0, .int (((((((a0 - ((a0.toUInt32 >>> ((1 : Int32).toUInt32 &&& Int32.toUInt32 31)).toInt32 &&& (1431655765 : Int32))) &&& (858993459 : Int32)) + (((a0 - ((a0.toUInt32 >>> ((1 : Int32).toUInt32 &&& Int32.toUInt32 31)).toInt32 &&& (1431655765 : Int32))).toUInt32 >>> ((2 : Int32).toUInt32 &&& Int32.toUInt32 31)).toInt32 &&& (858993459 : Int32))) + ((((a0 - ((a0.toUInt32 >>> ((1 : Int32).toUInt32 &&& Int32.toUInt32 31)).toInt32 &&& (1431655765 : Int32))) &&& (858993459 : Int32)) + (((a0 - ((a0.toUInt32 >>> ((1 : Int32).toUInt32 &&& Int32.toUInt32 31)).toInt32 &&& (1431655765 : Int32))).toUInt32 >>> ((2 : Int32).toUInt32 &&& Int32.toUInt32 31)).toInt32 &&& (858993459 : Int32))).toUInt32 >>> ((4 : Int32).toUInt32 &&& Int32.toUInt32 31)).toInt32) &&& (252645135 : Int32)) + ((((((a0 - ((a0.toUInt32 >>> ((1 : Int32).toUInt32 &&& Int32.toUInt32 31)).toInt32 &&& (1431655765 : Int32))) &&& (858993459 : Int32)) + (((a0 - ((a0.toUInt32 >>> ((1 : Int32).toUInt32 &&& Int32.toUInt32 31)).toInt32 &&& (1431655765 : Int32))).toUInt32 >>> ((2 : Int32).toUInt32 &&& Int32.toUInt32 31)).toInt32 &&& (858993459 : Int32))) + ((((a0 - ((a0.toUInt32 >>> ((1 : Int32).toUInt32 &&& Int32.toUInt32 31)).toInt32 &&& (1431655765 : Int32))) &&& (858993459 : Int32)) + (((a0 - ((a0.toUInt32 >>> ((1 : Int32).toUInt32 &&& Int32.toUInt32 31)).toInt32 &&& (1431655765 : Int32))).toUInt32 >>> ((2 : Int32).toUInt32 &&& Int32.toUInt32 31)).toInt32 &&& (858993459 : Int32))).toUInt32 >>> ((4 : Int32).toUInt32 &&& Int32.toUInt32 31)).toInt32) &&& (252645135 : Int32)).toUInt32 >>> ((8 : Int32).toUInt32 &&& Int32.toUInt32 31)).toInt32) + (((((((a0 - ((a0.toUInt32 >>> ((1 : Int32).toUInt32 &&& Int32.toUInt32 31)).toInt32 &&& (1431655765 : Int32))) &&& (858993459 : Int32)) + (((a0 - ((a0.toUInt32 >>> ((1 : Int32).toUInt32 &&& Int32.toUInt32 31)).toInt32 &&& (1431655765 : Int32))).toUInt32 >>> ((2 : Int32).toUInt32 &&& Int32.toUInt32 31)).toInt32 &&& (858993459 : Int32))) + ((((a0 - ((a0.toUInt32 >>> ((1 : Int32).toUInt32 &&& Int32.toUInt32 31)).toInt32 &&& (1431655765 : Int32))) &&& (858993459 : Int32)) + (((a0 - ((a0.toUInt32 >>> ((1 : Int32).toUInt32 &&& Int32.toUInt32 31)).toInt32 &&& (1431655765 : Int32))).toUInt32 >>> ((2 : Int32).toUInt32 &&& Int32.toUInt32 31)).toInt32 &&& (858993459 : Int32))).toUInt32 >>> ((4 : Int32).toUInt32 &&& Int32.toUInt32 31)).toInt32) &&& (252645135 : Int32)) + ((((((a0 - ((a0.toUInt32 >>> ((1 : Int32).toUInt32 &&& Int32.toUInt32 31)).toInt32 &&& (1431655765 : Int32))) &&& (858993459 : Int32)) + (((a0 - ((a0.toUInt32 >>> ((1 : Int32).toUInt32 &&& Int32.toUInt32 31)).toInt32 &&& (1431655765 : Int32))).toUInt32 >>> ((2 : Int32).toUInt32 &&& Int32.toUInt32 31)).toInt32 &&& (858993459 : Int32))) + ((((a0 - ((a0.toUInt32 >>> ((1 : Int32).toUInt32 &&& Int32.toUInt32 31)).toInt32 &&& (1431655765 : Int32))) &&& (858993459 : Int32)) + (((a0 - ((a0.toUInt32 >>> ((1 : Int32).toUInt32 &&& Int32.toUInt32 31)).toInt32 &&& (1431655765 : Int32))).toUInt32 >>> ((2 : Int32).toUInt32 &&& Int32.toUInt32 31)).toInt32 &&& (858993459 : Int32))).toUInt32 >>> ((4 : Int32).toUInt32 &&& Int32.toUInt32 31)).toInt32) &&& (252645135 : Int32)).toUInt32 >>> ((8 : Int32).toUInt32 &&& Int32.toUInt32 31)).toInt32).toUInt32 >>> ((16 : Int32).toUInt32 &&& Int32.toUInt32 31)).toInt32))]) hx hb dJ6_bitCount_0f7a4_47 rfl hl (by decide) rfl (fun ls hl => ?_)
  refine lv_iload_n hx hb dJ6_bitCount_0f7a4_48 rfl (lv_at hl 0 rfl) ?_
  refine lv_bipush (v := 63) hx hb dJ6_bitCount_0f7a4_49 (by decide) ?_
  refine lv_iand hx hb dJ6_bitCount_0f7a4_51 ?_
  cases h
  rw [hQ]
  exact s_reti hc hr hlocks dJ6_bitCount_0f7a4_52
theorem md_J6_bitCount_0f7a4 : yJ6_bitCount_0f7a4.cls ≠ "java/lang/invoke/MethodHandle" ∧ yJ6_bitCount_0f7a4.cls ≠ "java/lang/invoke/VarHandle" ∧ (parseMethodDescriptor yJ6_bitCount_0f7a4.desc).map (fun d => d.parameters.length) = some 1 := by decide +kernel
noncomputable def f_X1_areTurns (S : GS) (o : Nat) (a0 : Int32) : Option (Int32) :=
  z_chk (g_is S 1 o) (z_bd (f_X1_hasTurns S o ) fun r_1 => if r_1 = 0 then some (0 : Int32) else if a0 < 0 then some (0 : Int32) else z_bd (g_r S 1 3 o) fun f_2 => z_bd (g_i S 3 3 f_2) fun f_3 => if (a0 >>> (f_3 &&& 31)) = 0 then z_bd (f_J6_bitCount_0f7a4 a0) fun r_4 => z_chk (g_is S 1 o) (z_bd (f_X1_freeNumbers S o ) fun r_5 => if r_4 = (r_5 + (1 : Int32)) then some (1 : Int32) else some (0 : Int32)) else some (0 : Int32))
set_option maxHeartbeats 4000000 in
set_option maxRecDepth 100000 in
theorem mt_X1_areTurns (l : Launch) (D : va_G) (cs : Nat → ClassId) (A : Nat → Prop) (S : GS) (o : Nat) (a0 : Int32) {r_ : Int32} (h : f_X1_areTurns S o a0 = some r_) : Met l yX1_areTurns (z_wd yX1_areTurns cX1_areTurns 2 (some .boolean)) (z_rmA 2 72 0 0) (va_Pc [.ref o, .int a0] (g_C D cs A S)) (g_Q (some (.int r_)) S D cs A) 0 0 A := by
  refine Met.ofW (cc := cX1_areTurns) (maxL := 2) (ret := (some .boolean)) (by decide) rfl ?_
  intro p e s m args below meth c s₁ B hml hv
  obtain ⟨hav, hP0, hK, hN, hSt, hAn⟩ := hv
  have hx := B.exec
  have hb := B.bytes
  have hr := B.returns
  have hts := atoms_spec (ws := z_wd yX1_areTurns cX1_areTurns 2 (some .boolean)) B.pre
  have hown : s.vm.findClass RX1 = some m.cls := findClass_of_methodNamed B.named
  have hlocks := B.notSynchronized
  have hc : g_X p s m args c cX1_areTurns 2 RX1 D cs A := ⟨⟨hx, hb, hml, fun w hw => hts w (List.mem_cons_of_mem _ hw), hown⟩, hK, hN, hSt, hAn⟩
  have hl := lv_entry ([.ref o, .int a0]) (n := 2) (Nat.le_of_ble_eq_true rfl)
  have hE : entryFrame m args 2 = F0 m 0 ((lg_sl ([.ref o, .int a0]) ++ List.replicate (2 - (lg_sl ([.ref o, .int a0])).length) Slot.unset).toArray) [] := by rw [hav]; exact lg_entry_eq m _ _
  rw [hE]
  clear hE hav
  generalize (lg_sl ([.ref o, .int a0]) ++ List.replicate (2 - (lg_sl ([.ref o, .int a0])).length) Slot.unset).toArray = ls at hl ⊢
  have hl : lv_has ls 2 [(0, .ref o), (1, .int a0)] := hl
  obtain ⟨Q, hQ⟩ : ∃ Q, Q = MQ below (g_Q (some (.int r_)) S D cs A) args s 0 0 A := ⟨_, rfl⟩
  rw [← hQ]
  suffices hmain : ∀ (H : Heap) (locs : List Loc), g_P D cs A S H → va_S A s.heap H locs → W p l e (z_rmA 2 72 0 0) s m args below meth c H locs 0 0 Q (F0 m 0 ls []) from hmain s.heap [] hP0 va_S.rf
  clear hP0
  intro H locs hP hS
  unfold f_X1_areTurns at h
  refine lv_aload_n hx hb dX1_areTurns_0 rfl (lv_at hl 0 rfl) ?_
  obtain ⟨ho_1, h⟩ := z_chk_some h
  obtain ⟨vs_, ho_1⟩ := Option.isSome_iff_exists.mp ho_1
  obtain ⟨r_1, e_1, h⟩ := z_bd_some h
  refine g_callV (ci := 1) (As := []) (rv := (some (.int r_1))) (n := 0) hc hP hS rfl ho_1 (mt_X1_hasTurns l D cs A S o  e_1) wM_X1_104 wI_X1_hasTurns wS_X1_hasTurns wZ_X1 wC_X1_hasTurns md_X1_hasTurns ⟨rfl, rfl, Nat.le_of_ble_eq_true rfl, Nat.le_of_ble_eq_true rfl⟩ rfl hl.1 rfl (Nat.le_of_ble_eq_true rfl) dX1_areTurns_1 ⟨Nat.le_of_ble_eq_true rfl, Nat.le_of_ble_eq_true rfl⟩ (fun H locs hP hS => ?_)
  show W p l e (z_rmA 2 72 0 0) s m args below meth c H locs (0) (0) Q (F0 m 4 ls [.int r_1])
  refine lv_if_eq (tgt := 40) hx hb dX1_areTurns_4 (by decide) (fun c_4 => ?_) (fun c_4 => ?_)
  · replace h := z_ip_ c_4 h
    refine lv_iconst (v := 0) hx hb dX1_areTurns_40 (by decide) ?_
    cases h
    rw [hQ]
    exact g_retz hc hr hlocks (by decide) hP hS dX1_areTurns_41
  · replace h := z_in_ c_4 h
    refine lv_iload_n hx hb dX1_areTurns_7 rfl (lv_at hl 1 rfl) ?_
    refine lv_if_lt (tgt := 40) hx hb dX1_areTurns_8 (by decide) (fun c_8 => ?_) (fun c_8 => ?_)
    · replace h := z_ip_ c_8 h
      refine lv_iconst (v := 0) hx hb dX1_areTurns_40 (by decide) ?_
      cases h
      rw [hQ]
      exact g_retz hc hr hlocks (by decide) hP hS dX1_areTurns_41
    · replace h := z_in_ c_8 h
      refine lv_iload_n hx hb dX1_areTurns_11 rfl (lv_at hl 1 rfl) ?_
      refine lv_aload_n hx hb dX1_areTurns_12 rfl (lv_at hl 0 rfl) ?_
      obtain ⟨f_2, ef_2, h⟩ := z_bd_some h
      refine g_get (ci := 1) (k := 3) (v := .ref f_2) hc hP rfl z_inX1 (by decide) wF_X1_21 (g_r_v ef_2) dX1_areTurns_13 ?_
      obtain ⟨f_3, ef_3, h⟩ := z_bd_some h
      refine g_getN (ci := 3) (k := 3) (v := .int f_3) hc hP rfl z_inX3 (by decide) wG_X1_25 (g_i_v ef_3) dX1_areTurns_16 ?_
      refine lv_ishr hx hb dX1_areTurns_19 ?_
      refine lv_if_ne (tgt := 40) hx hb dX1_areTurns_20 (by decide) (fun c_20 => ?_) (fun c_20 => ?_)
      · replace h := z_in_ c_20 h
        refine lv_iconst (v := 0) hx hb dX1_areTurns_40 (by decide) ?_
        cases h
        rw [hQ]
        exact g_retz hc hr hlocks (by decide) hP hS dX1_areTurns_41
      · replace h := z_ip_ c_20 h
        refine lv_iload_n hx hb dX1_areTurns_23 rfl (lv_at hl 1 rfl) ?_
        obtain ⟨r_4, er_4, h⟩ := z_bd_some h
        refine s_calli (As := [.int a0]) (r := r_4) (n := 1) hc.1 (mt_J6_bitCount_0f7a4 l a0 er_4) wM_X1_108 wT_J6_bitCount_0f7a4 wZ_J6 wC_J6_bitCount_0f7a4 md_J6_bitCount_0f7a4 ⟨rfl, rfl, Nat.le_of_ble_eq_true rfl, Nat.le_of_ble_eq_true rfl⟩ rfl hl.1 rfl (Nat.le_of_ble_eq_true rfl) dX1_areTurns_24 ⟨Nat.le_of_ble_eq_true rfl, Nat.le_of_ble_eq_true rfl⟩ ?_
        refine lv_aload_n hx hb dX1_areTurns_27 rfl (lv_at hl 0 rfl) ?_
        obtain ⟨ho_28, h⟩ := z_chk_some h
        obtain ⟨vs_, ho_28⟩ := Option.isSome_iff_exists.mp ho_28
        obtain ⟨r_5, e_28, h⟩ := z_bd_some h
        refine g_callV (ci := 1) (As := []) (rv := (some (.int r_5))) (n := 0) hc hP hS rfl ho_28 (mt_X1_freeNumbers l D cs A S o  e_28) wM_X1_101 wI_X1_freeNumbers wS_X1_freeNumbers wZ_X1 wC_X1_freeNumbers md_X1_freeNumbers ⟨rfl, rfl, Nat.le_of_ble_eq_true rfl, Nat.le_of_ble_eq_true rfl⟩ rfl hl.1 rfl (Nat.le_of_ble_eq_true rfl) dX1_areTurns_28 ⟨Nat.le_of_ble_eq_true rfl, Nat.le_of_ble_eq_true rfl⟩ (fun H locs hP hS => ?_)
        show W p l e (z_rmA 2 72 0 0) s m args below meth c H locs (0) (0) Q (F0 m 31 ls [.int r_5, .int r_4])
        refine lv_iconst (v := 1) hx hb dX1_areTurns_31 (by decide) ?_
        refine lv_iadd hx hb dX1_areTurns_32 ?_
        refine lv_icmp_ne (tgt := 40) hx hb dX1_areTurns_33 (by decide) (fun c_33 => ?_) (fun c_33 => ?_)
        · replace h := z_in_ c_33 h
          refine lv_iconst (v := 0) hx hb dX1_areTurns_40 (by decide) ?_
          cases h
          rw [hQ]
          exact g_retz hc hr hlocks (by decide) hP hS dX1_areTurns_41
        · replace h := z_ip_ c_33 h
          refine lv_iconst (v := 1) hx hb dX1_areTurns_36 (by decide) ?_
          refine lv_goto (tgt := 41) hx hb dX1_areTurns_37 (by decide) ?_
          cases h
          rw [hQ]
          exact g_retz hc hr hlocks (by decide) hP hS dX1_areTurns_41
theorem md_X1_areTurns : yX1_areTurns.cls ≠ "java/lang/invoke/MethodHandle" ∧ yX1_areTurns.cls ≠ "java/lang/invoke/VarHandle" ∧ (parseMethodDescriptor yX1_areTurns.desc).map (fun d => d.parameters.length) = some 1 := by decide +kernel
noncomputable def f_X1_theTurns_L20 (S : GS) (o : Nat) (r_2 : Int64) (x3_3 : Int32) (x4_4 : Int32) (x5_5 : Int32) (x6_6 : Int32) : Option ((Int32) ⊕ (Int32 × Int32 × Int32 × Int32)) :=
  z_bd (g_r S 1 3 o) fun f_8 => z_bd (g_i S 3 3 f_8) fun f_9 => if f_9 ≤ x6_6 then some (.inl (x3_3)) else z_chk (g_is S 1 o) (z_bd (f_X1_freeNumbers S o ) fun r_10 => if r_10 < x4_4 then some (.inl (x3_3)) else z_chk (g_is S 1 o) (z_bd (f_X1_missAbove S o x6_6) fun r_11 => z_bd (if x4_4 = 0 then some ((1 : Int32)) else if (lg_cmp r_11 (0 : Int64)) = 0 then some ((1 : Int32)) else z_bd (if (lg_cmp r_11 (0 : Int64)) ≤ 0 then some ((0 : Int32)) else some ((1 : Int32))) fun v_13 => if v_13 = x5_5 then some ((0 : Int32)) else some ((1 : Int32))) fun v_12 => z_bd (f_J9_abs_067f4 r_11) fun r_14 => if (lg_cmp r_14 r_2) = 0 then if v_12 = 0 then some (.inr (x3_3, x4_4, x5_5, (x6_6 + 1))) else if (lg_cmp r_11 (0 : Int64)) ≤ 0 then some (.inr ((x3_3 ||| ((1 : Int32) <<< (x6_6 &&& 31))), (x4_4 + 1), (0 : Int32), (x6_6 + 1))) else some (.inr ((x3_3 ||| ((1 : Int32) <<< (x6_6 &&& 31))), (x4_4 + 1), (1 : Int32), (x6_6 + 1))) else some (.inr (x3_3, x4_4, x5_5, (x6_6 + 1)))))
noncomputable def f_X1_theTurns (S : GS) (o : Nat) : Option (Int32) :=
  z_chk (g_is S 1 o) (z_bd (f_X1_farthest S o ) fun r_1 => z_chk (g_is S 1 o) (z_bd (f_X1_missSize S o r_1) fun r_2 => z_bd (z_lp (fun x => f_X1_theTurns_L20 S o r_2 x.1 x.2.1 x.2.2.1 x.2.2.2) ((0 : Int32), (0 : Int32), (0 : Int32), (0 : Int32))) fun y3_7 => some y3_7))
set_option maxHeartbeats 4000000 in
set_option maxRecDepth 100000 in
theorem mt_X1_theTurns (l : Launch) (D : va_G) (cs : Nat → ClassId) (A : Nat → Prop) (S : GS) (o : Nat) {r_ : Int32} (h : f_X1_theTurns S o = some r_) : Met l yX1_theTurns (z_wd yX1_theTurns cX1_theTurns 10 (some .int)) (z_rmA 5 191 0 0) (va_Pc [.ref o] (g_C D cs A S)) (g_Q (some (.int r_)) S D cs A) 0 0 A := by
  refine Met.ofW (cc := cX1_theTurns) (maxL := 10) (ret := (some .int)) (by decide) rfl ?_
  intro p e s m args below meth c s₁ B hml hv
  obtain ⟨hav, hP0, hK, hN, hSt, hAn⟩ := hv
  have hx := B.exec
  have hb := B.bytes
  have hr := B.returns
  have hts := atoms_spec (ws := z_wd yX1_theTurns cX1_theTurns 10 (some .int)) B.pre
  have hown : s.vm.findClass RX1 = some m.cls := findClass_of_methodNamed B.named
  have hlocks := B.notSynchronized
  have hc : g_X p s m args c cX1_theTurns 10 RX1 D cs A := ⟨⟨hx, hb, hml, fun w hw => hts w (List.mem_cons_of_mem _ hw), hown⟩, hK, hN, hSt, hAn⟩
  have hl := lv_entry ([.ref o]) (n := 10) (Nat.le_of_ble_eq_true rfl)
  have hE : entryFrame m args 10 = F0 m 0 ((lg_sl ([.ref o]) ++ List.replicate (10 - (lg_sl ([.ref o])).length) Slot.unset).toArray) [] := by rw [hav]; exact lg_entry_eq m _ _
  rw [hE]
  clear hE hav
  generalize (lg_sl ([.ref o]) ++ List.replicate (10 - (lg_sl ([.ref o])).length) Slot.unset).toArray = ls at hl ⊢
  have hl : lv_has ls 10 [(0, .ref o)] := hl
  obtain ⟨Q, hQ⟩ : ∃ Q, Q = MQ below (g_Q (some (.int r_)) S D cs A) args s 0 0 A := ⟨_, rfl⟩
  rw [← hQ]
  suffices hmain : ∀ (H : Heap) (locs : List Loc), g_P D cs A S H → va_S A s.heap H locs → W p l e (z_rmA 5 191 0 0) s m args below meth c H locs 0 0 Q (F0 m 0 ls []) from hmain s.heap [] hP0 va_S.rf
  clear hP0
  intro H locs hP hS
  unfold f_X1_theTurns at h
  refine lv_aload_n hx hb dX1_theTurns_0 rfl (lv_at hl 0 rfl) ?_
  refine lv_aload_n hx hb dX1_theTurns_1 rfl (lv_at hl 0 rfl) ?_
  obtain ⟨ho_2, h⟩ := z_chk_some h
  obtain ⟨vs_, ho_2⟩ := Option.isSome_iff_exists.mp ho_2
  obtain ⟨r_1, e_2, h⟩ := z_bd_some h
  refine g_callV (ci := 1) (As := []) (rv := (some (.int r_1))) (n := 0) hc hP hS rfl ho_2 (mt_X1_farthest l D cs A S o  e_2) wM_X1_97 wI_X1_farthest wS_X1_farthest wZ_X1 wC_X1_farthest md_X1_farthest ⟨rfl, rfl, Nat.le_of_ble_eq_true rfl, Nat.le_of_ble_eq_true rfl⟩ rfl hl.1 rfl (Nat.le_of_ble_eq_true rfl) dX1_theTurns_2 ⟨Nat.le_of_ble_eq_true rfl, Nat.le_of_ble_eq_true rfl⟩ (fun H locs hP hS => ?_)
  show W p l e (z_rmA 5 191 0 0) s m args below meth c H locs (0) (0) Q (F0 m 5 ls [.int r_1, .ref o])
  obtain ⟨ho_5, h⟩ := z_chk_some h
  obtain ⟨vs_, ho_5⟩ := Option.isSome_iff_exists.mp ho_5
  obtain ⟨r_2, e_5, h⟩ := z_bd_some h
  refine g_callV (ci := 1) (As := [.int r_1]) (rv := (some (.long r_2))) (n := 1) hc hP hS rfl ho_5 (mt_X1_missSize l D cs A S o r_1 e_5) wM_X1_82 wI_X1_missSize wS_X1_missSize wZ_X1 wC_X1_missSize md_X1_missSize ⟨rfl, rfl, Nat.le_of_ble_eq_true rfl, Nat.le_of_ble_eq_true rfl⟩ rfl hl.1 rfl (Nat.le_of_ble_eq_true rfl) dX1_theTurns_5 ⟨Nat.le_of_ble_eq_true rfl, Nat.le_of_ble_eq_true rfl⟩ (fun H locs hP hS => ?_)
  show W p l e (z_rmA 5 191 0 0) s m args below meth c H locs (0) (0) Q (F0 m 8 ls [.long r_2])
  refine lv_lstore_n (lv' := [(1, .long r_2), (0, .ref o)]) hx hb dX1_theTurns_8 rfl hl (by decide) rfl (fun ls hl => ?_)
  refine lv_iconst (v := 0) hx hb dX1_theTurns_9 (by decide) ?_
  refine lv_istore_n (lv' := [(3, .int (0 : Int32)), (1, .long r_2), (0, .ref o)]) hx hb dX1_theTurns_10 rfl hl (by decide) rfl (fun ls hl => ?_)
  refine lv_iconst (v := 0) hx hb dX1_theTurns_11 (by decide) ?_
  refine lv_istore (lv' := [(4, .int (0 : Int32)), (3, .int (0 : Int32)), (1, .long r_2), (0, .ref o)]) hx hb dX1_theTurns_12 hl (by decide) rfl (fun ls hl => ?_)
  refine lv_iconst (v := 0) hx hb dX1_theTurns_14 (by decide) ?_
  refine lv_istore (lv' := [(5, .int (0 : Int32)), (4, .int (0 : Int32)), (3, .int (0 : Int32)), (1, .long r_2), (0, .ref o)]) hx hb dX1_theTurns_15 hl (by decide) rfl (fun ls hl => ?_)
  refine lv_iconst (v := 0) hx hb dX1_theTurns_17 (by decide) ?_
  refine lv_istore (lv' := [(6, .int (0 : Int32)), (5, .int (0 : Int32)), (4, .int (0 : Int32)), (3, .int (0 : Int32)), (1, .long r_2), (0, .ref o)]) hx hb dX1_theTurns_18 hl (by decide) rfl (fun ls hl => ?_)
  obtain ⟨y3_7, hlp, h⟩ := z_bd_some h
  refine z_lp_ind (P := fun x => ∀ (H : Heap) (locs : List Loc) (ls : Array Slot), g_P D cs A S H → va_S A s.heap H locs → lv_has ls 10 [(0, .ref o), (1, .long r_2), (3, .int x.1), (4, .int x.2.1), (5, .int x.2.2.1), (6, .int x.2.2.2)] → W p l e (z_rmA 5 191 0 0) s m args below meth c H locs (0) (0) Q (F0 m 20 ls [])) (Qe := fun y => ∀ (H : Heap) (locs : List Loc) (ls : Array Slot), g_P D cs A S H → va_S A s.heap H locs → lv_has ls 10 [(3, .int y)] → W p l e (z_rmA 5 191 0 0) s m args below meth c H locs (0) (0) Q (F0 m 130 ls [])) ?_ hlp ?_ H locs ls hP hS (lv_sub hl [5, 4, 3, 2, 1, 0] rfl)
  · clear h hlp hP hS hl
    rintro ⟨x3_3, x4_4, x5_5, x6_6⟩ oo h K_20 H locs ls hP hS hl
    have hP : g_P D cs A S H := hP
    have hl : lv_has ls 10 [(0, .ref o), (1, .long r_2), (3, .int x3_3), (4, .int x4_4), (5, .int x5_5), (6, .int x6_6)] := hl
    have h : f_X1_theTurns_L20 S o r_2 x3_3 x4_4 x5_5 x6_6 = some oo := h
    unfold f_X1_theTurns_L20 at h
    refine lv_iload hx hb dX1_theTurns_20 (lv_at hl 5 rfl) ?_
    refine lv_aload_n hx hb dX1_theTurns_22 rfl (lv_at hl 0 rfl) ?_
    obtain ⟨f_8, ef_8, h⟩ := z_bd_some h
    refine g_get (ci := 1) (k := 3) (v := .ref f_8) hc hP rfl z_inX1 (by decide) wF_X1_21 (g_r_v ef_8) dX1_theTurns_23 ?_
    obtain ⟨f_9, ef_9, h⟩ := z_bd_some h
    refine g_getN (ci := 3) (k := 3) (v := .int f_9) hc hP rfl z_inX3 (by decide) wG_X1_25 (g_i_v ef_9) dX1_theTurns_26 ?_
    refine lv_icmp_ge (tgt := 130) hx hb dX1_theTurns_29 (by decide) (fun c_29 => ?_) (fun c_29 => ?_)
    · replace h := z_ip_ c_29 h
      cases h
      exact K_20 H locs ls hP hS (lv_sub hl [2] rfl)
    · replace h := z_in_ c_29 h
      refine lv_iload hx hb dX1_theTurns_32 (lv_at hl 3 rfl) ?_
      refine lv_aload_n hx hb dX1_theTurns_34 rfl (lv_at hl 0 rfl) ?_
      obtain ⟨ho_35, h⟩ := z_chk_some h
      obtain ⟨vs_, ho_35⟩ := Option.isSome_iff_exists.mp ho_35
      obtain ⟨r_10, e_35, h⟩ := z_bd_some h
      refine g_callV (ci := 1) (As := []) (rv := (some (.int r_10))) (n := 0) hc hP hS rfl ho_35 (mt_X1_freeNumbers l D cs A S o  e_35) wM_X1_101 wI_X1_freeNumbers wS_X1_freeNumbers wZ_X1 wC_X1_freeNumbers md_X1_freeNumbers ⟨rfl, rfl, Nat.le_of_ble_eq_true rfl, Nat.le_of_ble_eq_true rfl⟩ rfl hl.1 rfl (Nat.le_of_ble_eq_true rfl) dX1_theTurns_35 ⟨Nat.le_of_ble_eq_true rfl, Nat.le_of_ble_eq_true rfl⟩ (fun H locs hP hS => ?_)
      show W p l e (z_rmA 5 191 0 0) s m args below meth c H locs (0) (0) Q (F0 m 38 ls [.int r_10, .int x4_4])
      refine lv_icmp_gt (tgt := 130) hx hb dX1_theTurns_38 (by decide) (fun c_38 => ?_) (fun c_38 => ?_)
      · replace h := z_ip_ c_38 h
        cases h
        exact K_20 H locs ls hP hS (lv_sub hl [2] rfl)
      · replace h := z_in_ c_38 h
        refine lv_aload_n hx hb dX1_theTurns_41 rfl (lv_at hl 0 rfl) ?_
        refine lv_iload hx hb dX1_theTurns_42 (lv_at hl 5 rfl) ?_
        obtain ⟨ho_44, h⟩ := z_chk_some h
        obtain ⟨vs_, ho_44⟩ := Option.isSome_iff_exists.mp ho_44
        obtain ⟨r_11, e_44, h⟩ := z_bd_some h
        refine g_callV (ci := 1) (As := [.int x6_6]) (rv := (some (.long r_11))) (n := 1) hc hP hS rfl ho_44 (mt_X1_missAbove l D cs A S o x6_6 e_44) wM_X1_75 wI_X1_missAbove wS_X1_missAbove wZ_X1 wC_X1_missAbove md_X1_missAbove ⟨rfl, rfl, Nat.le_of_ble_eq_true rfl, Nat.le_of_ble_eq_true rfl⟩ rfl hl.1 rfl (Nat.le_of_ble_eq_true rfl) dX1_theTurns_44 ⟨Nat.le_of_ble_eq_true rfl, Nat.le_of_ble_eq_true rfl⟩ (fun H locs hP hS => ?_)
        show W p l e (z_rmA 5 191 0 0) s m args below meth c H locs (0) (0) Q (F0 m 47 ls [.long r_11])
        refine lv_lstore (lv' := [(7, .long r_11), (0, .ref o), (1, .long r_2), (3, .int x3_3), (4, .int x4_4), (5, .int x5_5), (6, .int x6_6)]) hx hb dX1_theTurns_47 hl (by decide) rfl (fun ls hl => ?_)
        refine lv_iload hx hb dX1_theTurns_49 (lv_at hl 4 rfl) ?_
        obtain ⟨v_12, hJ, h⟩ := z_bd_some h
        have J_83 : ∀ (H : Heap) (locs : List Loc) (ls : Array Slot), g_P D cs A S H → va_S A s.heap H locs → lv_has ls 10 [(0, .ref o), (1, .long r_2), (3, .int x3_3), (4, .int x4_4), (5, .int x5_5), (6, .int x6_6), (7, .long r_11)] → W p l e (z_rmA 5 191 0 0) s m args below meth c H locs (0) (0) Q (F0 m 83 ls [.int v_12]) := by
          intro H locs ls hP hS hl
          refine lv_istore (lv' := [(9, .int v_12), (0, .ref o), (1, .long r_2), (3, .int x3_3), (4, .int x4_4), (5, .int x5_5), (6, .int x6_6), (7, .long r_11)]) hx hb dX1_theTurns_83 hl (by decide) rfl (fun ls hl => ?_)
          refine lv_lload hx hb dX1_theTurns_85 (lv_at hl 7 rfl) ?_
          obtain ⟨r_14, er_14, h⟩ := z_bd_some h
          refine s_calll (As := [.long r_11]) (r := r_14) (n := 1) hc.1 (mt_J9_abs_067f4 l r_11 er_14) wM_X1_79 wT_J9_abs_067f4 wZ_J9 wC_J9_abs_067f4 md_J9_abs_067f4 ⟨rfl, rfl, Nat.le_of_ble_eq_true rfl, Nat.le_of_ble_eq_true rfl⟩ rfl hl.1 rfl (Nat.le_of_ble_eq_true rfl) dX1_theTurns_87 ⟨Nat.le_of_ble_eq_true rfl, Nat.le_of_ble_eq_true rfl⟩ ?_
          refine lv_lload_n hx hb dX1_theTurns_90 rfl (lv_at hl 2 rfl) ?_
          refine W.lcmp hx hb dX1_theTurns_91 ?_
          refine lv_if_ne (tgt := 124) hx hb dX1_theTurns_92 (by decide) (fun c_92 => ?_) (fun c_92 => ?_)
          · replace h := z_in_ c_92 h
            refine lv_iinc (v := (x6_6 + 1)) (lv' := [(6, .int (x6_6 + 1)), (9, .int v_12), (0, .ref o), (1, .long r_2), (3, .int x3_3), (4, .int x4_4), (5, .int x5_5), (7, .long r_11)]) hx hb dX1_theTurns_124 hl (k := 6) rfl rfl (by decide) rfl (fun ls hl => ?_)
            refine lv_goto (tgt := 20) hx hb dX1_theTurns_127 (by decide) ?_
            cases h
            exact K_20 H locs ls hP hS (lv_sub hl [2, 3, 4, 5, 6, 0] rfl)
          · replace h := z_ip_ c_92 h
            refine lv_iload hx hb dX1_theTurns_95 (lv_at hl 0 rfl) ?_
            refine lv_if_eq (tgt := 124) hx hb dX1_theTurns_97 (by decide) (fun c_97 => ?_) (fun c_97 => ?_)
            · replace h := z_ip_ c_97 h
              refine lv_iinc (v := (x6_6 + 1)) (lv' := [(6, .int (x6_6 + 1)), (9, .int v_12), (0, .ref o), (1, .long r_2), (3, .int x3_3), (4, .int x4_4), (5, .int x5_5), (7, .long r_11)]) hx hb dX1_theTurns_124 hl (k := 6) rfl rfl (by decide) rfl (fun ls hl => ?_)
              refine lv_goto (tgt := 20) hx hb dX1_theTurns_127 (by decide) ?_
              cases h
              exact K_20 H locs ls hP hS (lv_sub hl [2, 3, 4, 5, 6, 0] rfl)
            · replace h := z_in_ c_97 h
              refine lv_iload_n hx hb dX1_theTurns_100 rfl (lv_at hl 3 rfl) ?_
              refine lv_iconst (v := 1) hx hb dX1_theTurns_101 (by decide) ?_
              refine lv_iload hx hb dX1_theTurns_102 (lv_at hl 6 rfl) ?_
              refine lv_ishl hx hb dX1_theTurns_104 ?_
              refine lv_ior hx hb dX1_theTurns_105 ?_
              refine lv_istore_n (lv' := [(3, .int (x3_3 ||| ((1 : Int32) <<< (x6_6 &&& 31)))), (9, .int v_12), (0, .ref o), (1, .long r_2), (4, .int x4_4), (5, .int x5_5), (6, .int x6_6), (7, .long r_11)]) hx hb dX1_theTurns_106 rfl hl (by decide) rfl (fun ls hl => ?_)
              refine lv_iinc (v := (x4_4 + 1)) (lv' := [(4, .int (x4_4 + 1)), (3, .int (x3_3 ||| ((1 : Int32) <<< (x6_6 &&& 31)))), (9, .int v_12), (0, .ref o), (1, .long r_2), (5, .int x5_5), (6, .int x6_6), (7, .long r_11)]) hx hb dX1_theTurns_107 hl (k := 4) rfl rfl (by decide) rfl (fun ls hl => ?_)
              refine lv_lload hx hb dX1_theTurns_110 (lv_at hl 7 rfl) ?_
              refine lv_lconst (v := 0) hx hb dX1_theTurns_112 (by decide) ?_
              refine W.lcmp hx hb dX1_theTurns_113 ?_
              refine lv_if_le (tgt := 121) hx hb dX1_theTurns_114 (by decide) (fun c_114 => ?_) (fun c_114 => ?_)
              · replace h := z_ip_ c_114 h
                refine lv_iconst (v := 0) hx hb dX1_theTurns_121 (by decide) ?_
                refine lv_istore (lv' := [(5, .int (0 : Int32)), (4, .int (x4_4 + 1)), (3, .int (x3_3 ||| ((1 : Int32) <<< (x6_6 &&& 31)))), (9, .int v_12), (0, .ref o), (1, .long r_2), (6, .int x6_6), (7, .long r_11)]) hx hb dX1_theTurns_122 hl (by decide) rfl (fun ls hl => ?_)
                refine lv_iinc (v := (x6_6 + 1)) (lv' := [(6, .int (x6_6 + 1)), (5, .int (0 : Int32)), (4, .int (x4_4 + 1)), (3, .int (x3_3 ||| ((1 : Int32) <<< (x6_6 &&& 31)))), (9, .int v_12), (0, .ref o), (1, .long r_2), (7, .long r_11)]) hx hb dX1_theTurns_124 hl (k := 6) rfl rfl (by decide) rfl (fun ls hl => ?_)
                refine lv_goto (tgt := 20) hx hb dX1_theTurns_127 (by decide) ?_
                cases h
                exact K_20 H locs ls hP hS (lv_sub hl [5, 6, 3, 2, 1, 0] rfl)
              · replace h := z_in_ c_114 h
                refine lv_iconst (v := 1) hx hb dX1_theTurns_117 (by decide) ?_
                refine lv_goto (tgt := 122) hx hb dX1_theTurns_118 (by decide) ?_
                refine lv_istore (lv' := [(5, .int (1 : Int32)), (4, .int (x4_4 + 1)), (3, .int (x3_3 ||| ((1 : Int32) <<< (x6_6 &&& 31)))), (9, .int v_12), (0, .ref o), (1, .long r_2), (6, .int x6_6), (7, .long r_11)]) hx hb dX1_theTurns_122 hl (by decide) rfl (fun ls hl => ?_)
                refine lv_iinc (v := (x6_6 + 1)) (lv' := [(6, .int (x6_6 + 1)), (5, .int (1 : Int32)), (4, .int (x4_4 + 1)), (3, .int (x3_3 ||| ((1 : Int32) <<< (x6_6 &&& 31)))), (9, .int v_12), (0, .ref o), (1, .long r_2), (7, .long r_11)]) hx hb dX1_theTurns_124 hl (k := 6) rfl rfl (by decide) rfl (fun ls hl => ?_)
                refine lv_goto (tgt := 20) hx hb dX1_theTurns_127 (by decide) ?_
                cases h
                exact K_20 H locs ls hP hS (lv_sub hl [5, 6, 3, 2, 1, 0] rfl)
        clear h
        have h := hJ
        clear hJ
        refine lv_if_eq (tgt := 78) hx hb dX1_theTurns_51 (by decide) (fun c_51 => ?_) (fun c_51 => ?_)
        · replace h := z_ip_ c_51 h
          refine lv_iconst (v := 1) hx hb dX1_theTurns_78 (by decide) ?_
          refine lv_goto (tgt := 83) hx hb dX1_theTurns_79 (by decide) ?_
          cases h
          exact J_83 H locs ls hP hS (lv_sub hl [1, 2, 3, 4, 5, 6, 0] rfl)
        · replace h := z_in_ c_51 h
          refine lv_lload hx hb dX1_theTurns_54 (lv_at hl 0 rfl) ?_
          refine lv_lconst (v := 0) hx hb dX1_theTurns_56 (by decide) ?_
          refine W.lcmp hx hb dX1_theTurns_57 ?_
          refine lv_if_eq (tgt := 78) hx hb dX1_theTurns_58 (by decide) (fun c_58 => ?_) (fun c_58 => ?_)
          · replace h := z_ip_ c_58 h
            refine lv_iconst (v := 1) hx hb dX1_theTurns_78 (by decide) ?_
            refine lv_goto (tgt := 83) hx hb dX1_theTurns_79 (by decide) ?_
            cases h
            exact J_83 H locs ls hP hS (lv_sub hl [1, 2, 3, 4, 5, 6, 0] rfl)
          · replace h := z_in_ c_58 h
            refine lv_lload hx hb dX1_theTurns_61 (lv_at hl 0 rfl) ?_
            refine lv_lconst (v := 0) hx hb dX1_theTurns_63 (by decide) ?_
            refine W.lcmp hx hb dX1_theTurns_64 ?_
            obtain ⟨v_13, hJ, h⟩ := z_bd_some h
            have J_73 : ∀ (H : Heap) (locs : List Loc) (ls : Array Slot), g_P D cs A S H → va_S A s.heap H locs → lv_has ls 10 [(0, .ref o), (1, .long r_2), (3, .int x3_3), (4, .int x4_4), (5, .int x5_5), (6, .int x6_6), (7, .long r_11)] → W p l e (z_rmA 5 191 0 0) s m args below meth c H locs (0) (0) Q (F0 m 73 ls [.int v_13]) := by
              intro H locs ls hP hS hl
              refine lv_iload hx hb dX1_theTurns_73 (lv_at hl 4 rfl) ?_
              refine lv_icmp_eq (tgt := 82) hx hb dX1_theTurns_75 (by decide) (fun c_75 => ?_) (fun c_75 => ?_)
              · replace h := z_ip_ c_75 h
                refine lv_iconst (v := 0) hx hb dX1_theTurns_82 (by decide) ?_
                cases h
                exact J_83 H locs ls hP hS (lv_sub hl [0, 1, 2, 3, 4, 5, 6] rfl)
              · replace h := z_in_ c_75 h
                refine lv_iconst (v := 1) hx hb dX1_theTurns_78 (by decide) ?_
                refine lv_goto (tgt := 83) hx hb dX1_theTurns_79 (by decide) ?_
                cases h
                exact J_83 H locs ls hP hS (lv_sub hl [0, 1, 2, 3, 4, 5, 6] rfl)
            clear h
            have h := hJ
            clear hJ
            refine lv_if_le (tgt := 72) hx hb dX1_theTurns_65 (by decide) (fun c_65 => ?_) (fun c_65 => ?_)
            · replace h := z_ip_ c_65 h
              refine lv_iconst (v := 0) hx hb dX1_theTurns_72 (by decide) ?_
              cases h
              exact J_73 H locs ls hP hS (lv_sub hl [1, 2, 3, 4, 5, 6, 0] rfl)
            · replace h := z_in_ c_65 h
              refine lv_iconst (v := 1) hx hb dX1_theTurns_68 (by decide) ?_
              refine lv_goto (tgt := 73) hx hb dX1_theTurns_69 (by decide) ?_
              cases h
              exact J_73 H locs ls hP hS (lv_sub hl [1, 2, 3, 4, 5, 6, 0] rfl)
  · clear hlp hP hS hl
    intro H locs ls hP hS hl
    have hP : g_P D cs A S H := hP
    have hl : lv_has ls 10 [(3, .int y3_7)] := hl
    refine lv_iload_n hx hb dX1_theTurns_130 rfl (lv_at hl 0 rfl) ?_
    cases h
    rw [hQ]
    exact g_reti hc hr hlocks hP hS dX1_theTurns_131
theorem md_X1_theTurns : yX1_theTurns.cls ≠ "java/lang/invoke/MethodHandle" ∧ yX1_theTurns.cls ≠ "java/lang/invoke/VarHandle" ∧ (parseMethodDescriptor yX1_theTurns.desc).map (fun d => d.parameters.length) = some 0 := by decide +kernel
noncomputable def f_X2_init (S : GS) (o : Nat) : Option (GS) :=
  z_lt (g_nw S (.inr (.inl (12, fun _ => 0)))) fun S_1 => z_bd (g_put S_1 2 0 o (.ref S.2)) fun S_2 => z_lt (g_nw S_2 (.inr (.inl (12, fun _ => 0)))) fun S_3 => z_bd (g_put S_3 2 1 o (.ref S_2.2)) fun S_4 => z_lt (g_nw S_4 (.inr (.inl (12, fun _ => 0)))) fun S_5 => z_bd (g_put S_5 2 2 o (.ref S_4.2)) fun S_6 => z_lt (g_nw S_6 (.inl (4, fun _ => 0))) fun S_7 => z_bd (g_put S_7 2 3 o (.ref S_6.2)) fun S_8 => z_lt (g_nw S_8 (.inr (.inl (4, fun _ => 0)))) fun S_9 => z_bd (g_put S_9 2 4 o (.ref S_8.2)) fun S_10 => z_lt (g_nw S_10 (.inr (.inl (3, fun _ => 0)))) fun S_11 => z_bd (g_put S_11 2 5 o (.ref S_10.2)) fun S_12 => z_lt (g_nw S_12 (.inr (.inl (3, fun _ => 0)))) fun S_13 => z_bd (g_put S_13 2 6 o (.ref S_12.2)) fun S_14 => z_lt (g_nw S_14 (.inr (.inr (.inr (4, [.long 0, .long 0, .long 0, .long 0]))))) fun S_15 => z_bd (f_X4_init S_15 S_14.2 ) fun S_16 => z_bd (g_put S_16 2 7 o (.ref S_14.2)) fun S_17 => z_bd (g_put S_17 2 8 o (.int (0 : Int32))) fun S_18 => z_bd (g_put S_18 2 9 o (.int (1 : Int32))) fun S_19 => z_bd (g_put S_19 2 10 o (.int (0 : Int32))) fun S_20 => some S_20
set_option maxHeartbeats 4000000 in
set_option maxRecDepth 100000 in
theorem mt_X2_init (l : Launch) (D : va_G) (cs : Nat → ClassId) (A : Nat → Prop) (S : GS) (o : Nat) {N_ : GS} (h : f_X2_init S o = some N_) : Met l yX2_init (z_wd yX2_init cX2_init 1 none) (z_rmA 2 76 8 54) (va_Pc [.ref o] (g_C D cs A S)) (g_Q none N_ D cs A) 8 54 A := by
  refine Met.ofW (cc := cX2_init) (maxL := 1) (ret := none) (by decide) rfl ?_
  intro p e s m args below meth c s₁ B hml hv
  obtain ⟨hav, hP0, hK, hN, hSt, hAn⟩ := hv
  have hx := B.exec
  have hb := B.bytes
  have hr := B.returns
  have hts := atoms_spec (ws := z_wd yX2_init cX2_init 1 none) B.pre
  have hown : s.vm.findClass RX2 = some m.cls := findClass_of_methodNamed B.named
  have hlocks := B.notSynchronized
  have hin : meth.name = "<init>" := (name_of_methodNamed B.named B.method).1
  have hc : g_X p s m args c cX2_init 1 RX2 D cs A := ⟨⟨hx, hb, hml, fun w hw => hts w (List.mem_cons_of_mem _ hw), hown⟩, hK, hN, hSt, hAn⟩
  have hl := lv_entry ([.ref o]) (n := 1) (Nat.le_of_ble_eq_true rfl)
  have hE : entryFrame m args 1 = F0 m 0 ((lg_sl ([.ref o]) ++ List.replicate (1 - (lg_sl ([.ref o])).length) Slot.unset).toArray) [] := by rw [hav]; exact lg_entry_eq m _ _
  rw [hE]
  clear hE hav
  generalize (lg_sl ([.ref o]) ++ List.replicate (1 - (lg_sl ([.ref o])).length) Slot.unset).toArray = ls at hl ⊢
  have hl : lv_has ls 1 [(0, .ref o)] := hl
  obtain ⟨Q, hQ⟩ : ∃ Q, Q = MQ below (g_Q none N_ D cs A) args s 8 54 A := ⟨_, rfl⟩
  rw [← hQ]
  suffices hmain : ∀ (H : Heap) (locs : List Loc), g_P D cs A S H → va_S A s.heap H locs → W p l e (z_rmA 2 76 8 54) s m args below meth c H locs 0 0 Q (F0 m 0 ls []) from hmain s.heap [] hP0 va_S.rf
  clear hP0
  intro H locs hP hS
  unfold f_X2_init at h
  refine lv_aload_n hx hb dX2_init_0 rfl (lv_at hl 0 rfl) ?_
  refine g_obj hc wM_X2_3 hl.1 (Nat.le_of_ble_eq_true rfl) (Nat.le_of_ble_eq_true rfl) dX2_init_1 ?_
  show W p l e (z_rmA 2 76 8 54) s m args below meth c H locs (0) (0) Q (F0 m 4 ls [])
  refine lv_aload_n hx hb dX2_init_4 rfl (lv_at hl 0 rfl) ?_
  refine lv_bipush (v := 12) hx hb dX2_init_5 (by decide) ?_
  obtain ⟨S_1, eS_1, h⟩ := z_lt_some h
  refine g_newJ (N' := 12) hc hP hS wY_long (by decide) (by decide) (by decide) (Nat.le_of_ble_eq_true rfl) (Nat.le_of_ble_eq_true rfl) eS_1 dX2_init_7 (fun H hP hS => ?_)
  show W p l e (z_rmA 2 76 8 54) s m args below meth c H locs (1) (12) Q (F0 m 9 ls [.ref S.2, .ref o])
  obtain ⟨S_2, eS_2, h⟩ := z_bd_some h
  refine g_putF (ci := 2) (k := 0) (ty := (.array .long)) tyX2 hc hP hS rfl z_inX2 tyX2_ok nmX2 (by decide) wF_X2_9 rfl hin rfl (by decide +kernel) rfl rfl eS_2 dX2_init_9 (fun H locs hP hS => ?_)
  refine lv_aload_n hx hb dX2_init_12 rfl (lv_at hl 0 rfl) ?_
  refine lv_bipush (v := 12) hx hb dX2_init_13 (by decide) ?_
  obtain ⟨S_3, eS_3, h⟩ := z_lt_some h
  refine g_newJ (N' := 12) hc hP hS wY_long (by decide) (by decide) (by decide) (Nat.le_of_ble_eq_true rfl) (Nat.le_of_ble_eq_true rfl) eS_3 dX2_init_15 (fun H hP hS => ?_)
  show W p l e (z_rmA 2 76 8 54) s m args below meth c H locs (2) (24) Q (F0 m 17 ls [.ref S_2.2, .ref o])
  obtain ⟨S_4, eS_4, h⟩ := z_bd_some h
  refine g_putF (ci := 2) (k := 1) (ty := (.array .long)) tyX2 hc hP hS rfl z_inX2 tyX2_ok nmX2 (by decide) wF_X2_15 rfl hin rfl (by decide +kernel) rfl rfl eS_4 dX2_init_17 (fun H locs hP hS => ?_)
  refine lv_aload_n hx hb dX2_init_20 rfl (lv_at hl 0 rfl) ?_
  refine lv_bipush (v := 12) hx hb dX2_init_21 (by decide) ?_
  obtain ⟨S_5, eS_5, h⟩ := z_lt_some h
  refine g_newJ (N' := 12) hc hP hS wY_long (by decide) (by decide) (by decide) (Nat.le_of_ble_eq_true rfl) (Nat.le_of_ble_eq_true rfl) eS_5 dX2_init_23 (fun H hP hS => ?_)
  show W p l e (z_rmA 2 76 8 54) s m args below meth c H locs (3) (36) Q (F0 m 25 ls [.ref S_4.2, .ref o])
  obtain ⟨S_6, eS_6, h⟩ := z_bd_some h
  refine g_putF (ci := 2) (k := 2) (ty := (.array .long)) tyX2 hc hP hS rfl z_inX2 tyX2_ok nmX2 (by decide) wF_X2_18 rfl hin rfl (by decide +kernel) rfl rfl eS_6 dX2_init_25 (fun H locs hP hS => ?_)
  refine lv_aload_n hx hb dX2_init_28 rfl (lv_at hl 0 rfl) ?_
  refine lv_iconst (v := 4) hx hb dX2_init_29 (by decide) ?_
  obtain ⟨S_7, eS_7, h⟩ := z_lt_some h
  refine g_newI (N' := 4) hc hP hS wY_int (by decide) (by decide) (by decide) (Nat.le_of_ble_eq_true rfl) (Nat.le_of_ble_eq_true rfl) eS_7 dX2_init_30 (fun H hP hS => ?_)
  show W p l e (z_rmA 2 76 8 54) s m args below meth c H locs (4) (40) Q (F0 m 32 ls [.ref S_6.2, .ref o])
  obtain ⟨S_8, eS_8, h⟩ := z_bd_some h
  refine g_putF (ci := 2) (k := 3) (ty := (.array .int)) tyX2 hc hP hS rfl z_inX2 tyX2_ok nmX2 (by decide) wF_X2_21 rfl hin rfl (by decide +kernel) rfl rfl eS_8 dX2_init_32 (fun H locs hP hS => ?_)
  refine lv_aload_n hx hb dX2_init_35 rfl (lv_at hl 0 rfl) ?_
  refine lv_iconst (v := 4) hx hb dX2_init_36 (by decide) ?_
  obtain ⟨S_9, eS_9, h⟩ := z_lt_some h
  refine g_newJ (N' := 4) hc hP hS wY_long (by decide) (by decide) (by decide) (Nat.le_of_ble_eq_true rfl) (Nat.le_of_ble_eq_true rfl) eS_9 dX2_init_37 (fun H hP hS => ?_)
  show W p l e (z_rmA 2 76 8 54) s m args below meth c H locs (5) (44) Q (F0 m 39 ls [.ref S_8.2, .ref o])
  obtain ⟨S_10, eS_10, h⟩ := z_bd_some h
  refine g_putF (ci := 2) (k := 4) (ty := (.array .long)) tyX2 hc hP hS rfl z_inX2 tyX2_ok nmX2 (by decide) wF_X2_25 rfl hin rfl (by decide +kernel) rfl rfl eS_10 dX2_init_39 (fun H locs hP hS => ?_)
  refine lv_aload_n hx hb dX2_init_42 rfl (lv_at hl 0 rfl) ?_
  refine lv_iconst (v := 3) hx hb dX2_init_43 (by decide) ?_
  obtain ⟨S_11, eS_11, h⟩ := z_lt_some h
  refine g_newJ (N' := 3) hc hP hS wY_long (by decide) (by decide) (by decide) (Nat.le_of_ble_eq_true rfl) (Nat.le_of_ble_eq_true rfl) eS_11 dX2_init_44 (fun H hP hS => ?_)
  show W p l e (z_rmA 2 76 8 54) s m args below meth c H locs (6) (47) Q (F0 m 46 ls [.ref S_10.2, .ref o])
  obtain ⟨S_12, eS_12, h⟩ := z_bd_some h
  refine g_putF (ci := 2) (k := 5) (ty := (.array .long)) tyX2 hc hP hS rfl z_inX2 tyX2_ok nmX2 (by decide) wF_X2_28 rfl hin rfl (by decide +kernel) rfl rfl eS_12 dX2_init_46 (fun H locs hP hS => ?_)
  refine lv_aload_n hx hb dX2_init_49 rfl (lv_at hl 0 rfl) ?_
  refine lv_iconst (v := 3) hx hb dX2_init_50 (by decide) ?_
  obtain ⟨S_13, eS_13, h⟩ := z_lt_some h
  refine g_newJ (N' := 3) hc hP hS wY_long (by decide) (by decide) (by decide) (Nat.le_of_ble_eq_true rfl) (Nat.le_of_ble_eq_true rfl) eS_13 dX2_init_51 (fun H hP hS => ?_)
  show W p l e (z_rmA 2 76 8 54) s m args below meth c H locs (7) (50) Q (F0 m 53 ls [.ref S_12.2, .ref o])
  obtain ⟨S_14, eS_14, h⟩ := z_bd_some h
  refine g_putF (ci := 2) (k := 6) (ty := (.array .long)) tyX2 hc hP hS rfl z_inX2 tyX2_ok nmX2 (by decide) wF_X2_31 rfl hin rfl (by decide +kernel) rfl rfl eS_14 dX2_init_53 (fun H locs hP hS => ?_)
  refine lv_aload_n hx hb dX2_init_56 rfl (lv_at hl 0 rfl) ?_
  obtain ⟨S_15, eS_15, h⟩ := z_lt_some h
  refine g_new (ci := 4) tyX4 hc hP hS rfl z_inX4 tyX4_ok wK_X2_34 wN_X4 wZ_X4 gd_4 (Nat.le_of_ble_eq_true rfl) (Nat.le_of_ble_eq_true rfl) eS_15 dX2_init_57 (fun H hP hS => ?_)
  show W p l e (z_rmA 2 76 8 54) s m args below meth c H locs (8) (54) Q (F0 m 60 ls [.ref S_14.2, .ref o])
  refine lv_dup hx hb dX2_init_60 rfl ?_
  obtain ⟨S_16, e_61, h⟩ := z_bd_some h
  refine g_callIN (As := []) (rv := none) (n := 0) hc hP hS (mt_X4_init l D cs A S_15 S_14.2  e_61) wH_X2_36 wI_X4_init rfl wZ_X4 wC_X4_init md_X4_init ⟨rfl, rfl, Nat.le_of_ble_eq_true rfl, Nat.le_of_ble_eq_true rfl⟩ rfl hl.1 rfl (Nat.le_of_ble_eq_true rfl) dX2_init_61 ⟨Nat.le_of_ble_eq_true rfl, Nat.le_of_ble_eq_true rfl⟩ (fun H locs hP hS => ?_)
  show W p l e (z_rmA 2 76 8 54) s m args below meth c H locs (8) (54) Q (F0 m 64 ls [.ref S_14.2, .ref o])
  obtain ⟨S_17, eS_17, h⟩ := z_bd_some h
  refine g_putF (ci := 2) (k := 7) (ty := (.object "LevelFits$Polynomial")) tyX2 hc hP hS rfl z_inX2 tyX2_ok nmX2 (by decide) wF_X2_37 rfl hin rfl (by decide +kernel) rfl rfl eS_17 dX2_init_64 (fun H locs hP hS => ?_)
  refine lv_aload_n hx hb dX2_init_67 rfl (lv_at hl 0 rfl) ?_
  refine lv_iconst (v := 0) hx hb dX2_init_68 (by decide) ?_
  obtain ⟨S_18, eS_18, h⟩ := z_bd_some h
  refine g_putf (ci := 2) (k := 8) (ty := .int) tyX2 hc hP hS rfl z_inX2 tyX2_ok nmX2 (by decide) wF_X2_41 rfl (by decide +kernel) rfl rfl eS_18 dX2_init_69 (fun H locs hP hS => ?_)
  refine lv_aload_n hx hb dX2_init_72 rfl (lv_at hl 0 rfl) ?_
  refine lv_iconst (v := 1) hx hb dX2_init_73 (by decide) ?_
  obtain ⟨S_19, eS_19, h⟩ := z_bd_some h
  refine g_putf (ci := 2) (k := 9) (ty := .int) tyX2 hc hP hS rfl z_inX2 tyX2_ok nmX2 (by decide) wF_X2_45 rfl (by decide +kernel) rfl rfl eS_19 dX2_init_74 (fun H locs hP hS => ?_)
  refine lv_aload_n hx hb dX2_init_77 rfl (lv_at hl 0 rfl) ?_
  refine lv_iconst (v := 0) hx hb dX2_init_78 (by decide) ?_
  obtain ⟨S_20, eS_20, h⟩ := z_bd_some h
  refine g_putf (ci := 2) (k := 10) (ty := .boolean) tyX2 hc hP hS rfl z_inX2 tyX2_ok nmX2 (by decide) wF_X2_48 rfl (by decide +kernel) rfl rfl eS_20 dX2_init_79 (fun H locs hP hS => ?_)
  cases h
  rw [hQ]
  exact g_retv hc hr hlocks hP hS dX2_init_82
theorem md_X2_init : yX2_init.cls ≠ "java/lang/invoke/MethodHandle" ∧ yX2_init.cls ≠ "java/lang/invoke/VarHandle" ∧ (parseMethodDescriptor yX2_init.desc).map (fun d => d.parameters.length) = some 0 := by decide +kernel
noncomputable def f_X2_load_L33 (a0 : Nat) (a2 : Int32) (o : Nat) (x4_7 : Int32) (S_8 : GS) : Option ((GS) ⊕ (Int32 × GS)) :=
  if a2 ≤ x4_7 then some (.inl (S_8)) else z_bd (g_r S_8 1 3 a0) fun f_10 => z_chk (g_is S_8 3 f_10) (z_bd (f_X3_has S_8 f_10 x4_7) fun r_11 => if r_11 = 0 then some (.inl (S_8)) else z_bd (g_i S_8 2 8 o) fun f_12 => if (12 : Int32) ≤ f_12 then some (.inl (S_8)) else z_bd (g_r S_8 1 3 a0) fun f_13 => z_bd (g_r S_8 3 0 f_13) fun f_14 => z_bd (g_rI S_8 f_14 x4_7) fun v_15 => z_bd (g_r S_8 2 0 o) fun f_16 => z_bd (g_i S_8 2 8 o) fun f_17 => z_bd (g_i S_8 2 10 o) fun f_18 => z_bd (if f_18 = 0 then some (v_15.toInt64) else some ((v_15.toInt64 * v_15.toInt64))) fun v_19 => z_bd (g_wJ S_8 f_16 f_17 v_19) fun S_20 => z_bd (g_r S_20 2 1 o) fun f_21 => z_bd (g_i S_20 2 8 o) fun f_22 => z_bd (g_r S_20 1 3 a0) fun f_23 => z_bd (g_r S_20 3 1 f_23) fun f_24 => z_bd (g_rI S_20 f_24 x4_7) fun v_25 => z_bd (g_wJ S_20 f_21 f_22 v_25.toInt64) fun S_26 => z_bd (g_r S_26 2 2 o) fun f_27 => z_bd (g_i S_26 2 8 o) fun f_28 => z_bd (g_r S_26 1 3 a0) fun f_29 => z_bd (g_r S_26 3 2 f_29) fun f_30 => z_bd (g_rI S_26 f_30 x4_7) fun v_31 => z_bd (g_wJ S_26 f_27 f_28 v_31.toInt64) fun S_32 => z_bd (g_i S_32 2 8 o) fun f_33 => z_bd (g_put S_32 2 8 o (.int (f_33 + (1 : Int32)))) fun S_34 => some (.inr ((x4_7 + 1), S_34)))
noncomputable def f_X2_load (S : GS) (o : Nat) (a0 : Nat) (a1 : Int32) (a2 : Int32) : Option (GS) :=
  z_chk (g_is S 1 a0) (z_bd (f_X1_freeNumbers S a0 ) fun r_1 => z_bd (g_put S 2 9 o (.int r_1)) fun S_2 => z_bd (g_i S_2 1 1 a0) fun f_3 => z_bd (if f_3 = (2 : Int32) then some ((1 : Int32)) else some ((0 : Int32))) fun v_4 => z_chk (v_4 = 0 ∨ v_4 = 1) (z_bd (g_put S_2 2 10 o (.int v_4)) fun S_5 => z_bd (g_put S_5 2 8 o (.int (0 : Int32))) fun S_6 => z_bd (z_lp (fun x => f_X2_load_L33 a0 a2 o x.1 x.2) (a1, S_6)) fun S_9 => some S_9))
set_option maxHeartbeats 4000000 in
set_option maxRecDepth 100000 in
theorem mt_X2_load (l : Launch) (D : va_G) (cs : Nat → ClassId) (A : Nat → Prop) (S : GS) (o : Nat) (a0 : Nat) (a1 : Int32) (a2 : Int32) {N_ : GS} (h : f_X2_load S o a0 a1 a2 = some N_) : Met l yX2_load (z_wd yX2_load cX2_load 7 none) (z_rmA 1 37 0 0) (va_Pc [.ref o, .ref a0, .int a1, .int a2] (g_C D cs A S)) (g_Q none N_ D cs A) 0 0 A := by
  refine Met.ofW (cc := cX2_load) (maxL := 7) (ret := none) (by decide) rfl ?_
  intro p e s m args below meth c s₁ B hml hv
  obtain ⟨hav, hP0, hK, hN, hSt, hAn⟩ := hv
  have hx := B.exec
  have hb := B.bytes
  have hr := B.returns
  have hts := atoms_spec (ws := z_wd yX2_load cX2_load 7 none) B.pre
  have hown : s.vm.findClass RX2 = some m.cls := findClass_of_methodNamed B.named
  have hlocks := B.notSynchronized
  have hc : g_X p s m args c cX2_load 7 RX2 D cs A := ⟨⟨hx, hb, hml, fun w hw => hts w (List.mem_cons_of_mem _ hw), hown⟩, hK, hN, hSt, hAn⟩
  have hl := lv_entry ([.ref o, .ref a0, .int a1, .int a2]) (n := 7) (Nat.le_of_ble_eq_true rfl)
  have hE : entryFrame m args 7 = F0 m 0 ((lg_sl ([.ref o, .ref a0, .int a1, .int a2]) ++ List.replicate (7 - (lg_sl ([.ref o, .ref a0, .int a1, .int a2])).length) Slot.unset).toArray) [] := by rw [hav]; exact lg_entry_eq m _ _
  rw [hE]
  clear hE hav
  generalize (lg_sl ([.ref o, .ref a0, .int a1, .int a2]) ++ List.replicate (7 - (lg_sl ([.ref o, .ref a0, .int a1, .int a2])).length) Slot.unset).toArray = ls at hl ⊢
  have hl : lv_has ls 7 [(0, .ref o), (1, .ref a0), (2, .int a1), (3, .int a2)] := hl
  obtain ⟨Q, hQ⟩ : ∃ Q, Q = MQ below (g_Q none N_ D cs A) args s 0 0 A := ⟨_, rfl⟩
  rw [← hQ]
  suffices hmain : ∀ (H : Heap) (locs : List Loc), g_P D cs A S H → va_S A s.heap H locs → W p l e (z_rmA 1 37 0 0) s m args below meth c H locs 0 0 Q (F0 m 0 ls []) from hmain s.heap [] hP0 va_S.rf
  clear hP0
  intro H locs hP hS
  unfold f_X2_load at h
  refine lv_aload_n hx hb dX2_load_0 rfl (lv_at hl 0 rfl) ?_
  refine lv_aload_n hx hb dX2_load_1 rfl (lv_at hl 1 rfl) ?_
  obtain ⟨ho_2, h⟩ := z_chk_some h
  obtain ⟨vs_, ho_2⟩ := Option.isSome_iff_exists.mp ho_2
  obtain ⟨r_1, e_2, h⟩ := z_bd_some h
  refine g_callV (ci := 1) (As := []) (rv := (some (.int r_1))) (n := 0) hc hP hS rfl ho_2 (mt_X1_freeNumbers l D cs A S a0  e_2) wM_X2_124 wI_X1_freeNumbers wS_X1_freeNumbers wZ_X1 wC_X1_freeNumbers md_X1_freeNumbers ⟨rfl, rfl, Nat.le_of_ble_eq_true rfl, Nat.le_of_ble_eq_true rfl⟩ rfl hl.1 rfl (Nat.le_of_ble_eq_true rfl) dX2_load_2 ⟨Nat.le_of_ble_eq_true rfl, Nat.le_of_ble_eq_true rfl⟩ (fun H locs hP hS => ?_)
  show W p l e (z_rmA 1 37 0 0) s m args below meth c H locs (0) (0) Q (F0 m 5 ls [.int r_1, .ref o])
  obtain ⟨S_2, eS_2, h⟩ := z_bd_some h
  refine g_putf (ci := 2) (k := 9) (ty := .int) tyX2 hc hP hS rfl z_inX2 tyX2_ok nmX2 (by decide) wF_X2_45 rfl (by decide +kernel) rfl rfl eS_2 dX2_load_5 (fun H locs hP hS => ?_)
  refine lv_aload_n hx hb dX2_load_8 rfl (lv_at hl 0 rfl) ?_
  refine lv_aload_n hx hb dX2_load_9 rfl (lv_at hl 1 rfl) ?_
  obtain ⟨f_3, ef_3, h⟩ := z_bd_some h
  refine g_getN (ci := 1) (k := 1) (v := .int f_3) hc hP rfl z_inX1 (by decide) wG_X2_127 (g_i_v ef_3) dX2_load_10 ?_
  refine lv_iconst (v := 2) hx hb dX2_load_13 (by decide) ?_
  obtain ⟨v_4, hJ, h⟩ := z_bd_some h
  have J_22 : ∀ (H : Heap) (locs : List Loc) (ls : Array Slot), g_P D cs A S_2 H → va_S A s.heap H locs → lv_has ls 7 [(0, .ref o), (1, .ref a0), (2, .int a1), (3, .int a2)] → W p l e (z_rmA 1 37 0 0) s m args below meth c H locs (0) (0) Q (F0 m 22 ls [.int v_4, .ref o]) := by
    intro H locs ls hP hS hl
    obtain ⟨cz_22, h⟩ := z_chk_some h
    obtain ⟨S_5, eS_5, h⟩ := z_bd_some h
    refine g_putf (ci := 2) (k := 10) (ty := .boolean) tyX2 hc hP hS rfl z_inX2 tyX2_ok nmX2 (by decide) wF_X2_48 rfl (by decide +kernel) (by rcases cz_22 with q | q <;> rw [q] <;> rfl) (by rcases cz_22 with q | q <;> rw [q] <;> rfl) eS_5 dX2_load_22 (fun H locs hP hS => ?_)
    refine lv_aload_n hx hb dX2_load_25 rfl (lv_at hl 0 rfl) ?_
    refine lv_iconst (v := 0) hx hb dX2_load_26 (by decide) ?_
    obtain ⟨S_6, eS_6, h⟩ := z_bd_some h
    refine g_putf (ci := 2) (k := 8) (ty := .int) tyX2 hc hP hS rfl z_inX2 tyX2_ok nmX2 (by decide) wF_X2_41 rfl (by decide +kernel) rfl rfl eS_6 dX2_load_27 (fun H locs hP hS => ?_)
    refine lv_iload_n hx hb dX2_load_30 rfl (lv_at hl 2 rfl) ?_
    refine lv_istore (lv' := [(4, .int a1), (0, .ref o), (1, .ref a0), (2, .int a1), (3, .int a2)]) hx hb dX2_load_31 hl (by decide) rfl (fun ls hl => ?_)
    obtain ⟨S_9, hlp, h⟩ := z_bd_some h
    refine z_lp_ind (P := fun x => ∀ (H : Heap) (locs : List Loc) (ls : Array Slot), g_P D cs A x.2 H → va_S A s.heap H locs → lv_has ls 7 [(0, .ref o), (1, .ref a0), (3, .int a2), (4, .int x.1)] → W p l e (z_rmA 1 37 0 0) s m args below meth c H locs (0) (0) Q (F0 m 33 ls [])) (Qe := fun y => ∀ (H : Heap) (locs : List Loc) (ls : Array Slot), g_P D cs A y H → va_S A s.heap H locs → lv_has ls 7 [] → W p l e (z_rmA 1 37 0 0) s m args below meth c H locs (0) (0) Q (F0 m 155 ls [])) ?_ hlp ?_ H locs ls hP hS (lv_sub hl [1, 2, 4, 0] rfl)
    · clear h hlp hP hS hl
      rintro ⟨x4_7, S_8⟩ oo h K_33 H locs ls hP hS hl
      have hP : g_P D cs A S_8 H := hP
      have hl : lv_has ls 7 [(0, .ref o), (1, .ref a0), (3, .int a2), (4, .int x4_7)] := hl
      have h : f_X2_load_L33 a0 a2 o x4_7 S_8 = some oo := h
      unfold f_X2_load_L33 at h
      refine lv_iload hx hb dX2_load_33 (lv_at hl 3 rfl) ?_
      refine lv_iload_n hx hb dX2_load_35 rfl (lv_at hl 2 rfl) ?_
      refine lv_icmp_ge (tgt := 155) hx hb dX2_load_36 (by decide) (fun c_36 => ?_) (fun c_36 => ?_)
      · replace h := z_ip_ c_36 h
        cases h
        exact K_33 H locs ls hP hS (lv_sub hl [] rfl)
      · replace h := z_in_ c_36 h
        refine lv_aload_n hx hb dX2_load_39 rfl (lv_at hl 1 rfl) ?_
        obtain ⟨f_10, ef_10, h⟩ := z_bd_some h
        refine g_getN (ci := 1) (k := 3) (v := .ref f_10) hc hP rfl z_inX1 (by decide) wG_X2_72 (g_r_v ef_10) dX2_load_40 ?_
        refine lv_iload hx hb dX2_load_43 (lv_at hl 3 rfl) ?_
        obtain ⟨ho_45, h⟩ := z_chk_some h
        obtain ⟨vs_, ho_45⟩ := Option.isSome_iff_exists.mp ho_45
        obtain ⟨r_11, e_45, h⟩ := z_bd_some h
        refine g_callV (ci := 3) (As := [.int x4_7]) (rv := (some (.int r_11))) (n := 1) hc hP hS rfl ho_45 (mt_X3_has l D cs A S_8 f_10 x4_7 e_45) wM_X2_130 wI_X3_has wS_X3_has wZ_X3 wC_X3_has md_X3_has ⟨rfl, rfl, Nat.le_of_ble_eq_true rfl, Nat.le_of_ble_eq_true rfl⟩ rfl hl.1 rfl (Nat.le_of_ble_eq_true rfl) dX2_load_45 ⟨Nat.le_of_ble_eq_true rfl, Nat.le_of_ble_eq_true rfl⟩ (fun H locs hP hS => ?_)
        show W p l e (z_rmA 1 37 0 0) s m args below meth c H locs (0) (0) Q (F0 m 48 ls [.int r_11])
        refine lv_if_eq (tgt := 155) hx hb dX2_load_48 (by decide) (fun c_48 => ?_) (fun c_48 => ?_)
        · replace h := z_ip_ c_48 h
          cases h
          exact K_33 H locs ls hP hS (lv_sub hl [] rfl)
        · replace h := z_in_ c_48 h
          refine lv_aload_n hx hb dX2_load_51 rfl (lv_at hl 0 rfl) ?_
          obtain ⟨f_12, ef_12, h⟩ := z_bd_some h
          refine g_get (ci := 2) (k := 8) (v := .int f_12) hc hP rfl z_inX2 (by decide) wF_X2_41 (g_i_v ef_12) dX2_load_52 ?_
          refine lv_bipush (v := 12) hx hb dX2_load_55 (by decide) ?_
          refine lv_icmp_ge (tgt := 155) hx hb dX2_load_57 (by decide) (fun c_57 => ?_) (fun c_57 => ?_)
          · replace h := z_ip_ c_57 h
            cases h
            exact K_33 H locs ls hP hS (lv_sub hl [] rfl)
          · replace h := z_in_ c_57 h
            refine lv_aload_n hx hb dX2_load_60 rfl (lv_at hl 1 rfl) ?_
            obtain ⟨f_13, ef_13, h⟩ := z_bd_some h
            refine g_getN (ci := 1) (k := 3) (v := .ref f_13) hc hP rfl z_inX1 (by decide) wG_X2_72 (g_r_v ef_13) dX2_load_61 ?_
            obtain ⟨f_14, ef_14, h⟩ := z_bd_some h
            refine g_getN (ci := 3) (k := 0) (v := .ref f_14) hc hP rfl z_inX3 (by decide) wG_X2_134 (g_r_v ef_14) dX2_load_64 ?_
            refine lv_iload hx hb dX2_load_67 (lv_at hl 3 rfl) ?_
            obtain ⟨v_15, ev_15, h⟩ := z_bd_some h
            refine g_iald hc hP ev_15 dX2_load_69 ?_
            refine lv_i2l (v := v_15.toInt64) hx hb dX2_load_70 rfl ?_
            refine lv_lstore (lv' := [(5, .long v_15.toInt64), (0, .ref o), (1, .ref a0), (3, .int a2), (4, .int x4_7)]) hx hb dX2_load_71 hl (by decide) rfl (fun ls hl => ?_)
            refine lv_aload_n hx hb dX2_load_73 rfl (lv_at hl 1 rfl) ?_
            obtain ⟨f_16, ef_16, h⟩ := z_bd_some h
            refine g_get (ci := 2) (k := 0) (v := .ref f_16) hc hP rfl z_inX2 (by decide) wF_X2_9 (g_r_v ef_16) dX2_load_74 ?_
            refine lv_aload_n hx hb dX2_load_77 rfl (lv_at hl 1 rfl) ?_
            obtain ⟨f_17, ef_17, h⟩ := z_bd_some h
            refine g_get (ci := 2) (k := 8) (v := .int f_17) hc hP rfl z_inX2 (by decide) wF_X2_41 (g_i_v ef_17) dX2_load_78 ?_
            refine lv_aload_n hx hb dX2_load_81 rfl (lv_at hl 1 rfl) ?_
            obtain ⟨f_18, ef_18, h⟩ := z_bd_some h
            refine g_get (ci := 2) (k := 10) (v := .int f_18) hc hP rfl z_inX2 (by decide) wF_X2_48 (g_i_v ef_18) dX2_load_82 ?_
            obtain ⟨v_19, hJ, h⟩ := z_bd_some h
            have J_98 : ∀ (H : Heap) (locs : List Loc) (ls : Array Slot), g_P D cs A S_8 H → va_S A s.heap H locs → lv_has ls 7 [(0, .ref o), (1, .ref a0), (3, .int a2), (4, .int x4_7)] → W p l e (z_rmA 1 37 0 0) s m args below meth c H locs (0) (0) Q (F0 m 98 ls [.long v_19, .int f_17, .ref f_16]) := by
              intro H locs ls hP hS hl
              obtain ⟨S_20, eS_20, h⟩ := z_bd_some h
              refine g_last hc hP hS eS_20 dX2_load_98 (fun H locs hP hS => ?_)
              refine lv_aload_n hx hb dX2_load_99 rfl (lv_at hl 0 rfl) ?_
              obtain ⟨f_21, ef_21, h⟩ := z_bd_some h
              refine g_get (ci := 2) (k := 1) (v := .ref f_21) hc hP rfl z_inX2 (by decide) wF_X2_15 (g_r_v ef_21) dX2_load_100 ?_
              refine lv_aload_n hx hb dX2_load_103 rfl (lv_at hl 0 rfl) ?_
              obtain ⟨f_22, ef_22, h⟩ := z_bd_some h
              refine g_get (ci := 2) (k := 8) (v := .int f_22) hc hP rfl z_inX2 (by decide) wF_X2_41 (g_i_v ef_22) dX2_load_104 ?_
              refine lv_aload_n hx hb dX2_load_107 rfl (lv_at hl 1 rfl) ?_
              obtain ⟨f_23, ef_23, h⟩ := z_bd_some h
              refine g_getN (ci := 1) (k := 3) (v := .ref f_23) hc hP rfl z_inX1 (by decide) wG_X2_72 (g_r_v ef_23) dX2_load_108 ?_
              obtain ⟨f_24, ef_24, h⟩ := z_bd_some h
              refine g_getN (ci := 3) (k := 1) (v := .ref f_24) hc hP rfl z_inX3 (by decide) wG_X2_137 (g_r_v ef_24) dX2_load_111 ?_
              refine lv_iload hx hb dX2_load_114 (lv_at hl 3 rfl) ?_
              obtain ⟨v_25, ev_25, h⟩ := z_bd_some h
              refine g_iald hc hP ev_25 dX2_load_116 ?_
              refine lv_i2l (v := v_25.toInt64) hx hb dX2_load_117 rfl ?_
              obtain ⟨S_26, eS_26, h⟩ := z_bd_some h
              refine g_last hc hP hS eS_26 dX2_load_118 (fun H locs hP hS => ?_)
              refine lv_aload_n hx hb dX2_load_119 rfl (lv_at hl 0 rfl) ?_
              obtain ⟨f_27, ef_27, h⟩ := z_bd_some h
              refine g_get (ci := 2) (k := 2) (v := .ref f_27) hc hP rfl z_inX2 (by decide) wF_X2_18 (g_r_v ef_27) dX2_load_120 ?_
              refine lv_aload_n hx hb dX2_load_123 rfl (lv_at hl 0 rfl) ?_
              obtain ⟨f_28, ef_28, h⟩ := z_bd_some h
              refine g_get (ci := 2) (k := 8) (v := .int f_28) hc hP rfl z_inX2 (by decide) wF_X2_41 (g_i_v ef_28) dX2_load_124 ?_
              refine lv_aload_n hx hb dX2_load_127 rfl (lv_at hl 1 rfl) ?_
              obtain ⟨f_29, ef_29, h⟩ := z_bd_some h
              refine g_getN (ci := 1) (k := 3) (v := .ref f_29) hc hP rfl z_inX1 (by decide) wG_X2_72 (g_r_v ef_29) dX2_load_128 ?_
              obtain ⟨f_30, ef_30, h⟩ := z_bd_some h
              refine g_getN (ci := 3) (k := 2) (v := .ref f_30) hc hP rfl z_inX3 (by decide) wG_X2_139 (g_r_v ef_30) dX2_load_131 ?_
              refine lv_iload hx hb dX2_load_134 (lv_at hl 3 rfl) ?_
              obtain ⟨v_31, ev_31, h⟩ := z_bd_some h
              refine g_iald hc hP ev_31 dX2_load_136 ?_
              refine lv_i2l (v := v_31.toInt64) hx hb dX2_load_137 rfl ?_
              obtain ⟨S_32, eS_32, h⟩ := z_bd_some h
              refine g_last hc hP hS eS_32 dX2_load_138 (fun H locs hP hS => ?_)
              refine lv_aload_n hx hb dX2_load_139 rfl (lv_at hl 0 rfl) ?_
              refine lv_dup hx hb dX2_load_140 rfl ?_
              obtain ⟨f_33, ef_33, h⟩ := z_bd_some h
              refine g_get (ci := 2) (k := 8) (v := .int f_33) hc hP rfl z_inX2 (by decide) wF_X2_41 (g_i_v ef_33) dX2_load_141 ?_
              refine lv_iconst (v := 1) hx hb dX2_load_144 (by decide) ?_
              refine lv_iadd hx hb dX2_load_145 ?_
              obtain ⟨S_34, eS_34, h⟩ := z_bd_some h
              refine g_putf (ci := 2) (k := 8) (ty := .int) tyX2 hc hP hS rfl z_inX2 tyX2_ok nmX2 (by decide) wF_X2_41 rfl (by decide +kernel) rfl rfl eS_34 dX2_load_146 (fun H locs hP hS => ?_)
              refine lv_iinc (v := (x4_7 + 1)) (lv' := [(4, .int (x4_7 + 1)), (0, .ref o), (1, .ref a0), (3, .int a2)]) hx hb dX2_load_149 hl (k := 3) rfl rfl (by decide) rfl (fun ls hl => ?_)
              refine lv_goto (tgt := 33) hx hb dX2_load_152 (by decide) ?_
              cases h
              exact K_33 H locs ls hP hS (lv_sub hl [1, 2, 3, 0] rfl)
            clear h
            have h := hJ
            clear hJ
            refine lv_if_eq (tgt := 96) hx hb dX2_load_85 (by decide) (fun c_85 => ?_) (fun c_85 => ?_)
            · replace h := z_ip_ c_85 h
              refine lv_lload hx hb dX2_load_96 (lv_at hl 0 rfl) ?_
              cases h
              exact J_98 H locs ls hP hS (lv_sub hl [1, 2, 3, 4] rfl)
            · replace h := z_in_ c_85 h
              refine lv_lload hx hb dX2_load_88 (lv_at hl 0 rfl) ?_
              refine lv_lload hx hb dX2_load_90 (lv_at hl 0 rfl) ?_
              refine lv_lmul hx hb dX2_load_92 ?_
              refine lv_goto (tgt := 98) hx hb dX2_load_93 (by decide) ?_
              cases h
              exact J_98 H locs ls hP hS (lv_sub hl [1, 2, 3, 4] rfl)
    · clear hlp hP hS hl
      intro H locs ls hP hS hl
      have hP : g_P D cs A S_9 H := hP
      have hl : lv_has ls 7 [] := hl
      cases h
      rw [hQ]
      exact g_retv hc hr hlocks hP hS dX2_load_155
  clear h
  have h := hJ
  clear hJ
  refine lv_icmp_ne (tgt := 21) hx hb dX2_load_14 (by decide) (fun c_14 => ?_) (fun c_14 => ?_)
  · replace h := z_in_ c_14 h
    refine lv_iconst (v := 0) hx hb dX2_load_21 (by decide) ?_
    cases h
    exact J_22 H locs ls hP hS (lv_sub hl [0, 1, 2, 3] rfl)
  · replace h := z_ip_ c_14 h
    refine lv_iconst (v := 1) hx hb dX2_load_17 (by decide) ?_
    refine lv_goto (tgt := 22) hx hb dX2_load_18 (by decide) ?_
    cases h
    exact J_22 H locs ls hP hS (lv_sub hl [0, 1, 2, 3] rfl)
theorem md_X2_load : yX2_load.cls ≠ "java/lang/invoke/MethodHandle" ∧ yX2_load.cls ≠ "java/lang/invoke/VarHandle" ∧ (parseMethodDescriptor yX2_load.desc).map (fun d => d.parameters.length) = some 3 := by decide +kernel
noncomputable def f_J9_min_7cf53 (a0 : Int32) (a1 : Int32) : Option (Int32) :=
  if a1 < a0 then some a1 else some a0
set_option maxHeartbeats 4000000 in
set_option maxRecDepth 100000 in
theorem mt_J9_min_7cf53 (l : Launch) (a0 : Int32) (a1 : Int32) {r_ : Int32} (h : f_J9_min_7cf53 a0 a1 = some r_) : Met l yJ9_min_7cf53 (z_wd yJ9_min_7cf53 cJ9_min_7cf53 2 (some .int)) (z_rm 0 0) (va_Pc [.int a0, .int a1] (fun _ => True)) (vp_Si (fun r1 : Int32 => r1 = r_)) 0 0 (fun _ => False) := by
  refine z_ofWF (cc := cJ9_min_7cf53) (maxL := 2) (ret := (some .int)) (by decide +kernel) rfl ?_
  intro p e s m args below meth c s₁ B hml hv
  obtain ⟨hav, -⟩ := hv
  have hx := B.exec
  have hb := B.bytes
  have hr := B.returns
  have hts := atoms_spec (ws := z_wd yJ9_min_7cf53 cJ9_min_7cf53 2 (some .int)) B.pre
  have hown : s.vm.findClass RJ9 = some m.cls := findClass_of_methodNamed B.named
  have hlocks := B.notSynchronized
  have hc : s_X p s m args c cJ9_min_7cf53 2 RJ9 := ⟨hx, hb, hml, fun w hw => hts w (List.mem_cons_of_mem _ hw), hown⟩
  have hl := lv_entry ([.int a0, .int a1]) (n := 2) (Nat.le_of_ble_eq_true rfl)
  have hE : entryFrame m args 2 = F0 m 0 ((lg_sl ([.int a0, .int a1]) ++ List.replicate (2 - (lg_sl ([.int a0, .int a1])).length) Slot.unset).toArray) [] := by rw [hav]; exact lg_entry_eq m _ _
  rw [hE]
  clear hE hav
  generalize (lg_sl ([.int a0, .int a1]) ++ List.replicate (2 - (lg_sl ([.int a0, .int a1])).length) Slot.unset).toArray = ls at hl ⊢
  have hl : lv_has ls 2 [(0, .int a0), (1, .int a1)] := hl
  obtain ⟨Q, hQ⟩ : ∃ Q, Q = MQ below (vp_Si (fun r1 : Int32 => r1 = r_)) args s 0 0 (fun _ => False) := ⟨_, rfl⟩
  rw [← hQ]
  show W p l e (z_rm 0 0) s m args below meth c s.heap [] 0 0 Q (F0 m 0 ls [])
  unfold f_J9_min_7cf53 at h
  refine lv_iload_n hx hb dJ9_min_7cf53_0 rfl (lv_at hl 0 rfl) ?_
  refine lv_iload_n hx hb dJ9_min_7cf53_1 rfl (lv_at hl 1 rfl) ?_
  refine lv_icmp_gt (tgt := 9) hx hb dJ9_min_7cf53_2 (by decide) (fun c_2 => ?_) (fun c_2 => ?_)
  · replace h := z_ip_ c_2 h
    refine lv_iload_n hx hb dJ9_min_7cf53_9 rfl (lv_at hl 1 rfl) ?_
    cases h
    rw [hQ]
    exact s_reti hc hr hlocks dJ9_min_7cf53_10
  · replace h := z_in_ c_2 h
    refine lv_iload_n hx hb dJ9_min_7cf53_5 rfl (lv_at hl 0 rfl) ?_
    refine lv_goto (tgt := 10) hx hb dJ9_min_7cf53_6 (by decide) ?_
    cases h
    rw [hQ]
    exact s_reti hc hr hlocks dJ9_min_7cf53_10
theorem md_J9_min_7cf53 : yJ9_min_7cf53.cls ≠ "java/lang/invoke/MethodHandle" ∧ yJ9_min_7cf53.cls ≠ "java/lang/invoke/VarHandle" ∧ (parseMethodDescriptor yJ9_min_7cf53.desc).map (fun d => d.parameters.length) = some 2 := by decide +kernel
