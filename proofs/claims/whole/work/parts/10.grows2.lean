theorem z_mt_n {β : Type} {x r : β} {k : Nat → β} (h : z_mt none x k = r) : x = r := h
theorem z_mt_s {β : Type} {a : Nat} {x r : β} {k : Nat → β} (h : z_mt (some a) x k = r) : k a = r := h
abbrev g_is (S : GS) (ci b : Nat) : Prop := (g_o S ci b).isSome = true
abbrev g_isI (S : GS) (b : Nat) : Prop := (g_ai S b).isSome = true
abbrev z_rmA (f n mc ms : Nat) : Room := { frames := f, cells := mc, slots := ms, locals := n }
/-- a size that a new row may have -/
abbrev z_sz (n : Int32) (B : Nat) : Prop := ¬ n < 0 ∧ n.toNatClampNeg ≤ B
section ZH
variable {p : Program} {l : Launch} {e : Env} {R : Room} {s : State} {m : MethodId} {args : Array Value} {below : List Frame} {meth : Method} {c : Code} {H : Heap} {locs : List Loc} {cells slots : Nat} {Q : State → Prop} {cc : ByteArray} {nL pc : Nat} {ls : Array Slot} {rest : List Value} {D : va_G} {cs : Nat → ClassId} {A : Nat → Prop} {S : GS} {own : String} {a : Nat}
theorem g_obj {idx : Nat} (hc : g_X p s m args c cc nL own D cs A) (h1 : Cond.methodLink own idx objectInit ∈ z_big) (hl : ls.size = nL) (hframes : 1 ≤ R.frames) (hlocals : (rest.map fun v => v.category).sum + 12 ≤ R.locals) (hdg : decode cc pc = .ok (.invokespecial idx, 3)) (kk : W p l e R s m args below meth c H locs cells slots Q (F0 m (pc + 3) ls rest)) : W p l e R s m args below meth c H locs cells slots Q (F0 m pc ls (.ref a :: rest)) :=
  W.objInit hc.1.1 hc.1.2.1 hc.1.2.2.2.2 (hc.1.2.2.2.1 _ h1) (hc.1.2.2.2.1 _ wI_objectInit) (hc.1.2.2.2.1 _ wC_objectInit) rfl (hl.trans hc.1.2.2.1.symm) rfl hdg hframes (by show 2 * 0 + _ + 12 ≤ _; omega) kk
theorem g_castI {idx : Nat} (hc : g_X p s m args c cc nL own D cs A) (hP : g_P D cs A S H) (h1 : Cond.classLink own idx "[I" ∈ z_big) (hv : g_isI S a) (hdg : decode cc pc = .ok (.checkcast idx, 3)) (kk : W p l e R s m args below meth c H locs cells slots Q (F0 m (pc + 3) ls (.ref a :: rest))) : W p l e R s m args below meth c H locs cells slots Q (F0 m pc ls (.ref a :: rest)) := by
  obtain ⟨⟨n, f⟩, h2⟩ := Option.isSome_iff_exists.mp hv
  exact va_castA (D := D) hc.1.1 hc.1.2.1 hc.1.2.2.2.2 (hc.1.2.2.2.1 _ h1) (hP.one (g_ai_sp h2)) 0 rfl (hc.2.1.2 0 _ rfl).2 hdg kk
theorem g_clone {B idx : Nat} {S' : GS} (hc : g_X p s m args c cc nL own D cs A) (hP : g_P D cs A S H) (hS : va_S A s.heap H locs) (h1 : Cond.methodLink own idx ⟨"[I", "clone", "()Ljava/lang/Object;"⟩ ∈ z_big) (hv : g_cl S a B = some S') (hl : ls.size = nL) (hframes : 1 ≤ R.frames) (hlocals : (rest.map fun v => v.category).sum + 14 ≤ R.locals) (hcells : cells + 1 ≤ R.cells) (hslots : slots + B ≤ R.slots) (hdg : decode cc pc = .ok (.invokevirtual idx, 3))
    (kk : ∀ (H1 : Heap), g_P D cs A S' H1 → va_S A s.heap H1 locs → W p l e R s m args below meth c H1 locs (cells + 1) (slots + B) Q (F0 m (pc + 3) ls (.ref S.2 :: rest))) : W p l e R s m args below meth c H locs cells slots Q (F0 m pc ls (.ref a :: rest)) := by
  obtain ⟨n, f, g1, g2⟩ := z_bd2_some hv
  obtain ⟨hB, rfl⟩ := z_if_some g2
  obtain ⟨hat, hAa⟩ := hP.2 a _ (g_ai_sp g1)
  obtain ⟨⟨hx, hb, hml, hts, hown⟩, hK, hN, -, hAn⟩ := id hc
  have hnm : s.vm.findClass "[I" = some (cs 0) := (hK.2 0 _ rfl).2
  have hcl : va_Nw (.castable "[I" "java/lang/Cloneable") s := hN.2.2.2
  have hsz : (vp_cell (cs 0) (n, .inl f)).slots.size = n := arrV_size _ _ _
  obtain ⟨c0, t0', f1, f2, f3⟩ := Cond.castable_spec (va_Nw.use (A := args) rfl hcl)
  cases hnm.symm.trans f1
  intro T hT X
  have hcellT : T.heap[a]? = some (vp_cell (cs 0) (n, .inl f)) := by rw [hT]; exact hat
  obtain ⟨-, kA, hkA, comp, hkind⟩ := State.isArrayOf_alike X.warmed.alike ((hK.2 0 _ rfl).1 0 (fun _ => .null))
  obtain ⟨-, kS, hkS, compS, hkindS⟩ := (hK.2 0 _ rfl).1 0 (fun _ => .null)
  obtain ⟨vm', X', st⟩ := X.cloneArray hx hown (hts _ h1) (hts _ wV_sameMethod) (hts _ wV_native) (hts _ wV_instanceMethod) (hts _ wV_selects) (a := a) (cell := vp_cell (cs 0) (n, .inl f)) hcellT (fun k h => by cases h) (fun h => by cases h) hnm f2 f3
    (fun i v hv => by
      have hk' : T.vm.classes[cs 0]? = some kA := hkA
      have h5 : fits .int v = true := va_fit (ty := .int) (fun _ _ => rfl) i v hv
      show T.fitsSlot (cs 0) _ i v = true
      simpa [State.fitsSlot, State.slotType?, hk', hkind] using h5)
    (g := F0 m pc ls (.ref a :: rest)) rfl (hl.trans hml.symm) rfl (by rw [hb]; exact hdg) hframes (by show 2 * 0 + _ + 14 ≤ _; omega) hcells (by rw [hsz]; omega) (hloader := Vm.clonesLoader_of_array hkS hkindS)
  have hcellE : ({ cls := (vp_cell (cs 0) (n, .inl f)).cls, slots := (vp_cell (cs 0) (n, .inl f)).slots } : Cell) = vp_cell (cs 0) (n, .inl f) := rfl
  rw [hcellE, hsz] at X'
  generalize hH1 : H.push (vp_cell (cs 0) (n, .inl f)) = H1
  have z1 : H1.size = H.size + 1 := by rw [← hH1, Array.size_push]
  have e1 : H1[H.size]? = some (vp_cell (cs 0) (n, .inl f)) := by rw [← hH1, Array.getElem?_push_size]
  have o1 : ∀ q : Nat, q < H.size → H1[q]? = H[q]? := fun q hq => by rw [← hH1, Array.getElem?_push, if_neg (Nat.ne_of_lt hq)]
  have h3 := kk H1 (hP.new (hAn _ hS.1) e1 z1 o1) ⟨Nat.le_trans hS.1 (by omega), fun x h1 h2 => (o1 x (Nat.lt_of_lt_of_le h1 hS.1)).trans (hS.2.1 x h1 h2), hS.2.2⟩
  rw [← hP.1] at h3
  have h4 : W p l e R s m args below meth c H1 locs (cells + 1) (slots + n) Q (F0 m (pc + 3) ls (.ref H.size :: rest)) := W.widen (Nat.le_refl _) (Nat.add_le_add_left hB _) h3
  obtain ⟨t, b1, b2⟩ := h4 ((T.setVm vm').pushCell (vp_cell (cs 0) (n, .inl f))) (by rw [← hH1, ← hT]; rfl) X'
  refine ⟨t, st t ?_, b2⟩
  rw [hcellE, hT]
  exact b1
theorem z_runSN {y : MethodName} {bytes : ByteArray} {maxL mc ms n idx : Nat} {ret : Option FieldType} {rm : Room} {Pc : Array Value → State → Prop} {Qc : Array Value → State → Outcome → State → Prop} {free : Addr → Prop} {As st : List Value} (hc : g_X p s m args c cc nL own D cs A)
    (hM : Met l y (z_wd y bytes maxL ret) rm Pc Qc mc ms free) (h1 : (own, idx, y, "LevelFits") ∈ z_nM) (h2 : Cond.static y ∈ z_big) (h4 : Cond.initialized y.cls ∈ z_big) (h5 : Cond.code y bytes maxL ret ∈ z_big)
    (hd : y.cls ≠ "java/lang/invoke/MethodHandle" ∧ y.cls ≠ "java/lang/invoke/VarHandle" ∧ (parseMethodDescriptor y.desc).map (fun d => d.parameters.length) = some n) (hrm : rm.cells = mc ∧ rm.slots = ms ∧ rm.frames + 1 ≤ R.frames ∧ 24 + (maxL + 11) + rm.locals ≤ R.locals) (hp : PreS s H Pc As) (hn : As.length = n) (hl : ls.size = nL) (hst : st = As.reverse ++ rest) (hW : (rest.map fun v => v.category).sum ≤ 24) (hdg : decode cc pc = .ok (.invokestatic idx, 3)) (hf : cells + mc ≤ R.cells ∧ slots + ms ≤ R.slots) :
    va_Run p l e R s m args below meth c H locs cells slots mc ms (F0 m pc ls st) rest (Qc As.toArray) free := by
  have hK := z_back (p := p) (e := e) (below := below) (R := R) hc.1.2.2.2.1 hM hp.1 h4 h5 hrm
  have hlk : (Cond.methodLinkNest own idx y "LevelFits").before args s = true := va_Nw.use rfl (hc.2.2.1.2.1 _ h1)
  obtain ⟨⟨hx, hb, hml, hts, ho⟩, -⟩ := hc
  intro T hT X
  obtain ⟨v, vm₁, ⟨U', l2, c2, s2⟩, hW₁, X', ⟨g', mk, t, L, e1, e2, hq, a1, hL, a2, a3⟩, gs⟩ := va_callSN X hx (bytes := bytes) (maxL := maxL) (ret := ret) ho hlk (hts _ h2) (hts _ h4) (hts _ h5) ⟨hd.1, hd.2.1⟩ hK (g := F0 m pc ls st) rfl (hl.trans hml.symm) (argsL := As) (rest := rest) (z_len hd hn) hst (z_room hW) (by rw [hb]; exact hdg)
    (fun vm₁ hW₁ => ⟨hf.1, hf.2, hp.2 (T.setVm vm₁) hT hW₁⟩)
  dsimp only [Pt.U, Pt.locs, Pt.cells, Pt.slots] at X' e1 e2 a1 a2 a3 gs
  subst a1; subst a2; subst a3
  exact ⟨v, (T.setVm vm₁).calling g' mk As.toArray, t, U', L, hT, X', hL, e1, e2, hq, gs⟩
theorem g_callSNi {y : MethodName} {bytes : ByteArray} {maxL n idx : Nat} {ret : Option FieldType} {rm : Room} {As st : List Value} {r : Int32} (hc : g_X p s m args c cc nL own D cs A)
    (hM : Met l y (z_wd y bytes maxL ret) rm (va_Pc As (fun _ => True)) (vp_Si (fun r1 : Int32 => r1 = r)) 0 0 (fun _ => False)) (h1 : (own, idx, y, "LevelFits") ∈ z_nM) (h2 : Cond.static y ∈ z_big) (h4 : Cond.initialized y.cls ∈ z_big) (h5 : Cond.code y bytes maxL ret ∈ z_big)
    (hd : y.cls ≠ "java/lang/invoke/MethodHandle" ∧ y.cls ≠ "java/lang/invoke/VarHandle" ∧ (parseMethodDescriptor y.desc).map (fun d => d.parameters.length) = some n) (hrm : rm.cells = 0 ∧ rm.slots = 0 ∧ rm.frames + 1 ≤ R.frames ∧ 24 + (maxL + 11) + rm.locals ≤ R.locals) (hn : As.length = n) (hl : ls.size = nL) (hst : st = As.reverse ++ rest) (hW : (rest.map fun v => v.category).sum ≤ 24) (hdg : decode cc pc = .ok (.invokestatic idx, 3)) (hcs : cells ≤ R.cells ∧ slots ≤ R.slots)
    (kk : W p l e R s m args below meth c H locs cells slots Q (F0 m (pc + 3) ls (.int r :: rest))) : W p l e R s m args below meth c H locs cells slots Q (F0 m pc ls st) := by
  have hr := z_runSN (H := H) (locs := locs) (cells := cells) (slots := slots) (e := e) (below := below) (meth := meth) hc hM h1 h2 h4 h5 hd hrm ⟨fun a U g mk q => ⟨q.1, trivial⟩, fun U hU hW => ⟨rfl, trivial⟩⟩ hn hl hst hW hdg hcs
  intro T hT X
  obtain ⟨v, st₀, t, T', L, h0, X', hL, e1, e2, ⟨r1, hv, hp, hh⟩, gs⟩ := hr T hT X
  cases hv
  subst hp
  have hL0 : L = [] := List.eq_nil_iff_forall_not_mem.mpr (fun q hq => hL q hq)
  subst hL0
  rw [List.append_nil] at X'
  obtain ⟨t2, a1, b1⟩ := kk T' (by rw [e1, hh, h0]) X'
  exact ⟨t2, gs t2 a1, b1⟩
theorem g_callSNl {y : MethodName} {bytes : ByteArray} {maxL n idx : Nat} {ret : Option FieldType} {rm : Room} {As st : List Value} {r : Int64} (hc : g_X p s m args c cc nL own D cs A)
    (hM : Met l y (z_wd y bytes maxL ret) rm (va_Pc As (fun _ => True)) (vp_Sl (fun r1 : Int64 => r1 = r)) 0 0 (fun _ => False)) (h1 : (own, idx, y, "LevelFits") ∈ z_nM) (h2 : Cond.static y ∈ z_big) (h4 : Cond.initialized y.cls ∈ z_big) (h5 : Cond.code y bytes maxL ret ∈ z_big)
    (hd : y.cls ≠ "java/lang/invoke/MethodHandle" ∧ y.cls ≠ "java/lang/invoke/VarHandle" ∧ (parseMethodDescriptor y.desc).map (fun d => d.parameters.length) = some n) (hrm : rm.cells = 0 ∧ rm.slots = 0 ∧ rm.frames + 1 ≤ R.frames ∧ 24 + (maxL + 11) + rm.locals ≤ R.locals) (hn : As.length = n) (hl : ls.size = nL) (hst : st = As.reverse ++ rest) (hW : (rest.map fun v => v.category).sum ≤ 24) (hdg : decode cc pc = .ok (.invokestatic idx, 3)) (hcs : cells ≤ R.cells ∧ slots ≤ R.slots)
    (kk : W p l e R s m args below meth c H locs cells slots Q (F0 m (pc + 3) ls (.long r :: rest))) : W p l e R s m args below meth c H locs cells slots Q (F0 m pc ls st) := by
  have hr := z_runSN (H := H) (locs := locs) (cells := cells) (slots := slots) (e := e) (below := below) (meth := meth) hc hM h1 h2 h4 h5 hd hrm ⟨fun a U g mk q => ⟨q.1, trivial⟩, fun U hU hW => ⟨rfl, trivial⟩⟩ hn hl hst hW hdg hcs
  intro T hT X
  obtain ⟨v, st₀, t, T', L, h0, X', hL, e1, e2, ⟨r1, hv, hp, hh⟩, gs⟩ := hr T hT X
  cases hv
  subst hp
  have hL0 : L = [] := List.eq_nil_iff_forall_not_mem.mpr (fun q hq => hL q hq)
  subst hL0
  rw [List.append_nil] at X'
  obtain ⟨t2, a1, b1⟩ := kk T' (by rw [e1, hh, h0]) X'
  exact ⟨t2, gs t2 a1, b1⟩
end ZH
/-- a new object's fields -/
theorem gd_0 : ∀ j, j < 2 → defaultValue (tyX0 j) = vp_V [.null, .int 0] j := by
  intro j hj
  rcases (show j = 0 ∨ j = 1 by omega) with rfl | rfl <;> rfl
theorem gd_1 : ∀ j, j < 7 → defaultValue (tyX1 j) = vp_V [.int 0, .int 0, .int 0, .null, .null, .null, .int 0] j := by
  intro j hj
  rcases (show j = 0 ∨ j = 1 ∨ j = 2 ∨ j = 3 ∨ j = 4 ∨ j = 5 ∨ j = 6 by omega) with rfl | rfl | rfl | rfl | rfl | rfl | rfl <;> rfl
theorem gd_2 : ∀ j, j < 11 → defaultValue (tyX2 j) = vp_V [.null, .null, .null, .null, .null, .null, .null, .null, .int 0, .int 0, .int 0] j := by
  intro j hj
  rcases (show j = 0 ∨ j = 1 ∨ j = 2 ∨ j = 3 ∨ j = 4 ∨ j = 5 ∨ j = 6 ∨ j = 7 ∨ j = 8 ∨ j = 9 ∨ j = 10 by omega) with rfl | rfl | rfl | rfl | rfl | rfl | rfl | rfl | rfl | rfl | rfl <;> rfl
theorem gd_3 : ∀ j, j < 4 → defaultValue (tyX3 j) = vp_V [.null, .null, .null, .int 0] j := by
  intro j hj
  rcases (show j = 0 ∨ j = 1 ∨ j = 2 ∨ j = 3 by omega) with rfl | rfl | rfl | rfl <;> rfl
theorem gd_4 : ∀ j, j < 4 → defaultValue (tyX4 j) = vp_V [.long 0, .long 0, .long 0, .long 0] j := by
  intro j hj
  rcases (show j = 0 ∨ j = 1 ∨ j = 2 ∨ j = 3 by omega) with rfl | rfl | rfl | rfl <;> rfl
theorem gd_5 : ∀ j, j < 2 → defaultValue (tyX5 j) = vp_V [.int 0, .null] j := by
  intro j hj
  rcases (show j = 0 ∨ j = 1 by omega) with rfl | rfl <;> rfl
theorem gd_6 : ∀ j, j < 3 → defaultValue (tyX6 j) = vp_V [.null, .int 0, .int 0] j := by
  intro j hj
  rcases (show j = 0 ∨ j = 1 ∨ j = 2 by omega) with rfl | rfl | rfl <;> rfl
theorem z_cnt (K : Nat) (hK : K < 100) {k : Nat} {x y : Int32} (hx : x = nI k) (hy : y = nI K) (hle : k ≤ K) (h : ¬ y ≤ x) : k < K := by
  rcases Nat.lt_or_ge k K with q | q
  · exact q
  · exact absurd (by rw [hx, hy, show k = K by omega]; exact Int32.le_refl _) h
