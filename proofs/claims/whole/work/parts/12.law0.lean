def R_law : String := "LevelFitsLaw"
def lw_P (b : Addr) (xs : List Int32) (args : Array Value) (s : State) : Prop := args = #[.ref b] ∧ s.IntsAt b xs ∧ xs.length ≤ 3072 ∧ (Jvm.Cond.and given_1 narrow_1).before args s = true
def lw_Q (_ : Array Value) (s : State) (o : Outcome) (t : State) : Prop := o = .returned (some (.int 1)) ∧ Framed s o t [] 600000 7302250
def lw_Z (below : List Frame) (a : Array Value) (s : State) : State → Prop := fun t => ∃ o, t.status = .running ∧ Ended t below o ∧ lw_Q a s o t
/-- the law's own end, with 1 on the stack, nothing written that was there before, its room as the claim has it -/
theorem lw_ret {p : Program} {l : Launch} {e : Env} {s : State} {m : MethodId} {below : List Frame} {meth : Method} {c : Code} {b : Nat} (hx : p.tables.exec = Jvm.exec) (hb : c.code = code) (hr : meth.sig.returnType = ret) (hlocks : meth.locks = false) {pc : Nat} {H : Heap} {ls : Array Slot} (hdg : decode code pc = .ok (.ireturn, 1)) : W p l e room_1 s m #[Value.ref b] below meth c H [] 600000 7302250 (lw_Z below #[Value.ref b] s) (F0 m pc ls [.int 1]) := by
  intro T hT X
  obtain ⟨fs, hret, hrun, hended, hW, hframe⟩ := X.leave (v := some (.int 1)) (hlocks := hlocks) (fun h => by rw [hr] at h; cases h)
  have hmeth' : T.vm.method? m = some meth := X.method'
  refine ⟨T.setFrames fs, ?_, .returned (some (.int 1)), hrun, hended, rfl, ⟨_, rfl⟩, hW, hframe⟩
  jvm_step X.here [X.here.top, hx, hb, hdg, hmeth', hr, ret, narrow_b1]
  (try refine ⟨rfl, ?_⟩); (try refine ⟨rfl, ?_⟩)
  first | (intro acts; rw [hret _ acts rfl rfl rfl]) | rw [hret _ _ rfl rfl rfl]
  exact Steps.refl _
/-- what holds at the law's entry: the machine, the code, the tables' words (any of lw_tbl by 'hts w (by decide +kernel)'), the script of L ints xs at the cell b, what the Statement gives of the start (any of its parts by flat_of_before) -/
def lw_At (p : Program) (s : State) (m : MethodId) (meth : Method) (c : Code) (b L : Nat) (xs : Nat → Int32) : Prop :=
  p.tables.exec = Jvm.exec ∧ c.code = code ∧ meth.sig.returnType = ret ∧ c.maxLocals = 4 ∧ s.vm.findClass R_law = some m.cls ∧ (∀ w ∈ lw_tbl, w.before #[Value.ref b] s = true) ∧ va_X b L xs s s.heap ∧ b < s.heap.size ∧ meth.locks = false ∧ (Jvm.Cond.and given_1 narrow_1).before #[Value.ref b] s = true
/-! the law: the class's heap and the reference's world side by side -/
abbrev l_A0 (s : State) : Nat → Prop := fun q => s.heap.size ≤ q
abbrev l_A (s : State) (o2 : Nat) : Nat → Prop := fun q => s.heap.size ≤ q ∧ ¬ m_A o2 q
def l_X (p : Program) (s : State) (m : MethodId) (meth : Method) (c : Code) (b L : Nat) (xs : Nat → Int32) (D : va_G) (cs : Nat → ClassId) : Prop :=
  s_X p s m #[Value.ref b] c code 4 RL ∧ va_K D z_cls (g_T cs) s ∧ g_N s ∧ g_St (l_A0 s) s s.heap ∧ va_X b L xs s s.heap ∧ b < s.heap.size ∧ meth.sig.returnType = ret ∧ meth.locks = false
def l_W (D : va_G) (cs : Nat → ClassId) (s : State) (o2 : Nat) (S : GS) (M : MS) (H : Heap) (locs : List Loc) : Prop := g_P D cs (l_A s o2) S H ∧ va_P D z_cls (m_W (cs 0) (cs 1) o2 M) H ∧ va_S (l_A0 s) s.heap H locs ∧ s.heap.size ≤ o2
section ZL
variable {p : Program} {l : Launch} {e : Env} {s : State} {m : MethodId} {below : List Frame} {meth : Method} {c : Code} {H : Heap} {locs : List Loc} {cells slots : Nat} {Q : State → Prop} {pc : Nat} {ls : Array Slot} {rest : List Value} {D : va_G} {cs : Nat → ClassId} {S : GS} {M : MS} {b L : Nat} {xs : Nat → Int32} {o1 o2 : Nat}
theorem l_top (hw : l_W D cs s o2 S M H locs) : o2 + 27 ≤ H.size := by
  have h := (hw.2.1 26 _ rfl).lt
  have h2 : o2 + 26 < H.size := h
  omega
theorem l_gC (hc : l_X p s m meth c b L xs D cs) (hw : l_W D cs s o2 S M H locs) {U : State} (hU : U.heap = H) (hW : s.WarmedH U.vm) : g_C D cs (l_A s o2) S U := by
  have ht := l_top hw
  obtain ⟨hP, -, hS, ho⟩ := hw
  have hst : g_St (l_A s o2) s s.heap := by
    obtain ⟨⟨t, h1, h2⟩, ⟨t2, h3, h4⟩⟩ := hc.2.2.2.1
    exact ⟨⟨t, h1.narrow (fun _ h => h.1), h2.narrow (fun _ h => h.1)⟩, ⟨t2, h3.narrow (fun _ h => h.1), h4.narrow (fun _ h => h.1)⟩⟩
  refine ⟨by rw [hU]; exact hP, va_K.moved hW.alike hc.2.1, hc.2.2.1.warm hW, by rw [hU]; exact g_St.go hW.alike (fun a h1 _ => hS.2.1 a h1 (by show ¬ _ ≤ _; omega)) hst, fun q hq => ?_⟩
  rw [hU] at hq
  have h1 := hS.1
  exact ⟨by omega, fun h => by unfold m_A at h; omega⟩
theorem l_callC {y : MethodName} {bytes : ByteArray} {maxL mc ms n idx : Nat} {ret' : Option FieldType} {rm : Room} {rv : Option Value} {S' : GS} {As st : List Value} (hc : l_X p s m meth c b L xs D cs) (hw : l_W D cs s o2 S M H locs) (hob : g_is S 7 o1)
    (hM : Met l y (z_wd y bytes maxL ret') rm (va_Pc (.ref o1 :: As) (g_C D cs (l_A s o2) S)) (g_Q rv S' D cs (l_A s o2)) mc ms (l_A s o2)) (h1 : Cond.methodLink RL idx y ∈ z_big) (h2 : Cond.instanceMethod y ∈ z_big) (h3 : Cond.selects RX7 y y ∈ z_big) (h4 : Cond.initialized y.cls ∈ z_big) (h5 : Cond.code y bytes maxL ret' ∈ z_big)
    (hd : y.cls ≠ "java/lang/invoke/MethodHandle" ∧ y.cls ≠ "java/lang/invoke/VarHandle" ∧ (parseMethodDescriptor y.desc).map (fun d => d.parameters.length) = some n) (hrm : rm.cells = mc ∧ rm.slots = ms ∧ rm.frames + 1 ≤ room_1.frames ∧ 24 + (maxL + 11) + rm.locals ≤ room_1.locals) (hn : As.length = n) (hl : ls.size = 4) (hst : st = As.reverse ++ .ref o1 :: rest) (hW : (rest.map fun v => v.category).sum ≤ 24) (hdg : decode code pc = .ok (.invokevirtual idx, 3)) (hcs : cells + mc ≤ room_1.cells ∧ slots + ms ≤ room_1.slots)
    (kk : ∀ (H1 : Heap) (locs1 : List Loc), l_W D cs s o2 S' M H1 locs1 → W p l e room_1 s m #[Value.ref b] below meth c H1 locs1 (cells + mc) (slots + ms) Q (F0 m (pc + 3) ls (rv.toList ++ rest))) : W p l e room_1 s m #[Value.ref b] below meth c H locs cells slots Q (F0 m pc ls st) := by
  obtain ⟨vs, hob⟩ := Option.isSome_iff_exists.mp hob
  have hr := z_runV (H := H) (locs := locs) (cells := cells) (slots := slots) (e := e) (below := below) (meth := meth) (R := room_1) (C := RX7) hc.1 hM h1 h2 h3 h4 h5 hd hrm ⟨g_C.blind, va_recv hc.2.1 (hw.1.one (g_o_sp hob)) (ci := 7) (q0 := 0) rfl rfl, fun U hU hW => ⟨rfl, l_gC hc hw hU hW⟩⟩ hn hl hst hW hdg hcs
  have ht := l_top hw
  obtain ⟨hP, hMo, hS, ho⟩ := hw
  intro T hT X
  obtain ⟨v, st₀, t, T', L', h0, X', hL, e1, e2, ⟨hv, hC, hz, hk⟩, gs⟩ := hr T hT X
  cases hv
  rw [h0] at hz hk
  obtain ⟨t2, a1, b1⟩ := kk T'.heap (locs ++ L') ⟨by rw [e1]; exact hC.1, hMo.kept (fun k q hq => by
      rw [e1]
      exact hk q.1 (hMo k q hq).lt (fun h => h.2 ((m_D (cs 0) (cs 1) o2 M).2 k q hq))), ⟨Nat.le_trans hS.1 (by rw [e1]; exact hz), fun q h1 h2 => by rw [e1, hk q (Nat.lt_of_lt_of_le h1 hS.1) (fun z => h2 z.1)]; exact hS.2.1 q h1 h2, fun q hq => by
      rcases List.mem_append.mp hq with h | h
      · exact hS.2.2 q h
      · exact (hL q h).1⟩, ho⟩ T' rfl X'
  exact ⟨t2, gs t2 a1, b1⟩
theorem l_mid {P : Nat → Prop} {H1 : Heap} {locs1 : List Loc} {M' : MS} (hw : l_W D cs s o2 S M H locs) (hz : H1.size = H.size) (hk : ∀ q : Nat, q < H.size → ¬ m_A o2 q → H1[q]? = H[q]?) (hM : va_P D z_cls (m_W (cs 0) (cs 1) o2 M') H1) (hL : ∀ q ∈ locs1, q ∈ locs ∨ m_A o2 q.base) : l_W D cs s o2 S M' H1 locs1 := by
  obtain ⟨hP, hMo, hS, ho⟩ := hw
  refine ⟨⟨hz.trans hP.1, fun a x ha => ⟨(hP.2 a x ha).1.kept (hk a (hP.2 a x ha).1.lt (hP.2 a x ha).2.2), (hP.2 a x ha).2⟩⟩, hM, ⟨by rw [hz]; exact hS.1, fun q h1 h2 => ?_, fun q hq => ?_⟩, ho⟩
  · rw [hk q (Nat.lt_of_lt_of_le h1 hS.1) (fun h => by unfold m_A at h; omega)]
    exact hS.2.1 q h1 h2
  · rcases hL q hq with h | h
    · exact hS.2.2 q h
    · unfold m_A at h
      exact Nat.le_trans ho h.1
theorem l_runM {y : MethodName} {bytes : ByteArray} {maxL n idx : Nat} {ret' : Option FieldType} {rm : Room} {Qc : Array Value → State → Outcome → State → Prop} {As st : List Value} (hc : l_X p s m meth c b L xs D cs) (hw : l_W D cs s o2 S M H locs)
    (hM : Met l y (z_wd y bytes maxL ret') rm (va_Pc (.ref o2 :: As) (m_C D (cs 0) (cs 1) o2 H.size M)) Qc 0 0 (m_A o2)) (h1 : Cond.methodLink RL idx y ∈ z_big) (h2 : Cond.instanceMethod y ∈ z_big) (h3 : Cond.selects RX8 y y ∈ z_big) (h4 : Cond.initialized y.cls ∈ z_big) (h5 : Cond.code y bytes maxL ret' ∈ z_big)
    (hd : y.cls ≠ "java/lang/invoke/MethodHandle" ∧ y.cls ≠ "java/lang/invoke/VarHandle" ∧ (parseMethodDescriptor y.desc).map (fun d => d.parameters.length) = some n) (hrm : rm.cells = 0 ∧ rm.slots = 0 ∧ rm.frames + 1 ≤ room_1.frames ∧ 24 + (maxL + 11) + rm.locals ≤ room_1.locals) (hn : As.length = n) (hl : ls.size = 4) (hst : st = As.reverse ++ .ref o2 :: rest) (hW : (rest.map fun v => v.category).sum ≤ 24) (hdg : decode code pc = .ok (.invokevirtual idx, 3)) (hcs : cells ≤ room_1.cells ∧ slots ≤ room_1.slots) :
    va_Run p l e room_1 s m #[Value.ref b] below meth c H locs cells slots 0 0 (F0 m pc ls st) rest (Qc (Value.ref o2 :: As).toArray) (m_A o2) :=
  z_runV (C := RX8) hc.1 hM h1 h2 h3 h4 h5 hd hrm ⟨m_C.blind, va_recv hc.2.1 hw.2.1 (ci := 8) (q0 := 0) rfl rfl, fun U hU hW => ⟨rfl, by rw [hU], by rw [hU]; exact hw.2.1, va_K.moved hW.alike (hc.2.1.sub [0, 1] rfl)⟩⟩ hn hl hst hW hdg hcs
theorem l_callMi {y : MethodName} {bytes : ByteArray} {maxL n idx : Nat} {ret' : Option FieldType} {rm : Room} {As st : List Value} {r : Int32} {M' : MS} (hc : l_X p s m meth c b L xs D cs) (hw : l_W D cs s o2 S M H locs)
    (hM : Met l y (z_wd y bytes maxL ret') rm (va_Pc (.ref o2 :: As) (m_C D (cs 0) (cs 1) o2 H.size M)) (va_Qi (fun (r1 : Int32) (M1 : MS) => r1 = r ∧ M1 = M') (m_C D (cs 0) (cs 1) o2 H.size) (m_A o2)) 0 0 (m_A o2)) (h1 : Cond.methodLink RL idx y ∈ z_big) (h2 : Cond.instanceMethod y ∈ z_big) (h3 : Cond.selects RX8 y y ∈ z_big) (h4 : Cond.initialized y.cls ∈ z_big) (h5 : Cond.code y bytes maxL ret' ∈ z_big)
    (hd : y.cls ≠ "java/lang/invoke/MethodHandle" ∧ y.cls ≠ "java/lang/invoke/VarHandle" ∧ (parseMethodDescriptor y.desc).map (fun d => d.parameters.length) = some n) (hrm : rm.cells = 0 ∧ rm.slots = 0 ∧ rm.frames + 1 ≤ room_1.frames ∧ 24 + (maxL + 11) + rm.locals ≤ room_1.locals) (hn : As.length = n) (hl : ls.size = 4) (hst : st = As.reverse ++ .ref o2 :: rest) (hW : (rest.map fun v => v.category).sum ≤ 24) (hdg : decode code pc = .ok (.invokevirtual idx, 3)) (hcs : cells ≤ room_1.cells ∧ slots ≤ room_1.slots)
    (kk : ∀ (H1 : Heap) (locs1 : List Loc), l_W D cs s o2 S M' H1 locs1 → W p l e room_1 s m #[Value.ref b] below meth c H1 locs1 cells slots Q (F0 m (pc + 3) ls (.int r :: rest))) : W p l e room_1 s m #[Value.ref b] below meth c H locs cells slots Q (F0 m pc ls st) := by
  have hr := l_runM (locs := locs) (cells := cells) (slots := slots) (e := e) (below := below) hc hw hM h1 h2 h3 h4 h5 hd hrm hn hl hst hW hdg hcs
  intro T hT X
  obtain ⟨v, st₀, t, T', L', h0, X', hL, e1, e2, ⟨⟨r1, M1, hv, ⟨rfl, rfl⟩, hsz, hPm, -⟩, hz, hk⟩, gs⟩ := hr T hT X
  cases hv
  rw [h0] at hz hk
  obtain ⟨t2, a1, b1⟩ := kk T'.heap (locs ++ L') (l_mid (P := fun _ => True) hw (by rw [e1]; exact hsz) (fun q h1 h2 => by rw [e1]; exact hk q h1 h2) (by rw [e1]; exact hPm) (fun q hq => by
      rcases List.mem_append.mp hq with h | h
      · exact Or.inl h
      · exact Or.inr (hL q h))) T' rfl X'
  exact ⟨t2, gs t2 a1, b1⟩
theorem l_callMl {y : MethodName} {bytes : ByteArray} {maxL n idx : Nat} {ret' : Option FieldType} {rm : Room} {As st : List Value} {r : Int64} {M' : MS} (hc : l_X p s m meth c b L xs D cs) (hw : l_W D cs s o2 S M H locs)
    (hM : Met l y (z_wd y bytes maxL ret') rm (va_Pc (.ref o2 :: As) (m_C D (cs 0) (cs 1) o2 H.size M)) (va_Ql (fun (r1 : Int64) (M1 : MS) => r1 = r ∧ M1 = M') (m_C D (cs 0) (cs 1) o2 H.size) (m_A o2)) 0 0 (m_A o2)) (h1 : Cond.methodLink RL idx y ∈ z_big) (h2 : Cond.instanceMethod y ∈ z_big) (h3 : Cond.selects RX8 y y ∈ z_big) (h4 : Cond.initialized y.cls ∈ z_big) (h5 : Cond.code y bytes maxL ret' ∈ z_big)
    (hd : y.cls ≠ "java/lang/invoke/MethodHandle" ∧ y.cls ≠ "java/lang/invoke/VarHandle" ∧ (parseMethodDescriptor y.desc).map (fun d => d.parameters.length) = some n) (hrm : rm.cells = 0 ∧ rm.slots = 0 ∧ rm.frames + 1 ≤ room_1.frames ∧ 24 + (maxL + 11) + rm.locals ≤ room_1.locals) (hn : As.length = n) (hl : ls.size = 4) (hst : st = As.reverse ++ .ref o2 :: rest) (hW : (rest.map fun v => v.category).sum ≤ 24) (hdg : decode code pc = .ok (.invokevirtual idx, 3)) (hcs : cells ≤ room_1.cells ∧ slots ≤ room_1.slots)
    (kk : ∀ (H1 : Heap) (locs1 : List Loc), l_W D cs s o2 S M' H1 locs1 → W p l e room_1 s m #[Value.ref b] below meth c H1 locs1 cells slots Q (F0 m (pc + 3) ls (.long r :: rest))) : W p l e room_1 s m #[Value.ref b] below meth c H locs cells slots Q (F0 m pc ls st) := by
  have hr := l_runM (locs := locs) (cells := cells) (slots := slots) (e := e) (below := below) hc hw hM h1 h2 h3 h4 h5 hd hrm hn hl hst hW hdg hcs
  intro T hT X
  obtain ⟨v, st₀, t, T', L', h0, X', hL, e1, e2, ⟨⟨r1, M1, hv, ⟨rfl, rfl⟩, hsz, hPm, -⟩, hz, hk⟩, gs⟩ := hr T hT X
  cases hv
  rw [h0] at hz hk
  obtain ⟨t2, a1, b1⟩ := kk T'.heap (locs ++ L') (l_mid (P := fun _ => True) hw (by rw [e1]; exact hsz) (fun q h1 h2 => by rw [e1]; exact hk q h1 h2) (by rw [e1]; exact hPm) (fun q hq => by
      rcases List.mem_append.mp hq with h | h
      · exact Or.inl h
      · exact Or.inr (hL q h))) T' rfl X'
  exact ⟨t2, gs t2 a1, b1⟩
theorem l_sld {i : Int32} (hc : l_X p s m meth c b L xs D cs) (hS : va_S (l_A0 s) s.heap H locs) (hin : vp_in i L) (hdg : decode code pc = .ok (.iaload, 1)) (kk : W p l e room_1 s m #[Value.ref b] below meth c H locs cells slots Q (F0 m (pc + 1) ls (.int (xs i.toNatClampNeg) :: rest))) : W p l e room_1 s m #[Value.ref b] below meth c H locs cells slots Q (F0 m pc ls (.int i :: .ref b :: rest)) :=
  va_sld hc.1.1 hc.1.2.1 hc.2.2.2.2.1 hc.2.2.2.2.2.1 (Nat.not_le.mpr hc.2.2.2.2.2.1) hS hin hdg kk
end ZL
