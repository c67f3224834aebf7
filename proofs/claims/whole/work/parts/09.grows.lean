/-! the class's heap, as a map: int rows, long rows, rows of references (by their kind), objects (by their class) -/
abbrev PE : Type := (Nat × (Nat → Int32)) ⊕ (Nat × (Nat → Int64)) ⊕ (Nat × Nat × (Nat → Option Nat)) ⊕ (Nat × List Value)
abbrev GS : Type := (Nat → Option PE) × Nat
def g_E (cs : Nat → ClassId) (x : PE) : va_E := match x with
  | .inl q => .inl (cs 0, q.1, .inl q.2)
  | .inr (.inl q) => .inl (cs 1, q.1, .inr (.inl q.2))
  | .inr (.inr (.inl q)) => .inl (cs (2 + q.1), q.2.1, .inr (.inr (.inr (.inr q.2.2))))
  | .inr (.inr (.inr q)) => .inr q
abbrev g_T (cs : Nat → ClassId) : List (ClassId × FieldType) := [(cs 0, .int), (cs 1, .long), (cs 2, .object "LevelFits$Points"), (cs 3, .object "LevelFits$Fit"), (cs 4, .object "LevelFits$Sheet"), (cs 5, .object "LevelFits$Polynomial")]
def g_up (S : GS) (a : Nat) (x : PE) : GS := (fun b => if b = a then some x else S.1 b, S.2)
def g_nw (S : GS) (x : PE) : GS := (fun b => if b = S.2 then some x else S.1 b, S.2 + 1)
def g_o (S : GS) (ci a : Nat) : Option (List Value) := match S.1 a with
  | some (.inr (.inr (.inr q))) => if q.1 = ci then some q.2 else none
  | _ => none
def g_fv (S : GS) (ci k a : Nat) : Option Value := z_bd (g_o S ci a) fun fs => fs[k]?
def g_i (S : GS) (ci k a : Nat) : Option Int32 := match g_fv S ci k a with
  | some (.int v) => some v
  | _ => none
def g_l (S : GS) (ci k a : Nat) : Option Int64 := match g_fv S ci k a with
  | some (.long v) => some v
  | _ => none
def g_r (S : GS) (ci k a : Nat) : Option Nat := match g_fv S ci k a with
  | some (.ref v) => some v
  | _ => none
def g_put (S : GS) (ci k a : Nat) (v : Value) : Option GS := z_bd (g_o S ci a) fun fs => if k < fs.length then some (g_up S a (.inr (.inr (.inr (ci, fs.set k v))))) else none
def g_ai (S : GS) (a : Nat) : Option (Nat × (Nat → Int32)) := match S.1 a with
  | some (.inl q) => some q
  | _ => none
def g_aj (S : GS) (a : Nat) : Option (Nat × (Nat → Int64)) := match S.1 a with
  | some (.inr (.inl q)) => some q
  | _ => none
def g_aq (S : GS) (t a : Nat) : Option (Nat × (Nat → Option Nat)) := match S.1 a with
  | some (.inr (.inr (.inl q))) => if q.1 = t then some q.2 else none
  | _ => none
def g_rI (S : GS) (a : Nat) (i : Int32) : Option Int32 := z_bd2 (g_ai S a) fun n f => if z_in i n then some (f i.toNatClampNeg) else none
def g_rJ (S : GS) (a : Nat) (i : Int32) : Option Int64 := z_bd2 (g_aj S a) fun n f => if z_in i n then some (f i.toNatClampNeg) else none
def g_rQ (S : GS) (t a : Nat) (i : Int32) : Option (Option Nat) := z_bd2 (g_aq S t a) fun n f => if z_in i n then some (f i.toNatClampNeg) else none
def g_wI (S : GS) (a : Nat) (i x : Int32) : Option GS := z_bd2 (g_ai S a) fun n f => if z_in i n then some (g_up S a (.inl (n, upd f i.toNatClampNeg x))) else none
def g_wJ (S : GS) (a : Nat) (i : Int32) (x : Int64) : Option GS := z_bd2 (g_aj S a) fun n f => if z_in i n then some (g_up S a (.inr (.inl (n, vp_updL f i.toNatClampNeg x)))) else none
def g_wQ (S : GS) (t a : Nat) (i : Int32) (x : Option Nat) : Option GS := z_bd2 (g_aq S t a) fun n f => if z_in i n then some (g_up S a (.inr (.inr (.inl (t, n, va_up f i.toNatClampNeg x))))) else none
def g_lI (S : GS) (a : Nat) : Option Int32 := z_bd2 (g_ai S a) fun n _ => some (Int32.ofNat n)
def g_lQ (S : GS) (t a : Nat) : Option Int32 := z_bd2 (g_aq S t a) fun n _ => some (Int32.ofNat n)
/-- a row's copy, of at most B numbers -/
def g_cl (S : GS) (a B : Nat) : Option GS := z_bd2 (g_ai S a) fun n f => if n ≤ B then some (g_nw S (.inl (n, f))) else none
def z_mt {β : Type} (r : Option Nat) (x : β) (k : Nat → β) : β := match r with
  | none => x
  | some a => k a
theorem g_o_sp {S : GS} {ci a : Nat} {fs : List Value} (h : g_o S ci a = some fs) : S.1 a = some (.inr (.inr (.inr (ci, fs)))) := by
  unfold g_o at h
  split at h
  · next q hq =>
    by_cases hc : q.1 = ci
    · rw [if_pos hc] at h
      cases h
      subst hc
      exact hq
    · rw [if_neg hc] at h; cases h
  · cases h
theorem g_fv_sp {S : GS} {ci k a : Nat} {v : Value} (h : g_fv S ci k a = some v) : ∃ fs, S.1 a = some (.inr (.inr (.inr (ci, fs)))) ∧ fs[k]? = some v := by
  obtain ⟨fs, h1, h2⟩ := z_bd_some h
  exact ⟨fs, g_o_sp h1, h2⟩
theorem g_i_v {S : GS} {ci k a : Nat} {v : Int32} (h : g_i S ci k a = some v) : g_fv S ci k a = some (.int v) := by
  unfold g_i at h
  split at h
  · next q hq => cases h; exact hq
  · cases h
theorem g_l_v {S : GS} {ci k a : Nat} {v : Int64} (h : g_l S ci k a = some v) : g_fv S ci k a = some (.long v) := by
  unfold g_l at h
  split at h
  · next q hq => cases h; exact hq
  · cases h
theorem g_r_v {S : GS} {ci k a : Nat} {v : Nat} (h : g_r S ci k a = some v) : g_fv S ci k a = some (.ref v) := by
  unfold g_r at h
  split at h
  · next q hq => cases h; exact hq
  · cases h
theorem g_put_sp {S S' : GS} {ci k a : Nat} {v : Value} (h : g_put S ci k a v = some S') : ∃ fs, S.1 a = some (.inr (.inr (.inr (ci, fs)))) ∧ k < fs.length ∧ S' = g_up S a (.inr (.inr (.inr (ci, fs.set k v)))) := by
  obtain ⟨fs, h1, h2⟩ := z_bd_some h
  by_cases hk : k < fs.length
  · rw [if_pos hk] at h2; cases h2; exact ⟨fs, g_o_sp h1, hk, rfl⟩
  · rw [if_neg hk] at h2; cases h2
theorem g_ai_sp {S : GS} {a n : Nat} {f : Nat → Int32} (h : g_ai S a = some (n, f)) : S.1 a = some (.inl (n, f)) := by
  unfold g_ai at h
  split at h
  · next q hq => cases h; exact hq
  · cases h
theorem g_aj_sp {S : GS} {a n : Nat} {f : Nat → Int64} (h : g_aj S a = some (n, f)) : S.1 a = some (.inr (.inl (n, f))) := by
  unfold g_aj at h
  split at h
  · next q hq => cases h; exact hq
  · cases h
theorem g_aq_sp {S : GS} {t a n : Nat} {f : Nat → Option Nat} (h : g_aq S t a = some (n, f)) : S.1 a = some (.inr (.inr (.inl (t, n, f)))) := by
  unfold g_aq at h
  split at h
  · next q hq =>
    by_cases hc : q.1 = t
    · rw [if_pos hc] at h
      obtain ⟨q1, q2⟩ := q
      cases h
      cases hc
      exact hq
    · rw [if_neg hc] at h; cases h
  · cases h
theorem z_if_some {β : Type} {p : Prop} [Decidable p] {x : β} {r : β} (h : (if p then some x else none) = some r) : p ∧ x = r := by
  by_cases hp : p
  · rw [if_pos hp] at h; exact ⟨hp, Option.some.inj h⟩
  · rw [if_neg hp] at h; cases h
def g_P (D : va_G) (cs : Nat → ClassId) (A : Nat → Prop) (S : GS) (H : Heap) : Prop := H.size = S.2 ∧ ∀ (a : Nat) (x : PE), S.1 a = some x → va_at D z_cls (a, g_E cs x) H ∧ A a
theorem g_P.put {D : va_G} {cs : Nat → ClassId} {A : Nat → Prop} {S : GS} {H H1 : Heap} {a : Nat} {x : PE} (h : g_P D cs A S H) (ha : A a) (hx : va_at D z_cls (a, g_E cs x) H1) (z : H1.size = H.size) (oq : ∀ q : Nat, q ≠ a → H1[q]? = H[q]?) : g_P D cs A (g_up S a x) H1 := by
  refine ⟨z.trans h.1, fun b y hb => ?_⟩
  by_cases e : b = a
  · subst e
    have hb : some x = some y := by
      have h2 : (if b = b then some x else S.1 b) = some y := hb
      rwa [if_pos rfl] at h2
    cases hb
    exact ⟨hx, ha⟩
  · have hb : S.1 b = some y := by
      have h2 : (if b = a then some x else S.1 b) = some y := hb
      rwa [if_neg e] at h2
    exact ⟨(h.2 b y hb).1.kept (oq b e), (h.2 b y hb).2⟩
theorem g_P.new {D : va_G} {cs : Nat → ClassId} {A : Nat → Prop} {S : GS} {H H1 : Heap} {x : PE} (h : g_P D cs A S H) (ha : A H.size) (hx : va_at D z_cls (H.size, g_E cs x) H1) (z : H1.size = H.size + 1) (oq : ∀ q : Nat, q < H.size → H1[q]? = H[q]?) : g_P D cs A (g_nw S x) H1 := by
  refine ⟨by rw [z, h.1]; rfl, fun b y hb => ?_⟩
  by_cases e : b = S.2
  · have hb : some x = some y := by
      have h2 : (if b = S.2 then some x else S.1 b) = some y := hb
      rwa [if_pos e] at h2
    cases hb
    rw [← h.1] at e
    subst e
    exact ⟨hx, ha⟩
  · have hb : S.1 b = some y := by
      have h2 : (if b = S.2 then some x else S.1 b) = some y := hb
      rwa [if_neg e] at h2
    have hl := (h.2 b y hb).1.lt
    exact ⟨(h.2 b y hb).1.kept (oq b hl), (h.2 b y hb).2⟩
theorem g_P.one {D : va_G} {cs : Nat → ClassId} {A : Nat → Prop} {S : GS} {H : Heap} {a : Nat} {x : PE} (h : g_P D cs A S H) (hx : S.1 a = some x) : va_P D z_cls [(a, g_E cs x)] H := by
  intro k q hk
  have hz : k < 1 := (List.getElem?_eq_some_iff.mp hk).1
  rw [show k = 0 by omega] at hk
  cases hk
  exact (h.2 a x hx).1
def g_N (U : State) : Prop := (∀ q ∈ z_nF, va_Nw (.fieldLinkNest q.1 q.2.1 q.2.2.1 q.2.2.2.1 q.2.2.2.2.1 q.2.2.2.2.2) U) ∧ (∀ q ∈ z_nM, va_Nw (.methodLinkNest q.1 q.2.1 q.2.2.1 q.2.2.2) U) ∧ (∀ q ∈ z_nA, va_AO q U) ∧ va_Nw (.castable "[I" "java/lang/Cloneable") U
def z_ka : Nat → Int32 := fun j => ([-1, 0, 1, 0, 1] : List Int32).getD j 0
def z_bo : Nat → Int32 := fun j => ([10, 11, 12, 13, 20, 0, 21, 0, 0, 30, 0, 31, 0, 0, 40, 0, 50, 51, 0, 0] : List Int32).getD j 0
def g_St (A : Nat → Prop) (U : State) (H : Heap) : Prop := (∃ t : Nat, va_Z "LevelFits" "KIND_ABOVE" "[I" (.ref t) A U H ∧ va_T .int t 5 (fun j => .int (z_ka j)) A U H) ∧ (∃ t : Nat, va_Z "LevelFits" "BODIES" "[I" (.ref t) A U H ∧ va_T .int t 20 (fun j => .int (z_bo j)) A U H)
def g_C (D : va_G) (cs : Nat → ClassId) (A : Nat → Prop) (S : GS) (U : State) : Prop := g_P D cs A S U.heap ∧ va_K D z_cls (g_T cs) U ∧ g_N U ∧ g_St A U U.heap ∧ ∀ q : Nat, U.heap.size ≤ q → A q
theorem g_N.warm {s U : State} (hW : s.WarmedH U.vm) (h : g_N s) : g_N U := ⟨fun q hq => va_Nw.warmF hW (h.1 q hq), fun q hq => va_Nw.warmM hW (h.2.1 q hq), fun q hq => va_AO.moved hW.alike (h.2.2.1 q hq), va_Nw.warmC hW h.2.2.2⟩
theorem g_St.go {A : Nat → Prop} {s U : State} {H H1 : Heap} (hvm : s.vm.Alike U.vm) (hq : ∀ a : Nat, a < H.size → ¬ A a → H1[a]? = H[a]?) (h : g_St A s H) : g_St A U H1 := by
  obtain ⟨⟨t, h1, h2⟩, ⟨t2, h3, h4⟩⟩ := h
  exact ⟨⟨t, (h1.moved hvm).kept hq, (h2.moved hvm).kept hq⟩, ⟨t2, (h3.moved hvm).kept hq, (h4.moved hvm).kept hq⟩⟩
theorem g_C.blind {D : va_G} {cs : Nat → ClassId} {A : Nat → Prop} {S : GS} {av : List Value} : FrameBlind (va_Pc av (g_C D cs A S)) := by
  intro a U g mk q
  obtain ⟨q0, qP, qK, qN, qS, qA⟩ := q
  refine ⟨q0, qP, va_K.moved (u := U) (U := U.calling g mk a) (Vm.Alike.refl U.vm) qK, ⟨fun q hq => va_Nw.same (u := U) (U := U.calling g mk a) rfl rfl (qN.1 q hq), fun q hq => va_Nw.same (u := U) (U := U.calling g mk a) rfl rfl (qN.2.1 q hq), fun q hq => va_AO.moved (u := U) (U := U.calling g mk a) (Vm.Alike.refl U.vm) (qN.2.2.1 q hq), va_Nw.same (u := U) (U := U.calling g mk a) rfl rfl qN.2.2.2⟩, g_St.go (s := U) (U := U.calling g mk a) (Vm.Alike.refl U.vm) (fun _ _ _ => rfl) qS, qA⟩
def g_X (p : Program) (s : State) (m : MethodId) (args : Array Value) (c : Code) (cc : ByteArray) (nL : Nat) (own : String) (D : va_G) (cs : Nat → ClassId) (A : Nat → Prop) : Prop :=
  s_X p s m args c cc nL own ∧ va_K D z_cls (g_T cs) s ∧ g_N s ∧ g_St A s s.heap ∧ ∀ q : Nat, s.heap.size ≤ q → A q
def g_Q (rv : Option Value) (S : GS) (D : va_G) (cs : Nat → ClassId) (A : Nat → Prop) : Array Value → State → Outcome → State → Prop := fun _ st o t => o = .returned rv ∧ g_C D cs A S t ∧ va_F A st t
section ZG
variable {p : Program} {l : Launch} {e : Env} {R : Room} {s : State} {m : MethodId} {args : Array Value} {below : List Frame} {meth : Method} {c : Code} {H : Heap} {locs : List Loc} {cells slots : Nat} {Q : State → Prop} {cc : ByteArray} {nL pc : Nat} {ls : Array Slot} {rest : List Value} {D : va_G} {cs : Nat → ClassId} {A : Nat → Prop} {S : GS} {own : String} {a : Nat}
theorem g_X.at (hc : g_X p s m args c cc nL own D cs A) (hP : g_P D cs A S H) (hS : va_S A s.heap H locs) {U : State} (hU : U.heap = H) (hW : s.WarmedH U.vm) : g_C D cs A S U :=
  ⟨by rw [hU]; exact hP, va_K.moved hW.alike hc.2.1, hc.2.2.1.warm hW, by rw [hU]; exact g_St.go hW.alike hS.2.1 hc.2.2.2.1, fun q hq => hc.2.2.2.2 q (Nat.le_trans hS.1 (by rw [← hU]; exact hq))⟩
theorem g_get {ci k idx : Nat} {v : Value} {C : String} {T : u_T} {N : Nat} (hc : g_X p s m args c cc nL own D cs A) (hP : g_P D cs A S H) (hcl : z_cls[ci]? = some (C, T, N)) (hin : ∀ w ∈ u_ws C T N, w ∈ z_big) (hk : k < N) (hw : Cond.fieldLink own idx (T k).1 (T k).2.1 (T k).2.2.1 ∈ z_big) (hv : g_fv S ci k a = some v) (hdg : decode cc pc = .ok (.getfield idx, 3)) (kk : W p l e R s m args below meth c H locs cells slots Q (F0 m (pc + 3) ls (v :: rest))) : W p l e R s m args below meth c H locs cells slots Q (F0 m pc ls (.ref a :: rest)) := by
  obtain ⟨fs, h1, h2⟩ := g_fv_sp hv
  exact va_get (D := D) (ci := ci) (C := C) (T := T) (N := N) hc.1.1 hc.1.2.1 hc.1.2.2.2.1 hin hc.1.2.2.2.2 hc.2.1 (hP.one h1) 0 rfl hcl k hk (hc.1.2.2.2.1 _ hw) (fun _ h => h) h2 hdg kk
theorem g_getN {ci k idx : Nat} {v : Value} {C : String} {T : u_T} {N : Nat} (hc : g_X p s m args c cc nL own D cs A) (hP : g_P D cs A S H) (hcl : z_cls[ci]? = some (C, T, N)) (hin : ∀ w ∈ u_ws C T N, w ∈ z_big) (hk : k < N) (hw : (own, idx, (T k).1, (T k).2.1, (T k).2.2.1, "LevelFits") ∈ z_nF) (hv : g_fv S ci k a = some v) (hdg : decode cc pc = .ok (.getfield idx, 3)) (kk : W p l e R s m args below meth c H locs cells slots Q (F0 m (pc + 3) ls (v :: rest))) : W p l e R s m args below meth c H locs cells slots Q (F0 m pc ls (.ref a :: rest)) := by
  obtain ⟨fs, h1, h2⟩ := g_fv_sp hv
  exact va_getN (D := D) (ci := ci) (C := C) (T := T) (N := N) hc.1.1 hc.1.2.1 hc.1.2.2.2.1 hin hc.1.2.2.2.2 hc.2.1 (hP.one h1) 0 rfl hcl k hk (va_Nw.use rfl (hc.2.2.1.1 _ hw)) (fun _ h => h) h2 hdg kk
theorem g_putf {ci k idx : Nat} {v : Value} {C : String} {T : u_T} {N : Nat} {S' : GS} {ty : FieldType} (ty0 : Nat → FieldType) (hc : g_X p s m args c cc nL own D cs A) (hP : g_P D cs A S H) (hS0 : va_S A s.heap H locs) (hcl : z_cls[ci]? = some (C, T, N)) (hin : ∀ w ∈ u_ws C T N, w ∈ z_big) (hty : ∀ k, k < N → parseFieldDescriptor (T k).2.2.1 = some (ty0 k)) (hnm : ∀ a, a < N → ∀ b, b < N → a ≠ b → (T a).2.1 ≠ (T b).2.1) (hk : k < N) (hw : Cond.fieldLink own idx (T k).1 (T k).2.1 (T k).2.2.1 ∈ z_big) (hfin : (T k).2.2.2 = false) (hd : parseFieldDescriptor (T k).2.2.1 = some ty) (hn : narrow ty v = v) (hfit : fits ty v = true) (hv : g_put S ci k a v = some S') (hdg : decode cc pc = .ok (.putfield idx, 3))
    (kk : ∀ (H1 : Heap) (locs1 : List Loc), g_P D cs A S' H1 → va_S A s.heap H1 locs1 → W p l e R s m args below meth c H1 locs1 cells slots Q (F0 m (pc + 3) ls rest)) : W p l e R s m args below meth c H locs cells slots Q (F0 m pc ls (v :: .ref a :: rest)) := by
  obtain ⟨fs, g1, g2, rfl⟩ := g_put_sp hv
  have hK := hc.2.1
  have hts := hc.1.2.2.2.1
  have hap := va_apart (own := own) hts hin ty0 hty hnm hK hcl
  obtain ⟨⟨r, h1, cell, q1, q2, q3, q4⟩, hAa⟩ := hP.2 a _ g1
  have hr : r = (C, T, N) := Option.some.inj (h1.symm.trans hcl)
  subst hr
  obtain ⟨hS, hfc, kC, hkC, hkind⟩ := hK.1 ci _ hcl
  obtain ⟨cf, kf, fi, f, hi, hsl⟩ := hS k hk
  have hlay := hts _ (hin _ (u_in_lay hk))
  unfold u_lay at hlay
  rw [if_neg (by rw [hfin]; decide)] at hlay
  have hst := (u_facts hfc hkC (u_lays hts hin hk) hi).1
  have h6 := u_store hfc hkC hkind hlay hi hd hn hfit
  refine W.putK hc.1.1 hc.1.2.1 (f := f) ⟨hc.1.2.2.2.2, hts _ hw, ⟨_, _, _, hi⟩, hst⟩ (by rw [q2]; exact h6) q1 q3 (by rw [hsl]; exact k2_hasslot (q4 k hk)) rfl rfl hdg fun H' e1 e2 e3 => ?_
  rw [hsl] at e1 ⊢
  exact kk H' _ (hP.put hAa ⟨_, hcl, t_OB.to (V := updV (vp_V fs) k v) ⟨_, e1, q2, q3, t_set q4 hap hk v⟩ (fun j _ => vp_updV_set g2 v j)⟩ e2 e3) (hS0.put e2 e3 hAa)
theorem g_putF {ci k idx : Nat} {v : Value} {C : String} {T : u_T} {N : Nat} {S' : GS} {ty : FieldType} (ty0 : Nat → FieldType) (hc : g_X p s m args c cc nL own D cs A) (hP : g_P D cs A S H) (hS0 : va_S A s.heap H locs) (hcl : z_cls[ci]? = some (C, T, N)) (hin : ∀ w ∈ u_ws C T N, w ∈ z_big) (hty : ∀ k, k < N → parseFieldDescriptor (T k).2.2.1 = some (ty0 k)) (hnm : ∀ a, a < N → ∀ b, b < N → a ≠ b → (T a).2.1 ≠ (T b).2.1) (hk : k < N) (hw : Cond.fieldLink own idx (T k).1 (T k).2.1 (T k).2.2.1 ∈ z_big) (hfin : (T k).2.2.2 = true) (hin2 : meth.name = "<init>") (hdecl : (T k).1 = own) (hd : parseFieldDescriptor (T k).2.2.1 = some ty) (hn : narrow ty v = v) (hfit : fits ty v = true) (hv : g_put S ci k a v = some S') (hdg : decode cc pc = .ok (.putfield idx, 3))
    (kk : ∀ (H1 : Heap) (locs1 : List Loc), g_P D cs A S' H1 → va_S A s.heap H1 locs1 → W p l e R s m args below meth c H1 locs1 cells slots Q (F0 m (pc + 3) ls rest)) : W p l e R s m args below meth c H locs cells slots Q (F0 m pc ls (v :: .ref a :: rest)) := by
  obtain ⟨fs, g1, g2, rfl⟩ := g_put_sp hv
  have hK := hc.2.1
  have hts := hc.1.2.2.2.1
  have hown := hc.1.2.2.2.2
  have hap := va_apart (own := own) hts hin ty0 hty hnm hK hcl
  obtain ⟨⟨r, h1, cell, q1, q2, q3, q4⟩, hAa⟩ := hP.2 a _ g1
  have hr : r = (C, T, N) := Option.some.inj (h1.symm.trans hcl)
  subst hr
  obtain ⟨hS, hfc, kC, hkC, hkind⟩ := hK.1 ci _ hcl
  obtain ⟨cf, kf, fi, f, hi, hsl⟩ := hS k hk
  have hlay := hts _ (hin _ (u_in_lay hk))
  unfold u_lay at hlay
  rw [if_pos hfin] at hlay
  have hst := (u_facts hfc hkC (u_lays hts hin hk) hi).1
  have hcf : m.cls = cf := by
    obtain ⟨_, _, c', _, _, _, -, -, hf', -, -, -, hown2, -⟩ := Cond.laysFinal_spec hlay
    have e1 : c' = cf := by have := hi.symm.trans hf'; simp at this; exact this.1.symm
    rw [hdecl] at hown2
    rw [← e1]; exact Option.some.inj (hown.symm.trans hown2)
  have h6 := u_fits hfc hkC hkind (Or.inr hlay) hi hd hn hfit
  refine W.putFinK hc.1.1 hc.1.2.1 hown (hts _ hw) hi hst hcf hin2 (by rw [q2]; exact h6) q1 q3 (by rw [hsl]; exact k2_hasslot (q4 k hk)) rfl rfl hdg fun H' e1 e2 e3 => ?_
  rw [hsl] at e1 ⊢
  exact kk H' _ (hP.put hAa ⟨_, hcl, t_OB.to (V := updV (vp_V fs) k v) ⟨_, e1, q2, q3, t_set q4 hap hk v⟩ (fun j _ => vp_updV_set g2 v j)⟩ e2 e3) (hS0.put e2 e3 hAa)
theorem g_iald {i x : Int32} (hc : g_X p s m args c cc nL own D cs A) (hP : g_P D cs A S H) (hv : g_rI S a i = some x) (hdg : decode cc pc = .ok (.iaload, 1)) (kk : W p l e R s m args below meth c H locs cells slots Q (F0 m (pc + 1) ls (.int x :: rest))) : W p l e R s m args below meth c H locs cells slots Q (F0 m pc ls (.int i :: .ref a :: rest)) := by
  obtain ⟨n, f, h1, h2⟩ := z_bd2_some hv
  obtain ⟨hin, rfl⟩ := z_if_some h2
  exact va_iald (D := D) (tys := g_T cs) hc.1.1 hc.1.2.1 hc.2.1 (hP.one (g_ai_sp h1)) 0 0 rfl rfl hin hdg kk
theorem g_lald {i : Int32} {x : Int64} (hc : g_X p s m args c cc nL own D cs A) (hP : g_P D cs A S H) (hv : g_rJ S a i = some x) (hdg : decode cc pc = .ok (.laload, 1)) (kk : W p l e R s m args below meth c H locs cells slots Q (F0 m (pc + 1) ls (.long x :: rest))) : W p l e R s m args below meth c H locs cells slots Q (F0 m pc ls (.int i :: .ref a :: rest)) := by
  obtain ⟨n, f, h1, h2⟩ := z_bd2_some hv
  obtain ⟨hin, rfl⟩ := z_if_some h2
  exact va_lald (D := D) (tys := g_T cs) hc.1.1 hc.1.2.1 hc.2.1 (hP.one (g_aj_sp h1)) 0 1 rfl rfl hin hdg kk
theorem g_aald {t : Nat} {C : String} {i : Int32} {x : Option Nat} (hc : g_X p s m args c cc nL own D cs A) (hP : g_P D cs A S H) (ht : (g_T cs)[2 + t]? = some (cs (2 + t), .object C)) (hv : g_rQ S t a i = some x) (hdg : decode cc pc = .ok (.aaload, 1)) (kk : W p l e R s m args below meth c H locs cells slots Q (F0 m (pc + 1) ls (va_rf x :: rest))) : W p l e R s m args below meth c H locs cells slots Q (F0 m pc ls (.int i :: .ref a :: rest)) := by
  obtain ⟨n, f, h1, h2⟩ := z_bd2_some hv
  obtain ⟨hin, rfl⟩ := z_if_some h2
  exact va_aldq (D := D) (tys := g_T cs) hc.1.1 hc.1.2.1 hc.2.1 (hP.one (g_aq_sp h1)) 0 (2 + t) rfl ht hin hdg kk
theorem g_alenI {n : Int32} (hc : g_X p s m args c cc nL own D cs A) (hP : g_P D cs A S H) (hv : g_lI S a = some n) (hdg : decode cc pc = .ok (.arraylength, 1)) (kk : W p l e R s m args below meth c H locs cells slots Q (F0 m (pc + 1) ls (.int n :: rest))) : W p l e R s m args below meth c H locs cells slots Q (F0 m pc ls (.ref a :: rest)) := by
  obtain ⟨N, f, h1, h2⟩ := z_bd2_some hv
  cases h2
  exact va_alen (D := D) (tys := g_T cs) hc.1.1 hc.1.2.1 hc.2.1 (hP.one (g_ai_sp h1)) 0 0 rfl rfl rfl hdg kk
theorem g_alenQ {t : Nat} {C : String} {n : Int32} (hc : g_X p s m args c cc nL own D cs A) (hP : g_P D cs A S H) (ht : (g_T cs)[2 + t]? = some (cs (2 + t), .object C)) (hv : g_lQ S t a = some n) (hdg : decode cc pc = .ok (.arraylength, 1)) (kk : W p l e R s m args below meth c H locs cells slots Q (F0 m (pc + 1) ls (.int n :: rest))) : W p l e R s m args below meth c H locs cells slots Q (F0 m pc ls (.ref a :: rest)) := by
  obtain ⟨N, f, h1, h2⟩ := z_bd2_some hv
  cases h2
  exact va_alen (D := D) (tys := g_T cs) hc.1.1 hc.1.2.1 hc.2.1 (hP.one (g_aq_sp h1)) 0 (2 + t) rfl ht rfl hdg kk
theorem g_iast {i x : Int32} {S' : GS} (hc : g_X p s m args c cc nL own D cs A) (hP : g_P D cs A S H) (hS : va_S A s.heap H locs) (hv : g_wI S a i x = some S') (hdg : decode cc pc = .ok (.iastore, 1))
    (kk : ∀ (H1 : Heap) (locs1 : List Loc), g_P D cs A S' H1 → va_S A s.heap H1 locs1 → W p l e R s m args below meth c H1 locs1 cells slots Q (F0 m (pc + 1) ls rest)) : W p l e R s m args below meth c H locs cells slots Q (F0 m pc ls (.int x :: .int i :: .ref a :: rest)) := by
  obtain ⟨n, f, h1, h2⟩ := z_bd2_some hv
  obtain ⟨hin, rfl⟩ := z_if_some h2
  obtain ⟨hat, hAa⟩ := hP.2 a _ (g_ai_sp h1)
  refine W.iast hc.1.1 hc.1.2.1 hat ((hc.2.1.2 0 _ rfl).1 n (fun j => .int (f j))) (fun q => by cases q) (by show ¬ (i < 0 ∨ (arrV _ _ _).slots.size ≤ _); rw [arrV_size]; exact hin) rfl rfl hdg fun H1 e z oq => ?_
  refine kk H1 _ (hP.put hAa ?_ z oq) (hS.put z oq hAa)
  show H1[a]? = some (vp_cell _ _)
  rw [e]
  rw [vp_cell_i, vp_cell_i, arrV_store]
  congr 2
  funext q
  by_cases hq : q = i.toNatClampNeg
  · subst hq
    simp [updV, upd]
  · simp [updV, upd, hq]
theorem g_last {i : Int32} {x : Int64} {S' : GS} (hc : g_X p s m args c cc nL own D cs A) (hP : g_P D cs A S H) (hS : va_S A s.heap H locs) (hv : g_wJ S a i x = some S') (hdg : decode cc pc = .ok (.lastore, 1))
    (kk : ∀ (H1 : Heap) (locs1 : List Loc), g_P D cs A S' H1 → va_S A s.heap H1 locs1 → W p l e R s m args below meth c H1 locs1 cells slots Q (F0 m (pc + 1) ls rest)) : W p l e R s m args below meth c H locs cells slots Q (F0 m pc ls (.long x :: .int i :: .ref a :: rest)) := by
  obtain ⟨n, f, h1, h2⟩ := z_bd2_some hv
  obtain ⟨hin, rfl⟩ := z_if_some h2
  obtain ⟨hat, hAa⟩ := hP.2 a _ (g_aj_sp h1)
  refine W.last hc.1.1 hc.1.2.1 hat ((hc.2.1.2 1 _ rfl).1 n (fun j => .long (f j))) (fun q => by cases q) (by show ¬ (i < 0 ∨ (arrV _ _ _).slots.size ≤ _); rw [arrV_size]; exact hin) rfl rfl hdg fun H1 e z oq => ?_
  refine kk H1 _ (hP.put hAa ?_ z oq) (hS.put z oq hAa)
  show H1[a]? = some (vp_cell _ _)
  rw [e]
  rw [vp_cell_l, vp_cell_l, arrV_store]
  congr 2
  funext q
  by_cases hq : q = i.toNatClampNeg
  · subst hq
    simp [updV, vp_updL]
  · simp [updV, vp_updL, hq]
theorem g_aast {t ci : Nat} {r : vw_C} {i : Int32} {v : Nat} {vs : List Value} {S' : GS} (hc : g_X p s m args c cc nL own D cs A) (hP : g_P D cs A S H) (hS : va_S A s.heap H locs) (ht : (g_T cs)[2 + t]? = some (cs (2 + t), .object r.1)) (hcl : z_cls[ci]? = some r) (hob : g_o S ci v = some vs) (hv : g_wQ S t a i (some v) = some S') (hdg : decode cc pc = .ok (.aastore, 1))
    (kk : ∀ (H1 : Heap) (locs1 : List Loc), g_P D cs A S' H1 → va_S A s.heap H1 locs1 → W p l e R s m args below meth c H1 locs1 cells slots Q (F0 m (pc + 1) ls rest)) : W p l e R s m args below meth c H locs cells slots Q (F0 m pc ls (.ref v :: .int i :: .ref a :: rest)) := by
  obtain ⟨n, f, h1, h2⟩ := z_bd2_some hv
  obtain ⟨hin, rfl⟩ := z_if_some h2
  obtain ⟨hat, hAa⟩ := hP.2 a _ (g_aq_sp h1)
  have hK := hc.2.1
  have hlt : i.toNatClampNeg < n := Nat.not_le.mp fun q => hin (Or.inr q)
  have h0 : ¬ i < 0 := fun q => hin (Or.inl q)
  obtain ⟨r', hr', cellV, g1, g2, g3, -⟩ := (hP.2 v _ (g_o_sp hob)).1
  have hcls := (hK.1 ci r hcl).2
  obtain ⟨kA, comp, k1, k2, k3, -⟩ := (hK.2 (2 + t) _ ht).2
  have hcomp : comp = D.1 ci := Option.some.inj (k3.symm.trans hcls.1)
  subst hcomp
  obtain ⟨kC, hkC, -⟩ := hcls.2
  refine W.aast hc.1.1 hc.1.2.1 hat (fun q h => by cases h) (fun h => by cases h) k1 k2 rfl hkC ⟨h0, by show _ < (arrV _ _ _).slots.size; rw [arrV_size]; exact hlt⟩ g1 (fun q h => by rw [g3] at h; cases h) (by rw [g2]; exact hkC) (by rw [g2]; exact va_assign hcls) rfl rfl hdg fun H1 e z oq => ?_
  refine kk H1 _ (hP.put hAa ?_ z oq) (hS.put z oq hAa)
  show H1[a]? = some (vp_cell _ _)
  rw [e]
  rw [vp_cell_q, vp_cell_q, arrV_store]
  congr 2
  funext q
  by_cases hq : q = i.toNatClampNeg
  · subst hq
    simp [updV, va_up, va_rf]
  · simp [updV, va_up, hq]
theorem g_aastN {t : Nat} {C : String} {i : Int32} {S' : GS} (hc : g_X p s m args c cc nL own D cs A) (hP : g_P D cs A S H) (hS : va_S A s.heap H locs) (ht : (g_T cs)[2 + t]? = some (cs (2 + t), .object C)) (hv : g_wQ S t a i none = some S') (hdg : decode cc pc = .ok (.aastore, 1))
    (kk : ∀ (H1 : Heap) (locs1 : List Loc), g_P D cs A S' H1 → va_S A s.heap H1 locs1 → W p l e R s m args below meth c H1 locs1 cells slots Q (F0 m (pc + 1) ls rest)) : W p l e R s m args below meth c H locs cells slots Q (F0 m pc ls (.null :: .int i :: .ref a :: rest)) := by
  obtain ⟨n, f, h1, h2⟩ := z_bd2_some hv
  obtain ⟨hin, rfl⟩ := z_if_some h2
  obtain ⟨hat, hAa⟩ := hP.2 a _ (g_aq_sp h1)
  refine va_WaastN (C := C) hc.1.1 hc.1.2.1 hat ((hc.2.1.2 (2 + t) _ ht).1 n (fun j => va_rf (f j))) (fun h => by cases h) (by show ¬ (i < 0 ∨ (arrV _ _ _).slots.size ≤ _); rw [arrV_size]; exact hin) rfl rfl hdg fun H1 e z oq => ?_
  refine kk H1 _ (hP.put hAa ?_ z oq) (hS.put z oq hAa)
  show H1[a]? = some (vp_cell _ _)
  rw [e]
  rw [vp_cell_q, vp_cell_q, arrV_store]
  congr 2
  funext q
  by_cases hq : q = i.toNatClampNeg
  · subst hq
    simp [updV, va_up, va_rf]
  · simp [updV, va_up, hq]
theorem g_new {ci idx : Nat} {C : String} {T : u_T} {N : Nat} {fs : List Value} {S' : GS} (ty : Nat → FieldType) (hc : g_X p s m args c cc nL own D cs A) (hP : g_P D cs A S H) (hS : va_S A s.heap H locs) (hcl : z_cls[ci]? = some (C, T, N)) (hin : ∀ w ∈ u_ws C T N, w ∈ z_big) (hty : ∀ k, k < N → parseFieldDescriptor (T k).2.2.1 = some (ty k)) (hlk : Cond.classLink own idx C ∈ z_big) (hinst : Cond.instantiable C N ∈ z_big) (hini : Cond.initialized C ∈ z_big) (hfs : ∀ j, j < N → defaultValue (ty j) = vp_V fs j) (hcells : cells + 1 ≤ R.cells) (hslots : slots + N ≤ R.slots) (hv : S' = g_nw S (.inr (.inr (.inr (ci, fs))))) (hdg : decode cc pc = .ok (.new idx, 3))
    (kk : ∀ (H1 : Heap), g_P D cs A S' H1 → va_S A s.heap H1 locs → W p l e R s m args below meth c H1 locs (cells + 1) (slots + N) Q (F0 m (pc + 3) ls (.ref S.2 :: rest))) : W p l e R s m args below meth c H locs cells slots Q (F0 m pc ls rest) := by
  subst hv
  have hts := hc.1.2.2.2.1
  have hKn := hc.2.1.1 ci _ hcl
  refine W.newcK hc.1.1 hc.1.2.1 hc.1.2.2.2.2 (hts _ hlk) (hts _ hinst) (hts _ hini) rfl hdg hcells hslots hKn.2.1 rfl fun H1 kC hkC e1 z1 o1 => ?_
  have hA : A H.size := hc.2.2.2.2 _ hS.1
  have h3 := kk H1 (hP.new hA ⟨_, hcl, (u_born ty hts hin hKn hkC e1 hty).to hfs⟩ z1 o1) ⟨Nat.le_trans hS.1 (by omega), fun x h1 h2 => (o1 x (Nat.lt_of_lt_of_le h1 hS.1)).trans (hS.2.1 x h1 h2), hS.2.2⟩
  rw [← hP.1] at h3
  exact h3
theorem g_newI {n : Int32} {N' : Nat} {S' : GS} (hc : g_X p s m args c cc nL own D cs A) (hP : g_P D cs A S H) (hS : va_S A s.heap H locs) (harr : Cond.arrayClass .int ∈ z_big) (hn : ¬ n < 0) (hN : n.toNatClampNeg = N') (hbytes : N' ≤ 100000) (hcells : cells + 1 ≤ R.cells) (hslots : slots + N' ≤ R.slots) (hv : S' = g_nw S (.inl (N', fun _ => 0))) (hdg : decode cc pc = .ok (.newarray .int, 2))
    (kk : ∀ (H1 : Heap), g_P D cs A S' H1 → va_S A s.heap H1 locs → W p l e R s m args below meth c H1 locs (cells + 1) (slots + N') Q (F0 m (pc + 2) ls (.ref S.2 :: rest))) : W p l e R s m args below meth c H locs cells slots Q (F0 m pc ls (.int n :: rest)) := by
  subst hv
  refine va_newaK (atype := .int) hc.1.1 hc.1.2.1 (hc.1.2.2.2.1 _ harr) rfl hdg rfl hn hN (by show N' * 4 ≤ _; omega) hcells hslots rfl fun H1 cA e1 z1 o1 hAr hNm => ?_
  have hcA : cA = cs 0 := Option.some.inj (hNm.symm.trans (hc.2.1.2 0 _ rfl).2)
  subst hcA
  have hA : A H.size := hc.2.2.2.2 _ hS.1
  have h3 := kk H1 (hP.new hA e1 z1 o1) ⟨Nat.le_trans hS.1 (by omega), fun x h1 h2 => (o1 x (Nat.lt_of_lt_of_le h1 hS.1)).trans (hS.2.1 x h1 h2), hS.2.2⟩
  rw [← hP.1] at h3
  exact h3
theorem g_newJ {n : Int32} {N' : Nat} {S' : GS} (hc : g_X p s m args c cc nL own D cs A) (hP : g_P D cs A S H) (hS : va_S A s.heap H locs) (harr : Cond.arrayClass .long ∈ z_big) (hn : ¬ n < 0) (hN : n.toNatClampNeg = N') (hbytes : N' ≤ 100000) (hcells : cells + 1 ≤ R.cells) (hslots : slots + N' ≤ R.slots) (hv : S' = g_nw S (.inr (.inl (N', fun _ => 0)))) (hdg : decode cc pc = .ok (.newarray .long, 2))
    (kk : ∀ (H1 : Heap), g_P D cs A S' H1 → va_S A s.heap H1 locs → W p l e R s m args below meth c H1 locs (cells + 1) (slots + N') Q (F0 m (pc + 2) ls (.ref S.2 :: rest))) : W p l e R s m args below meth c H locs cells slots Q (F0 m pc ls (.int n :: rest)) := by
  subst hv
  refine va_newaK (atype := .long) hc.1.1 hc.1.2.1 (hc.1.2.2.2.1 _ harr) rfl hdg rfl hn hN (by show N' * 8 ≤ _; omega) hcells hslots rfl fun H1 cA e1 z1 o1 hAr hNm => ?_
  have hcA : cA = cs 1 := Option.some.inj (hNm.symm.trans (hc.2.1.2 1 _ rfl).2)
  subst hcA
  have hA : A H.size := hc.2.2.2.2 _ hS.1
  have h3 := kk H1 (hP.new hA e1 z1 o1) ⟨Nat.le_trans hS.1 (by omega), fun x h1 h2 => (o1 x (Nat.lt_of_lt_of_le h1 hS.1)).trans (hS.2.1 x h1 h2), hS.2.2⟩
  rw [← hP.1] at h3
  exact h3
theorem g_newQ {t idx : Nat} {C : String} {n : Int32} {N' : Nat} {S' : GS} (hc : g_X p s m args c cc nL own D cs A) (hP : g_P D cs A S H) (hS : va_S A s.heap H locs) (ht : (g_T cs)[2 + t]? = some (cs (2 + t), .object C)) (hlk : Cond.classLink own idx C ∈ z_big) (hov : C ∈ z_nA) (hn : ¬ n < 0) (hN : n.toNatClampNeg = N') (hbytes : N' ≤ 100000) (hcells : cells + 1 ≤ R.cells) (hslots : slots + N' ≤ R.slots) (hv : S' = g_nw S (.inr (.inr (.inl (t, N', fun _ => none))))) (hdg : decode cc pc = .ok (.anewarray idx, 3))
    (kk : ∀ (H1 : Heap), g_P D cs A S' H1 → va_S A s.heap H1 locs → W p l e R s m args below meth c H1 locs (cells + 1) (slots + N') Q (F0 m (pc + 3) ls (.ref S.2 :: rest))) : W p l e R s m args below meth c H locs cells slots Q (F0 m pc ls (.int n :: rest)) := by
  subst hv
  subst hN
  refine W.anew hc.1.1 hc.1.2.1 hc.1.2.2.2.2 (hc.1.2.2.2.1 _ hlk) (va_AO.use (hc.2.2.1.2.2.1 _ hov)) rfl hdg rfl hn (by omega) hcells hslots fun cA kA comp f1 f2 f3 f4 => ?_
  generalize hH1 : H.push ({ cls := cA, slots := Array.replicate n.toNatClampNeg .null, vm := .none } : Cell) = H1
  have z1 : H1.size = H.size + 1 := by rw [← hH1, Array.size_push]
  have e1 : H1[H.size]? = some (arrV cA n.toNatClampNeg (fun _ => .null)) := by rw [← hH1, Array.getElem?_push_size, ← arrV_new]
  have o1 : ∀ q : Nat, q < H.size → H1[q]? = H[q]? := fun q hq => by rw [← hH1, Array.getElem?_push, if_neg (Nat.ne_of_lt hq)]
  obtain ⟨kA', comp', k1, k2, k3, k4⟩ := (hc.2.1.2 (2 + t) _ ht).2
  have hcA : cA = cs (2 + t) := Option.some.inj (f1.symm.trans k4)
  subst hcA
  have hA : A H.size := hc.2.2.2.2 _ hS.1
  have h3 := kk H1 (hP.new hA e1 z1 o1) ⟨Nat.le_trans hS.1 (by omega), fun x h1 h2 => (o1 x (Nat.lt_of_lt_of_le h1 hS.1)).trans (hS.2.1 x h1 h2), hS.2.2⟩
  rw [← hP.1] at h3
  exact h3
theorem g_run {rv : Option Value} {S' : GS} {mc ms : Nat} {st : List Value} {av : Array Value} (hS : va_S A s.heap H locs) (hr : va_Run p l e R s m args below meth c H locs cells slots mc ms (F0 m pc ls st) rest (g_Q rv S' D cs A av) A)
    (kk : ∀ (H1 : Heap) (locs1 : List Loc), g_P D cs A S' H1 → va_S A s.heap H1 locs1 → W p l e R s m args below meth c H1 locs1 (cells + mc) (slots + ms) Q (F0 m (pc + 3) ls (rv.toList ++ rest))) : W p l e R s m args below meth c H locs cells slots Q (F0 m pc ls st) := by
  intro T hT X
  obtain ⟨v, st₀, t, T', L, h0, X', hL, e1, e2, ⟨hv, hC, hz, hk⟩, gs⟩ := hr T hT X
  cases hv
  rw [h0] at hz hk
  obtain ⟨t2, a1, b1⟩ := kk T'.heap (locs ++ L) (by rw [e1]; exact hC.1)
    ⟨Nat.le_trans hS.1 (by rw [e1]; exact hz), fun q h1 h2 => by rw [e1, hk q (Nat.lt_of_lt_of_le h1 hS.1) h2]; exact hS.2.1 q h1 h2, fun q hq => by
      rcases List.mem_append.mp hq with h | h
      · exact hS.2.2 q h
      · exact hL q h⟩ T' rfl X'
  exact ⟨t2, gs t2 a1, b1⟩
theorem g_callV {y : MethodName} {bytes : ByteArray} {maxL mc ms n idx ci : Nat} {ret : Option FieldType} {rm : Room} {rv : Option Value} {S' : GS} {As st : List Value} {C : String} {T : u_T} {N b : Nat} {vs : List Value} (hc : g_X p s m args c cc nL own D cs A) (hP : g_P D cs A S H) (hS : va_S A s.heap H locs) (hcl : z_cls[ci]? = some (C, T, N)) (hob : g_o S ci b = some vs)
    (hM : Met l y (z_wd y bytes maxL ret) rm (va_Pc (.ref b :: As) (g_C D cs A S)) (g_Q rv S' D cs A) mc ms A) (h1 : Cond.methodLink own idx y ∈ z_big) (h2 : Cond.instanceMethod y ∈ z_big) (h3 : Cond.selects C y y ∈ z_big) (h4 : Cond.initialized y.cls ∈ z_big) (h5 : Cond.code y bytes maxL ret ∈ z_big)
    (hd : y.cls ≠ "java/lang/invoke/MethodHandle" ∧ y.cls ≠ "java/lang/invoke/VarHandle" ∧ (parseMethodDescriptor y.desc).map (fun d => d.parameters.length) = some n) (hrm : rm.cells = mc ∧ rm.slots = ms ∧ rm.frames + 1 ≤ R.frames ∧ 24 + (maxL + 11) + rm.locals ≤ R.locals) (hn : As.length = n) (hl : ls.size = nL) (hst : st = As.reverse ++ .ref b :: rest) (hW : (rest.map fun v => v.category).sum ≤ 24) (hdg : decode cc pc = .ok (.invokevirtual idx, 3)) (hcs : cells + mc ≤ R.cells ∧ slots + ms ≤ R.slots)
    (kk : ∀ (H1 : Heap) (locs1 : List Loc), g_P D cs A S' H1 → va_S A s.heap H1 locs1 → W p l e R s m args below meth c H1 locs1 (cells + mc) (slots + ms) Q (F0 m (pc + 3) ls (rv.toList ++ rest))) : W p l e R s m args below meth c H locs cells slots Q (F0 m pc ls st) :=
  g_run hS (z_runV (C := C) hc.1 hM h1 h2 h3 h4 h5 hd hrm ⟨g_C.blind, va_recv hc.2.1 (hP.one (g_o_sp hob)) (ci := ci) (q0 := 0) hcl rfl, fun U hU hW => ⟨rfl, hc.at hP hS hU hW⟩⟩ hn hl hst hW hdg hcs) kk
theorem g_callS {y : MethodName} {bytes : ByteArray} {maxL mc ms n idx : Nat} {ret : Option FieldType} {rm : Room} {rv : Option Value} {S' : GS} {As st : List Value} (hc : g_X p s m args c cc nL own D cs A) (hP : g_P D cs A S H) (hS : va_S A s.heap H locs)
    (hM : Met l y (z_wd y bytes maxL ret) rm (va_Pc As (g_C D cs A S)) (g_Q rv S' D cs A) mc ms A) (h1 : Cond.methodLink own idx y ∈ z_big) (h2 : Cond.static y ∈ z_big) (h4 : Cond.initialized y.cls ∈ z_big) (h5 : Cond.code y bytes maxL ret ∈ z_big)
    (hd : y.cls ≠ "java/lang/invoke/MethodHandle" ∧ y.cls ≠ "java/lang/invoke/VarHandle" ∧ (parseMethodDescriptor y.desc).map (fun d => d.parameters.length) = some n) (hrm : rm.cells = mc ∧ rm.slots = ms ∧ rm.frames + 1 ≤ R.frames ∧ 24 + (maxL + 11) + rm.locals ≤ R.locals) (hn : As.length = n) (hl : ls.size = nL) (hst : st = As.reverse ++ rest) (hW : (rest.map fun v => v.category).sum ≤ 24) (hdg : decode cc pc = .ok (.invokestatic idx, 3)) (hcs : cells + mc ≤ R.cells ∧ slots + ms ≤ R.slots)
    (kk : ∀ (H1 : Heap) (locs1 : List Loc), g_P D cs A S' H1 → va_S A s.heap H1 locs1 → W p l e R s m args below meth c H1 locs1 (cells + mc) (slots + ms) Q (F0 m (pc + 3) ls (rv.toList ++ rest))) : W p l e R s m args below meth c H locs cells slots Q (F0 m pc ls st) :=
  g_run hS (z_runS hc.1 hM h1 h2 h4 h5 hd hrm ⟨g_C.blind, fun U hU hW => ⟨rfl, hc.at hP hS hU hW⟩⟩ hn hl hst hW hdg hcs) kk
theorem g_callI {y : MethodName} {bytes : ByteArray} {maxL mc ms n idx b : Nat} {rm : Room} {rv : Option Value} {S' : GS} {As st : List Value} (hc : g_X p s m args c cc nL own D cs A) (hP : g_P D cs A S H) (hS : va_S A s.heap H locs)
    (hM : Met l y (z_wd y bytes maxL none) rm (va_Pc (.ref b :: As) (g_C D cs A S)) (g_Q rv S' D cs A) mc ms A) (h1 : Cond.methodLink own idx y ∈ z_big) (h2 : Cond.instanceMethod y ∈ z_big) (hini : y.name = "<init>") (h4 : Cond.initialized y.cls ∈ z_big) (h5 : Cond.code y bytes maxL none ∈ z_big)
    (hd : y.cls ≠ "java/lang/invoke/MethodHandle" ∧ y.cls ≠ "java/lang/invoke/VarHandle" ∧ (parseMethodDescriptor y.desc).map (fun d => d.parameters.length) = some n) (hrm : rm.cells = mc ∧ rm.slots = ms ∧ rm.frames + 1 ≤ R.frames ∧ 24 + (maxL + 11) + rm.locals ≤ R.locals) (hn : As.length = n) (hl : ls.size = nL) (hst : st = As.reverse ++ .ref b :: rest) (hW : (rest.map fun v => v.category).sum ≤ 24) (hdg : decode cc pc = .ok (.invokespecial idx, 3)) (hcs : cells + mc ≤ R.cells ∧ slots + ms ≤ R.slots)
    (kk : ∀ (H1 : Heap) (locs1 : List Loc), g_P D cs A S' H1 → va_S A s.heap H1 locs1 → W p l e R s m args below meth c H1 locs1 (cells + mc) (slots + ms) Q (F0 m (pc + 3) ls (rv.toList ++ rest))) : W p l e R s m args below meth c H locs cells slots Q (F0 m pc ls st) := by
  refine g_run (av := (Value.ref b :: As).toArray) hS ?_ kk
  have hp : PreS s H (va_Pc (.ref b :: As) (g_C D cs A S)) (.ref b :: As) := ⟨g_C.blind, fun U hU hW => ⟨rfl, hc.at hP hS hU hW⟩⟩
  have hK := z_back (p := p) (e := e) (below := below) (R := R) hc.1.2.2.2.1 hM hp.1 h4 h5 hrm
  obtain ⟨⟨hx, hb, hml, hts, ho⟩, -⟩ := hc
  intro T hT X
  obtain ⟨v, vm₁, ⟨U', l2, c2, s2⟩, hW₁, X', ⟨g', mk, t, L, e1, e2, hq, a1, hL, a2, a3⟩, gs⟩ := callI X hx (bytes := bytes) (maxL := maxL) ho hini (hts _ h1) (hts _ h2) (hts _ h5) ⟨hd.1, hd.2.1⟩ hK (g := F0 m pc ls st) rfl (hl.trans hml.symm) (a := b) (argsL := As) (rest := rest) (z_len hd hn) hst (z_room hW) (by rw [hb]; exact hdg)
    (fun vm₁ hW₁ => ⟨hcs.1, hcs.2, hp.2 (T.setVm vm₁) hT hW₁⟩)
  dsimp only [Pt.U, Pt.locs, Pt.cells, Pt.slots] at X' e1 e2 a1 a2 a3 gs
  subst a1; subst a2; subst a3
  exact ⟨v, (T.setVm vm₁).calling g' mk (Value.ref b :: As).toArray, t, U', L, hT, X', hL, e1, e2, hq, gs⟩
theorem g_callIN {y : MethodName} {bytes : ByteArray} {maxL mc ms n idx b : Nat} {rm : Room} {rv : Option Value} {S' : GS} {As st : List Value} (hc : g_X p s m args c cc nL own D cs A) (hP : g_P D cs A S H) (hS : va_S A s.heap H locs)
    (hM : Met l y (z_wd y bytes maxL none) rm (va_Pc (.ref b :: As) (g_C D cs A S)) (g_Q rv S' D cs A) mc ms A) (h1 : (own, idx, y, "LevelFits") ∈ z_nM) (h2 : Cond.instanceMethod y ∈ z_big) (hini : y.name = "<init>") (h4 : Cond.initialized y.cls ∈ z_big) (h5 : Cond.code y bytes maxL none ∈ z_big)
    (hd : y.cls ≠ "java/lang/invoke/MethodHandle" ∧ y.cls ≠ "java/lang/invoke/VarHandle" ∧ (parseMethodDescriptor y.desc).map (fun d => d.parameters.length) = some n) (hrm : rm.cells = mc ∧ rm.slots = ms ∧ rm.frames + 1 ≤ R.frames ∧ 24 + (maxL + 11) + rm.locals ≤ R.locals) (hn : As.length = n) (hl : ls.size = nL) (hst : st = As.reverse ++ .ref b :: rest) (hW : (rest.map fun v => v.category).sum ≤ 24) (hdg : decode cc pc = .ok (.invokespecial idx, 3)) (hcs : cells + mc ≤ R.cells ∧ slots + ms ≤ R.slots)
    (kk : ∀ (H1 : Heap) (locs1 : List Loc), g_P D cs A S' H1 → va_S A s.heap H1 locs1 → W p l e R s m args below meth c H1 locs1 (cells + mc) (slots + ms) Q (F0 m (pc + 3) ls (rv.toList ++ rest))) : W p l e R s m args below meth c H locs cells slots Q (F0 m pc ls st) := by
  refine g_run (av := (Value.ref b :: As).toArray) hS ?_ kk
  have hp : PreS s H (va_Pc (.ref b :: As) (g_C D cs A S)) (.ref b :: As) := ⟨g_C.blind, fun U hU hW => ⟨rfl, hc.at hP hS hU hW⟩⟩
  have hK := z_back (p := p) (e := e) (below := below) (R := R) hc.1.2.2.2.1 hM hp.1 h4 h5 hrm
  have hlk : (Cond.methodLinkNest own idx y "LevelFits").before args s = true := va_Nw.use rfl (hc.2.2.1.2.1 _ h1)
  obtain ⟨⟨hx, hb, hml, hts, ho⟩, -⟩ := hc
  intro T hT X
  obtain ⟨v, vm₁, ⟨U', l2, c2, s2⟩, hW₁, X', ⟨g', mk, t, L, e1, e2, hq, a1, hL, a2, a3⟩, gs⟩ := va_callIN X hx (bytes := bytes) (maxL := maxL) ho hini hlk (hts _ h2) (hts _ h5) ⟨hd.1, hd.2.1⟩ hK (g := F0 m pc ls st) rfl (hl.trans hml.symm) (a := b) (argsL := As) (rest := rest) (z_len hd hn) hst (z_room hW) (by rw [hb]; exact hdg)
    (fun vm₁ hW₁ => ⟨hcs.1, hcs.2, hp.2 (T.setVm vm₁) hT hW₁⟩)
  dsimp only [Pt.U, Pt.locs, Pt.cells, Pt.slots] at X' e1 e2 a1 a2 a3 gs
  subst a1; subst a2; subst a3
  exact ⟨v, (T.setVm vm₁).calling g' mk (Value.ref b :: As).toArray, t, U', L, hT, X', hL, e1, e2, hq, gs⟩
theorem g_reti {r : Int32} {mc ms : Nat} (hc : g_X p s m args c cc nL own D cs A) (hr : meth.sig.returnType = some .int) (hlocks : meth.locks = false) (hP : g_P D cs A S H) (hS : va_S A s.heap H locs) (hdg : decode cc pc = .ok (.ireturn, 1)) : W p l e R s m args below meth c H locs mc ms (MQ below (g_Q (some (.int r)) S D cs A) args s mc ms A) (F0 m pc ls [.int r]) :=
  W.iret (v := r) hc.1.1 hc.1.2.1 hr (fun t ht hW => ⟨rfl, hc.at hP hS ht hW, hS.F ht⟩) hS.2.2 hdg hlocks
theorem g_retz {r : Int32} {mc ms : Nat} (hc : g_X p s m args c cc nL own D cs A) (hr : meth.sig.returnType = some .boolean) (hlocks : meth.locks = false) (hn : r = 0 ∨ r = 1) (hP : g_P D cs A S H) (hS : va_S A s.heap H locs) (hdg : decode cc pc = .ok (.ireturn, 1)) : W p l e R s m args below meth c H locs mc ms (MQ below (g_Q (some (.int r)) S D cs A) args s mc ms A) (F0 m pc ls [.int r]) :=
  W.zret (v := r) (ty := .boolean) hc.1.1 hc.1.2.1 hr (by rcases hn with rfl | rfl <;> rfl) (fun t ht hW => ⟨rfl, hc.at hP hS ht hW, hS.F ht⟩) hS.2.2 hdg hlocks
theorem g_retl {r : Int64} {mc ms : Nat} (hc : g_X p s m args c cc nL own D cs A) (hr : meth.sig.returnType = some .long) (hlocks : meth.locks = false) (hP : g_P D cs A S H) (hS : va_S A s.heap H locs) (hdg : decode cc pc = .ok (.lreturn, 1)) : W p l e R s m args below meth c H locs mc ms (MQ below (g_Q (some (.long r)) S D cs A) args s mc ms A) (F0 m pc ls [.long r]) :=
  W.lret (v := r) hc.1.1 hc.1.2.1 hr (fun t ht hW => ⟨rfl, hc.at hP hS ht hW, hS.F ht⟩) hS.2.2 hdg hlocks
theorem g_retv {mc ms : Nat} (hc : g_X p s m args c cc nL own D cs A) (hr : meth.sig.returnType = none) (hlocks : meth.locks = false) (hP : g_P D cs A S H) (hS : va_S A s.heap H locs) (hdg : decode cc pc = .ok (.return_, 1)) : W p l e R s m args below meth c H locs mc ms (MQ below (g_Q none S D cs A) args s mc ms A) (F0 m pc ls []) :=
  W.vret hc.1.1 hc.1.2.1 hr (fun t ht hW => ⟨rfl, hc.at hP hS ht hW, hS.F ht⟩) hS.2.2 hdg hlocks
theorem g_retq {r : Option Nat} {C : String} {mc ms : Nat} (hc : g_X p s m args c cc nL own D cs A) (hr : meth.sig.returnType = some (.object C)) (hlocks : meth.locks = false) (hP : g_P D cs A S H) (hS : va_S A s.heap H locs) (hdg : decode cc pc = .ok (.areturn, 1)) : W p l e R s m args below meth c H locs mc ms (MQ below (g_Q (some (va_rf r)) S D cs A) args s mc ms A) (F0 m pc ls [va_rf r]) :=
  W.aret (v := va_rf r) hc.1.1 hc.1.2.1 hr (Or.inl ⟨C, rfl⟩) (by cases r; exact Or.inl rfl; exact Or.inr ⟨_, rfl⟩) (fun t ht hW => ⟨rfl, hc.at hP hS ht hW, hS.F ht⟩) hS.2.2 hdg hlocks
/-! references that may be null: locals, stack -/
theorem q_aload_n {k : Fin 4} {i : Nat} {r : Option Nat} (hx : p.tables.exec = Jvm.exec) (hb : c.code = cc) (hdg : decode cc pc = .ok (.aload_n k, 1)) (hi : (k : Nat) = i) (hl : ls[i]? = some (.val (va_rf r))) (kk : W p l e R s m args below meth c H locs cells slots Q (F0 m (pc + 1) ls (va_rf r :: rest))) : W p l e R s m args below meth c H locs cells slots Q (F0 m pc ls rest) := by
  cases r with
  | none => exact lv_aload_nN hx hb hdg hi hl kk
  | some x => exact lv_aload_n hx hb hdg hi hl kk
theorem q_aload {i : Nat} {r : Option Nat} (hx : p.tables.exec = Jvm.exec) (hb : c.code = cc) (hdg : decode cc pc = .ok (.aload i, 2)) (hl : ls[i]? = some (.val (va_rf r))) (kk : W p l e R s m args below meth c H locs cells slots Q (F0 m (pc + 2) ls (va_rf r :: rest))) : W p l e R s m args below meth c H locs cells slots Q (F0 m pc ls rest) := by
  cases r with
  | none => exact lv_aloadN hx hb hdg hl kk
  | some x => exact lv_aload hx hb hdg hl kk
theorem q_astore_n {k : Fin 4} {i nL : Nat} {r : Option Nat} {lv lv' : List (Nat × Value)} (hx : p.tables.exec = Jvm.exec) (hb : c.code = cc) (hdg : decode cc pc = .ok (.astore_n k, 1)) (hi : (k : Nat) = i) (h : lv_has ls nL lv) (hn : i < nL) (hl : (i, va_rf r) :: lv.filter (fun q => !(q.1 == i) && !(q.1 + 1 == i && q.2.category == 2)) = lv') (kk : ∀ ls' : Array Slot, lv_has ls' nL lv' → W p l e R s m args below meth c H locs cells slots Q (F0 m (pc + 1) ls' rest)) : W p l e R s m args below meth c H locs cells slots Q (F0 m pc ls (va_rf r :: rest)) := by
  cases r with
  | none => exact lv_astore_nN hx hb hdg hi h hn hl kk
  | some x => exact lv_astore_n hx hb hdg hi h hn hl kk
theorem q_astore {i nL : Nat} {r : Option Nat} {lv lv' : List (Nat × Value)} (hx : p.tables.exec = Jvm.exec) (hb : c.code = cc) (hdg : decode cc pc = .ok (.astore i, 2)) (h : lv_has ls nL lv) (hn : i < nL) (hl : (i, va_rf r) :: lv.filter (fun q => !(q.1 == i) && !(q.1 + 1 == i && q.2.category == 2)) = lv') (kk : ∀ ls' : Array Slot, lv_has ls' nL lv' → W p l e R s m args below meth c H locs cells slots Q (F0 m (pc + 2) ls' rest)) : W p l e R s m args below meth c H locs cells slots Q (F0 m pc ls (va_rf r :: rest)) := by
  cases r with
  | none => exact lv_astoreN hx hb hdg h hn hl kk
  | some x => exact lv_astore hx hb hdg h hn hl kk
end ZG
