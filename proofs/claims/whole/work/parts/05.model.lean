/-- the classes whose objects the worlds hold -/
abbrev z_cls : List vw_C := [(RX0, TX0, 2), (RX1, TX1, 7), (RX2, TX2, 11), (RX3, TX3, 4), (RX4, TX4, 4), (RX5, TX5, 2), (RX6, TX6, 3), (RX7, TX7, 8), (RX8, TX8, 35)]
/-- the reference's state: its ints by field and place, its longs -/
abbrev MS : Type := (Nat → Nat → Int32) × (Nat → Nat → Int64)
def sI (M : MS) (k i : Nat) (v : Int32) : MS := (fun q => if q = k then upd (M.1 k) i v else M.1 q, M.2)
def sJ (M : MS) (k i : Nat) (v : Int64) : MS := (M.1, fun q => if q = k then vp_updL (M.2 k) i v else M.2 q)
def m_F (o : Nat) (M : MS) : List Value := [.ref (o + 1), .ref (o + 2), .ref (o + 3), .ref (o + 4), .int (M.1 4 0), .ref (o + 5), .ref (o + 6), .ref (o + 7), .ref (o + 8), .ref (o + 9), .ref (o + 10), .ref (o + 11), .ref (o + 12), .ref (o + 13), .ref (o + 14), .ref (o + 15), .ref (o + 16), .ref (o + 17), .int (M.1 18 0), .ref (o + 18), .int (M.1 20 0), .long (M.2 21 0), .long (M.2 22 0), .ref (o + 19), .ref (o + 20), .ref (o + 21), .long (M.2 26 0), .long (M.2 27 0), .ref (o + 22), .ref (o + 23), .ref (o + 24), .ref (o + 25), .ref (o + 26), .long (M.2 33 0), .long (M.2 34 0)]
def m_W (cI cJ : ClassId) (o : Nat) (M : MS) : va_W := [(o, .inr (8, m_F o M)), (o + 1, .inl (cI, 6, .inl (M.1 0))), (o + 2, .inl (cI, 72, .inl (M.1 1))), (o + 3, .inl (cI, 72, .inl (M.1 2))), (o + 4, .inl (cI, 72, .inl (M.1 3))), (o + 5, .inl (cI, 10, .inl (M.1 5))), (o + 6, .inl (cI, 10, .inl (M.1 6))), (o + 7, .inl (cI, 10, .inl (M.1 7))), (o + 8, .inl (cI, 120, .inl (M.1 8))), (o + 9, .inl (cI, 120, .inl (M.1 9))), (o + 10, .inl (cI, 120, .inl (M.1 10))), (o + 11, .inl (cI, 10, .inl (M.1 11))), (o + 12, .inl (cI, 120, .inl (M.1 12))), (o + 13, .inl (cJ, 360, .inr (.inl (M.2 13)))), (o + 14, .inl (cJ, 360, .inr (.inl (M.2 14)))), (o + 15, .inl (cI, 4, .inl (M.1 15))), (o + 16, .inl (cI, 4, .inl (M.1 16))), (o + 17, .inl (cI, 160, .inl (M.1 17))), (o + 18, .inl (cI, 50, .inl (M.1 19))), (o + 19, .inl (cI, 12, .inl (M.1 23))), (o + 20, .inl (cJ, 3, .inr (.inl (M.2 24)))), (o + 21, .inl (cJ, 3, .inr (.inl (M.2 25)))), (o + 22, .inl (cJ, 3, .inr (.inl (M.2 28)))), (o + 23, .inl (cJ, 3, .inr (.inl (M.2 29)))), (o + 24, .inl (cI, 12, .inl (M.1 30))), (o + 25, .inl (cI, 12, .inl (M.1 31))), (o + 26, .inl (cI, 12, .inl (M.1 32)))]
def m_A (o : Nat) : Nat → Prop := fun q => o ≤ q ∧ q < o + 27
abbrev m_T (cI cJ : ClassId) : List (ClassId × FieldType) := [(cI, .int), (cJ, .long)]
theorem ma_0 (cI cJ : ClassId) (o : Nat) (M : MS) : (m_W cI cJ o M)[1]? = some (o + 1, .inl (cI, 6, .inl (M.1 0))) := rfl
theorem mp_0 (cI cJ : ClassId) (o : Nat) (M : MS) (i : Nat) (v : Int32) : (m_W cI cJ o M).set 1 (o + 1, .inl (cI, 6, .inl (upd (M.1 0) i v))) = m_W cI cJ o (sI M 0 i v) := rfl
theorem ma_1 (cI cJ : ClassId) (o : Nat) (M : MS) : (m_W cI cJ o M)[2]? = some (o + 2, .inl (cI, 72, .inl (M.1 1))) := rfl
theorem mp_1 (cI cJ : ClassId) (o : Nat) (M : MS) (i : Nat) (v : Int32) : (m_W cI cJ o M).set 2 (o + 2, .inl (cI, 72, .inl (upd (M.1 1) i v))) = m_W cI cJ o (sI M 1 i v) := rfl
theorem ma_2 (cI cJ : ClassId) (o : Nat) (M : MS) : (m_W cI cJ o M)[3]? = some (o + 3, .inl (cI, 72, .inl (M.1 2))) := rfl
theorem mp_2 (cI cJ : ClassId) (o : Nat) (M : MS) (i : Nat) (v : Int32) : (m_W cI cJ o M).set 3 (o + 3, .inl (cI, 72, .inl (upd (M.1 2) i v))) = m_W cI cJ o (sI M 2 i v) := rfl
theorem ma_3 (cI cJ : ClassId) (o : Nat) (M : MS) : (m_W cI cJ o M)[4]? = some (o + 4, .inl (cI, 72, .inl (M.1 3))) := rfl
theorem mp_3 (cI cJ : ClassId) (o : Nat) (M : MS) (i : Nat) (v : Int32) : (m_W cI cJ o M).set 4 (o + 4, .inl (cI, 72, .inl (upd (M.1 3) i v))) = m_W cI cJ o (sI M 3 i v) := rfl
theorem mp_4 (cI cJ : ClassId) (o : Nat) (M : MS) (v : Int32) : (m_W cI cJ o M).set 0 (o, .inr (8, (m_F o M).set 4 (.int v))) = m_W cI cJ o (sI M 4 0 v) := rfl
theorem ma_5 (cI cJ : ClassId) (o : Nat) (M : MS) : (m_W cI cJ o M)[5]? = some (o + 5, .inl (cI, 10, .inl (M.1 5))) := rfl
theorem mp_5 (cI cJ : ClassId) (o : Nat) (M : MS) (i : Nat) (v : Int32) : (m_W cI cJ o M).set 5 (o + 5, .inl (cI, 10, .inl (upd (M.1 5) i v))) = m_W cI cJ o (sI M 5 i v) := rfl
theorem ma_6 (cI cJ : ClassId) (o : Nat) (M : MS) : (m_W cI cJ o M)[6]? = some (o + 6, .inl (cI, 10, .inl (M.1 6))) := rfl
theorem mp_6 (cI cJ : ClassId) (o : Nat) (M : MS) (i : Nat) (v : Int32) : (m_W cI cJ o M).set 6 (o + 6, .inl (cI, 10, .inl (upd (M.1 6) i v))) = m_W cI cJ o (sI M 6 i v) := rfl
theorem ma_7 (cI cJ : ClassId) (o : Nat) (M : MS) : (m_W cI cJ o M)[7]? = some (o + 7, .inl (cI, 10, .inl (M.1 7))) := rfl
theorem mp_7 (cI cJ : ClassId) (o : Nat) (M : MS) (i : Nat) (v : Int32) : (m_W cI cJ o M).set 7 (o + 7, .inl (cI, 10, .inl (upd (M.1 7) i v))) = m_W cI cJ o (sI M 7 i v) := rfl
theorem ma_8 (cI cJ : ClassId) (o : Nat) (M : MS) : (m_W cI cJ o M)[8]? = some (o + 8, .inl (cI, 120, .inl (M.1 8))) := rfl
theorem mp_8 (cI cJ : ClassId) (o : Nat) (M : MS) (i : Nat) (v : Int32) : (m_W cI cJ o M).set 8 (o + 8, .inl (cI, 120, .inl (upd (M.1 8) i v))) = m_W cI cJ o (sI M 8 i v) := rfl
theorem ma_9 (cI cJ : ClassId) (o : Nat) (M : MS) : (m_W cI cJ o M)[9]? = some (o + 9, .inl (cI, 120, .inl (M.1 9))) := rfl
theorem mp_9 (cI cJ : ClassId) (o : Nat) (M : MS) (i : Nat) (v : Int32) : (m_W cI cJ o M).set 9 (o + 9, .inl (cI, 120, .inl (upd (M.1 9) i v))) = m_W cI cJ o (sI M 9 i v) := rfl
theorem ma_10 (cI cJ : ClassId) (o : Nat) (M : MS) : (m_W cI cJ o M)[10]? = some (o + 10, .inl (cI, 120, .inl (M.1 10))) := rfl
theorem mp_10 (cI cJ : ClassId) (o : Nat) (M : MS) (i : Nat) (v : Int32) : (m_W cI cJ o M).set 10 (o + 10, .inl (cI, 120, .inl (upd (M.1 10) i v))) = m_W cI cJ o (sI M 10 i v) := rfl
theorem ma_11 (cI cJ : ClassId) (o : Nat) (M : MS) : (m_W cI cJ o M)[11]? = some (o + 11, .inl (cI, 10, .inl (M.1 11))) := rfl
theorem mp_11 (cI cJ : ClassId) (o : Nat) (M : MS) (i : Nat) (v : Int32) : (m_W cI cJ o M).set 11 (o + 11, .inl (cI, 10, .inl (upd (M.1 11) i v))) = m_W cI cJ o (sI M 11 i v) := rfl
theorem ma_12 (cI cJ : ClassId) (o : Nat) (M : MS) : (m_W cI cJ o M)[12]? = some (o + 12, .inl (cI, 120, .inl (M.1 12))) := rfl
theorem mp_12 (cI cJ : ClassId) (o : Nat) (M : MS) (i : Nat) (v : Int32) : (m_W cI cJ o M).set 12 (o + 12, .inl (cI, 120, .inl (upd (M.1 12) i v))) = m_W cI cJ o (sI M 12 i v) := rfl
theorem ma_13 (cI cJ : ClassId) (o : Nat) (M : MS) : (m_W cI cJ o M)[13]? = some (o + 13, .inl (cJ, 360, .inr (.inl (M.2 13)))) := rfl
theorem mp_13 (cI cJ : ClassId) (o : Nat) (M : MS) (i : Nat) (v : Int64) : (m_W cI cJ o M).set 13 (o + 13, .inl (cJ, 360, .inr (.inl (vp_updL (M.2 13) i v)))) = m_W cI cJ o (sJ M 13 i v) := rfl
theorem ma_14 (cI cJ : ClassId) (o : Nat) (M : MS) : (m_W cI cJ o M)[14]? = some (o + 14, .inl (cJ, 360, .inr (.inl (M.2 14)))) := rfl
theorem mp_14 (cI cJ : ClassId) (o : Nat) (M : MS) (i : Nat) (v : Int64) : (m_W cI cJ o M).set 14 (o + 14, .inl (cJ, 360, .inr (.inl (vp_updL (M.2 14) i v)))) = m_W cI cJ o (sJ M 14 i v) := rfl
theorem ma_15 (cI cJ : ClassId) (o : Nat) (M : MS) : (m_W cI cJ o M)[15]? = some (o + 15, .inl (cI, 4, .inl (M.1 15))) := rfl
theorem mp_15 (cI cJ : ClassId) (o : Nat) (M : MS) (i : Nat) (v : Int32) : (m_W cI cJ o M).set 15 (o + 15, .inl (cI, 4, .inl (upd (M.1 15) i v))) = m_W cI cJ o (sI M 15 i v) := rfl
theorem ma_16 (cI cJ : ClassId) (o : Nat) (M : MS) : (m_W cI cJ o M)[16]? = some (o + 16, .inl (cI, 4, .inl (M.1 16))) := rfl
theorem mp_16 (cI cJ : ClassId) (o : Nat) (M : MS) (i : Nat) (v : Int32) : (m_W cI cJ o M).set 16 (o + 16, .inl (cI, 4, .inl (upd (M.1 16) i v))) = m_W cI cJ o (sI M 16 i v) := rfl
theorem ma_17 (cI cJ : ClassId) (o : Nat) (M : MS) : (m_W cI cJ o M)[17]? = some (o + 17, .inl (cI, 160, .inl (M.1 17))) := rfl
theorem mp_17 (cI cJ : ClassId) (o : Nat) (M : MS) (i : Nat) (v : Int32) : (m_W cI cJ o M).set 17 (o + 17, .inl (cI, 160, .inl (upd (M.1 17) i v))) = m_W cI cJ o (sI M 17 i v) := rfl
theorem mp_18 (cI cJ : ClassId) (o : Nat) (M : MS) (v : Int32) : (m_W cI cJ o M).set 0 (o, .inr (8, (m_F o M).set 18 (.int v))) = m_W cI cJ o (sI M 18 0 v) := rfl
theorem ma_19 (cI cJ : ClassId) (o : Nat) (M : MS) : (m_W cI cJ o M)[18]? = some (o + 18, .inl (cI, 50, .inl (M.1 19))) := rfl
theorem mp_19 (cI cJ : ClassId) (o : Nat) (M : MS) (i : Nat) (v : Int32) : (m_W cI cJ o M).set 18 (o + 18, .inl (cI, 50, .inl (upd (M.1 19) i v))) = m_W cI cJ o (sI M 19 i v) := rfl
theorem mp_20 (cI cJ : ClassId) (o : Nat) (M : MS) (v : Int32) : (m_W cI cJ o M).set 0 (o, .inr (8, (m_F o M).set 20 (.int v))) = m_W cI cJ o (sI M 20 0 v) := rfl
theorem mp_21 (cI cJ : ClassId) (o : Nat) (M : MS) (v : Int64) : (m_W cI cJ o M).set 0 (o, .inr (8, (m_F o M).set 21 (.long v))) = m_W cI cJ o (sJ M 21 0 v) := rfl
theorem mp_22 (cI cJ : ClassId) (o : Nat) (M : MS) (v : Int64) : (m_W cI cJ o M).set 0 (o, .inr (8, (m_F o M).set 22 (.long v))) = m_W cI cJ o (sJ M 22 0 v) := rfl
theorem ma_23 (cI cJ : ClassId) (o : Nat) (M : MS) : (m_W cI cJ o M)[19]? = some (o + 19, .inl (cI, 12, .inl (M.1 23))) := rfl
theorem mp_23 (cI cJ : ClassId) (o : Nat) (M : MS) (i : Nat) (v : Int32) : (m_W cI cJ o M).set 19 (o + 19, .inl (cI, 12, .inl (upd (M.1 23) i v))) = m_W cI cJ o (sI M 23 i v) := rfl
theorem ma_24 (cI cJ : ClassId) (o : Nat) (M : MS) : (m_W cI cJ o M)[20]? = some (o + 20, .inl (cJ, 3, .inr (.inl (M.2 24)))) := rfl
theorem mp_24 (cI cJ : ClassId) (o : Nat) (M : MS) (i : Nat) (v : Int64) : (m_W cI cJ o M).set 20 (o + 20, .inl (cJ, 3, .inr (.inl (vp_updL (M.2 24) i v)))) = m_W cI cJ o (sJ M 24 i v) := rfl
theorem ma_25 (cI cJ : ClassId) (o : Nat) (M : MS) : (m_W cI cJ o M)[21]? = some (o + 21, .inl (cJ, 3, .inr (.inl (M.2 25)))) := rfl
theorem mp_25 (cI cJ : ClassId) (o : Nat) (M : MS) (i : Nat) (v : Int64) : (m_W cI cJ o M).set 21 (o + 21, .inl (cJ, 3, .inr (.inl (vp_updL (M.2 25) i v)))) = m_W cI cJ o (sJ M 25 i v) := rfl
theorem mp_26 (cI cJ : ClassId) (o : Nat) (M : MS) (v : Int64) : (m_W cI cJ o M).set 0 (o, .inr (8, (m_F o M).set 26 (.long v))) = m_W cI cJ o (sJ M 26 0 v) := rfl
theorem mp_27 (cI cJ : ClassId) (o : Nat) (M : MS) (v : Int64) : (m_W cI cJ o M).set 0 (o, .inr (8, (m_F o M).set 27 (.long v))) = m_W cI cJ o (sJ M 27 0 v) := rfl
theorem ma_28 (cI cJ : ClassId) (o : Nat) (M : MS) : (m_W cI cJ o M)[22]? = some (o + 22, .inl (cJ, 3, .inr (.inl (M.2 28)))) := rfl
theorem mp_28 (cI cJ : ClassId) (o : Nat) (M : MS) (i : Nat) (v : Int64) : (m_W cI cJ o M).set 22 (o + 22, .inl (cJ, 3, .inr (.inl (vp_updL (M.2 28) i v)))) = m_W cI cJ o (sJ M 28 i v) := rfl
theorem ma_29 (cI cJ : ClassId) (o : Nat) (M : MS) : (m_W cI cJ o M)[23]? = some (o + 23, .inl (cJ, 3, .inr (.inl (M.2 29)))) := rfl
theorem mp_29 (cI cJ : ClassId) (o : Nat) (M : MS) (i : Nat) (v : Int64) : (m_W cI cJ o M).set 23 (o + 23, .inl (cJ, 3, .inr (.inl (vp_updL (M.2 29) i v)))) = m_W cI cJ o (sJ M 29 i v) := rfl
theorem ma_30 (cI cJ : ClassId) (o : Nat) (M : MS) : (m_W cI cJ o M)[24]? = some (o + 24, .inl (cI, 12, .inl (M.1 30))) := rfl
theorem mp_30 (cI cJ : ClassId) (o : Nat) (M : MS) (i : Nat) (v : Int32) : (m_W cI cJ o M).set 24 (o + 24, .inl (cI, 12, .inl (upd (M.1 30) i v))) = m_W cI cJ o (sI M 30 i v) := rfl
theorem ma_31 (cI cJ : ClassId) (o : Nat) (M : MS) : (m_W cI cJ o M)[25]? = some (o + 25, .inl (cI, 12, .inl (M.1 31))) := rfl
theorem mp_31 (cI cJ : ClassId) (o : Nat) (M : MS) (i : Nat) (v : Int32) : (m_W cI cJ o M).set 25 (o + 25, .inl (cI, 12, .inl (upd (M.1 31) i v))) = m_W cI cJ o (sI M 31 i v) := rfl
theorem ma_32 (cI cJ : ClassId) (o : Nat) (M : MS) : (m_W cI cJ o M)[26]? = some (o + 26, .inl (cI, 12, .inl (M.1 32))) := rfl
theorem mp_32 (cI cJ : ClassId) (o : Nat) (M : MS) (i : Nat) (v : Int32) : (m_W cI cJ o M).set 26 (o + 26, .inl (cI, 12, .inl (upd (M.1 32) i v))) = m_W cI cJ o (sI M 32 i v) := rfl
theorem mp_33 (cI cJ : ClassId) (o : Nat) (M : MS) (v : Int64) : (m_W cI cJ o M).set 0 (o, .inr (8, (m_F o M).set 33 (.long v))) = m_W cI cJ o (sJ M 33 0 v) := rfl
theorem mp_34 (cI cJ : ClassId) (o : Nat) (M : MS) (v : Int64) : (m_W cI cJ o M).set 0 (o, .inr (8, (m_F o M).set 34 (.long v))) = m_W cI cJ o (sJ M 34 0 v) := rfl
theorem m_D (cI cJ : ClassId) (o : Nat) (M : MS) : va_D (m_A o) (m_W cI cJ o M) := by
  have hk : ∀ (k : Nat) (q : Nat × va_E), (m_W cI cJ o M)[k]? = some q → q.1 = o + k ∧ k < 27 := by
    intro k q h
    have hlt : k < 27 := (List.getElem?_eq_some_iff.mp h).1
    refine ⟨?_, hlt⟩
    match k, hlt, h with
    | 0, _, h => cases h; rfl
    | 1, _, h => cases h; rfl
    | 2, _, h => cases h; rfl
    | 3, _, h => cases h; rfl
    | 4, _, h => cases h; rfl
    | 5, _, h => cases h; rfl
    | 6, _, h => cases h; rfl
    | 7, _, h => cases h; rfl
    | 8, _, h => cases h; rfl
    | 9, _, h => cases h; rfl
    | 10, _, h => cases h; rfl
    | 11, _, h => cases h; rfl
    | 12, _, h => cases h; rfl
    | 13, _, h => cases h; rfl
    | 14, _, h => cases h; rfl
    | 15, _, h => cases h; rfl
    | 16, _, h => cases h; rfl
    | 17, _, h => cases h; rfl
    | 18, _, h => cases h; rfl
    | 19, _, h => cases h; rfl
    | 20, _, h => cases h; rfl
    | 21, _, h => cases h; rfl
    | 22, _, h => cases h; rfl
    | 23, _, h => cases h; rfl
    | 24, _, h => cases h; rfl
    | 25, _, h => cases h; rfl
    | 26, _, h => cases h; rfl
  refine ⟨fun i j p q hp hq e => ?_, fun k q h => ?_⟩
  · have a1 := (hk i p hp).1
    have a2 := (hk j q hq).1
    omega
  · obtain ⟨a1, a2⟩ := hk k q h
    unfold m_A
    omega
def m_C (D : va_G) (cI cJ : ClassId) (o sz : Nat) (M : MS) (U : State) : Prop := U.heap.size = sz ∧ va_P D z_cls (m_W cI cJ o M) U.heap ∧ va_K D z_cls (m_T cI cJ) U
theorem m_C.blind {D : va_G} {cI cJ : ClassId} {o sz : Nat} {M : MS} {av : List Value} : FrameBlind (va_Pc av (m_C D cI cJ o sz M)) := by
  intro a U g mk q
  obtain ⟨q0, q1, qP, qK⟩ := q
  exact ⟨q0, q1, qP, va_K.moved (u := U) (U := U.calling g mk a) (Vm.Alike.refl U.vm) qK⟩
/-- what a walk of one of the reference's methods holds all the way -/
def m_X (p : Program) (s : State) (m : MethodId) (args : Array Value) (c : Code) (cc : ByteArray) (nL : Nat) (D : va_G) (cI cJ : ClassId) : Prop :=
  p.tables.exec = Jvm.exec ∧ c.code = cc ∧ c.maxLocals = nL ∧ (∀ w ∈ z_big, w.before args s = true) ∧ s.vm.findClass RX8 = some m.cls ∧ va_K D z_cls (m_T cI cJ) s
theorem m_Flen (o : Nat) (M : MS) : (m_F o M).length = 35 := rfl
/-- what a walk of any method holds: the machine, the code, the words, its own class -/
def s_X (p : Program) (s : State) (m : MethodId) (args : Array Value) (c : Code) (cc : ByteArray) (nL : Nat) (own : String) : Prop :=
  p.tables.exec = Jvm.exec ∧ c.code = cc ∧ c.maxLocals = nL ∧ (∀ w ∈ z_big, w.before args s = true) ∧ s.vm.findClass own = some m.cls
theorem m_X.s {p : Program} {s : State} {m : MethodId} {args : Array Value} {c : Code} {cc : ByteArray} {nL : Nat} {D : va_G} {cI cJ : ClassId} (h : m_X p s m args c cc nL D cI cJ) : s_X p s m args c cc nL RX8 := ⟨h.1, h.2.1, h.2.2.1, h.2.2.2.1, h.2.2.2.2.1⟩
abbrev z_rm (f n : Nat) : Room := { frames := f, cells := 0, slots := 0, locals := n }
section ZR
variable {p : Program} {l : Launch} {e : Env} {R : Room} {s : State} {m : MethodId} {args : Array Value} {below : List Frame} {meth : Method} {c : Code} {H : Heap} {locs : List Loc} {cells slots : Nat} {cc : ByteArray} {nL pc : Nat} {ls : Array Slot}
theorem z_room {st rest : List Value} (h : (st.map fun v => v.category).sum ≤ 24) : 2 * (F0 m pc ls rest).monitorRoom + (st.map fun v => v.category).sum ≤ 24 := by
  show 2 * 0 + _ ≤ 24
  omega
theorem z_back {y : MethodName} {bytes : ByteArray} {maxL mc ms : Nat} {ret : Option FieldType} {rm : Room} {Pc : Array Value → State → Prop} {Qc : Array Value → State → Outcome → State → Prop} {free : Addr → Prop} (hts : ∀ w ∈ z_big, w.before args s = true) (hM : Met l y (z_wd y bytes maxL ret) rm Pc Qc mc ms free) (hbl : FrameBlind Pc) (h4 : Cond.initialized y.cls ∈ z_big) (h5 : Cond.code y bytes maxL ret ∈ z_big) (hrm : rm.cells = mc ∧ rm.slots = ms ∧ rm.frames + 1 ≤ R.frames ∧ 24 + (maxL + 11) + rm.locals ≤ R.locals) : Back l R p e below s args y 3 24 (PreOf R mc ms Pc) (PostOf Qc mc ms free) :=
  back_of (bytes := bytes) (maxL := maxL) (ret := ret) hM hbl hrm.1 hrm.2.1 hrm.2.2.1 hrm.2.2.2 (pay_in hts (z_goodB h5)) List.mem_cons_self (fun a' U hW => word_at hW (z_big_good h4) (hts _ h4))
theorem z_len {y : MethodName} {n : Nat} (hd : y.cls ≠ "java/lang/invoke/MethodHandle" ∧ y.cls ≠ "java/lang/invoke/VarHandle" ∧ (parseMethodDescriptor y.desc).map (fun d => d.parameters.length) = some n) {As : List Value} (hn : As.length = n) : ∀ sig, parseMethodDescriptor y.desc = some sig → As.length = sig.parameters.length := by
  intro sig h
  have h2 := hd.2.2
  rw [h] at h2
  exact hn.trans (Option.some.inj h2).symm
theorem z_runV {y : MethodName} {bytes : ByteArray} {maxL mc ms n idx : Nat} {ret : Option FieldType} {rm : Room} {Pc : Array Value → State → Prop} {Qc : Array Value → State → Outcome → State → Prop} {free : Addr → Prop} {own C : String} {b : Addr} {As rest st : List Value} (hc : s_X p s m args c cc nL own)
    (hM : Met l y (z_wd y bytes maxL ret) rm Pc Qc mc ms free) (h1 : Cond.methodLink own idx y ∈ z_big) (h2 : Cond.instanceMethod y ∈ z_big) (h3 : Cond.selects C y y ∈ z_big) (h4 : Cond.initialized y.cls ∈ z_big) (h5 : Cond.code y bytes maxL ret ∈ z_big)
    (hd : y.cls ≠ "java/lang/invoke/MethodHandle" ∧ y.cls ≠ "java/lang/invoke/VarHandle" ∧ (parseMethodDescriptor y.desc).map (fun d => d.parameters.length) = some n) (hrm : rm.cells = mc ∧ rm.slots = ms ∧ rm.frames + 1 ≤ R.frames ∧ 24 + (maxL + 11) + rm.locals ≤ R.locals) (hp : PreV s H C b Pc As) (hn : As.length = n) (hl : ls.size = nL) (hst : st = As.reverse ++ .ref b :: rest) (hW : (rest.map fun v => v.category).sum ≤ 24) (hdg : decode cc pc = .ok (.invokevirtual idx, 3)) (hf : cells + mc ≤ R.cells ∧ slots + ms ≤ R.slots) :
    va_Run p l e R s m args below meth c H locs cells slots mc ms (F0 m pc ls st) rest (Qc (Value.ref b :: As).toArray) free := by
  have hK := z_back (p := p) (e := e) (below := below) (R := R) hc.2.2.2.1 hM hp.1 h4 h5 hrm
  obtain ⟨hx, hb, hml, hts, ho⟩ := hc
  obtain ⟨-, ⟨cellB, hcB, hoB, hclB⟩, hPc⟩ := hp
  intro T hT X
  obtain ⟨v, vm₁, ⟨U', l2, c2, s2⟩, hW₁, X', ⟨g', mk, t, L, e1, e2, hq, a1, hL, a2, a3⟩, gs⟩ := callV X hx (C := C) (bytes := bytes) (maxL := maxL) (ret := ret) ho (hts _ h1) (hts _ h2) (hts _ h3) (hts _ h5) ⟨hd.1, hd.2.1⟩ hK (by rw [hT]; exact hcB) hoB hclB (g := F0 m pc ls st) rfl (hl.trans hml.symm) (argsL := As) (rest := rest) (z_len hd hn) hst (z_room hW) (by rw [hb]; exact hdg)
    (fun vm₁ hW₁ => ⟨hf.1, hf.2, hPc (T.setVm vm₁) hT hW₁⟩)
  dsimp only [Pt.U, Pt.locs, Pt.cells, Pt.slots] at X' e1 e2 a1 a2 a3 gs
  subst a1; subst a2; subst a3
  exact ⟨v, (T.setVm vm₁).calling g' mk (Value.ref b :: As).toArray, t, U', L, hT, X', hL, e1, e2, hq, gs⟩
theorem z_runS {y : MethodName} {bytes : ByteArray} {maxL mc ms n idx : Nat} {ret : Option FieldType} {rm : Room} {Pc : Array Value → State → Prop} {Qc : Array Value → State → Outcome → State → Prop} {free : Addr → Prop} {own : String} {As rest st : List Value} (hc : s_X p s m args c cc nL own)
    (hM : Met l y (z_wd y bytes maxL ret) rm Pc Qc mc ms free) (h1 : Cond.methodLink own idx y ∈ z_big) (h2 : Cond.static y ∈ z_big) (h4 : Cond.initialized y.cls ∈ z_big) (h5 : Cond.code y bytes maxL ret ∈ z_big)
    (hd : y.cls ≠ "java/lang/invoke/MethodHandle" ∧ y.cls ≠ "java/lang/invoke/VarHandle" ∧ (parseMethodDescriptor y.desc).map (fun d => d.parameters.length) = some n) (hrm : rm.cells = mc ∧ rm.slots = ms ∧ rm.frames + 1 ≤ R.frames ∧ 24 + (maxL + 11) + rm.locals ≤ R.locals) (hp : PreS s H Pc As) (hn : As.length = n) (hl : ls.size = nL) (hst : st = As.reverse ++ rest) (hW : (rest.map fun v => v.category).sum ≤ 24) (hdg : decode cc pc = .ok (.invokestatic idx, 3)) (hf : cells + mc ≤ R.cells ∧ slots + ms ≤ R.slots) :
    va_Run p l e R s m args below meth c H locs cells slots mc ms (F0 m pc ls st) rest (Qc As.toArray) free := by
  have hK := z_back (p := p) (e := e) (below := below) (R := R) hc.2.2.2.1 hM hp.1 h4 h5 hrm
  obtain ⟨hx, hb, hml, hts, ho⟩ := hc
  intro T hT X
  obtain ⟨v, vm₁, ⟨U', l2, c2, s2⟩, hW₁, X', ⟨g', mk, t, L, e1, e2, hq, a1, hL, a2, a3⟩, gs⟩ := callS X hx (bytes := bytes) (maxL := maxL) (ret := ret) ho (hts _ h1) (hts _ h2) (hts _ h4) (hts _ h5) ⟨hd.1, hd.2.1⟩ hK (g := F0 m pc ls st) rfl (hl.trans hml.symm) (argsL := As) (rest := rest) (z_len hd hn) hst (z_room hW) (by rw [hb]; exact hdg)
    (fun vm₁ hW₁ => ⟨hf.1, hf.2, hp.2 (T.setVm vm₁) hT hW₁⟩)
  dsimp only [Pt.U, Pt.locs, Pt.cells, Pt.slots] at X' e1 e2 a1 a2 a3 gs
  subst a1; subst a2; subst a3
  exact ⟨v, (T.setVm vm₁).calling g' mk As.toArray, t, U', L, hT, X', hL, e1, e2, hq, gs⟩
end ZR
section ZM
variable {p : Program} {l : Launch} {e : Env} {R : Room} {s : State} {m : MethodId} {args : Array Value} {below : List Frame} {meth : Method} {c : Code} {H : Heap} {locs : List Loc} {cells slots : Nat} {Q : State → Prop} {cc : ByteArray} {nL pc : Nat} {ls : Array Slot} {rest : List Value} {D : va_G} {cI cJ : ClassId} {o : Nat} {M : MS}
theorem z_size {g : JFrame} (k : H.size ≤ s.heap.size + cells → W p l e R s m args below meth c H locs cells slots Q g) : W p l e R s m args below meth c H locs cells slots Q g := fun T hT X => k (by rw [← hT]; exact X.heapSize) T hT X
theorem m_get {k idx : Nat} {v : Value} (hc : m_X p s m args c cc nL D cI cJ) (hP : va_P D z_cls (m_W cI cJ o M) H) (hk : k < 35) (hw : Cond.fieldLink RX8 idx (TX8 k).1 (TX8 k).2.1 (TX8 k).2.2.1 ∈ z_big) (hv : (m_F o M)[k]? = some v) (hdg : decode cc pc = .ok (.getfield idx, 3)) (kk : W p l e R s m args below meth c H locs cells slots Q (F0 m (pc + 3) ls (v :: rest))) : W p l e R s m args below meth c H locs cells slots Q (F0 m pc ls (.ref o :: rest)) :=
  va_get (D := D) (ci := 8) (C := RX8) (T := TX8) (N := 35) hc.1 hc.2.1 hc.2.2.2.1 z_inX8 hc.2.2.2.2.1 hc.2.2.2.2.2 hP 0 rfl rfl k hk (hc.2.2.2.1 _ hw) (fun _ h => h) hv hdg kk
theorem m_put {k idx : Nat} {v : Value} {ty : FieldType} {M' : MS} (hc : m_X p s m args c cc nL D cI cJ) (hP : va_P D z_cls (m_W cI cJ o M) H) (hS : va_S (m_A o) s.heap H locs) (hk : k < 35) (hw : Cond.fieldLink RX8 idx (TX8 k).1 (TX8 k).2.1 (TX8 k).2.2.1 ∈ z_big) (hfin : (TX8 k).2.2.2 = false) (hd : parseFieldDescriptor (TX8 k).2.2.1 = some ty) (hn : narrow ty v = v) (hfit : fits ty v = true) (hset : (m_W cI cJ o M).set 0 (o, .inr (8, (m_F o M).set k v)) = m_W cI cJ o M') (hdg : decode cc pc = .ok (.putfield idx, 3))
    (kk : ∀ (H1 : Heap) (locs1 : List Loc), va_P D z_cls (m_W cI cJ o M') H1 → va_S (m_A o) s.heap H1 locs1 → W p l e R s m args below meth c H1 locs1 cells slots Q (F0 m (pc + 3) ls rest)) : W p l e R s m args below meth c H locs cells slots Q (F0 m pc ls (v :: .ref o :: rest)) :=
  va_put (D := D) (ci := 8) (C := RX8) (T := TX8) (N := 35) hc.1 hc.2.1 hc.2.2.2.1 z_inX8 tyX8 tyX8_ok nmX8 hc.2.2.2.2.1 hc.2.2.2.2.2 hP (m_D cI cJ o M) hS 0 rfl rfl k hk (hc.2.2.2.1 _ hw) (fun _ h => h) hfin hd hn hfit (by rw [m_Flen]; exact hk) hdg (fun H1 locs1 a _ d => kk H1 locs1 (by rw [← hset]; exact a) d)
theorem m_iald {k j n : Nat} {i : Int32} (hc : m_X p s m args c cc nL D cI cJ) (hP : va_P D z_cls (m_W cI cJ o M) H) (hj : (m_W cI cJ o M)[j]? = some (o + j, .inl (cI, n, .inl (M.1 k)))) (hin : vp_in i n) (hdg : decode cc pc = .ok (.iaload, 1)) (kk : W p l e R s m args below meth c H locs cells slots Q (F0 m (pc + 1) ls (.int (M.1 k i.toNatClampNeg) :: rest))) : W p l e R s m args below meth c H locs cells slots Q (F0 m pc ls (.int i :: .ref (o + j) :: rest)) :=
  va_iald (D := D) (tys := m_T cI cJ) hc.1 hc.2.1 hc.2.2.2.2.2 hP j 0 hj rfl hin hdg kk
theorem m_lald {k j n : Nat} {i : Int32} (hc : m_X p s m args c cc nL D cI cJ) (hP : va_P D z_cls (m_W cI cJ o M) H) (hj : (m_W cI cJ o M)[j]? = some (o + j, .inl (cJ, n, .inr (.inl (M.2 k))))) (hin : vp_in i n) (hdg : decode cc pc = .ok (.laload, 1)) (kk : W p l e R s m args below meth c H locs cells slots Q (F0 m (pc + 1) ls (.long (M.2 k i.toNatClampNeg) :: rest))) : W p l e R s m args below meth c H locs cells slots Q (F0 m pc ls (.int i :: .ref (o + j) :: rest)) :=
  va_lald (D := D) (tys := m_T cI cJ) hc.1 hc.2.1 hc.2.2.2.2.2 hP j 1 hj rfl hin hdg kk
theorem m_iast {k j n : Nat} {i x : Int32} {M' : MS} (hc : m_X p s m args c cc nL D cI cJ) (hP : va_P D z_cls (m_W cI cJ o M) H) (hS : va_S (m_A o) s.heap H locs) (hj : (m_W cI cJ o M)[j]? = some (o + j, .inl (cI, n, .inl (M.1 k)))) (hin : vp_in i n) (hset : (m_W cI cJ o M).set j (o + j, .inl (cI, n, .inl (upd (M.1 k) i.toNatClampNeg x))) = m_W cI cJ o M') (hdg : decode cc pc = .ok (.iastore, 1))
    (kk : ∀ (H1 : Heap) (locs1 : List Loc), va_P D z_cls (m_W cI cJ o M') H1 → va_S (m_A o) s.heap H1 locs1 → W p l e R s m args below meth c H1 locs1 cells slots Q (F0 m (pc + 1) ls rest)) : W p l e R s m args below meth c H locs cells slots Q (F0 m pc ls (.int x :: .int i :: .ref (o + j) :: rest)) :=
  va_iast (D := D) (tys := m_T cI cJ) hc.1 hc.2.1 hc.2.2.2.2.2 hP (m_D cI cJ o M) hS j 0 hj rfl hin hdg (fun H1 locs1 a _ d => kk H1 locs1 (by rw [← hset]; exact a) d)
theorem m_last {k j n : Nat} {i : Int32} {x : Int64} {M' : MS} (hc : m_X p s m args c cc nL D cI cJ) (hP : va_P D z_cls (m_W cI cJ o M) H) (hS : va_S (m_A o) s.heap H locs) (hj : (m_W cI cJ o M)[j]? = some (o + j, .inl (cJ, n, .inr (.inl (M.2 k))))) (hin : vp_in i n) (hset : (m_W cI cJ o M).set j (o + j, .inl (cJ, n, .inr (.inl (vp_updL (M.2 k) i.toNatClampNeg x)))) = m_W cI cJ o M') (hdg : decode cc pc = .ok (.lastore, 1))
    (kk : ∀ (H1 : Heap) (locs1 : List Loc), va_P D z_cls (m_W cI cJ o M') H1 → va_S (m_A o) s.heap H1 locs1 → W p l e R s m args below meth c H1 locs1 cells slots Q (F0 m (pc + 1) ls rest)) : W p l e R s m args below meth c H locs cells slots Q (F0 m pc ls (.long x :: .int i :: .ref (o + j) :: rest)) :=
  va_last (D := D) (tys := m_T cI cJ) hc.1 hc.2.1 hc.2.2.2.2.2 hP (m_D cI cJ o M) hS j 1 hj rfl hin hdg (fun H1 locs1 a _ d => kk H1 locs1 (by rw [← hset]; exact a) d)
theorem m_reti {r : Int32} {sz : Nat} (hc : m_X p s m args c cc nL D cI cJ) (hr : meth.sig.returnType = some .int) (hlocks : meth.locks = false) (hP : va_P D z_cls (m_W cI cJ o M) H) (hS : va_S (m_A o) s.heap H locs) (hz : s.heap.size = sz) (hdg : decode cc pc = .ok (.ireturn, 1)) : W p l e R s m args below meth c H locs 0 0 (MQ below (va_Qi (fun (r1 : Int32) (M1 : MS) => r1 = r ∧ M1 = M) (m_C D cI cJ o sz) (m_A o)) args s 0 0 (m_A o)) (F0 m pc ls [.int r]) :=
  z_size fun hsz => W.iret (v := r) hc.1 hc.2.1 hr (fun t ht hW => ⟨⟨r, M, rfl, ⟨rfl, rfl⟩, by rw [ht, ← hz]; exact Nat.le_antisymm hsz hS.1, by rw [ht]; exact hP, va_K.moved hW.alike hc.2.2.2.2.2⟩, hS.F ht⟩) hS.2.2 hdg hlocks
theorem m_retz {r : Int32} {sz : Nat} (hc : m_X p s m args c cc nL D cI cJ) (hr : meth.sig.returnType = some .boolean) (hlocks : meth.locks = false) (hn : r = 0 ∨ r = 1) (hP : va_P D z_cls (m_W cI cJ o M) H) (hS : va_S (m_A o) s.heap H locs) (hz : s.heap.size = sz) (hdg : decode cc pc = .ok (.ireturn, 1)) : W p l e R s m args below meth c H locs 0 0 (MQ below (va_Qi (fun (r1 : Int32) (M1 : MS) => r1 = r ∧ M1 = M) (m_C D cI cJ o sz) (m_A o)) args s 0 0 (m_A o)) (F0 m pc ls [.int r]) :=
  z_size fun hsz => W.zret (v := r) (ty := .boolean) hc.1 hc.2.1 hr (by rcases hn with rfl | rfl <;> rfl) (fun t ht hW => ⟨⟨r, M, rfl, ⟨rfl, rfl⟩, by rw [ht, ← hz]; exact Nat.le_antisymm hsz hS.1, by rw [ht]; exact hP, va_K.moved hW.alike hc.2.2.2.2.2⟩, hS.F ht⟩) hS.2.2 hdg hlocks
theorem m_retl {r : Int64} {sz : Nat} (hc : m_X p s m args c cc nL D cI cJ) (hr : meth.sig.returnType = some .long) (hlocks : meth.locks = false) (hP : va_P D z_cls (m_W cI cJ o M) H) (hS : va_S (m_A o) s.heap H locs) (hz : s.heap.size = sz) (hdg : decode cc pc = .ok (.lreturn, 1)) : W p l e R s m args below meth c H locs 0 0 (MQ below (va_Ql (fun (r1 : Int64) (M1 : MS) => r1 = r ∧ M1 = M) (m_C D cI cJ o sz) (m_A o)) args s 0 0 (m_A o)) (F0 m pc ls [.long r]) :=
  z_size fun hsz => W.lret (v := r) hc.1 hc.2.1 hr (fun t ht hW => ⟨⟨r, M, rfl, ⟨rfl, rfl⟩, by rw [ht, ← hz]; exact Nat.le_antisymm hsz hS.1, by rw [ht]; exact hP, va_K.moved hW.alike hc.2.2.2.2.2⟩, hS.F ht⟩) hS.2.2 hdg hlocks
theorem m_retv {sz : Nat} (hc : m_X p s m args c cc nL D cI cJ) (hr : meth.sig.returnType = none) (hlocks : meth.locks = false) (hP : va_P D z_cls (m_W cI cJ o M) H) (hS : va_S (m_A o) s.heap H locs) (hz : s.heap.size = sz) (hdg : decode cc pc = .ok (.return_, 1)) : W p l e R s m args below meth c H locs 0 0 (MQ below (va_Qv (fun (M1 : MS) => M1 = M) (m_C D cI cJ o sz) (m_A o)) args s 0 0 (m_A o)) (F0 m pc ls []) :=
  z_size fun hsz => W.vret hc.1 hc.2.1 hr (fun t ht hW => ⟨⟨M, rfl, rfl, by rw [ht, ← hz]; exact Nat.le_antisymm hsz hS.1, by rw [ht]; exact hP, va_K.moved hW.alike hc.2.2.2.2.2⟩, hS.F ht⟩) hS.2.2 hdg hlocks
theorem m_run {y : MethodName} {bytes : ByteArray} {maxL n idx : Nat} {ret : Option FieldType} {rm : Room} {Qc : Array Value → State → Outcome → State → Prop} {As st : List Value} (hc : m_X p s m args c cc nL D cI cJ) (hP : va_P D z_cls (m_W cI cJ o M) H)
    (hM : Met l y (z_wd y bytes maxL ret) rm (va_Pc (.ref o :: As) (m_C D cI cJ o H.size M)) Qc 0 0 (m_A o)) (h1 : Cond.methodLink RX8 idx y ∈ z_big) (h2 : Cond.instanceMethod y ∈ z_big) (h3 : Cond.selects RX8 y y ∈ z_big) (h4 : Cond.initialized y.cls ∈ z_big) (h5 : Cond.code y bytes maxL ret ∈ z_big)
    (hd : y.cls ≠ "java/lang/invoke/MethodHandle" ∧ y.cls ≠ "java/lang/invoke/VarHandle" ∧ (parseMethodDescriptor y.desc).map (fun d => d.parameters.length) = some n) (hrm : rm.cells = 0 ∧ rm.slots = 0 ∧ rm.frames + 1 ≤ R.frames ∧ 24 + (maxL + 11) + rm.locals ≤ R.locals) (hn : As.length = n) (hl : ls.size = nL) (hst : st = As.reverse ++ .ref o :: rest) (hW : (rest.map fun v => v.category).sum ≤ 24) (hdg : decode cc pc = .ok (.invokevirtual idx, 3)) (hcs : cells ≤ R.cells ∧ slots ≤ R.slots) :
    va_Run p l e R s m args below meth c H locs cells slots 0 0 (F0 m pc ls st) rest (Qc (Value.ref o :: As).toArray) (m_A o) :=
  z_runV hc.s hM h1 h2 h3 h4 h5 hd hrm ⟨m_C.blind, va_recv hc.2.2.2.2.2 hP (ci := 8) (q0 := 0) rfl rfl, fun U hU hW => ⟨rfl, by rw [hU], by rw [hU]; exact hP, va_K.moved hW.alike hc.2.2.2.2.2⟩⟩ hn hl hst hW hdg ⟨hcs.1, hcs.2⟩
theorem m_calli {y : MethodName} {bytes : ByteArray} {maxL n idx : Nat} {ret : Option FieldType} {rm : Room} {As st : List Value} {r : Int32} {M' : MS} (hc : m_X p s m args c cc nL D cI cJ) (hP : va_P D z_cls (m_W cI cJ o M) H) (hS : va_S (m_A o) s.heap H locs)
    (hM : Met l y (z_wd y bytes maxL ret) rm (va_Pc (.ref o :: As) (m_C D cI cJ o H.size M)) (va_Qi (fun (r1 : Int32) (M1 : MS) => r1 = r ∧ M1 = M') (m_C D cI cJ o H.size) (m_A o)) 0 0 (m_A o)) (h1 : Cond.methodLink RX8 idx y ∈ z_big) (h2 : Cond.instanceMethod y ∈ z_big) (h3 : Cond.selects RX8 y y ∈ z_big) (h4 : Cond.initialized y.cls ∈ z_big) (h5 : Cond.code y bytes maxL ret ∈ z_big)
    (hd : y.cls ≠ "java/lang/invoke/MethodHandle" ∧ y.cls ≠ "java/lang/invoke/VarHandle" ∧ (parseMethodDescriptor y.desc).map (fun d => d.parameters.length) = some n) (hrm : rm.cells = 0 ∧ rm.slots = 0 ∧ rm.frames + 1 ≤ R.frames ∧ 24 + (maxL + 11) + rm.locals ≤ R.locals) (hn : As.length = n) (hl : ls.size = nL) (hst : st = As.reverse ++ .ref o :: rest) (hW : (rest.map fun v => v.category).sum ≤ 24) (hdg : decode cc pc = .ok (.invokevirtual idx, 3)) (hcs : cells ≤ R.cells ∧ slots ≤ R.slots)
    (kk : ∀ (H1 : Heap) (locs1 : List Loc), va_P D z_cls (m_W cI cJ o M') H1 → va_S (m_A o) s.heap H1 locs1 → W p l e R s m args below meth c H1 locs1 cells slots Q (F0 m (pc + 3) ls (.int r :: rest))) : W p l e R s m args below meth c H locs cells slots Q (F0 m pc ls st) := by
  refine va_calli (m_run hc hP hM h1 h2 h3 h4 h5 hd hrm hn hl hst hW hdg hcs) hS (fun q _ h => h) (fun q h => h) (fun r1 M1 t H1 locs1 ht hvm hp hB hz1 hk1 hS1 => ?_)
  obtain ⟨rfl, rfl⟩ := hp
  obtain ⟨-, hP1, -⟩ := hB
  rw [ht] at hP1
  exact kk H1 locs1 hP1 hS1
theorem m_calll {y : MethodName} {bytes : ByteArray} {maxL n idx : Nat} {ret : Option FieldType} {rm : Room} {As st : List Value} {r : Int64} {M' : MS} (hc : m_X p s m args c cc nL D cI cJ) (hP : va_P D z_cls (m_W cI cJ o M) H) (hS : va_S (m_A o) s.heap H locs)
    (hM : Met l y (z_wd y bytes maxL ret) rm (va_Pc (.ref o :: As) (m_C D cI cJ o H.size M)) (va_Ql (fun (r1 : Int64) (M1 : MS) => r1 = r ∧ M1 = M') (m_C D cI cJ o H.size) (m_A o)) 0 0 (m_A o)) (h1 : Cond.methodLink RX8 idx y ∈ z_big) (h2 : Cond.instanceMethod y ∈ z_big) (h3 : Cond.selects RX8 y y ∈ z_big) (h4 : Cond.initialized y.cls ∈ z_big) (h5 : Cond.code y bytes maxL ret ∈ z_big)
    (hd : y.cls ≠ "java/lang/invoke/MethodHandle" ∧ y.cls ≠ "java/lang/invoke/VarHandle" ∧ (parseMethodDescriptor y.desc).map (fun d => d.parameters.length) = some n) (hrm : rm.cells = 0 ∧ rm.slots = 0 ∧ rm.frames + 1 ≤ R.frames ∧ 24 + (maxL + 11) + rm.locals ≤ R.locals) (hn : As.length = n) (hl : ls.size = nL) (hst : st = As.reverse ++ .ref o :: rest) (hW : (rest.map fun v => v.category).sum ≤ 24) (hdg : decode cc pc = .ok (.invokevirtual idx, 3)) (hcs : cells ≤ R.cells ∧ slots ≤ R.slots)
    (kk : ∀ (H1 : Heap) (locs1 : List Loc), va_P D z_cls (m_W cI cJ o M') H1 → va_S (m_A o) s.heap H1 locs1 → W p l e R s m args below meth c H1 locs1 cells slots Q (F0 m (pc + 3) ls (.long r :: rest))) : W p l e R s m args below meth c H locs cells slots Q (F0 m pc ls st) := by
  refine va_calll (m_run hc hP hM h1 h2 h3 h4 h5 hd hrm hn hl hst hW hdg hcs) hS (fun q _ h => h) (fun q h => h) (fun r1 M1 t H1 locs1 ht hvm hp hB hz1 hk1 hS1 => ?_)
  obtain ⟨rfl, rfl⟩ := hp
  obtain ⟨-, hP1, -⟩ := hB
  rw [ht] at hP1
  exact kk H1 locs1 hP1 hS1
theorem m_callv {y : MethodName} {bytes : ByteArray} {maxL n idx : Nat} {ret : Option FieldType} {rm : Room} {As st : List Value} {M' : MS} (hc : m_X p s m args c cc nL D cI cJ) (hP : va_P D z_cls (m_W cI cJ o M) H) (hS : va_S (m_A o) s.heap H locs)
    (hM : Met l y (z_wd y bytes maxL ret) rm (va_Pc (.ref o :: As) (m_C D cI cJ o H.size M)) (va_Qv (fun (M1 : MS) => M1 = M') (m_C D cI cJ o H.size) (m_A o)) 0 0 (m_A o)) (h1 : Cond.methodLink RX8 idx y ∈ z_big) (h2 : Cond.instanceMethod y ∈ z_big) (h3 : Cond.selects RX8 y y ∈ z_big) (h4 : Cond.initialized y.cls ∈ z_big) (h5 : Cond.code y bytes maxL ret ∈ z_big)
    (hd : y.cls ≠ "java/lang/invoke/MethodHandle" ∧ y.cls ≠ "java/lang/invoke/VarHandle" ∧ (parseMethodDescriptor y.desc).map (fun d => d.parameters.length) = some n) (hrm : rm.cells = 0 ∧ rm.slots = 0 ∧ rm.frames + 1 ≤ R.frames ∧ 24 + (maxL + 11) + rm.locals ≤ R.locals) (hn : As.length = n) (hl : ls.size = nL) (hst : st = As.reverse ++ .ref o :: rest) (hW : (rest.map fun v => v.category).sum ≤ 24) (hdg : decode cc pc = .ok (.invokevirtual idx, 3)) (hcs : cells ≤ R.cells ∧ slots ≤ R.slots)
    (kk : ∀ (H1 : Heap) (locs1 : List Loc), va_P D z_cls (m_W cI cJ o M') H1 → va_S (m_A o) s.heap H1 locs1 → W p l e R s m args below meth c H1 locs1 cells slots Q (F0 m (pc + 3) ls rest)) : W p l e R s m args below meth c H locs cells slots Q (F0 m pc ls st) := by
  refine va_callv (m_run hc hP hM h1 h2 h3 h4 h5 hd hrm hn hl hst hW hdg hcs) hS (fun q _ h => h) (fun q h => h) (fun M1 t H1 locs1 ht hvm hp hB hz1 hk1 hS1 => ?_)
  obtain rfl := hp
  obtain ⟨-, hP1, -⟩ := hB
  rw [ht] at hP1
  exact kk H1 locs1 hP1 hS1
/-! static methods of numbers alone: the heap stays -/
theorem s_reti {r : Int32} {own : String} (hc : s_X p s m args c cc nL own) (hr : meth.sig.returnType = some .int) (hlocks : meth.locks = false) (hdg : decode cc pc = .ok (.ireturn, 1)) : W p l e R s m args below meth c s.heap [] 0 0 (MQ below (vp_Si (fun r1 : Int32 => r1 = r)) args s 0 0 (fun _ => False)) (F0 m pc ls [.int r]) :=
  W.iret (v := r) hc.1 hc.2.1 hr (fun t ht _ => ⟨r, rfl, rfl, ht⟩) (fun _ h => by cases h) hdg hlocks
theorem s_retz {r : Int32} {own : String} (hc : s_X p s m args c cc nL own) (hr : meth.sig.returnType = some .boolean) (hlocks : meth.locks = false) (hn : r = 0 ∨ r = 1) (hdg : decode cc pc = .ok (.ireturn, 1)) : W p l e R s m args below meth c s.heap [] 0 0 (MQ below (vp_Si (fun r1 : Int32 => r1 = r)) args s 0 0 (fun _ => False)) (F0 m pc ls [.int r]) :=
  W.zret (v := r) (ty := .boolean) hc.1 hc.2.1 hr (by rcases hn with rfl | rfl <;> rfl) (fun t ht _ => ⟨r, rfl, rfl, ht⟩) (fun _ h => by cases h) hdg hlocks
theorem s_retl {r : Int64} {own : String} (hc : s_X p s m args c cc nL own) (hr : meth.sig.returnType = some .long) (hlocks : meth.locks = false) (hdg : decode cc pc = .ok (.lreturn, 1)) : W p l e R s m args below meth c s.heap [] 0 0 (MQ below (vp_Sl (fun r1 : Int64 => r1 = r)) args s 0 0 (fun _ => False)) (F0 m pc ls [.long r]) :=
  W.lret (v := r) hc.1 hc.2.1 hr (fun t ht _ => ⟨r, rfl, rfl, ht⟩) (fun _ h => by cases h) hdg hlocks
theorem s_run {y : MethodName} {bytes : ByteArray} {maxL n idx : Nat} {ret : Option FieldType} {rm : Room} {Qc : Array Value → State → Outcome → State → Prop} {As st : List Value} {own : String} (hc : s_X p s m args c cc nL own)
    (hM : Met l y (z_wd y bytes maxL ret) rm (va_Pc As (fun _ => True)) Qc 0 0 (fun _ => False)) (h1 : Cond.methodLink own idx y ∈ z_big) (h2 : Cond.static y ∈ z_big) (h4 : Cond.initialized y.cls ∈ z_big) (h5 : Cond.code y bytes maxL ret ∈ z_big)
    (hd : y.cls ≠ "java/lang/invoke/MethodHandle" ∧ y.cls ≠ "java/lang/invoke/VarHandle" ∧ (parseMethodDescriptor y.desc).map (fun d => d.parameters.length) = some n) (hrm : rm.cells = 0 ∧ rm.slots = 0 ∧ rm.frames + 1 ≤ R.frames ∧ 24 + (maxL + 11) + rm.locals ≤ R.locals) (hn : As.length = n) (hl : ls.size = nL) (hst : st = As.reverse ++ rest) (hW : (rest.map fun v => v.category).sum ≤ 24) (hdg : decode cc pc = .ok (.invokestatic idx, 3)) (hcs : cells ≤ R.cells ∧ slots ≤ R.slots) :
    va_Run p l e R s m args below meth c H locs cells slots 0 0 (F0 m pc ls st) rest (Qc As.toArray) (fun _ => False) :=
  z_runS hc hM h1 h2 h4 h5 hd hrm ⟨fun a U g mk q => ⟨q.1, trivial⟩, fun U hU hW => ⟨rfl, trivial⟩⟩ hn hl hst hW hdg ⟨hcs.1, hcs.2⟩
theorem s_calli {y : MethodName} {bytes : ByteArray} {maxL n idx : Nat} {ret : Option FieldType} {rm : Room} {As st : List Value} {own : String} {r : Int32} (hc : s_X p s m args c cc nL own)
    (hM : Met l y (z_wd y bytes maxL ret) rm (va_Pc As (fun _ => True)) (vp_Si (fun r1 : Int32 => r1 = r)) 0 0 (fun _ => False)) (h1 : Cond.methodLink own idx y ∈ z_big) (h2 : Cond.static y ∈ z_big) (h4 : Cond.initialized y.cls ∈ z_big) (h5 : Cond.code y bytes maxL ret ∈ z_big)
    (hd : y.cls ≠ "java/lang/invoke/MethodHandle" ∧ y.cls ≠ "java/lang/invoke/VarHandle" ∧ (parseMethodDescriptor y.desc).map (fun d => d.parameters.length) = some n) (hrm : rm.cells = 0 ∧ rm.slots = 0 ∧ rm.frames + 1 ≤ R.frames ∧ 24 + (maxL + 11) + rm.locals ≤ R.locals) (hn : As.length = n) (hl : ls.size = nL) (hst : st = As.reverse ++ rest) (hW : (rest.map fun v => v.category).sum ≤ 24) (hdg : decode cc pc = .ok (.invokestatic idx, 3)) (hcs : cells ≤ R.cells ∧ slots ≤ R.slots)
    (kk : W p l e R s m args below meth c H locs cells slots Q (F0 m (pc + 3) ls (.int r :: rest))) : W p l e R s m args below meth c H locs cells slots Q (F0 m pc ls st) := by
  have hr := s_run (H := H) (locs := locs) (cells := cells) (slots := slots) (e := e) (below := below) (meth := meth) hc hM h1 h2 h4 h5 hd hrm hn hl hst hW hdg hcs
  intro T hT X
  obtain ⟨v, st₀, t, T', L, h0, X', hL, e1, e2, ⟨r1, hv, hp, hh⟩, gs⟩ := hr T hT X
  cases hv
  subst hp
  have hL0 : L = [] := List.eq_nil_iff_forall_not_mem.mpr (fun q hq => hL q hq)
  subst hL0
  rw [List.append_nil] at X'
  obtain ⟨t2, a1, b1⟩ := kk T' (by rw [e1, hh, h0]) X'
  exact ⟨t2, gs t2 a1, b1⟩
theorem s_calll {y : MethodName} {bytes : ByteArray} {maxL n idx : Nat} {ret : Option FieldType} {rm : Room} {As st : List Value} {own : String} {r : Int64} (hc : s_X p s m args c cc nL own)
    (hM : Met l y (z_wd y bytes maxL ret) rm (va_Pc As (fun _ => True)) (vp_Sl (fun r1 : Int64 => r1 = r)) 0 0 (fun _ => False)) (h1 : Cond.methodLink own idx y ∈ z_big) (h2 : Cond.static y ∈ z_big) (h4 : Cond.initialized y.cls ∈ z_big) (h5 : Cond.code y bytes maxL ret ∈ z_big)
    (hd : y.cls ≠ "java/lang/invoke/MethodHandle" ∧ y.cls ≠ "java/lang/invoke/VarHandle" ∧ (parseMethodDescriptor y.desc).map (fun d => d.parameters.length) = some n) (hrm : rm.cells = 0 ∧ rm.slots = 0 ∧ rm.frames + 1 ≤ R.frames ∧ 24 + (maxL + 11) + rm.locals ≤ R.locals) (hn : As.length = n) (hl : ls.size = nL) (hst : st = As.reverse ++ rest) (hW : (rest.map fun v => v.category).sum ≤ 24) (hdg : decode cc pc = .ok (.invokestatic idx, 3)) (hcs : cells ≤ R.cells ∧ slots ≤ R.slots)
    (kk : W p l e R s m args below meth c H locs cells slots Q (F0 m (pc + 3) ls (.long r :: rest))) : W p l e R s m args below meth c H locs cells slots Q (F0 m pc ls st) := by
  have hr := s_run (H := H) (locs := locs) (cells := cells) (slots := slots) (e := e) (below := below) (meth := meth) hc hM h1 h2 h4 h5 hd hrm hn hl hst hW hdg hcs
  intro T hT X
  obtain ⟨v, st₀, t, T', L, h0, X', hL, e1, e2, ⟨r1, hv, hp, hh⟩, gs⟩ := hr T hT X
  cases hv
  subst hp
  have hL0 : L = [] := List.eq_nil_iff_forall_not_mem.mpr (fun q hq => hL q hq)
  subst hL0
  rw [List.append_nil] at X'
  obtain ⟨t2, a1, b1⟩ := kk T' (by rw [e1, hh, h0]) X'
  exact ⟨t2, gs t2 a1, b1⟩
end ZM

