theorem z_out_0_2 {x : Int32} (h0 : ¬ x = 0) (h1 : ¬ x = 1) (h2 : ¬ x = 2) : x.toInt < 0 ∨ 2 < x.toInt := by
  have g0 : x.toInt ≠ 0 := fun q => h0 (Int32.toInt_inj.mp q)
  have g1 : x.toInt ≠ 1 := fun q => h1 (Int32.toInt_inj.mp q)
  have g2 : x.toInt ≠ 2 := fun q => h2 (Int32.toInt_inj.mp q)
  omega
theorem z_out_0_6 {x : Int32} (h0 : ¬ x = 0) (h1 : ¬ x = 1) (h2 : ¬ x = 2) (h3 : ¬ x = 3) (h4 : ¬ x = 4) (h5 : ¬ x = 5) (h6 : ¬ x = 6) : x.toInt < 0 ∨ 6 < x.toInt := by
  have g0 : x.toInt ≠ 0 := fun q => h0 (Int32.toInt_inj.mp q)
  have g1 : x.toInt ≠ 1 := fun q => h1 (Int32.toInt_inj.mp q)
  have g2 : x.toInt ≠ 2 := fun q => h2 (Int32.toInt_inj.mp q)
  have g3 : x.toInt ≠ 3 := fun q => h3 (Int32.toInt_inj.mp q)
  have g4 : x.toInt ≠ 4 := fun q => h4 (Int32.toInt_inj.mp q)
  have g5 : x.toInt ≠ 5 := fun q => h5 (Int32.toInt_inj.mp q)
  have g6 : x.toInt ≠ 6 := fun q => h6 (Int32.toInt_inj.mp q)
  omega
theorem z_out_10_51 {x : Int32} (h10 : ¬ x = 10) (h11 : ¬ x = 11) (h12 : ¬ x = 12) (h13 : ¬ x = 13) (h14 : ¬ x = 14) (h15 : ¬ x = 15) (h16 : ¬ x = 16) (h17 : ¬ x = 17) (h18 : ¬ x = 18) (h19 : ¬ x = 19) (h20 : ¬ x = 20) (h21 : ¬ x = 21) (h22 : ¬ x = 22) (h23 : ¬ x = 23) (h24 : ¬ x = 24) (h25 : ¬ x = 25) (h26 : ¬ x = 26) (h27 : ¬ x = 27) (h28 : ¬ x = 28) (h29 : ¬ x = 29) (h30 : ¬ x = 30) (h31 : ¬ x = 31) (h32 : ¬ x = 32) (h33 : ¬ x = 33) (h34 : ¬ x = 34) (h35 : ¬ x = 35) (h36 : ¬ x = 36) (h37 : ¬ x = 37) (h38 : ¬ x = 38) (h39 : ¬ x = 39) (h40 : ¬ x = 40) (h41 : ¬ x = 41) (h42 : ¬ x = 42) (h43 : ¬ x = 43) (h44 : ¬ x = 44) (h45 : ¬ x = 45) (h46 : ¬ x = 46) (h47 : ¬ x = 47) (h48 : ¬ x = 48) (h49 : ¬ x = 49) (h50 : ¬ x = 50) (h51 : ¬ x = 51) : x.toInt < 10 ∨ 51 < x.toInt := by
  have g10 : x.toInt ≠ 10 := fun q => h10 (Int32.toInt_inj.mp q)
  have g11 : x.toInt ≠ 11 := fun q => h11 (Int32.toInt_inj.mp q)
  have g12 : x.toInt ≠ 12 := fun q => h12 (Int32.toInt_inj.mp q)
  have g13 : x.toInt ≠ 13 := fun q => h13 (Int32.toInt_inj.mp q)
  have g14 : x.toInt ≠ 14 := fun q => h14 (Int32.toInt_inj.mp q)
  have g15 : x.toInt ≠ 15 := fun q => h15 (Int32.toInt_inj.mp q)
  have g16 : x.toInt ≠ 16 := fun q => h16 (Int32.toInt_inj.mp q)
  have g17 : x.toInt ≠ 17 := fun q => h17 (Int32.toInt_inj.mp q)
  have g18 : x.toInt ≠ 18 := fun q => h18 (Int32.toInt_inj.mp q)
  have g19 : x.toInt ≠ 19 := fun q => h19 (Int32.toInt_inj.mp q)
  have g20 : x.toInt ≠ 20 := fun q => h20 (Int32.toInt_inj.mp q)
  have g21 : x.toInt ≠ 21 := fun q => h21 (Int32.toInt_inj.mp q)
  have g22 : x.toInt ≠ 22 := fun q => h22 (Int32.toInt_inj.mp q)
  have g23 : x.toInt ≠ 23 := fun q => h23 (Int32.toInt_inj.mp q)
  have g24 : x.toInt ≠ 24 := fun q => h24 (Int32.toInt_inj.mp q)
  have g25 : x.toInt ≠ 25 := fun q => h25 (Int32.toInt_inj.mp q)
  have g26 : x.toInt ≠ 26 := fun q => h26 (Int32.toInt_inj.mp q)
  have g27 : x.toInt ≠ 27 := fun q => h27 (Int32.toInt_inj.mp q)
  have g28 : x.toInt ≠ 28 := fun q => h28 (Int32.toInt_inj.mp q)
  have g29 : x.toInt ≠ 29 := fun q => h29 (Int32.toInt_inj.mp q)
  have g30 : x.toInt ≠ 30 := fun q => h30 (Int32.toInt_inj.mp q)
  have g31 : x.toInt ≠ 31 := fun q => h31 (Int32.toInt_inj.mp q)
  have g32 : x.toInt ≠ 32 := fun q => h32 (Int32.toInt_inj.mp q)
  have g33 : x.toInt ≠ 33 := fun q => h33 (Int32.toInt_inj.mp q)
  have g34 : x.toInt ≠ 34 := fun q => h34 (Int32.toInt_inj.mp q)
  have g35 : x.toInt ≠ 35 := fun q => h35 (Int32.toInt_inj.mp q)
  have g36 : x.toInt ≠ 36 := fun q => h36 (Int32.toInt_inj.mp q)
  have g37 : x.toInt ≠ 37 := fun q => h37 (Int32.toInt_inj.mp q)
  have g38 : x.toInt ≠ 38 := fun q => h38 (Int32.toInt_inj.mp q)
  have g39 : x.toInt ≠ 39 := fun q => h39 (Int32.toInt_inj.mp q)
  have g40 : x.toInt ≠ 40 := fun q => h40 (Int32.toInt_inj.mp q)
  have g41 : x.toInt ≠ 41 := fun q => h41 (Int32.toInt_inj.mp q)
  have g42 : x.toInt ≠ 42 := fun q => h42 (Int32.toInt_inj.mp q)
  have g43 : x.toInt ≠ 43 := fun q => h43 (Int32.toInt_inj.mp q)
  have g44 : x.toInt ≠ 44 := fun q => h44 (Int32.toInt_inj.mp q)
  have g45 : x.toInt ≠ 45 := fun q => h45 (Int32.toInt_inj.mp q)
  have g46 : x.toInt ≠ 46 := fun q => h46 (Int32.toInt_inj.mp q)
  have g47 : x.toInt ≠ 47 := fun q => h47 (Int32.toInt_inj.mp q)
  have g48 : x.toInt ≠ 48 := fun q => h48 (Int32.toInt_inj.mp q)
  have g49 : x.toInt ≠ 49 := fun q => h49 (Int32.toInt_inj.mp q)
  have g50 : x.toInt ≠ 50 := fun q => h50 (Int32.toInt_inj.mp q)
  have g51 : x.toInt ≠ 51 := fun q => h51 (Int32.toInt_inj.mp q)
  omega
theorem z_ofWF {l : Launch} {y : MethodName} {ws ws' : List Cond} {rm : Room} {Pc : Array Value → State → Prop} {Qc : Array Value → State → Outcome → State → Prop} {mc ms : Nat} {free : Addr → Prop} {cc : ByteArray} {maxL : Nat} {ret : Option FieldType}
    (hy : plainFor y = true) (hw : ws = Cond.code y cc maxL ret :: ws')
    (body : ∀ p e s m args below meth c s₁, BodyLoose p l y (headSpec ws rm) cc maxL ret e s m args below meth c s₁ → c.maxLocals = maxL → Pc args s →
      W p l e (headSpec ws rm).room s m args below meth c s.heap [] 0 0 (MQ below Qc args s mc ms free) (entryFrame m args maxL)) : Met l y ws rm Pc Qc mc ms free := by
  refine MetFree.of_bodySF (code := cc) (maxLocals := maxL) (ret := ret) hy ?_ ?_
  · intro args s m h hn
    obtain ⟨meth, c, h1, h2, h3, h4, h5, h6, -, -⟩ := Cond.code_spec hn (atoms_spec (ws := ws) h _ (by rw [hw]; exact List.mem_cons_self))
    exact ⟨meth, c, h1, h2, h3, h4, h5, h6⟩
  · intro p e s m args below meth c s₁ B hml hP _
    have hh0 : s₁.heap = s.heap := by rw [B.state]; rfl
    obtain ⟨t, a1, o, b1, b2, b3⟩ := body p e s m args below meth c s₁ B hml hP s₁ hh0 (Stand.of_body B)
    exact ⟨t, o, a1, b1, b2, ⟨b3.1, b3.2⟩⟩
