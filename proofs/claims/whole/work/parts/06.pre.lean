abbrev z_in (i : Int32) (n : Nat) : Prop := ¬ (i < 0 ∨ n ≤ i.toNatClampNeg)
theorem z_ip_ {α : Type} {p : Prop} [Decidable p] {a b r : α} (hp : p) (h : (if p then a else b) = r) : a = r := by rw [if_pos hp] at h; exact h
theorem z_in_ {α : Type} {p : Prop} [Decidable p] {a b r : α} (hp : ¬ p) (h : (if p then a else b) = r) : b = r := by rw [if_neg hp] at h; exact h
theorem z_out_0_4 {x : Int32} (h0 : ¬ x = 0) (h1 : ¬ x = 1) (h2 : ¬ x = 2) (h3 : ¬ x = 3) (h4 : ¬ x = 4) : x.toInt < 0 ∨ 4 < x.toInt := by
  have g0 : x.toInt ≠ 0 := fun q => h0 (Int32.toInt_inj.mp q)
  have g1 : x.toInt ≠ 1 := fun q => h1 (Int32.toInt_inj.mp q)
  have g2 : x.toInt ≠ 2 := fun q => h2 (Int32.toInt_inj.mp q)
  have g3 : x.toInt ≠ 3 := fun q => h3 (Int32.toInt_inj.mp q)
  have g4 : x.toInt ≠ 4 := fun q => h4 (Int32.toInt_inj.mp q)
  omega
theorem z_out_0_5 {x : Int32} (h0 : ¬ x = 0) (h1 : ¬ x = 1) (h2 : ¬ x = 2) (h3 : ¬ x = 3) (h4 : ¬ x = 4) (h5 : ¬ x = 5) : x.toInt < 0 ∨ 5 < x.toInt := by
  have g0 : x.toInt ≠ 0 := fun q => h0 (Int32.toInt_inj.mp q)
  have g1 : x.toInt ≠ 1 := fun q => h1 (Int32.toInt_inj.mp q)
  have g2 : x.toInt ≠ 2 := fun q => h2 (Int32.toInt_inj.mp q)
  have g3 : x.toInt ≠ 3 := fun q => h3 (Int32.toInt_inj.mp q)
  have g4 : x.toInt ≠ 4 := fun q => h4 (Int32.toInt_inj.mp q)
  have g5 : x.toInt ≠ 5 := fun q => h5 (Int32.toInt_inj.mp q)
  omega
