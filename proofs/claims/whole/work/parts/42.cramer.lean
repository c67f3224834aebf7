/-! the polynomial of turns in whole numbers over one line -/
def Sol (m : Nat) (t H : Nat → Int) (D N0 N1 N2 : Int) : Prop := 0 < D ∧ (∀ i, i < m → N0 + N1 * t i + N2 * (t i * t i) = H i) ∧ (m < 3 → N2 = 0) ∧ (m < 2 → N1 = 0) ∧ (m = 0 → N0 = 0)
def d12 (a b c u v w : Int) : Int := (b - a) * (w - u) - (c - a) * (v - u)
def d02 (a b c u v w : Int) : Int := (v - u) * (c * c - a * a) - (w - u) * (b * b - a * a)
def d01 (a b c u v w : Int) : Int := u * (b * (c * c) - c * (b * b)) - v * (a * (c * c) - c * (a * a)) + w * (a * (b * b) - b * (a * a))
def vd (a b c : Int) : Int := (b - a) * (c - a) * (c - b)
theorem dd_a (a b c u v w : Int) : d01 a b c u v w + d02 a b c u v w * a + d12 a b c u v w * (a * a) = u * vd a b c := by unfold d01 d02 d12 vd; grind
theorem dd_b (a b c u v w : Int) : d01 a b c u v w + d02 a b c u v w * b + d12 a b c u v w * (b * b) = v * vd a b c := by unfold d01 d02 d12 vd; grind
theorem dd_c (a b c u v w : Int) : d01 a b c u v w + d02 a b c u v w * c + d12 a b c u v w * (c * c) = w * vd a b c := by unfold d01 d02 d12 vd; grind
theorem dd_x (x a b c u v w : Int) : d01 a b c u v w + d02 a b c u v w * x + d12 a b c u v w * (x * x) = vd x b c * u - vd x a c * v + vd x a b * w := by unfold d01 d02 d12 vd; grind
theorem b_sub {x y : Int} {B C : Nat} (hx : x.natAbs ≤ B) (hy : y.natAbs ≤ C) : (x - y).natAbs ≤ B + C := by omega
theorem bd_12 {a b c u v w : Int} (ha : a.natAbs ≤ 12) (hb : b.natAbs ≤ 12) (hc : c.natAbs ≤ 12) (hu : u.natAbs ≤ 60) (hv : v.natAbs ≤ 60) (hw : w.natAbs ≤ 60) : (d12 a b c u v w).natAbs ≤ 5760 := by
  have h := b_sub (b_mul (b_sub hb ha) (b_sub hw hu)) (b_mul (b_sub hc ha) (b_sub hv hu))
  exact h
theorem bd_sq {a b : Int} (ha : a.natAbs ≤ 12) (hb : b.natAbs ≤ 12) : (b * b - a * a).natAbs ≤ 288 := b_sub (b_mul hb hb) (b_mul ha ha)
theorem bd_02 {a b c u v w : Int} (ha : a.natAbs ≤ 12) (hb : b.natAbs ≤ 12) (hc : c.natAbs ≤ 12) (hu : u.natAbs ≤ 60) (hv : v.natAbs ≤ 60) (hw : w.natAbs ≤ 60) : (d02 a b c u v w).natAbs ≤ 69120 := b_sub (b_mul (b_sub hv hu) (bd_sq ha hc)) (b_mul (b_sub hw hu) (bd_sq ha hb))
theorem bd_cu {a b : Int} (ha : a.natAbs ≤ 12) (hb : b.natAbs ≤ 12) : (a * (b * b) - b * (a * a)).natAbs ≤ 3456 := by
  have h := b_sub (b_mul ha (b_mul hb hb)) (b_mul hb (b_mul ha ha))
  omega
theorem bd_01 {a b c u v w : Int} (ha : a.natAbs ≤ 12) (hb : b.natAbs ≤ 12) (hc : c.natAbs ≤ 12) (hu : u.natAbs ≤ 60) (hv : v.natAbs ≤ 60) (hw : w.natAbs ≤ 60) : (d01 a b c u v w).natAbs ≤ 622080 := b_add (b_sub (b_mul hu (bd_cu hb hc)) (b_mul hv (bd_cu ha hc))) (b_mul hw (bd_cu ha hb))
theorem bd_vd {a b c : Int} (ha : a.natAbs ≤ 12) (hb : b.natAbs ≤ 12) (hc : c.natAbs ≤ 12) : (vd a b c).natAbs ≤ 13824 := b_mul (b_mul (b_sub hb ha) (b_sub hc ha)) (b_sub hc hb)
theorem b_sum4 {s0 s1 s2 s3 x0 x1 x2 x3 : Int} {X : Nat} (h0 : s0.natAbs ≤ 12) (h1 : s1.natAbs ≤ 12) (h2 : s2.natAbs ≤ 12) (h3 : s3.natAbs ≤ 12) (k0 : x0.natAbs ≤ X) (k1 : x1.natAbs ≤ X) (k2 : x2.natAbs ≤ X) (k3 : x3.natAbs ≤ X) : (s0 * x0 + s1 * x1 + s2 * x2 + s3 * x3).natAbs ≤ 48 * X := by
  have h := b_add (b_add (b_add (b_mul h0 k0) (b_mul h1 k1)) (b_mul h2 k2)) (b_mul h3 k3)
  omega
theorem cr3 {s0 s1 s2 s3 A0 A1 A2 A3 B0 B1 B2 B3 C0 C1 C2 C3 x V0 V1 V2 V3 v0 ab R : Int} (e0 : A0 + B0 * x + C0 * (x * x) = R) (e1 : A1 + B1 * x + C1 * (x * x) = v0 * V1) (e2 : A2 + B2 * x + C2 * (x * x) = v0 * V2) (e3 : A3 + B3 * x + C3 * (x * x) = v0 * V3) (hR : R = v0 * V0 - ab) : (s0 * A0 + s1 * A1 + s2 * A2 + s3 * A3) + (s0 * B0 + s1 * B1 + s2 * B2 + s3 * B3) * x + (s0 * C0 + s1 * C1 + s2 * C2 + s3 * C3) * (x * x) = v0 * (V0 * s0 + V1 * s1 + V2 * s2 + V3 * s3) - s0 * ab := by
  have e : (s0 * A0 + s1 * A1 + s2 * A2 + s3 * A3) + (s0 * B0 + s1 * B1 + s2 * B2 + s3 * B3) * x + (s0 * C0 + s1 * C1 + s2 * C2 + s3 * C3) * (x * x) = s0 * (A0 + B0 * x + C0 * (x * x)) + s1 * (A1 + B1 * x + C1 * (x * x)) + s2 * (A2 + B2 * x + C2 * (x * x)) + s3 * (A3 + B3 * x + C3 * (x * x)) := by
    clear e0 e1 e2 e3 hR
    grind
  rw [e, e0, e1, e2, e3, hR]
  clear e0 e1 e2 e3 hR e
  grind
theorem cram {f : Nat} {t v w s : Nat → Int} (h : Row f t w s) (hv : ∀ i, i ≤ f → (v i).natAbs ≤ 60) (hs : ∀ i, i ≤ f → (s i).natAbs ≤ 12) (ht : ∀ i, i ≤ f → (t i).natAbs ≤ 144 ∧ (f = 3 → (t i).natAbs ≤ 12)) : ∃ N0 N1 N2, Sol f t (fun i => v i * blw t s (f + 1) - sg1 i * s i * abv t v (f + 1)) (blw t s (f + 1)) N0 N1 N2 ∧ PolOk N0 N1 N2 (blw t s (f + 1)) ∧ (12 * abv t v (f + 1)).natAbs ≤ 67108864 ∧ ∀ i, i < f → (v i * blw t s (f + 1) - sg1 i * s i * abv t v (f + 1)).natAbs ≤ 134217728 := by
  have hB := r_Bz h
  rcases h.1 with rfl | rfl | rfl
  · have v0 := hv 0 (by omega)
    have v1 := hv 1 (by omega)
    have s0 := hs 0 (by omega)
    have s1 := hs 1 (by omega)
    simp only [Nat.reduceAdd, blw2, abv2] at hB ⊢
    have k1 := b_mul v0 s1
    have k2 := b_mul v1 s0
    have e : v 0 * (s 0 + s 1) - sg1 0 * s 0 * (v 0 - v 1) = v 0 * s 1 + v 1 * s 0 := by rw [sgs.1]; grind
    have k3 := b_add k1 k2
    refine ⟨v 0 * s 1 + v 1 * s 0, 0, 0, ⟨hB, ?_, fun _ => rfl, fun _ => rfl, fun q => by omega⟩, ⟨hB, by omega, by omega, by omega, by omega⟩, by omega, ?_⟩
    · intro i hi
      dsimp only
      rw [show i = 0 by omega, e]
      grind
    · intro i hi
      rw [show i = 0 by omega, e]
      omega
  · have v0 := hv 0 (by omega)
    have v1 := hv 1 (by omega)
    have v2 := hv 2 (by omega)
    have s0 := hs 0 (by omega)
    have s1 := hs 1 (by omega)
    have s2 := hs 2 (by omega)
    have t0 := (ht 0 (by omega)).1
    have t1 := (ht 1 (by omega)).1
    have t2 := (ht 2 (by omega)).1
    simp only [Nat.reduceAdd, blw3, abv3] at hB ⊢
    have kB := b_add (b_add (b_mul (b_sub t2 t1) s0) (b_mul (b_sub t2 t0) s1)) (b_mul (b_sub t1 t0) s2)
    have kA := b_add (b_sub (b_mul (b_sub t2 t1) v0) (b_mul (b_sub t2 t0) v1)) (b_mul (b_sub t1 t0) v2)
    have k1 := b_add (b_add (b_mul s0 (b_sub v2 v1)) (b_mul s1 (b_sub v2 v0))) (b_mul s2 (b_sub v1 v0))
    have k0 := b_add (b_add (b_mul s0 (b_sub (b_mul v1 t2) (b_mul v2 t1))) (b_mul s1 (b_sub (b_mul v0 t2) (b_mul v2 t0)))) (b_mul s2 (b_sub (b_mul v0 t1) (b_mul v1 t0)))
    have g0 := b_sub (b_mul v0 kB) (b_mul (b_mul (show (sg1 0).natAbs ≤ 1 by decide) s0) kA)
    have g1 := b_sub (b_mul v1 kB) (b_mul (b_mul (show (sg1 1).natAbs ≤ 1 by decide) s1) kA)
    refine ⟨s 0 * (v 1 * t 2 - v 2 * t 1) + s 1 * (v 0 * t 2 - v 2 * t 0) + s 2 * (v 0 * t 1 - v 1 * t 0), s 0 * (v 2 - v 1) + s 1 * (v 2 - v 0) + s 2 * (v 1 - v 0), 0, ⟨hB, ?_, fun _ => rfl, fun q => by omega, fun q => by omega⟩, ⟨hB, by omega, by omega, by omega, by omega⟩, ?_, ?_⟩
    · intro i hi
      rcases (show i = 0 ∨ i = 1 by omega) with rfl | rfl
      · dsimp only; rw [sgs.1]; grind
      · dsimp only; rw [sgs.2.1]; grind
    · have := b_mul (show (12 : Int).natAbs ≤ 12 by decide) kA
      omega
    · intro i hi
      rcases (show i = 0 ∨ i = 1 by omega) with rfl | rfl
      · omega
      · omega
  · have v0 := hv 0 (by omega)
    have v1 := hv 1 (by omega)
    have v2 := hv 2 (by omega)
    have v3 := hv 3 (by omega)
    have s0 := hs 0 (by omega)
    have s1 := hs 1 (by omega)
    have s2 := hs 2 (by omega)
    have s3 := hs 3 (by omega)
    have t0 := (ht 0 (by omega)).2 rfl
    have t1 := (ht 1 (by omega)).2 rfl
    have t2 := (ht 2 (by omega)).2 rfl
    have t3 := (ht 3 (by omega)).2 rfl
    have eB : blw t s 4 = vd (t 1) (t 2) (t 3) * s 0 + vd (t 0) (t 2) (t 3) * s 1 + vd (t 0) (t 1) (t 3) * s 2 + vd (t 0) (t 1) (t 2) * s 3 := blw4 t s
    have eA : abv t v 4 = vd (t 1) (t 2) (t 3) * v 0 - vd (t 0) (t 2) (t 3) * v 1 + vd (t 0) (t 1) (t 3) * v 2 - vd (t 0) (t 1) (t 2) * v 3 := abv4 t v
    simp only [Nat.reduceAdd, eB, eA] at hB ⊢
    have V0 := bd_vd t1 t2 t3
    have V1 := bd_vd t0 t2 t3
    have V2 := bd_vd t0 t1 t3
    have V3 := bd_vd t0 t1 t2
    have kB := b_add (b_add (b_add (b_mul V0 s0) (b_mul V1 s1)) (b_mul V2 s2)) (b_mul V3 s3)
    have kA := b_sub (b_add (b_sub (b_mul V0 v0) (b_mul V1 v1)) (b_mul V2 v2)) (b_mul V3 v3)
    have n0 := b_sum4 s0 s1 s2 s3 (bd_01 t1 t2 t3 v1 v2 v3) (bd_01 t0 t2 t3 v0 v2 v3) (bd_01 t0 t1 t3 v0 v1 v3) (bd_01 t0 t1 t2 v0 v1 v2)
    have n1 := b_sum4 s0 s1 s2 s3 (bd_02 t1 t2 t3 v1 v2 v3) (bd_02 t0 t2 t3 v0 v2 v3) (bd_02 t0 t1 t3 v0 v1 v3) (bd_02 t0 t1 t2 v0 v1 v2)
    have n2 := b_sum4 s0 s1 s2 s3 (bd_12 t1 t2 t3 v1 v2 v3) (bd_12 t0 t2 t3 v0 v2 v3) (bd_12 t0 t1 t3 v0 v1 v3) (bd_12 t0 t1 t2 v0 v1 v2)
    have g : ∀ i, i ≤ 3 → (v i * (vd (t 1) (t 2) (t 3) * s 0 + vd (t 0) (t 2) (t 3) * s 1 + vd (t 0) (t 1) (t 3) * s 2 + vd (t 0) (t 1) (t 2) * s 3) - sg1 i * s i * (vd (t 1) (t 2) (t 3) * v 0 - vd (t 0) (t 2) (t 3) * v 1 + vd (t 0) (t 1) (t 3) * v 2 - vd (t 0) (t 1) (t 2) * v 3)).natAbs ≤ 134217728 := by
      intro i hi
      have sg : (sg1 i).natAbs ≤ 1 := by
        unfold sg1
        by_cases q : i % 2 = 0
        · rw [if_pos q]; decide
        · rw [if_neg q]; decide
      have := b_sub (b_mul (hv i hi) kB) (b_mul (b_mul sg (hs i hi)) kA)
      omega
    refine ⟨_, _, _, ⟨hB, ?_, fun q => by omega, fun q => by omega, fun q => by omega⟩, ⟨hB, by omega, Nat.le_trans n0 (by decide), Nat.le_trans n1 (by decide), Nat.le_trans n2 (by decide)⟩, ?_, fun i hi => g i (by omega)⟩
    · intro i hi
      rcases (show i = 0 ∨ i = 1 ∨ i = 2 by omega) with rfl | rfl | rfl
      · have e := cr3 (s0 := s 0) (s1 := s 1) (s2 := s 2) (s3 := s 3) (V0 := vd (t 1) (t 2) (t 3)) (v0 := v 0) (ab := vd (t 1) (t 2) (t 3) * v 0 - vd (t 0) (t 2) (t 3) * v 1 + vd (t 0) (t 1) (t 3) * v 2 - vd (t 0) (t 1) (t 2) * v 3) (dd_x (t 0) (t 1) (t 2) (t 3) (v 1) (v 2) (v 3)) (dd_a (t 0) (t 2) (t 3) (v 0) (v 2) (v 3)) (dd_a (t 0) (t 1) (t 3) (v 0) (v 1) (v 3)) (dd_a (t 0) (t 1) (t 2) (v 0) (v 1) (v 2)) (by grind)
        dsimp only
        rw [sgs.1, Int.one_mul]
        exact e
      · have e := cr3 (s0 := s 1) (s1 := s 0) (s2 := s 2) (s3 := s 3) (V0 := vd (t 0) (t 2) (t 3)) (v0 := v 1) (ab := -(vd (t 1) (t 2) (t 3) * v 0 - vd (t 0) (t 2) (t 3) * v 1 + vd (t 0) (t 1) (t 3) * v 2 - vd (t 0) (t 1) (t 2) * v 3)) (dd_x (t 1) (t 0) (t 2) (t 3) (v 0) (v 2) (v 3)) (dd_a (t 1) (t 2) (t 3) (v 1) (v 2) (v 3)) (dd_b (t 0) (t 1) (t 3) (v 0) (v 1) (v 3)) (dd_b (t 0) (t 1) (t 2) (v 0) (v 1) (v 2)) (by unfold vd; grind)
        dsimp only
        rw [sgs.2.1]
        grind
      · have e := cr3 (s0 := s 2) (s1 := s 0) (s2 := s 1) (s3 := s 3) (V0 := vd (t 0) (t 1) (t 3)) (v0 := v 2) (ab := (vd (t 1) (t 2) (t 3) * v 0 - vd (t 0) (t 2) (t 3) * v 1 + vd (t 0) (t 1) (t 3) * v 2 - vd (t 0) (t 1) (t 2) * v 3)) (dd_x (t 2) (t 0) (t 1) (t 3) (v 0) (v 1) (v 3)) (dd_b (t 1) (t 2) (t 3) (v 1) (v 2) (v 3)) (dd_b (t 0) (t 2) (t 3) (v 0) (v 2) (v 3)) (dd_c (t 0) (t 1) (t 2) (v 0) (v 1) (v 2)) (by unfold vd; grind)
        dsimp only
        rw [sgs.2.2.1]
        grind
    · have := b_mul (show (12 : Int).natAbs ≤ 12 by decide) kA
      omega
/-- through all points, where they are few -/
theorem pass {m : Nat} (hm : m ≤ 3) {t v : Nat → Int} (hu : ∀ i, i + 1 < m → t i < t (i + 1)) (hv : ∀ i, i < m → (v i).natAbs ≤ 60) (ht : ∀ i, i < m → (t i).natAbs ≤ 144 ∧ (m = 3 → (t i).natAbs ≤ 12)) : ∃ N0 N1 N2, Sol m t (fun i => v i * spr t 9 m) (spr t 9 m) N0 N1 N2 ∧ PolOk N0 N1 N2 (spr t 9 m) ∧ ∀ i, i < m → (v i * spr t 9 m).natAbs ≤ 134217728 := by
  rcases (show m = 0 ∨ m = 1 ∨ m = 2 ∨ m = 3 by omega) with rfl | rfl | rfl | rfl
  · rw [(sp1 t).2.2]
    exact ⟨0, 0, 0, ⟨by decide, fun i hi => by omega, fun _ => rfl, fun _ => rfl, fun _ => rfl⟩, ⟨by decide, by decide, by decide, by decide, by decide⟩, fun i hi => by omega⟩
  · rw [(sp1 t).2.1]
    have v0 := hv 0 (by omega)
    refine ⟨v 0, 0, 0, ⟨by decide, fun i hi => ?_, fun _ => rfl, fun _ => rfl, fun q => by omega⟩, ⟨by decide, by decide, by omega, by decide, by decide⟩, fun i hi => ?_⟩
    · rw [show i = 0 by omega]; grind
    · rw [show i = 0 by omega]; omega
  · rw [(sp2 t).2.2]
    have v0 := hv 0 (by omega)
    have v1 := hv 1 (by omega)
    have t0 := (ht 0 (by omega)).1
    have t1 := (ht 1 (by omega)).1
    have u : t 0 < t 1 := hu 0 (by omega)
    have k0 := b_sub (b_mul v0 t1) (b_mul v1 t0)
    have kB := b_sub t1 t0
    refine ⟨v 0 * t 1 - v 1 * t 0, v 1 - v 0, 0, ⟨by omega, fun i hi => ?_, fun _ => rfl, fun q => by omega, fun q => by omega⟩, ⟨by omega, by omega, by omega, by omega, by decide⟩, fun i hi => ?_⟩
    · rcases (show i = 0 ∨ i = 1 by omega) with rfl | rfl
      · grind
      · grind
    · have := b_mul (hv i hi) kB
      omega
  · rw [show spr t 9 3 = vd (t 0) (t 1) (t 2) from (sp3 t).2.2.2]
    have v0 := hv 0 (by omega)
    have v1 := hv 1 (by omega)
    have v2 := hv 2 (by omega)
    have t0 := (ht 0 (by omega)).2 rfl
    have t1 := (ht 1 (by omega)).2 rfl
    have t2 := (ht 2 (by omega)).2 rfl
    have u0 : t 0 < t 1 := hu 0 (by omega)
    have u1 : t 1 < t 2 := hu 1 (by omega)
    have hp : 0 < vd (t 0) (t 1) (t 2) := Int.mul_pos (Int.mul_pos (by omega) (by omega)) (by omega)
    have kB := bd_vd t0 t1 t2
    refine ⟨d01 (t 0) (t 1) (t 2) (v 0) (v 1) (v 2), d02 (t 0) (t 1) (t 2) (v 0) (v 1) (v 2), d12 (t 0) (t 1) (t 2) (v 0) (v 1) (v 2), ⟨hp, fun i hi => ?_, fun q => by omega, fun q => by omega, fun q => by omega⟩, ⟨hp, by omega, Nat.le_trans (bd_01 t0 t1 t2 v0 v1 v2) (by decide), Nat.le_trans (bd_02 t0 t1 t2 v0 v1 v2) (by decide), Nat.le_trans (bd_12 t0 t1 t2 v0 v1 v2) (by decide)⟩, fun i hi => ?_⟩
    · rcases (show i = 0 ∨ i = 1 ∨ i = 2 by omega) with rfl | rfl | rfl
      · exact dd_a _ _ _ _ _ _
      · exact dd_b _ _ _ _ _ _
      · exact dd_c _ _ _ _ _ _
    · have := b_mul (hv i hi) kB
      omega
