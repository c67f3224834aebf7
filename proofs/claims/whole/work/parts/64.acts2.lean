/-! ACTS: the bodies, by their numbers -/
section AB
variable {a b m n : Nat} {num kd dg pc : Int32} {P V Z : Nat → Int32} {k x dep v v' : Int32} {E E' : List Int32}
theorem cr_11 (hb : z_it (fun x => f_X0_bodyFrom_L4 1 x.1 x.2) 6 (k, (0 : Int32)) = some (.inl 11)) (hdep : dep ≤ 20) (h1 : CR a b m num kd dg pc P V Z n kd 0 x (dep + 1) v E) : CR a b m num kd dg pc P V Z (n + 1) k 1 x dep ((fun r_5 : Int32 => (r_5 * (2 : Int32))) v) (11 :: E) := by
  refine CR.one (fun r_5 => (r_5 * (2 : Int32))) hb (by decide) hdep h1 (fun S hA hi => ?_)
  show (z_bd (g_r S 1 3 a) fun f_1 => z_bd (g_i S 3 3 f_1) fun f_2 => z_bd (g_i S 1 1 a) fun f_3 => z_chk (g_is S 0 b) (z_bd2 (f_X0_run n S b a f_3 (0 : Int32) x (dep + 1)) fun r_5 S_4 => some ((r_5 * (2 : Int32)), S_4))) = _
  rw [hA.1.r3, z_bd_s, hA.2.sz, z_bd_s, hA.1.i1, z_bd_s, z_chk_t hi]
theorem cr_20 (hb : z_it (fun x => f_X0_bodyFrom_L4 0 x.1 x.2) 6 (k, (0 : Int32)) = some (.inl 20)) (hdep : dep ≤ 20) (h1 : CR a b m num kd dg pc P V Z n (0 : Int32) 0 x (dep + 1) v E) : CR a b m num kd dg pc P V Z (n + 1) k 0 x dep ((fun r_5 : Int32 => (r_5 + (1 : Int32))) v) (20 :: E) := by
  refine CR.one (fun r_5 => (r_5 + (1 : Int32))) hb (by decide) hdep h1 (fun S hA hi => ?_)
  show (z_bd (g_r S 1 3 a) fun f_1 => z_bd (g_i S 3 3 f_1) fun f_2 => z_chk (g_is S 0 b) (z_bd2 (f_X0_run n S b a (0 : Int32) (0 : Int32) x (dep + 1)) fun r_5 S_4 => some ((r_5 + (1 : Int32)), S_4))) = _
  rw [hA.1.r3, z_bd_s, hA.2.sz, z_bd_s, z_chk_t hi]
theorem cr_21 (hb : z_it (fun x => f_X0_bodyFrom_L4 2 x.1 x.2) 6 (k, (0 : Int32)) = some (.inl 21)) (hdep : dep ≤ 20) (h1 : CR a b m num kd dg pc P V Z n (0 : Int32) 2 x (dep + 1) v E) : CR a b m num kd dg pc P V Z (n + 1) k 2 x dep ((fun r_5 : Int32 => (r_5 * (3 : Int32))) v) (21 :: E) := by
  refine CR.one (fun r_5 => (r_5 * (3 : Int32))) hb (by decide) hdep h1 (fun S hA hi => ?_)
  show (z_bd (g_r S 1 3 a) fun f_1 => z_bd (g_i S 3 3 f_1) fun f_2 => z_chk (g_is S 0 b) (z_bd2 (f_X0_run n S b a (0 : Int32) (2 : Int32) x (dep + 1)) fun r_5 S_4 => some ((r_5 * (3 : Int32)), S_4))) = _
  rw [hA.1.r3, z_bd_s, hA.2.sz, z_bd_s, z_chk_t hi]
theorem cr_30 (hb : z_it (fun x => f_X0_bodyFrom_L4 1 x.1 x.2) 6 (k, (0 : Int32)) = some (.inl 30)) (hdep : dep ≤ 20) (h1 : CR a b m num kd dg pc P V Z n (1 : Int32) 1 (x - nI m) (dep + 1) v E) : CR a b m num kd dg pc P V Z (n + 1) k 1 x dep ((fun r_5 : Int32 => r_5) v) (30 :: E) := by
  refine CR.one (fun r_5 => r_5) hb (by decide) hdep h1 (fun S hA hi => ?_)
  show (z_bd (g_r S 1 3 a) fun f_1 => z_bd (g_i S 3 3 f_1) fun f_2 => z_chk (g_is S 0 b) (z_bd2 (f_X0_run n S b a (1 : Int32) (1 : Int32) (x - f_2) (dep + 1)) fun r_5 S_4 => some (r_5, S_4))) = _
  rw [hA.1.r3, z_bd_s, hA.2.sz, z_bd_s, z_chk_t hi]
theorem cr_50 (hb : z_it (fun x => f_X0_bodyFrom_L4 0 x.1 x.2) 6 (k, (0 : Int32)) = some (.inl 50)) (hdep : dep ≤ 20) (h1 : CR a b m num kd dg pc P V Z n (1 : Int32) 0 (x * (2 : Int32)) (dep + 1) v E) : CR a b m num kd dg pc P V Z (n + 1) k 0 x dep ((fun r_5 : Int32 => r_5) v) (50 :: E) := by
  refine CR.one (fun r_5 => r_5) hb (by decide) hdep h1 (fun S hA hi => ?_)
  show (z_bd (g_r S 1 3 a) fun f_1 => z_bd (g_i S 3 3 f_1) fun f_2 => z_chk (g_is S 0 b) (z_bd2 (f_X0_run n S b a (1 : Int32) (0 : Int32) (x * (2 : Int32)) (dep + 1)) fun r_5 S_4 => some (r_5, S_4))) = _
  rw [hA.1.r3, z_bd_s, hA.2.sz, z_bd_s, z_chk_t hi]
theorem cr_13 (hb : z_it (fun x => f_X0_bodyFrom_L4 3 x.1 x.2) 6 (k, (0 : Int32)) = some (.inl 13)) (hdep : dep ≤ 20) (h1 : CR a b m num kd dg pc P V Z n kd 1 x (dep + 1) v E) (h2 : CR a b m num kd dg pc P V Z n kd 2 x (dep + 1) v' E') : CR a b m num kd dg pc P V Z (n + 1) k 3 x dep ((fun r_9 r_12 : Int32 => (r_9 ^^^ r_12)) v v') (13 :: (E ++ E')) := by
  refine CR.two (fun r_9 r_12 => (r_9 ^^^ r_12)) hb (by decide) hdep h1 h2 (fun S S1 w hA hi he hA1 hi1 => ?_)
  show (z_bd (g_r S 1 3 a) fun f_1 => z_bd (g_i S 3 3 f_1) fun f_2 => z_bd (g_i S 1 1 a) fun f_7 => z_chk (g_is S 0 b) (z_bd2 (f_X0_run n S b a f_7 (1 : Int32) x (dep + 1)) fun r_9 S_8 => z_bd (g_i S_8 1 1 a) fun f_10 => z_chk (g_is S_8 0 b) (z_bd2 (f_X0_run n S_8 b a f_10 (2 : Int32) x (dep + 1)) fun r_12 S_11 => some ((r_9 ^^^ r_12), S_11)))) = _
  rw [hA.1.r3, z_bd_s, hA.2.sz, z_bd_s, hA.1.i1, z_bd_s, z_chk_t hi, he, z_bd2_s, hA1.1.i1, z_bd_s, z_chk_t hi1]
theorem cr_31 (hb : z_it (fun x => f_X0_bodyFrom_L4 3 x.1 x.2) 6 (k, (0 : Int32)) = some (.inl 31)) (hdep : dep ≤ 20) (h1 : CR a b m num kd dg pc P V Z n kd 2 x (dep + 1) v E) (h2 : CR a b m num kd dg pc P V Z n (1 : Int32) 3 x (dep + 1) v' E') : CR a b m num kd dg pc P V Z (n + 1) k 3 x dep ((fun r_9 r_12 : Int32 => (r_9 + r_12)) v v') (31 :: (E ++ E')) := by
  refine CR.two (fun r_9 r_12 => (r_9 + r_12)) hb (by decide) hdep h1 h2 (fun S S1 w hA hi he hA1 hi1 => ?_)
  show (z_bd (g_r S 1 3 a) fun f_1 => z_bd (g_i S 3 3 f_1) fun f_2 => z_bd (g_i S 1 1 a) fun f_7 => z_chk (g_is S 0 b) (z_bd2 (f_X0_run n S b a f_7 (2 : Int32) x (dep + 1)) fun r_9 S_8 => z_chk (g_is S_8 0 b) (z_bd2 (f_X0_run n S_8 b a (1 : Int32) (3 : Int32) x (dep + 1)) fun r_12 S_11 => some ((r_9 + r_12), S_11)))) = _
  rw [hA.1.r3, z_bd_s, hA.2.sz, z_bd_s, hA.1.i1, z_bd_s, z_chk_t hi, he, z_bd2_s, z_chk_t hi1]
theorem cr_40 (hb : z_it (fun x => f_X0_bodyFrom_L4 2 x.1 x.2) 6 (k, (0 : Int32)) = some (.inl 40)) (hdep : dep ≤ 20) (h1 : CR a b m num kd dg pc P V Z n (0 : Int32) 2 x (dep + 1) v E) (h2 : CR a b m num kd dg pc P V Z n (0 : Int32) 0 x (dep + 1) v' E') : CR a b m num kd dg pc P V Z (n + 1) k 2 x dep ((fun r_9 r_12 : Int32 => (r_9 + r_12)) v v') (40 :: (E ++ E')) := by
  refine CR.two (fun r_9 r_12 => (r_9 + r_12)) hb (by decide) hdep h1 h2 (fun S S1 w hA hi he hA1 hi1 => ?_)
  show (z_bd (g_r S 1 3 a) fun f_1 => z_bd (g_i S 3 3 f_1) fun f_2 => z_chk (g_is S 0 b) (z_bd2 (f_X0_run n S b a (0 : Int32) (2 : Int32) x (dep + 1)) fun r_9 S_8 => z_chk (g_is S_8 0 b) (z_bd2 (f_X0_run n S_8 b a (0 : Int32) (0 : Int32) x (dep + 1)) fun r_12 S_11 => some ((r_9 + r_12), S_11)))) = _
  rw [hA.1.r3, z_bd_s, hA.2.sz, z_bd_s, z_chk_t hi, he, z_bd2_s, z_chk_t hi1]
theorem cr_51 (hb : z_it (fun x => f_X0_bodyFrom_L4 1 x.1 x.2) 6 (k, (0 : Int32)) = some (.inl 51)) (hdep : dep ≤ 20) (h1 : CR a b m num kd dg pc P V Z n (1 : Int32) 1 x (dep + 1) v E) (h2 : CR a b m num kd dg pc P V Z n kd 0 x (dep + 1) v' E') : CR a b m num kd dg pc P V Z (n + 1) k 1 x dep ((fun r_9 r_12 : Int32 => (r_9 - r_12)) v v') (51 :: (E ++ E')) := by
  refine CR.two (fun r_9 r_12 => (r_9 - r_12)) hb (by decide) hdep h1 h2 (fun S S1 w hA hi he hA1 hi1 => ?_)
  show (z_bd (g_r S 1 3 a) fun f_1 => z_bd (g_i S 3 3 f_1) fun f_2 => z_chk (g_is S 0 b) (z_bd2 (f_X0_run n S b a (1 : Int32) (1 : Int32) x (dep + 1)) fun r_9 S_8 => z_bd (g_i S_8 1 1 a) fun f_10 => z_chk (g_is S_8 0 b) (z_bd2 (f_X0_run n S_8 b a f_10 (0 : Int32) x (dep + 1)) fun r_12 S_11 => some ((r_9 - r_12), S_11)))) = _
  rw [hA.1.r3, z_bd_s, hA.2.sz, z_bd_s, z_chk_t hi, he, z_bd2_s, hA1.1.i1, z_bd_s, z_chk_t hi1]
end AB
