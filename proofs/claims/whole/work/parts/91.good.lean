/-! every call keeps it -/
theorem z_good (o : Nat) : z_Good (Inv o) o := by
  refine ⟨fun S M ⟨_, _, _, _, _, h⟩ => t_is h.1, ?_, ?_, ?_, ?_, ?_, ?_, ?_, ?_, ?_, ?_, ?_, ?_, ?_, ?_, ?_, ?_, ?_, ?_, ?_, ?_, ?_, ?_, ?_, ?_, ?_, ?_, ?_, ?_, ?_, ?_⟩
  · rintro S M ⟨cnt, st, F, ln, q, h⟩ a0 a1 a2 a3
    obtain ⟨r, S', M', st', e1, e2, t1, t2, t3, t4, t5⟩ := c_point h.1 h.2.2.1 h.2.2.2.1 a0 a1 a2 a3
    exact ⟨r, S', M', e1, e2, inv_pts h t1 t2 t3 t4 t5⟩
  · rintro S M ⟨cnt, st, F, ln, q, h⟩ a0 a1
    obtain ⟨r, S', M', st', e1, e2, t1, t2, t3, t4, t5⟩ := c_take h.1 h.2.2.1 h.2.2.2.1 a0 a1
    exact ⟨r, S', M', e1, e2, inv_pts h t1 t2 t3 t4 t5⟩
  · rintro S M ⟨cnt, st, F, ln, q, h⟩ a0 a1 a2 a3 a4
    obtain ⟨h1, h2, h3, h4, h5, h6, h7, h8, h9, h10, h11⟩ := id h
    obtain ⟨r, S', M', e1, e2, n⟩ := c_fit h1 h3 h4 h6 h7 h8 h10 a0 a1 a2 a3 a4
    exact ⟨r, S', M', e1, e2, inv_new h n⟩
  · rintro S M ⟨cnt, st, F, ln, q, h⟩ a0 a1
    obtain ⟨h1, h2, h3, h4, h5, h6, h7, h8, h9, h10, h11⟩ := id h
    obtain ⟨r, S', M', e1, e2, n⟩ := c_line h1 h3 h4 h6 h7 h8 h10 a0 a1
    exact ⟨r, S', M', e1, e2, inv_new h n⟩
  · rintro S M ⟨cnt, st, F, ln, q, h⟩ a0
    obtain ⟨h1, h2, h3, h4, h5, h6, h7, h8, h9, h10, h11⟩ := id h
    obtain ⟨r, S', M', e1, e2, n⟩ := c_even h1 h3 h4 h6 h7 h8 h10 a0
    exact ⟨r, S', M', e1, e2, inv_new h n⟩
  · rintro S M ⟨cnt, st, F, ln, q, h⟩ a0 a1 a2
    obtain ⟨h1, h2, h3, h4, h5, h6, h7, h8, h9, h10, h11⟩ := id h
    obtain ⟨r, S', M', e1, e2, n⟩ := c_shorts h1 h3 h4 h6 h7 h8 h10 a0 a1 a2
    exact ⟨r, S', M', e1, e2, inv_new h n⟩
  · rintro S M ⟨cnt, st, F, ln, q, h⟩ a0 a1 a2 a3
    obtain ⟨h1, h2, h3, h4, h5, h6, h7, h8, h9, h10, h11⟩ := id h
    obtain ⟨r, S', M', e1, e2, n⟩ := c_pieces h1 h3 h4 h6 h7 h8 h10 a0 a1 a2 a3
    exact ⟨r, S', M', e1, e2, inv_new h n⟩
  · rintro S M ⟨cnt, st, F, ln, q, h⟩
    obtain ⟨h1, h2, h3, h4, h5, h6, h7, h8, h9, h10, h11⟩ := id h
    obtain ⟨r, S', M', st', cnt', F', e1, e2, t1, t2, t3, t4, t5, t6, t7, t8, t9⟩ := c_drop h1 h6 h10
    exact ⟨r, S', M', e1, e2, inv_drop h t1 t2 t3 t4 t5 t6 t7 t9⟩
  · rintro S M ⟨cnt, st, F, ln, q, h⟩ a0 a1 a2
    obtain ⟨r, e1, e2⟩ := c_pointTold h.1 h.2.2.1 h.2.2.2.1 a0 a1 a2
    exact ⟨r, e1, e2, _, _, _, _, _, h⟩
  · rintro S M ⟨cnt, st, F, ln, q, h⟩ a0
    obtain ⟨h1, h2, h3, h4, h5, h6, h7, h8, h9, h10, h11⟩ := id h
    obtain ⟨r, e1, e2⟩ := c_count h1 h6 h3 h4 h9 a0
    exact ⟨r, e1, e2, _, _, _, _, _, h⟩
  · rintro S M ⟨cnt, st, F, ln, q, h⟩ a0 a1
    obtain ⟨r, M', e1, e2, hs⟩ := c_told h.1 h.2.2.2.2.2.1 a0 a1
    exact ⟨r, M', e1, e2, _, _, _, _, _, inv_scr h hs⟩
  · rintro S M ⟨cnt, st, F, ln, q, h⟩ a0 a1 a2 a3
    obtain ⟨r, e1, e2⟩ := c_number h.1 h.2.2.2.2.2.1 a0 a1 a2 a3
    exact ⟨r, e1, e2, _, _, _, _, _, h⟩
  · rintro S M ⟨cnt, st, F, ln, q, h⟩ a0 a1 a2
    obtain ⟨r, M', e1, e2, hs⟩ := c_value h.1 h.2.2.2.2.2.1 a0 a1 a2
    exact ⟨r, M', e1, e2, _, _, _, _, _, inv_scr h hs⟩
  · rintro S M ⟨cnt, st, F, ln, q, h⟩ a0 a1 a2
    obtain ⟨r, M', e1, e2, hs⟩ := c_miss h.1 h.2.2.2.2.2.1 a0 a1 a2
    exact ⟨r, M', e1, e2, _, _, _, _, _, inv_scr h hs⟩
  · rintro S M ⟨cnt, st, F, ln, q, h⟩ a0 a1
    obtain ⟨r, M', e1, e2, hs⟩ := c_level h.1 h.2.2.2.2.2.1 a0 a1
    exact ⟨r, M', e1, e2, _, _, _, _, _, inv_scr h hs⟩
  · rintro S M ⟨cnt, st, F, ln, q, h⟩ a0 a1
    obtain ⟨r, M', e1, e2, hs⟩ := c_far h.1 h.2.2.2.2.2.1 a0 a1
    exact ⟨r, M', e1, e2, _, _, _, _, _, inv_scr h hs⟩
  · rintro S M ⟨cnt, st, F, ln, q, h⟩ a0 a1
    obtain ⟨r, e1, e2⟩ := c_begins h.1 h.2.2.2.2.2.1 a0 a1
    exact ⟨r, e1, e2, _, _, _, _, _, h⟩
  · rintro S M ⟨cnt, st, F, ln, q, h⟩ a0
    obtain ⟨r, M', e1, e2, hs⟩ := c_turns h.1 h.2.2.2.2.2.1 a0
    exact ⟨r, M', e1, e2, _, _, _, _, _, inv_scr h hs⟩
  · rintro S M ⟨cnt, st, F, ln, q, h⟩ a0 a1 a2
    obtain ⟨r, S', M', e1, e2, t1, t2, t3⟩ := c_low h.1 h.2.2.2.2.2.1 h.2.2.2.2.2.2.1 a0 a1 a2
    exact ⟨r, S', M', e1, e2, _, _, _, _, _, inv_scr (inv_lev h t1 t2) t3⟩
  · rintro S M ⟨cnt, st, F, ln, q, h⟩ a0 a1
    obtain ⟨r, S', M', e1, e2, t1, t2, t3⟩ := c_swap h.1 h.2.2.2.2.2.1 h.2.2.2.2.2.2.1 a0 a1
    exact ⟨r, S', M', e1, e2, _, _, _, _, _, inv_scr (inv_lev h t1 t2) t3⟩
  · rintro S M ⟨cnt, st, F, ln, q, h⟩ a0 a1
    obtain ⟨r, S', M', e1, e2, t1, t2, t3⟩ := c_swaps h.1 h.2.2.2.2.2.1 h.2.2.2.2.2.2.1 a0 a1
    exact ⟨r, S', M', e1, e2, _, _, _, _, _, inv_scr (inv_lev h t1 t2) t3⟩
  · rintro S M ⟨cnt, st, F, ln, q, h⟩ a0 a1
    obtain ⟨r, M', e1, e2, hs⟩ := c_against h.1 h.2.2.2.2.2.1 a0 a1
    exact ⟨r, M', e1, e2, _, _, _, _, _, inv_scr h hs⟩
  · rintro S M ⟨cnt, st, F, ln, q, h⟩ a0 a1
    obtain ⟨r, e1, e2⟩ := c_same h.1 h.2.2.2.2.2.1 a0 a1
    exact ⟨r, e1, e2, _, _, _, _, _, h⟩
  · rintro S M ⟨cnt, st, F, ln, q, h⟩ a0 a1 a2
    obtain ⟨h1, h2, h3, h4, h5, h6, h7, h8, h9, h10, h11⟩ := id h
    obtain ⟨r, S', M', st', e1, e2, t1, t2, t3, t4, t5, t6, t7⟩ := c_act h1 h6 h9 a0 a1 a2
    exact ⟨r, S', M', e1, e2, inv_act h t1 t2 t3 t4 t5 t6 t7⟩
  · rintro S M ⟨cnt, st, F, ln, q, h⟩ a0
    obtain ⟨h1, h2, h3, h4, h5, h6, h7, h8, h9, h10, h11⟩ := id h
    obtain ⟨r, e1, e2⟩ := c_trace h1 h9 a0
    exact ⟨r, e1, e2, _, _, _, _, _, h⟩
  · rintro S M ⟨cnt, st, F, ln, q, h⟩ a0 a1 a2
    obtain ⟨h1, h2, h3, h4, h5, h6, h7, h8, h9, h10, h11⟩ := id h
    obtain ⟨r, S', M', st', q', e1, e2, t1, t2, t3, t4, t5, t6, t7⟩ := c_sheet h1 h5 h10 a0 a1 a2
    exact ⟨r, S', M', e1, e2, inv_sheet h t1 t2 t3 t4 t5 t6 t7⟩
  · rintro S M ⟨cnt, st, F, ln, q, h⟩ a0 a1 a2
    obtain ⟨h1, h2, h3, h4, h5, h6, h7, h8, h9, h10, h11⟩ := id h
    obtain ⟨r, S', M', st', e1, e2, t1, t2, t3, t4, t5, t6, t7⟩ := c_cell h1 h5 a0 a1 a2
    exact ⟨r, S', M', e1, e2, inv_cell h t1 t2 t3 t4 t5 t6 t7⟩
  · rintro S M ⟨cnt, st, F, ln, q, h⟩ a0 a1 a2 a3
    obtain ⟨r, S', M', st', e1, e2, t1, t2, t3, t4, t5⟩ := c_points h.1 h.2.2.1 h.2.2.2.1 h.2.2.2.2.1 a0 a1 a2 a3
    exact ⟨r, S', M', e1, e2, inv_pts h t1 t2 t3 t4 t5⟩
  · rintro S M ⟨cnt, st, F, ln, q, h⟩ a0 a1 a2
    obtain ⟨r, S', M', e1, e2, t⟩ := c_forge h.1 h.2.2.2.2.2.1 h.2.2.2.2.1 a0 a1 a2
    exact ⟨r, S', M', e1, e2, inv_st h t⟩
  · rintro S M ⟨cnt, st, F, ln, q, h⟩
    obtain ⟨r, e1, e2⟩ := c_status h.1 h.2.1
    exact ⟨r, e1, e2, _, _, _, _, _, h⟩
