def l_At (p : Program) (l : Launch) (e : Env) (s : State) (m : MethodId) (below : List Frame) (meth : Method) (c : Code) (b : Nat) (D : va_G) (cs : Nat → ClassId) (o1 o2 : Nat) (pcx cells slots : Nat) (x3 : Int32) (S : GS) (M : MS) : Prop :=
  ∀ (H : Heap) (locs : List Loc) (ls : Array Slot), l_W D cs s o2 S M H locs → lv_has ls 4 [(0, .ref b), (1, .ref o1), (2, .ref o2), (3, .int x3)] → W p l e room_1 s m #[Value.ref b] below meth c H locs cells slots (lw_Z below #[Value.ref b] s) (F0 m pcx ls [])
/-- point: class and reference answer alike -/
def z_G_0 (Inv : GS → MS → Prop) (o : Nat) : Prop := ∀ (S : GS) (M : MS), Inv S M → ∀ (a0 a1 a2 a3 : Int32), ∃ (r : Int32) (S1 : GS) (M1 : MS), f_X7_point S o a0 a1 a2 a3 = some (r, S1) ∧ f_X8_point M a0 a1 a2 a3 = some (r, M1) ∧ Inv S1 M1
set_option maxHeartbeats 4000000 in
theorem l_case_0 {p : Program} {l : Launch} {e : Env} {s : State} {m : MethodId} {below : List Frame} {meth : Method} {c : Code} {b L : Nat} {xs : Nat → Int32} {D : va_G} {cs : Nat → ClassId} {o1 o2 cells slots : Nat} {x3 : Int32} {S : GS} {M : MS} {Inv : GS → MS → Prop} (hc : l_X p s m meth c b L xs D cs) (hG : z_G_0 Inv o1) (hob : ∀ S M, Inv S M → g_is S 7 o1) (hI : Inv S M) (hi1 : vp_in (x3 + 1) L) (hi2 : vp_in (x3 + 2) L) (hi3 : vp_in (x3 + 3) L) (hi4 : vp_in (x3 + 4) L) (hi5 : vp_in (x3 + 5) L) (hrc : cells + 20 ≤ 600000) (hrs : slots + 123 ≤ 7302250) (kk : ∀ (S1 : GS) (M1 : MS), Inv S1 M1 → l_At p l e s m below meth c b D cs o1 o2 1284 (cells + 20) (slots + 123) x3 S1 M1) : l_At p l e s m below meth c b D cs o1 o2 168 cells slots x3 S M := by
  intro H locs ls hw hl
  have hx := hc.1.1
  have hb : c.code = code := hc.1.2.1
  obtain ⟨r, S1, M1, e1, e2, hI1⟩ := hG S M hI (xs (x3 + 1).toNatClampNeg) (xs (x3 + 2).toNatClampNeg) (xs (x3 + 3).toNatClampNeg) (xs (x3 + 4).toNatClampNeg)
  refine lv_aload_n hx hb dL_law_168 rfl (lv_at hl 1 rfl) ?_
  refine lv_aload_n hx hb dL_law_169 rfl (lv_at hl 0 rfl) ?_
  refine lv_iload_n hx hb dL_law_170 rfl (lv_at hl 3 rfl) ?_
  refine lv_iconst (v := 1) hx hb dL_law_171 (by decide) ?_
  refine lv_iadd hx hb dL_law_172 ?_
  refine l_sld hc hw.2.2.1 hi1 dL_law_173 ?_
  refine lv_aload_n hx hb dL_law_174 rfl (lv_at hl 0 rfl) ?_
  refine lv_iload_n hx hb dL_law_175 rfl (lv_at hl 3 rfl) ?_
  refine lv_iconst (v := 2) hx hb dL_law_176 (by decide) ?_
  refine lv_iadd hx hb dL_law_177 ?_
  refine l_sld hc hw.2.2.1 hi2 dL_law_178 ?_
  refine lv_aload_n hx hb dL_law_179 rfl (lv_at hl 0 rfl) ?_
  refine lv_iload_n hx hb dL_law_180 rfl (lv_at hl 3 rfl) ?_
  refine lv_iconst (v := 3) hx hb dL_law_181 (by decide) ?_
  refine lv_iadd hx hb dL_law_182 ?_
  refine l_sld hc hw.2.2.1 hi3 dL_law_183 ?_
  refine lv_aload_n hx hb dL_law_184 rfl (lv_at hl 0 rfl) ?_
  refine lv_iload_n hx hb dL_law_185 rfl (lv_at hl 3 rfl) ?_
  refine lv_iconst (v := 4) hx hb dL_law_186 (by decide) ?_
  refine lv_iadd hx hb dL_law_187 ?_
  refine l_sld hc hw.2.2.1 hi4 dL_law_188 ?_
  refine l_callC (As := [.int (xs (x3 + 1).toNatClampNeg), .int (xs (x3 + 2).toNatClampNeg), .int (xs (x3 + 3).toNatClampNeg), .int (xs (x3 + 4).toNatClampNeg)]) (rv := some (.int r)) (S' := S1) (n := 4) hc hw (hob S M hI) (mt_X7_point l D cs (l_A s o2) S o1 (xs (x3 + 1).toNatClampNeg) (xs (x3 + 2).toNatClampNeg) (xs (x3 + 3).toNatClampNeg) (xs (x3 + 4).toNatClampNeg) e1) wM_L_13 wI_X7_point wS_X7_point wZ_X7 wC_X7_point md_X7_point ⟨rfl, rfl, Nat.le_of_ble_eq_true rfl, Nat.le_of_ble_eq_true rfl⟩ rfl hl.1 rfl (Nat.le_of_ble_eq_true rfl) dL_law_189 ⟨by show _ ≤ 600000; omega, by show _ ≤ 7302250; omega⟩ (fun H locs hw => ?_)
  show W p l e room_1 s m #[Value.ref b] below meth c H locs (cells + 0) (slots + 0) (lw_Z below #[Value.ref b] s) (F0 m 192 ls [.int r])
  refine lv_aload_n hx hb dL_law_192 rfl (lv_at hl 2 rfl) ?_
  refine lv_aload_n hx hb dL_law_193 rfl (lv_at hl 0 rfl) ?_
  refine lv_iload_n hx hb dL_law_194 rfl (lv_at hl 3 rfl) ?_
  refine lv_iconst (v := 1) hx hb dL_law_195 (by decide) ?_
  refine lv_iadd hx hb dL_law_196 ?_
  refine l_sld hc hw.2.2.1 hi1 dL_law_197 ?_
  refine lv_aload_n hx hb dL_law_198 rfl (lv_at hl 0 rfl) ?_
  refine lv_iload_n hx hb dL_law_199 rfl (lv_at hl 3 rfl) ?_
  refine lv_iconst (v := 2) hx hb dL_law_200 (by decide) ?_
  refine lv_iadd hx hb dL_law_201 ?_
  refine l_sld hc hw.2.2.1 hi2 dL_law_202 ?_
  refine lv_aload_n hx hb dL_law_203 rfl (lv_at hl 0 rfl) ?_
  refine lv_iload_n hx hb dL_law_204 rfl (lv_at hl 3 rfl) ?_
  refine lv_iconst (v := 3) hx hb dL_law_205 (by decide) ?_
  refine lv_iadd hx hb dL_law_206 ?_
  refine l_sld hc hw.2.2.1 hi3 dL_law_207 ?_
  refine lv_aload_n hx hb dL_law_208 rfl (lv_at hl 0 rfl) ?_
  refine lv_iload_n hx hb dL_law_209 rfl (lv_at hl 3 rfl) ?_
  refine lv_iconst (v := 4) hx hb dL_law_210 (by decide) ?_
  refine lv_iadd hx hb dL_law_211 ?_
  refine l_sld hc hw.2.2.1 hi4 dL_law_212 ?_
  refine l_callMi (As := [.int (xs (x3 + 1).toNatClampNeg), .int (xs (x3 + 2).toNatClampNeg), .int (xs (x3 + 3).toNatClampNeg), .int (xs (x3 + 4).toNatClampNeg)]) (r := r) (M' := M1) (n := 4) hc hw (mt_X8_point l D (cs 0) (cs 1) o2 H.size M (xs (x3 + 1).toNatClampNeg) (xs (x3 + 2).toNatClampNeg) (xs (x3 + 3).toNatClampNeg) (xs (x3 + 4).toNatClampNeg) e2) wM_L_17 wI_X8_point wS_X8_point wZ_X8 wC_X8_point md_X8_point ⟨rfl, rfl, Nat.le_of_ble_eq_true rfl, Nat.le_of_ble_eq_true rfl⟩ rfl hl.1 rfl (Nat.le_of_ble_eq_true rfl) dL_law_213 ⟨by show _ ≤ 600000; omega, by show _ ≤ 7302250; omega⟩ (fun H locs hw => ?_)
  refine lv_icmp_eq (tgt := 1284) hx hb dL_law_216 (by decide) (fun cq => ?_) (fun cq => ?_)
  · refine W.widen (k := cells + 20) (n := slots + 123) (by omega) (by omega) ?_
    exact kk S1 M1 hI1 H locs ls hw hl
  · exact absurd rfl cq
/-- take: class and reference answer alike -/
def z_G_1 (Inv : GS → MS → Prop) (o : Nat) : Prop := ∀ (S : GS) (M : MS), Inv S M → ∀ (a0 a1 : Int32), ∃ (r : Int32) (S1 : GS) (M1 : MS), f_X7_take S o a0 a1 = some (r, S1) ∧ f_X8_take M a0 a1 = some (r, M1) ∧ Inv S1 M1
set_option maxHeartbeats 4000000 in
theorem l_case_1 {p : Program} {l : Launch} {e : Env} {s : State} {m : MethodId} {below : List Frame} {meth : Method} {c : Code} {b L : Nat} {xs : Nat → Int32} {D : va_G} {cs : Nat → ClassId} {o1 o2 cells slots : Nat} {x3 : Int32} {S : GS} {M : MS} {Inv : GS → MS → Prop} (hc : l_X p s m meth c b L xs D cs) (hG : z_G_1 Inv o1) (hob : ∀ S M, Inv S M → g_is S 7 o1) (hI : Inv S M) (hi1 : vp_in (x3 + 1) L) (hi2 : vp_in (x3 + 2) L) (hi3 : vp_in (x3 + 3) L) (hi4 : vp_in (x3 + 4) L) (hi5 : vp_in (x3 + 5) L) (hrc : cells + 20 ≤ 600000) (hrs : slots + 123 ≤ 7302250) (kk : ∀ (S1 : GS) (M1 : MS), Inv S1 M1 → l_At p l e s m below meth c b D cs o1 o2 1284 (cells + 20) (slots + 123) x3 S1 M1) : l_At p l e s m below meth c b D cs o1 o2 221 cells slots x3 S M := by
  intro H locs ls hw hl
  have hx := hc.1.1
  have hb : c.code = code := hc.1.2.1
  obtain ⟨r, S1, M1, e1, e2, hI1⟩ := hG S M hI (xs (x3 + 1).toNatClampNeg) (xs (x3 + 2).toNatClampNeg)
  refine lv_aload_n hx hb dL_law_221 rfl (lv_at hl 1 rfl) ?_
  refine lv_aload_n hx hb dL_law_222 rfl (lv_at hl 0 rfl) ?_
  refine lv_iload_n hx hb dL_law_223 rfl (lv_at hl 3 rfl) ?_
  refine lv_iconst (v := 1) hx hb dL_law_224 (by decide) ?_
  refine lv_iadd hx hb dL_law_225 ?_
  refine l_sld hc hw.2.2.1 hi1 dL_law_226 ?_
  refine lv_aload_n hx hb dL_law_227 rfl (lv_at hl 0 rfl) ?_
  refine lv_iload_n hx hb dL_law_228 rfl (lv_at hl 3 rfl) ?_
  refine lv_iconst (v := 2) hx hb dL_law_229 (by decide) ?_
  refine lv_iadd hx hb dL_law_230 ?_
  refine l_sld hc hw.2.2.1 hi2 dL_law_231 ?_
  refine l_callC (As := [.int (xs (x3 + 1).toNatClampNeg), .int (xs (x3 + 2).toNatClampNeg)]) (rv := some (.int r)) (S' := S1) (n := 2) hc hw (hob S M hI) (mt_X7_take l D cs (l_A s o2) S o1 (xs (x3 + 1).toNatClampNeg) (xs (x3 + 2).toNatClampNeg) e1) wM_L_18 wI_X7_take wS_X7_take wZ_X7 wC_X7_take md_X7_take ⟨rfl, rfl, Nat.le_of_ble_eq_true rfl, Nat.le_of_ble_eq_true rfl⟩ rfl hl.1 rfl (Nat.le_of_ble_eq_true rfl) dL_law_232 ⟨by show _ ≤ 600000; omega, by show _ ≤ 7302250; omega⟩ (fun H locs hw => ?_)
  show W p l e room_1 s m #[Value.ref b] below meth c H locs (cells + 0) (slots + 0) (lw_Z below #[Value.ref b] s) (F0 m 235 ls [.int r])
  refine lv_aload_n hx hb dL_law_235 rfl (lv_at hl 2 rfl) ?_
  refine lv_aload_n hx hb dL_law_236 rfl (lv_at hl 0 rfl) ?_
  refine lv_iload_n hx hb dL_law_237 rfl (lv_at hl 3 rfl) ?_
  refine lv_iconst (v := 1) hx hb dL_law_238 (by decide) ?_
  refine lv_iadd hx hb dL_law_239 ?_
  refine l_sld hc hw.2.2.1 hi1 dL_law_240 ?_
  refine lv_aload_n hx hb dL_law_241 rfl (lv_at hl 0 rfl) ?_
  refine lv_iload_n hx hb dL_law_242 rfl (lv_at hl 3 rfl) ?_
  refine lv_iconst (v := 2) hx hb dL_law_243 (by decide) ?_
  refine lv_iadd hx hb dL_law_244 ?_
  refine l_sld hc hw.2.2.1 hi2 dL_law_245 ?_
  refine l_callMi (As := [.int (xs (x3 + 1).toNatClampNeg), .int (xs (x3 + 2).toNatClampNeg)]) (r := r) (M' := M1) (n := 2) hc hw (mt_X8_take l D (cs 0) (cs 1) o2 H.size M (xs (x3 + 1).toNatClampNeg) (xs (x3 + 2).toNatClampNeg) e2) wM_L_22 wI_X8_take wS_X8_take wZ_X8 wC_X8_take md_X8_take ⟨rfl, rfl, Nat.le_of_ble_eq_true rfl, Nat.le_of_ble_eq_true rfl⟩ rfl hl.1 rfl (Nat.le_of_ble_eq_true rfl) dL_law_246 ⟨by show _ ≤ 600000; omega, by show _ ≤ 7302250; omega⟩ (fun H locs hw => ?_)
  refine lv_icmp_eq (tgt := 1284) hx hb dL_law_249 (by decide) (fun cq => ?_) (fun cq => ?_)
  · refine W.widen (k := cells + 20) (n := slots + 123) (by omega) (by omega) ?_
    exact kk S1 M1 hI1 H locs ls hw hl
  · exact absurd rfl cq
/-- fit: class and reference answer alike -/
def z_G_2 (Inv : GS → MS → Prop) (o : Nat) : Prop := ∀ (S : GS) (M : MS), Inv S M → ∀ (a0 a1 a2 a3 a4 : Int32), ∃ (r : Int32) (S1 : GS) (M1 : MS), f_X7_fit S o a0 a1 a2 a3 a4 = some (r, S1) ∧ f_X8_fit M a0 a1 a2 a3 a4 = some (r, M1) ∧ Inv S1 M1
set_option maxHeartbeats 4000000 in
theorem l_case_2 {p : Program} {l : Launch} {e : Env} {s : State} {m : MethodId} {below : List Frame} {meth : Method} {c : Code} {b L : Nat} {xs : Nat → Int32} {D : va_G} {cs : Nat → ClassId} {o1 o2 cells slots : Nat} {x3 : Int32} {S : GS} {M : MS} {Inv : GS → MS → Prop} (hc : l_X p s m meth c b L xs D cs) (hG : z_G_2 Inv o1) (hob : ∀ S M, Inv S M → g_is S 7 o1) (hI : Inv S M) (hi1 : vp_in (x3 + 1) L) (hi2 : vp_in (x3 + 2) L) (hi3 : vp_in (x3 + 3) L) (hi4 : vp_in (x3 + 4) L) (hi5 : vp_in (x3 + 5) L) (hrc : cells + 20 ≤ 600000) (hrs : slots + 123 ≤ 7302250) (kk : ∀ (S1 : GS) (M1 : MS), Inv S1 M1 → l_At p l e s m below meth c b D cs o1 o2 1284 (cells + 20) (slots + 123) x3 S1 M1) : l_At p l e s m below meth c b D cs o1 o2 254 cells slots x3 S M := by
  intro H locs ls hw hl
  have hx := hc.1.1
  have hb : c.code = code := hc.1.2.1
  obtain ⟨r, S1, M1, e1, e2, hI1⟩ := hG S M hI (xs (x3 + 1).toNatClampNeg) (xs (x3 + 2).toNatClampNeg) (xs (x3 + 3).toNatClampNeg) (xs (x3 + 4).toNatClampNeg) (xs (x3 + 5).toNatClampNeg)
  refine lv_aload_n hx hb dL_law_254 rfl (lv_at hl 1 rfl) ?_
  refine lv_aload_n hx hb dL_law_255 rfl (lv_at hl 0 rfl) ?_
  refine lv_iload_n hx hb dL_law_256 rfl (lv_at hl 3 rfl) ?_
  refine lv_iconst (v := 1) hx hb dL_law_257 (by decide) ?_
  refine lv_iadd hx hb dL_law_258 ?_
  refine l_sld hc hw.2.2.1 hi1 dL_law_259 ?_
  refine lv_aload_n hx hb dL_law_260 rfl (lv_at hl 0 rfl) ?_
  refine lv_iload_n hx hb dL_law_261 rfl (lv_at hl 3 rfl) ?_
  refine lv_iconst (v := 2) hx hb dL_law_262 (by decide) ?_
  refine lv_iadd hx hb dL_law_263 ?_
  refine l_sld hc hw.2.2.1 hi2 dL_law_264 ?_
  refine lv_aload_n hx hb dL_law_265 rfl (lv_at hl 0 rfl) ?_
  refine lv_iload_n hx hb dL_law_266 rfl (lv_at hl 3 rfl) ?_
  refine lv_iconst (v := 3) hx hb dL_law_267 (by decide) ?_
  refine lv_iadd hx hb dL_law_268 ?_
  refine l_sld hc hw.2.2.1 hi3 dL_law_269 ?_
  refine lv_aload_n hx hb dL_law_270 rfl (lv_at hl 0 rfl) ?_
  refine lv_iload_n hx hb dL_law_271 rfl (lv_at hl 3 rfl) ?_
  refine lv_iconst (v := 4) hx hb dL_law_272 (by decide) ?_
  refine lv_iadd hx hb dL_law_273 ?_
  refine l_sld hc hw.2.2.1 hi4 dL_law_274 ?_
  refine lv_aload_n hx hb dL_law_275 rfl (lv_at hl 0 rfl) ?_
  refine lv_iload_n hx hb dL_law_276 rfl (lv_at hl 3 rfl) ?_
  refine lv_iconst (v := 5) hx hb dL_law_277 (by decide) ?_
  refine lv_iadd hx hb dL_law_278 ?_
  refine l_sld hc hw.2.2.1 hi5 dL_law_279 ?_
  refine l_callC (As := [.int (xs (x3 + 1).toNatClampNeg), .int (xs (x3 + 2).toNatClampNeg), .int (xs (x3 + 3).toNatClampNeg), .int (xs (x3 + 4).toNatClampNeg), .int (xs (x3 + 5).toNatClampNeg)]) (rv := some (.int r)) (S' := S1) (n := 5) hc hw (hob S M hI) (mt_X7_fit l D cs (l_A s o2) S o1 (xs (x3 + 1).toNatClampNeg) (xs (x3 + 2).toNatClampNeg) (xs (x3 + 3).toNatClampNeg) (xs (x3 + 4).toNatClampNeg) (xs (x3 + 5).toNatClampNeg) e1) wM_L_23 wI_X7_fit wS_X7_fit wZ_X7 wC_X7_fit md_X7_fit ⟨rfl, rfl, Nat.le_of_ble_eq_true rfl, Nat.le_of_ble_eq_true rfl⟩ rfl hl.1 rfl (Nat.le_of_ble_eq_true rfl) dL_law_280 ⟨by show _ ≤ 600000; omega, by show _ ≤ 7302250; omega⟩ (fun H locs hw => ?_)
  show W p l e room_1 s m #[Value.ref b] below meth c H locs (cells + 8) (slots + 75) (lw_Z below #[Value.ref b] s) (F0 m 283 ls [.int r])
  refine lv_aload_n hx hb dL_law_283 rfl (lv_at hl 2 rfl) ?_
  refine lv_aload_n hx hb dL_law_284 rfl (lv_at hl 0 rfl) ?_
  refine lv_iload_n hx hb dL_law_285 rfl (lv_at hl 3 rfl) ?_
  refine lv_iconst (v := 1) hx hb dL_law_286 (by decide) ?_
  refine lv_iadd hx hb dL_law_287 ?_
  refine l_sld hc hw.2.2.1 hi1 dL_law_288 ?_
  refine lv_aload_n hx hb dL_law_289 rfl (lv_at hl 0 rfl) ?_
  refine lv_iload_n hx hb dL_law_290 rfl (lv_at hl 3 rfl) ?_
  refine lv_iconst (v := 2) hx hb dL_law_291 (by decide) ?_
  refine lv_iadd hx hb dL_law_292 ?_
  refine l_sld hc hw.2.2.1 hi2 dL_law_293 ?_
  refine lv_aload_n hx hb dL_law_294 rfl (lv_at hl 0 rfl) ?_
  refine lv_iload_n hx hb dL_law_295 rfl (lv_at hl 3 rfl) ?_
  refine lv_iconst (v := 3) hx hb dL_law_296 (by decide) ?_
  refine lv_iadd hx hb dL_law_297 ?_
  refine l_sld hc hw.2.2.1 hi3 dL_law_298 ?_
  refine lv_aload_n hx hb dL_law_299 rfl (lv_at hl 0 rfl) ?_
  refine lv_iload_n hx hb dL_law_300 rfl (lv_at hl 3 rfl) ?_
  refine lv_iconst (v := 4) hx hb dL_law_301 (by decide) ?_
  refine lv_iadd hx hb dL_law_302 ?_
  refine l_sld hc hw.2.2.1 hi4 dL_law_303 ?_
  refine lv_aload_n hx hb dL_law_304 rfl (lv_at hl 0 rfl) ?_
  refine lv_iload_n hx hb dL_law_305 rfl (lv_at hl 3 rfl) ?_
  refine lv_iconst (v := 5) hx hb dL_law_306 (by decide) ?_
  refine lv_iadd hx hb dL_law_307 ?_
  refine l_sld hc hw.2.2.1 hi5 dL_law_308 ?_
  refine l_callMi (As := [.int (xs (x3 + 1).toNatClampNeg), .int (xs (x3 + 2).toNatClampNeg), .int (xs (x3 + 3).toNatClampNeg), .int (xs (x3 + 4).toNatClampNeg), .int (xs (x3 + 5).toNatClampNeg)]) (r := r) (M' := M1) (n := 5) hc hw (mt_X8_fit l D (cs 0) (cs 1) o2 H.size M (xs (x3 + 1).toNatClampNeg) (xs (x3 + 2).toNatClampNeg) (xs (x3 + 3).toNatClampNeg) (xs (x3 + 4).toNatClampNeg) (xs (x3 + 5).toNatClampNeg) e2) wM_L_27 wI_X8_fit wS_X8_fit wZ_X8 wC_X8_fit md_X8_fit ⟨rfl, rfl, Nat.le_of_ble_eq_true rfl, Nat.le_of_ble_eq_true rfl⟩ rfl hl.1 rfl (Nat.le_of_ble_eq_true rfl) dL_law_309 ⟨by show _ ≤ 600000; omega, by show _ ≤ 7302250; omega⟩ (fun H locs hw => ?_)
  refine lv_icmp_eq (tgt := 1284) hx hb dL_law_312 (by decide) (fun cq => ?_) (fun cq => ?_)
  · refine W.widen (k := cells + 20) (n := slots + 123) (by omega) (by omega) ?_
    exact kk S1 M1 hI1 H locs ls hw hl
  · exact absurd rfl cq
/-- line: class and reference answer alike -/
def z_G_3 (Inv : GS → MS → Prop) (o : Nat) : Prop := ∀ (S : GS) (M : MS), Inv S M → ∀ (a0 a1 : Int32), ∃ (r : Int32) (S1 : GS) (M1 : MS), f_X7_line S o a0 a1 = some (r, S1) ∧ f_X8_line M a0 a1 = some (r, M1) ∧ Inv S1 M1
set_option maxHeartbeats 4000000 in
theorem l_case_3 {p : Program} {l : Launch} {e : Env} {s : State} {m : MethodId} {below : List Frame} {meth : Method} {c : Code} {b L : Nat} {xs : Nat → Int32} {D : va_G} {cs : Nat → ClassId} {o1 o2 cells slots : Nat} {x3 : Int32} {S : GS} {M : MS} {Inv : GS → MS → Prop} (hc : l_X p s m meth c b L xs D cs) (hG : z_G_3 Inv o1) (hob : ∀ S M, Inv S M → g_is S 7 o1) (hI : Inv S M) (hi1 : vp_in (x3 + 1) L) (hi2 : vp_in (x3 + 2) L) (hi3 : vp_in (x3 + 3) L) (hi4 : vp_in (x3 + 4) L) (hi5 : vp_in (x3 + 5) L) (hrc : cells + 20 ≤ 600000) (hrs : slots + 123 ≤ 7302250) (kk : ∀ (S1 : GS) (M1 : MS), Inv S1 M1 → l_At p l e s m below meth c b D cs o1 o2 1284 (cells + 20) (slots + 123) x3 S1 M1) : l_At p l e s m below meth c b D cs o1 o2 317 cells slots x3 S M := by
  intro H locs ls hw hl
  have hx := hc.1.1
  have hb : c.code = code := hc.1.2.1
  obtain ⟨r, S1, M1, e1, e2, hI1⟩ := hG S M hI (xs (x3 + 1).toNatClampNeg) (xs (x3 + 2).toNatClampNeg)
  refine lv_aload_n hx hb dL_law_317 rfl (lv_at hl 1 rfl) ?_
  refine lv_aload_n hx hb dL_law_318 rfl (lv_at hl 0 rfl) ?_
  refine lv_iload_n hx hb dL_law_319 rfl (lv_at hl 3 rfl) ?_
  refine lv_iconst (v := 1) hx hb dL_law_320 (by decide) ?_
  refine lv_iadd hx hb dL_law_321 ?_
  refine l_sld hc hw.2.2.1 hi1 dL_law_322 ?_
  refine lv_aload_n hx hb dL_law_323 rfl (lv_at hl 0 rfl) ?_
  refine lv_iload_n hx hb dL_law_324 rfl (lv_at hl 3 rfl) ?_
  refine lv_iconst (v := 2) hx hb dL_law_325 (by decide) ?_
  refine lv_iadd hx hb dL_law_326 ?_
  refine l_sld hc hw.2.2.1 hi2 dL_law_327 ?_
  refine l_callC (As := [.int (xs (x3 + 1).toNatClampNeg), .int (xs (x3 + 2).toNatClampNeg)]) (rv := some (.int r)) (S' := S1) (n := 2) hc hw (hob S M hI) (mt_X7_line l D cs (l_A s o2) S o1 (xs (x3 + 1).toNatClampNeg) (xs (x3 + 2).toNatClampNeg) e1) wM_L_28 wI_X7_line wS_X7_line wZ_X7 wC_X7_line md_X7_line ⟨rfl, rfl, Nat.le_of_ble_eq_true rfl, Nat.le_of_ble_eq_true rfl⟩ rfl hl.1 rfl (Nat.le_of_ble_eq_true rfl) dL_law_328 ⟨by show _ ≤ 600000; omega, by show _ ≤ 7302250; omega⟩ (fun H locs hw => ?_)
  show W p l e room_1 s m #[Value.ref b] below meth c H locs (cells + 8) (slots + 75) (lw_Z below #[Value.ref b] s) (F0 m 331 ls [.int r])
  refine lv_aload_n hx hb dL_law_331 rfl (lv_at hl 2 rfl) ?_
  refine lv_aload_n hx hb dL_law_332 rfl (lv_at hl 0 rfl) ?_
  refine lv_iload_n hx hb dL_law_333 rfl (lv_at hl 3 rfl) ?_
  refine lv_iconst (v := 1) hx hb dL_law_334 (by decide) ?_
  refine lv_iadd hx hb dL_law_335 ?_
  refine l_sld hc hw.2.2.1 hi1 dL_law_336 ?_
  refine lv_aload_n hx hb dL_law_337 rfl (lv_at hl 0 rfl) ?_
  refine lv_iload_n hx hb dL_law_338 rfl (lv_at hl 3 rfl) ?_
  refine lv_iconst (v := 2) hx hb dL_law_339 (by decide) ?_
  refine lv_iadd hx hb dL_law_340 ?_
  refine l_sld hc hw.2.2.1 hi2 dL_law_341 ?_
  refine l_callMi (As := [.int (xs (x3 + 1).toNatClampNeg), .int (xs (x3 + 2).toNatClampNeg)]) (r := r) (M' := M1) (n := 2) hc hw (mt_X8_line l D (cs 0) (cs 1) o2 H.size M (xs (x3 + 1).toNatClampNeg) (xs (x3 + 2).toNatClampNeg) e2) wM_L_31 wI_X8_line wS_X8_line wZ_X8 wC_X8_line md_X8_line ⟨rfl, rfl, Nat.le_of_ble_eq_true rfl, Nat.le_of_ble_eq_true rfl⟩ rfl hl.1 rfl (Nat.le_of_ble_eq_true rfl) dL_law_342 ⟨by show _ ≤ 600000; omega, by show _ ≤ 7302250; omega⟩ (fun H locs hw => ?_)
  refine lv_icmp_eq (tgt := 1284) hx hb dL_law_345 (by decide) (fun cq => ?_) (fun cq => ?_)
  · refine W.widen (k := cells + 20) (n := slots + 123) (by omega) (by omega) ?_
    exact kk S1 M1 hI1 H locs ls hw hl
  · exact absurd rfl cq
/-- even: class and reference answer alike -/
def z_G_4 (Inv : GS → MS → Prop) (o : Nat) : Prop := ∀ (S : GS) (M : MS), Inv S M → ∀ (a0 : Int32), ∃ (r : Int32) (S1 : GS) (M1 : MS), f_X7_even S o a0 = some (r, S1) ∧ f_X8_even M a0 = some (r, M1) ∧ Inv S1 M1
set_option maxHeartbeats 4000000 in
theorem l_case_4 {p : Program} {l : Launch} {e : Env} {s : State} {m : MethodId} {below : List Frame} {meth : Method} {c : Code} {b L : Nat} {xs : Nat → Int32} {D : va_G} {cs : Nat → ClassId} {o1 o2 cells slots : Nat} {x3 : Int32} {S : GS} {M : MS} {Inv : GS → MS → Prop} (hc : l_X p s m meth c b L xs D cs) (hG : z_G_4 Inv o1) (hob : ∀ S M, Inv S M → g_is S 7 o1) (hI : Inv S M) (hi1 : vp_in (x3 + 1) L) (hi2 : vp_in (x3 + 2) L) (hi3 : vp_in (x3 + 3) L) (hi4 : vp_in (x3 + 4) L) (hi5 : vp_in (x3 + 5) L) (hrc : cells + 20 ≤ 600000) (hrs : slots + 123 ≤ 7302250) (kk : ∀ (S1 : GS) (M1 : MS), Inv S1 M1 → l_At p l e s m below meth c b D cs o1 o2 1284 (cells + 20) (slots + 123) x3 S1 M1) : l_At p l e s m below meth c b D cs o1 o2 350 cells slots x3 S M := by
  intro H locs ls hw hl
  have hx := hc.1.1
  have hb : c.code = code := hc.1.2.1
  obtain ⟨r, S1, M1, e1, e2, hI1⟩ := hG S M hI (xs (x3 + 1).toNatClampNeg)
  refine lv_aload_n hx hb dL_law_350 rfl (lv_at hl 1 rfl) ?_
  refine lv_aload_n hx hb dL_law_351 rfl (lv_at hl 0 rfl) ?_
  refine lv_iload_n hx hb dL_law_352 rfl (lv_at hl 3 rfl) ?_
  refine lv_iconst (v := 1) hx hb dL_law_353 (by decide) ?_
  refine lv_iadd hx hb dL_law_354 ?_
  refine l_sld hc hw.2.2.1 hi1 dL_law_355 ?_
  refine l_callC (As := [.int (xs (x3 + 1).toNatClampNeg)]) (rv := some (.int r)) (S' := S1) (n := 1) hc hw (hob S M hI) (mt_X7_even l D cs (l_A s o2) S o1 (xs (x3 + 1).toNatClampNeg) e1) wM_L_32 wI_X7_even wS_X7_even wZ_X7 wC_X7_even md_X7_even ⟨rfl, rfl, Nat.le_of_ble_eq_true rfl, Nat.le_of_ble_eq_true rfl⟩ rfl hl.1 rfl (Nat.le_of_ble_eq_true rfl) dL_law_356 ⟨by show _ ≤ 600000; omega, by show _ ≤ 7302250; omega⟩ (fun H locs hw => ?_)
  show W p l e room_1 s m #[Value.ref b] below meth c H locs (cells + 8) (slots + 75) (lw_Z below #[Value.ref b] s) (F0 m 359 ls [.int r])
  refine lv_aload_n hx hb dL_law_359 rfl (lv_at hl 2 rfl) ?_
  refine lv_aload_n hx hb dL_law_360 rfl (lv_at hl 0 rfl) ?_
  refine lv_iload_n hx hb dL_law_361 rfl (lv_at hl 3 rfl) ?_
  refine lv_iconst (v := 1) hx hb dL_law_362 (by decide) ?_
  refine lv_iadd hx hb dL_law_363 ?_
  refine l_sld hc hw.2.2.1 hi1 dL_law_364 ?_
  refine l_callMi (As := [.int (xs (x3 + 1).toNatClampNeg)]) (r := r) (M' := M1) (n := 1) hc hw (mt_X8_even l D (cs 0) (cs 1) o2 H.size M (xs (x3 + 1).toNatClampNeg) e2) wM_L_36 wI_X8_even wS_X8_even wZ_X8 wC_X8_even md_X8_even ⟨rfl, rfl, Nat.le_of_ble_eq_true rfl, Nat.le_of_ble_eq_true rfl⟩ rfl hl.1 rfl (Nat.le_of_ble_eq_true rfl) dL_law_365 ⟨by show _ ≤ 600000; omega, by show _ ≤ 7302250; omega⟩ (fun H locs hw => ?_)
  refine lv_icmp_eq (tgt := 1284) hx hb dL_law_368 (by decide) (fun cq => ?_) (fun cq => ?_)
  · refine W.widen (k := cells + 20) (n := slots + 123) (by omega) (by omega) ?_
    exact kk S1 M1 hI1 H locs ls hw hl
  · exact absurd rfl cq
/-- shorts: class and reference answer alike -/
def z_G_5 (Inv : GS → MS → Prop) (o : Nat) : Prop := ∀ (S : GS) (M : MS), Inv S M → ∀ (a0 a1 a2 : Int32), ∃ (r : Int32) (S1 : GS) (M1 : MS), f_X7_shorts S o a0 a1 a2 = some (r, S1) ∧ f_X8_shorts M a0 a1 a2 = some (r, M1) ∧ Inv S1 M1
set_option maxHeartbeats 4000000 in
theorem l_case_5 {p : Program} {l : Launch} {e : Env} {s : State} {m : MethodId} {below : List Frame} {meth : Method} {c : Code} {b L : Nat} {xs : Nat → Int32} {D : va_G} {cs : Nat → ClassId} {o1 o2 cells slots : Nat} {x3 : Int32} {S : GS} {M : MS} {Inv : GS → MS → Prop} (hc : l_X p s m meth c b L xs D cs) (hG : z_G_5 Inv o1) (hob : ∀ S M, Inv S M → g_is S 7 o1) (hI : Inv S M) (hi1 : vp_in (x3 + 1) L) (hi2 : vp_in (x3 + 2) L) (hi3 : vp_in (x3 + 3) L) (hi4 : vp_in (x3 + 4) L) (hi5 : vp_in (x3 + 5) L) (hrc : cells + 20 ≤ 600000) (hrs : slots + 123 ≤ 7302250) (kk : ∀ (S1 : GS) (M1 : MS), Inv S1 M1 → l_At p l e s m below meth c b D cs o1 o2 1284 (cells + 20) (slots + 123) x3 S1 M1) : l_At p l e s m below meth c b D cs o1 o2 373 cells slots x3 S M := by
  intro H locs ls hw hl
  have hx := hc.1.1
  have hb : c.code = code := hc.1.2.1
  obtain ⟨r, S1, M1, e1, e2, hI1⟩ := hG S M hI (xs (x3 + 1).toNatClampNeg) (xs (x3 + 2).toNatClampNeg) (xs (x3 + 3).toNatClampNeg)
  refine lv_aload_n hx hb dL_law_373 rfl (lv_at hl 1 rfl) ?_
  refine lv_aload_n hx hb dL_law_374 rfl (lv_at hl 0 rfl) ?_
  refine lv_iload_n hx hb dL_law_375 rfl (lv_at hl 3 rfl) ?_
  refine lv_iconst (v := 1) hx hb dL_law_376 (by decide) ?_
  refine lv_iadd hx hb dL_law_377 ?_
  refine l_sld hc hw.2.2.1 hi1 dL_law_378 ?_
  refine lv_aload_n hx hb dL_law_379 rfl (lv_at hl 0 rfl) ?_
  refine lv_iload_n hx hb dL_law_380 rfl (lv_at hl 3 rfl) ?_
  refine lv_iconst (v := 2) hx hb dL_law_381 (by decide) ?_
  refine lv_iadd hx hb dL_law_382 ?_
  refine l_sld hc hw.2.2.1 hi2 dL_law_383 ?_
  refine lv_aload_n hx hb dL_law_384 rfl (lv_at hl 0 rfl) ?_
  refine lv_iload_n hx hb dL_law_385 rfl (lv_at hl 3 rfl) ?_
  refine lv_iconst (v := 3) hx hb dL_law_386 (by decide) ?_
  refine lv_iadd hx hb dL_law_387 ?_
  refine l_sld hc hw.2.2.1 hi3 dL_law_388 ?_
  refine l_callC (As := [.int (xs (x3 + 1).toNatClampNeg), .int (xs (x3 + 2).toNatClampNeg), .int (xs (x3 + 3).toNatClampNeg)]) (rv := some (.int r)) (S' := S1) (n := 3) hc hw (hob S M hI) (mt_X7_shorts l D cs (l_A s o2) S o1 (xs (x3 + 1).toNatClampNeg) (xs (x3 + 2).toNatClampNeg) (xs (x3 + 3).toNatClampNeg) e1) wM_L_37 wI_X7_shorts wS_X7_shorts wZ_X7 wC_X7_shorts md_X7_shorts ⟨rfl, rfl, Nat.le_of_ble_eq_true rfl, Nat.le_of_ble_eq_true rfl⟩ rfl hl.1 rfl (Nat.le_of_ble_eq_true rfl) dL_law_389 ⟨by show _ ≤ 600000; omega, by show _ ≤ 7302250; omega⟩ (fun H locs hw => ?_)
  show W p l e room_1 s m #[Value.ref b] below meth c H locs (cells + 8) (slots + 75) (lw_Z below #[Value.ref b] s) (F0 m 392 ls [.int r])
  refine lv_aload_n hx hb dL_law_392 rfl (lv_at hl 2 rfl) ?_
  refine lv_aload_n hx hb dL_law_393 rfl (lv_at hl 0 rfl) ?_
  refine lv_iload_n hx hb dL_law_394 rfl (lv_at hl 3 rfl) ?_
  refine lv_iconst (v := 1) hx hb dL_law_395 (by decide) ?_
  refine lv_iadd hx hb dL_law_396 ?_
  refine l_sld hc hw.2.2.1 hi1 dL_law_397 ?_
  refine lv_aload_n hx hb dL_law_398 rfl (lv_at hl 0 rfl) ?_
  refine lv_iload_n hx hb dL_law_399 rfl (lv_at hl 3 rfl) ?_
  refine lv_iconst (v := 2) hx hb dL_law_400 (by decide) ?_
  refine lv_iadd hx hb dL_law_401 ?_
  refine l_sld hc hw.2.2.1 hi2 dL_law_402 ?_
  refine lv_aload_n hx hb dL_law_403 rfl (lv_at hl 0 rfl) ?_
  refine lv_iload_n hx hb dL_law_404 rfl (lv_at hl 3 rfl) ?_
  refine lv_iconst (v := 3) hx hb dL_law_405 (by decide) ?_
  refine lv_iadd hx hb dL_law_406 ?_
  refine l_sld hc hw.2.2.1 hi3 dL_law_407 ?_
  refine l_callMi (As := [.int (xs (x3 + 1).toNatClampNeg), .int (xs (x3 + 2).toNatClampNeg), .int (xs (x3 + 3).toNatClampNeg)]) (r := r) (M' := M1) (n := 3) hc hw (mt_X8_shorts l D (cs 0) (cs 1) o2 H.size M (xs (x3 + 1).toNatClampNeg) (xs (x3 + 2).toNatClampNeg) (xs (x3 + 3).toNatClampNeg) e2) wM_L_41 wI_X8_shorts wS_X8_shorts wZ_X8 wC_X8_shorts md_X8_shorts ⟨rfl, rfl, Nat.le_of_ble_eq_true rfl, Nat.le_of_ble_eq_true rfl⟩ rfl hl.1 rfl (Nat.le_of_ble_eq_true rfl) dL_law_408 ⟨by show _ ≤ 600000; omega, by show _ ≤ 7302250; omega⟩ (fun H locs hw => ?_)
  refine lv_icmp_eq (tgt := 1284) hx hb dL_law_411 (by decide) (fun cq => ?_) (fun cq => ?_)
  · refine W.widen (k := cells + 20) (n := slots + 123) (by omega) (by omega) ?_
    exact kk S1 M1 hI1 H locs ls hw hl
  · exact absurd rfl cq
/-- pieces: class and reference answer alike -/
def z_G_6 (Inv : GS → MS → Prop) (o : Nat) : Prop := ∀ (S : GS) (M : MS), Inv S M → ∀ (a0 a1 a2 a3 : Int32), ∃ (r : Int32) (S1 : GS) (M1 : MS), f_X7_pieces S o a0 a1 a2 a3 = some (r, S1) ∧ f_X8_pieces M a0 a1 a2 a3 = some (r, M1) ∧ Inv S1 M1
set_option maxHeartbeats 4000000 in
theorem l_case_6 {p : Program} {l : Launch} {e : Env} {s : State} {m : MethodId} {below : List Frame} {meth : Method} {c : Code} {b L : Nat} {xs : Nat → Int32} {D : va_G} {cs : Nat → ClassId} {o1 o2 cells slots : Nat} {x3 : Int32} {S : GS} {M : MS} {Inv : GS → MS → Prop} (hc : l_X p s m meth c b L xs D cs) (hG : z_G_6 Inv o1) (hob : ∀ S M, Inv S M → g_is S 7 o1) (hI : Inv S M) (hi1 : vp_in (x3 + 1) L) (hi2 : vp_in (x3 + 2) L) (hi3 : vp_in (x3 + 3) L) (hi4 : vp_in (x3 + 4) L) (hi5 : vp_in (x3 + 5) L) (hrc : cells + 20 ≤ 600000) (hrs : slots + 123 ≤ 7302250) (kk : ∀ (S1 : GS) (M1 : MS), Inv S1 M1 → l_At p l e s m below meth c b D cs o1 o2 1284 (cells + 20) (slots + 123) x3 S1 M1) : l_At p l e s m below meth c b D cs o1 o2 416 cells slots x3 S M := by
  intro H locs ls hw hl
  have hx := hc.1.1
  have hb : c.code = code := hc.1.2.1
  obtain ⟨r, S1, M1, e1, e2, hI1⟩ := hG S M hI (xs (x3 + 1).toNatClampNeg) (xs (x3 + 2).toNatClampNeg) (xs (x3 + 3).toNatClampNeg) (xs (x3 + 4).toNatClampNeg)
  refine lv_aload_n hx hb dL_law_416 rfl (lv_at hl 1 rfl) ?_
  refine lv_aload_n hx hb dL_law_417 rfl (lv_at hl 0 rfl) ?_
  refine lv_iload_n hx hb dL_law_418 rfl (lv_at hl 3 rfl) ?_
  refine lv_iconst (v := 1) hx hb dL_law_419 (by decide) ?_
  refine lv_iadd hx hb dL_law_420 ?_
  refine l_sld hc hw.2.2.1 hi1 dL_law_421 ?_
  refine lv_aload_n hx hb dL_law_422 rfl (lv_at hl 0 rfl) ?_
  refine lv_iload_n hx hb dL_law_423 rfl (lv_at hl 3 rfl) ?_
  refine lv_iconst (v := 2) hx hb dL_law_424 (by decide) ?_
  refine lv_iadd hx hb dL_law_425 ?_
  refine l_sld hc hw.2.2.1 hi2 dL_law_426 ?_
  refine lv_aload_n hx hb dL_law_427 rfl (lv_at hl 0 rfl) ?_
  refine lv_iload_n hx hb dL_law_428 rfl (lv_at hl 3 rfl) ?_
  refine lv_iconst (v := 3) hx hb dL_law_429 (by decide) ?_
  refine lv_iadd hx hb dL_law_430 ?_
  refine l_sld hc hw.2.2.1 hi3 dL_law_431 ?_
  refine lv_aload_n hx hb dL_law_432 rfl (lv_at hl 0 rfl) ?_
  refine lv_iload_n hx hb dL_law_433 rfl (lv_at hl 3 rfl) ?_
  refine lv_iconst (v := 4) hx hb dL_law_434 (by decide) ?_
  refine lv_iadd hx hb dL_law_435 ?_
  refine l_sld hc hw.2.2.1 hi4 dL_law_436 ?_
  refine l_callC (As := [.int (xs (x3 + 1).toNatClampNeg), .int (xs (x3 + 2).toNatClampNeg), .int (xs (x3 + 3).toNatClampNeg), .int (xs (x3 + 4).toNatClampNeg)]) (rv := some (.int r)) (S' := S1) (n := 4) hc hw (hob S M hI) (mt_X7_pieces l D cs (l_A s o2) S o1 (xs (x3 + 1).toNatClampNeg) (xs (x3 + 2).toNatClampNeg) (xs (x3 + 3).toNatClampNeg) (xs (x3 + 4).toNatClampNeg) e1) wM_L_42 wI_X7_pieces wS_X7_pieces wZ_X7 wC_X7_pieces md_X7_pieces ⟨rfl, rfl, Nat.le_of_ble_eq_true rfl, Nat.le_of_ble_eq_true rfl⟩ rfl hl.1 rfl (Nat.le_of_ble_eq_true rfl) dL_law_437 ⟨by show _ ≤ 600000; omega, by show _ ≤ 7302250; omega⟩ (fun H locs hw => ?_)
  show W p l e room_1 s m #[Value.ref b] below meth c H locs (cells + 20) (slots + 123) (lw_Z below #[Value.ref b] s) (F0 m 440 ls [.int r])
  refine lv_aload_n hx hb dL_law_440 rfl (lv_at hl 2 rfl) ?_
  refine lv_aload_n hx hb dL_law_441 rfl (lv_at hl 0 rfl) ?_
  refine lv_iload_n hx hb dL_law_442 rfl (lv_at hl 3 rfl) ?_
  refine lv_iconst (v := 1) hx hb dL_law_443 (by decide) ?_
  refine lv_iadd hx hb dL_law_444 ?_
  refine l_sld hc hw.2.2.1 hi1 dL_law_445 ?_
  refine lv_aload_n hx hb dL_law_446 rfl (lv_at hl 0 rfl) ?_
  refine lv_iload_n hx hb dL_law_447 rfl (lv_at hl 3 rfl) ?_
  refine lv_iconst (v := 2) hx hb dL_law_448 (by decide) ?_
  refine lv_iadd hx hb dL_law_449 ?_
  refine l_sld hc hw.2.2.1 hi2 dL_law_450 ?_
  refine lv_aload_n hx hb dL_law_451 rfl (lv_at hl 0 rfl) ?_
  refine lv_iload_n hx hb dL_law_452 rfl (lv_at hl 3 rfl) ?_
  refine lv_iconst (v := 3) hx hb dL_law_453 (by decide) ?_
  refine lv_iadd hx hb dL_law_454 ?_
  refine l_sld hc hw.2.2.1 hi3 dL_law_455 ?_
  refine lv_aload_n hx hb dL_law_456 rfl (lv_at hl 0 rfl) ?_
  refine lv_iload_n hx hb dL_law_457 rfl (lv_at hl 3 rfl) ?_
  refine lv_iconst (v := 4) hx hb dL_law_458 (by decide) ?_
  refine lv_iadd hx hb dL_law_459 ?_
  refine l_sld hc hw.2.2.1 hi4 dL_law_460 ?_
  refine l_callMi (As := [.int (xs (x3 + 1).toNatClampNeg), .int (xs (x3 + 2).toNatClampNeg), .int (xs (x3 + 3).toNatClampNeg), .int (xs (x3 + 4).toNatClampNeg)]) (r := r) (M' := M1) (n := 4) hc hw (mt_X8_pieces l D (cs 0) (cs 1) o2 H.size M (xs (x3 + 1).toNatClampNeg) (xs (x3 + 2).toNatClampNeg) (xs (x3 + 3).toNatClampNeg) (xs (x3 + 4).toNatClampNeg) e2) wM_L_45 wI_X8_pieces wS_X8_pieces wZ_X8 wC_X8_pieces md_X8_pieces ⟨rfl, rfl, Nat.le_of_ble_eq_true rfl, Nat.le_of_ble_eq_true rfl⟩ rfl hl.1 rfl (Nat.le_of_ble_eq_true rfl) dL_law_461 ⟨by show _ ≤ 600000; omega, by show _ ≤ 7302250; omega⟩ (fun H locs hw => ?_)
  refine lv_icmp_eq (tgt := 1284) hx hb dL_law_464 (by decide) (fun cq => ?_) (fun cq => ?_)
  · refine W.widen (k := cells + 20) (n := slots + 123) (by omega) (by omega) ?_
    exact kk S1 M1 hI1 H locs ls hw hl
  · exact absurd rfl cq
/-- drop: class and reference answer alike -/
def z_G_7 (Inv : GS → MS → Prop) (o : Nat) : Prop := ∀ (S : GS) (M : MS), Inv S M → ∃ (r : Int32) (S1 : GS) (M1 : MS), f_X7_drop S o  = some (r, S1) ∧ f_X8_drop M  = some (r, M1) ∧ Inv S1 M1
set_option maxHeartbeats 4000000 in
theorem l_case_7 {p : Program} {l : Launch} {e : Env} {s : State} {m : MethodId} {below : List Frame} {meth : Method} {c : Code} {b L : Nat} {xs : Nat → Int32} {D : va_G} {cs : Nat → ClassId} {o1 o2 cells slots : Nat} {x3 : Int32} {S : GS} {M : MS} {Inv : GS → MS → Prop} (hc : l_X p s m meth c b L xs D cs) (hG : z_G_7 Inv o1) (hob : ∀ S M, Inv S M → g_is S 7 o1) (hI : Inv S M) (hi1 : vp_in (x3 + 1) L) (hi2 : vp_in (x3 + 2) L) (hi3 : vp_in (x3 + 3) L) (hi4 : vp_in (x3 + 4) L) (hi5 : vp_in (x3 + 5) L) (hrc : cells + 20 ≤ 600000) (hrs : slots + 123 ≤ 7302250) (kk : ∀ (S1 : GS) (M1 : MS), Inv S1 M1 → l_At p l e s m below meth c b D cs o1 o2 1284 (cells + 20) (slots + 123) x3 S1 M1) : l_At p l e s m below meth c b D cs o1 o2 469 cells slots x3 S M := by
  intro H locs ls hw hl
  have hx := hc.1.1
  have hb : c.code = code := hc.1.2.1
  obtain ⟨r, S1, M1, e1, e2, hI1⟩ := hG S M hI 
  refine lv_aload_n hx hb dL_law_469 rfl (lv_at hl 1 rfl) ?_
  refine l_callC (As := []) (rv := some (.int r)) (S' := S1) (n := 0) hc hw (hob S M hI) (mt_X7_drop l D cs (l_A s o2) S o1  e1) wM_L_46 wI_X7_drop wS_X7_drop wZ_X7 wC_X7_drop md_X7_drop ⟨rfl, rfl, Nat.le_of_ble_eq_true rfl, Nat.le_of_ble_eq_true rfl⟩ rfl hl.1 rfl (Nat.le_of_ble_eq_true rfl) dL_law_470 ⟨by show _ ≤ 600000; omega, by show _ ≤ 7302250; omega⟩ (fun H locs hw => ?_)
  show W p l e room_1 s m #[Value.ref b] below meth c H locs (cells + 0) (slots + 0) (lw_Z below #[Value.ref b] s) (F0 m 473 ls [.int r])
  refine lv_aload_n hx hb dL_law_473 rfl (lv_at hl 2 rfl) ?_
  refine l_callMi (As := []) (r := r) (M' := M1) (n := 0) hc hw (mt_X8_drop l D (cs 0) (cs 1) o2 H.size M  e2) wM_L_50 wI_X8_drop wS_X8_drop wZ_X8 wC_X8_drop md_X8_drop ⟨rfl, rfl, Nat.le_of_ble_eq_true rfl, Nat.le_of_ble_eq_true rfl⟩ rfl hl.1 rfl (Nat.le_of_ble_eq_true rfl) dL_law_474 ⟨by show _ ≤ 600000; omega, by show _ ≤ 7302250; omega⟩ (fun H locs hw => ?_)
  refine lv_icmp_eq (tgt := 1284) hx hb dL_law_477 (by decide) (fun cq => ?_) (fun cq => ?_)
  · refine W.widen (k := cells + 20) (n := slots + 123) (by omega) (by omega) ?_
    exact kk S1 M1 hI1 H locs ls hw hl
  · exact absurd rfl cq
/-- pointTold: class and reference answer alike -/
def z_G_8 (Inv : GS → MS → Prop) (o : Nat) : Prop := ∀ (S : GS) (M : MS), Inv S M → ∀ (a0 a1 a2 : Int32), ∃ (r : Int64), f_X7_pointTold S o a0 a1 a2 = some r ∧ f_X8_pointTold M a0 a1 a2 = some r ∧ Inv S M
set_option maxHeartbeats 4000000 in
theorem l_case_8 {p : Program} {l : Launch} {e : Env} {s : State} {m : MethodId} {below : List Frame} {meth : Method} {c : Code} {b L : Nat} {xs : Nat → Int32} {D : va_G} {cs : Nat → ClassId} {o1 o2 cells slots : Nat} {x3 : Int32} {S : GS} {M : MS} {Inv : GS → MS → Prop} (hc : l_X p s m meth c b L xs D cs) (hG : z_G_8 Inv o1) (hob : ∀ S M, Inv S M → g_is S 7 o1) (hI : Inv S M) (hi1 : vp_in (x3 + 1) L) (hi2 : vp_in (x3 + 2) L) (hi3 : vp_in (x3 + 3) L) (hi4 : vp_in (x3 + 4) L) (hi5 : vp_in (x3 + 5) L) (hrc : cells + 20 ≤ 600000) (hrs : slots + 123 ≤ 7302250) (kk : ∀ (S1 : GS) (M1 : MS), Inv S1 M1 → l_At p l e s m below meth c b D cs o1 o2 1284 (cells + 20) (slots + 123) x3 S1 M1) : l_At p l e s m below meth c b D cs o1 o2 482 cells slots x3 S M := by
  intro H locs ls hw hl
  have hx := hc.1.1
  have hb : c.code = code := hc.1.2.1
  obtain ⟨r, e1, e2, hI1⟩ := hG S M hI (xs (x3 + 1).toNatClampNeg) (xs (x3 + 2).toNatClampNeg) (xs (x3 + 3).toNatClampNeg)
  refine lv_aload_n hx hb dL_law_482 rfl (lv_at hl 1 rfl) ?_
  refine lv_aload_n hx hb dL_law_483 rfl (lv_at hl 0 rfl) ?_
  refine lv_iload_n hx hb dL_law_484 rfl (lv_at hl 3 rfl) ?_
  refine lv_iconst (v := 1) hx hb dL_law_485 (by decide) ?_
  refine lv_iadd hx hb dL_law_486 ?_
  refine l_sld hc hw.2.2.1 hi1 dL_law_487 ?_
  refine lv_aload_n hx hb dL_law_488 rfl (lv_at hl 0 rfl) ?_
  refine lv_iload_n hx hb dL_law_489 rfl (lv_at hl 3 rfl) ?_
  refine lv_iconst (v := 2) hx hb dL_law_490 (by decide) ?_
  refine lv_iadd hx hb dL_law_491 ?_
  refine l_sld hc hw.2.2.1 hi2 dL_law_492 ?_
  refine lv_aload_n hx hb dL_law_493 rfl (lv_at hl 0 rfl) ?_
  refine lv_iload_n hx hb dL_law_494 rfl (lv_at hl 3 rfl) ?_
  refine lv_iconst (v := 3) hx hb dL_law_495 (by decide) ?_
  refine lv_iadd hx hb dL_law_496 ?_
  refine l_sld hc hw.2.2.1 hi3 dL_law_497 ?_
  refine l_callC (As := [.int (xs (x3 + 1).toNatClampNeg), .int (xs (x3 + 2).toNatClampNeg), .int (xs (x3 + 3).toNatClampNeg)]) (rv := some (.long r)) (S' := S) (n := 3) hc hw (hob S M hI) (mt_X7_pointTold l D cs (l_A s o2) S o1 (xs (x3 + 1).toNatClampNeg) (xs (x3 + 2).toNatClampNeg) (xs (x3 + 3).toNatClampNeg) e1) wM_L_51 wI_X7_pointTold wS_X7_pointTold wZ_X7 wC_X7_pointTold md_X7_pointTold ⟨rfl, rfl, Nat.le_of_ble_eq_true rfl, Nat.le_of_ble_eq_true rfl⟩ rfl hl.1 rfl (Nat.le_of_ble_eq_true rfl) dL_law_498 ⟨by show _ ≤ 600000; omega, by show _ ≤ 7302250; omega⟩ (fun H locs hw => ?_)
  show W p l e room_1 s m #[Value.ref b] below meth c H locs (cells + 0) (slots + 0) (lw_Z below #[Value.ref b] s) (F0 m 501 ls [.long r])
  refine lv_aload_n hx hb dL_law_501 rfl (lv_at hl 2 rfl) ?_
  refine lv_aload_n hx hb dL_law_502 rfl (lv_at hl 0 rfl) ?_
  refine lv_iload_n hx hb dL_law_503 rfl (lv_at hl 3 rfl) ?_
  refine lv_iconst (v := 1) hx hb dL_law_504 (by decide) ?_
  refine lv_iadd hx hb dL_law_505 ?_
  refine l_sld hc hw.2.2.1 hi1 dL_law_506 ?_
  refine lv_aload_n hx hb dL_law_507 rfl (lv_at hl 0 rfl) ?_
  refine lv_iload_n hx hb dL_law_508 rfl (lv_at hl 3 rfl) ?_
  refine lv_iconst (v := 2) hx hb dL_law_509 (by decide) ?_
  refine lv_iadd hx hb dL_law_510 ?_
  refine l_sld hc hw.2.2.1 hi2 dL_law_511 ?_
  refine lv_aload_n hx hb dL_law_512 rfl (lv_at hl 0 rfl) ?_
  refine lv_iload_n hx hb dL_law_513 rfl (lv_at hl 3 rfl) ?_
  refine lv_iconst (v := 3) hx hb dL_law_514 (by decide) ?_
  refine lv_iadd hx hb dL_law_515 ?_
  refine l_sld hc hw.2.2.1 hi3 dL_law_516 ?_
  refine l_callMl (As := [.int (xs (x3 + 1).toNatClampNeg), .int (xs (x3 + 2).toNatClampNeg), .int (xs (x3 + 3).toNatClampNeg)]) (r := r) (M' := M) (n := 3) hc hw (mt_X8_pointTold l D (cs 0) (cs 1) o2 H.size M (xs (x3 + 1).toNatClampNeg) (xs (x3 + 2).toNatClampNeg) (xs (x3 + 3).toNatClampNeg) e2) wM_L_55 wI_X8_pointTold wS_X8_pointTold wZ_X8 wC_X8_pointTold md_X8_pointTold ⟨rfl, rfl, Nat.le_of_ble_eq_true rfl, Nat.le_of_ble_eq_true rfl⟩ rfl hl.1 rfl (Nat.le_of_ble_eq_true rfl) dL_law_517 ⟨by show _ ≤ 600000; omega, by show _ ≤ 7302250; omega⟩ (fun H locs hw => ?_)
  refine W.lcmp hx hb dL_law_520 ?_
  refine lv_if_eq (tgt := 1284) hx hb dL_law_521 (by decide) (fun cq => ?_) (fun cq => ?_)
  · refine W.widen (k := cells + 20) (n := slots + 123) (by omega) (by omega) ?_
    exact kk S M hI1 H locs ls hw hl
  · exact absurd (by simp [lg_cmp]) cq
/-- count: class and reference answer alike -/
def z_G_9 (Inv : GS → MS → Prop) (o : Nat) : Prop := ∀ (S : GS) (M : MS), Inv S M → ∀ (a0 : Int32), ∃ (r : Int32), f_X7_count S o a0 = some r ∧ f_X8_count M a0 = some r ∧ Inv S M
set_option maxHeartbeats 4000000 in
theorem l_case_9 {p : Program} {l : Launch} {e : Env} {s : State} {m : MethodId} {below : List Frame} {meth : Method} {c : Code} {b L : Nat} {xs : Nat → Int32} {D : va_G} {cs : Nat → ClassId} {o1 o2 cells slots : Nat} {x3 : Int32} {S : GS} {M : MS} {Inv : GS → MS → Prop} (hc : l_X p s m meth c b L xs D cs) (hG : z_G_9 Inv o1) (hob : ∀ S M, Inv S M → g_is S 7 o1) (hI : Inv S M) (hi1 : vp_in (x3 + 1) L) (hi2 : vp_in (x3 + 2) L) (hi3 : vp_in (x3 + 3) L) (hi4 : vp_in (x3 + 4) L) (hi5 : vp_in (x3 + 5) L) (hrc : cells + 20 ≤ 600000) (hrs : slots + 123 ≤ 7302250) (kk : ∀ (S1 : GS) (M1 : MS), Inv S1 M1 → l_At p l e s m below meth c b D cs o1 o2 1284 (cells + 20) (slots + 123) x3 S1 M1) : l_At p l e s m below meth c b D cs o1 o2 526 cells slots x3 S M := by
  intro H locs ls hw hl
  have hx := hc.1.1
  have hb : c.code = code := hc.1.2.1
  obtain ⟨r, e1, e2, hI1⟩ := hG S M hI (xs (x3 + 1).toNatClampNeg)
  refine lv_aload_n hx hb dL_law_526 rfl (lv_at hl 1 rfl) ?_
  refine lv_aload_n hx hb dL_law_527 rfl (lv_at hl 0 rfl) ?_
  refine lv_iload_n hx hb dL_law_528 rfl (lv_at hl 3 rfl) ?_
  refine lv_iconst (v := 1) hx hb dL_law_529 (by decide) ?_
  refine lv_iadd hx hb dL_law_530 ?_
  refine l_sld hc hw.2.2.1 hi1 dL_law_531 ?_
  refine l_callC (As := [.int (xs (x3 + 1).toNatClampNeg)]) (rv := some (.int r)) (S' := S) (n := 1) hc hw (hob S M hI) (mt_X7_count l D cs (l_A s o2) S o1 (xs (x3 + 1).toNatClampNeg) e1) wM_L_56 wI_X7_count wS_X7_count wZ_X7 wC_X7_count md_X7_count ⟨rfl, rfl, Nat.le_of_ble_eq_true rfl, Nat.le_of_ble_eq_true rfl⟩ rfl hl.1 rfl (Nat.le_of_ble_eq_true rfl) dL_law_532 ⟨by show _ ≤ 600000; omega, by show _ ≤ 7302250; omega⟩ (fun H locs hw => ?_)
  show W p l e room_1 s m #[Value.ref b] below meth c H locs (cells + 0) (slots + 0) (lw_Z below #[Value.ref b] s) (F0 m 535 ls [.int r])
  refine lv_aload_n hx hb dL_law_535 rfl (lv_at hl 2 rfl) ?_
  refine lv_aload_n hx hb dL_law_536 rfl (lv_at hl 0 rfl) ?_
  refine lv_iload_n hx hb dL_law_537 rfl (lv_at hl 3 rfl) ?_
  refine lv_iconst (v := 1) hx hb dL_law_538 (by decide) ?_
  refine lv_iadd hx hb dL_law_539 ?_
  refine l_sld hc hw.2.2.1 hi1 dL_law_540 ?_
  refine l_callMi (As := [.int (xs (x3 + 1).toNatClampNeg)]) (r := r) (M' := M) (n := 1) hc hw (mt_X8_count l D (cs 0) (cs 1) o2 H.size M (xs (x3 + 1).toNatClampNeg) e2) wM_L_59 wI_X8_count wS_X8_count wZ_X8 wC_X8_count md_X8_count ⟨rfl, rfl, Nat.le_of_ble_eq_true rfl, Nat.le_of_ble_eq_true rfl⟩ rfl hl.1 rfl (Nat.le_of_ble_eq_true rfl) dL_law_541 ⟨by show _ ≤ 600000; omega, by show _ ≤ 7302250; omega⟩ (fun H locs hw => ?_)
  refine lv_icmp_eq (tgt := 1284) hx hb dL_law_544 (by decide) (fun cq => ?_) (fun cq => ?_)
  · refine W.widen (k := cells + 20) (n := slots + 123) (by omega) (by omega) ?_
    exact kk S M hI1 H locs ls hw hl
  · exact absurd rfl cq
/-- told: class and reference answer alike -/
def z_G_10 (Inv : GS → MS → Prop) (o : Nat) : Prop := ∀ (S : GS) (M : MS), Inv S M → ∀ (a0 a1 : Int32), ∃ (r : Int32) (M1 : MS), f_X7_told S o a0 a1 = some r ∧ f_X8_told M a0 a1 = some (r, M1) ∧ Inv S M1
set_option maxHeartbeats 4000000 in
theorem l_case_10 {p : Program} {l : Launch} {e : Env} {s : State} {m : MethodId} {below : List Frame} {meth : Method} {c : Code} {b L : Nat} {xs : Nat → Int32} {D : va_G} {cs : Nat → ClassId} {o1 o2 cells slots : Nat} {x3 : Int32} {S : GS} {M : MS} {Inv : GS → MS → Prop} (hc : l_X p s m meth c b L xs D cs) (hG : z_G_10 Inv o1) (hob : ∀ S M, Inv S M → g_is S 7 o1) (hI : Inv S M) (hi1 : vp_in (x3 + 1) L) (hi2 : vp_in (x3 + 2) L) (hi3 : vp_in (x3 + 3) L) (hi4 : vp_in (x3 + 4) L) (hi5 : vp_in (x3 + 5) L) (hrc : cells + 20 ≤ 600000) (hrs : slots + 123 ≤ 7302250) (kk : ∀ (S1 : GS) (M1 : MS), Inv S1 M1 → l_At p l e s m below meth c b D cs o1 o2 1284 (cells + 20) (slots + 123) x3 S1 M1) : l_At p l e s m below meth c b D cs o1 o2 549 cells slots x3 S M := by
  intro H locs ls hw hl
  have hx := hc.1.1
  have hb : c.code = code := hc.1.2.1
  obtain ⟨r, M1, e1, e2, hI1⟩ := hG S M hI (xs (x3 + 1).toNatClampNeg) (xs (x3 + 2).toNatClampNeg)
  refine lv_aload_n hx hb dL_law_549 rfl (lv_at hl 1 rfl) ?_
  refine lv_aload_n hx hb dL_law_550 rfl (lv_at hl 0 rfl) ?_
  refine lv_iload_n hx hb dL_law_551 rfl (lv_at hl 3 rfl) ?_
  refine lv_iconst (v := 1) hx hb dL_law_552 (by decide) ?_
  refine lv_iadd hx hb dL_law_553 ?_
  refine l_sld hc hw.2.2.1 hi1 dL_law_554 ?_
  refine lv_aload_n hx hb dL_law_555 rfl (lv_at hl 0 rfl) ?_
  refine lv_iload_n hx hb dL_law_556 rfl (lv_at hl 3 rfl) ?_
  refine lv_iconst (v := 2) hx hb dL_law_557 (by decide) ?_
  refine lv_iadd hx hb dL_law_558 ?_
  refine l_sld hc hw.2.2.1 hi2 dL_law_559 ?_
  refine l_callC (As := [.int (xs (x3 + 1).toNatClampNeg), .int (xs (x3 + 2).toNatClampNeg)]) (rv := some (.int r)) (S' := S) (n := 2) hc hw (hob S M hI) (mt_X7_told l D cs (l_A s o2) S o1 (xs (x3 + 1).toNatClampNeg) (xs (x3 + 2).toNatClampNeg) e1) wM_L_60 wI_X7_told wS_X7_told wZ_X7 wC_X7_told md_X7_told ⟨rfl, rfl, Nat.le_of_ble_eq_true rfl, Nat.le_of_ble_eq_true rfl⟩ rfl hl.1 rfl (Nat.le_of_ble_eq_true rfl) dL_law_560 ⟨by show _ ≤ 600000; omega, by show _ ≤ 7302250; omega⟩ (fun H locs hw => ?_)
  show W p l e room_1 s m #[Value.ref b] below meth c H locs (cells + 0) (slots + 0) (lw_Z below #[Value.ref b] s) (F0 m 563 ls [.int r])
  refine lv_aload_n hx hb dL_law_563 rfl (lv_at hl 2 rfl) ?_
  refine lv_aload_n hx hb dL_law_564 rfl (lv_at hl 0 rfl) ?_
  refine lv_iload_n hx hb dL_law_565 rfl (lv_at hl 3 rfl) ?_
  refine lv_iconst (v := 1) hx hb dL_law_566 (by decide) ?_
  refine lv_iadd hx hb dL_law_567 ?_
  refine l_sld hc hw.2.2.1 hi1 dL_law_568 ?_
  refine lv_aload_n hx hb dL_law_569 rfl (lv_at hl 0 rfl) ?_
  refine lv_iload_n hx hb dL_law_570 rfl (lv_at hl 3 rfl) ?_
  refine lv_iconst (v := 2) hx hb dL_law_571 (by decide) ?_
  refine lv_iadd hx hb dL_law_572 ?_
  refine l_sld hc hw.2.2.1 hi2 dL_law_573 ?_
  refine l_callMi (As := [.int (xs (x3 + 1).toNatClampNeg), .int (xs (x3 + 2).toNatClampNeg)]) (r := r) (M' := M1) (n := 2) hc hw (mt_X8_told l D (cs 0) (cs 1) o2 H.size M (xs (x3 + 1).toNatClampNeg) (xs (x3 + 2).toNatClampNeg) e2) wM_L_63 wI_X8_told wS_X8_told wZ_X8 wC_X8_told md_X8_told ⟨rfl, rfl, Nat.le_of_ble_eq_true rfl, Nat.le_of_ble_eq_true rfl⟩ rfl hl.1 rfl (Nat.le_of_ble_eq_true rfl) dL_law_574 ⟨by show _ ≤ 600000; omega, by show _ ≤ 7302250; omega⟩ (fun H locs hw => ?_)
  refine lv_icmp_eq (tgt := 1284) hx hb dL_law_577 (by decide) (fun cq => ?_) (fun cq => ?_)
  · refine W.widen (k := cells + 20) (n := slots + 123) (by omega) (by omega) ?_
    exact kk S M1 hI1 H locs ls hw hl
  · exact absurd rfl cq
/-- number: class and reference answer alike -/
def z_G_11 (Inv : GS → MS → Prop) (o : Nat) : Prop := ∀ (S : GS) (M : MS), Inv S M → ∀ (a0 a1 a2 a3 : Int32), ∃ (r : Int64), f_X7_number S o a0 a1 a2 a3 = some r ∧ f_X8_number_ M a0 a1 a2 a3 = some r ∧ Inv S M
set_option maxHeartbeats 4000000 in
theorem l_case_11 {p : Program} {l : Launch} {e : Env} {s : State} {m : MethodId} {below : List Frame} {meth : Method} {c : Code} {b L : Nat} {xs : Nat → Int32} {D : va_G} {cs : Nat → ClassId} {o1 o2 cells slots : Nat} {x3 : Int32} {S : GS} {M : MS} {Inv : GS → MS → Prop} (hc : l_X p s m meth c b L xs D cs) (hG : z_G_11 Inv o1) (hob : ∀ S M, Inv S M → g_is S 7 o1) (hI : Inv S M) (hi1 : vp_in (x3 + 1) L) (hi2 : vp_in (x3 + 2) L) (hi3 : vp_in (x3 + 3) L) (hi4 : vp_in (x3 + 4) L) (hi5 : vp_in (x3 + 5) L) (hrc : cells + 20 ≤ 600000) (hrs : slots + 123 ≤ 7302250) (kk : ∀ (S1 : GS) (M1 : MS), Inv S1 M1 → l_At p l e s m below meth c b D cs o1 o2 1284 (cells + 20) (slots + 123) x3 S1 M1) : l_At p l e s m below meth c b D cs o1 o2 582 cells slots x3 S M := by
  intro H locs ls hw hl
  have hx := hc.1.1
  have hb : c.code = code := hc.1.2.1
  obtain ⟨r, e1, e2, hI1⟩ := hG S M hI (xs (x3 + 1).toNatClampNeg) (xs (x3 + 2).toNatClampNeg) (xs (x3 + 3).toNatClampNeg) (xs (x3 + 4).toNatClampNeg)
  refine lv_aload_n hx hb dL_law_582 rfl (lv_at hl 1 rfl) ?_
  refine lv_aload_n hx hb dL_law_583 rfl (lv_at hl 0 rfl) ?_
  refine lv_iload_n hx hb dL_law_584 rfl (lv_at hl 3 rfl) ?_
  refine lv_iconst (v := 1) hx hb dL_law_585 (by decide) ?_
  refine lv_iadd hx hb dL_law_586 ?_
  refine l_sld hc hw.2.2.1 hi1 dL_law_587 ?_
  refine lv_aload_n hx hb dL_law_588 rfl (lv_at hl 0 rfl) ?_
  refine lv_iload_n hx hb dL_law_589 rfl (lv_at hl 3 rfl) ?_
  refine lv_iconst (v := 2) hx hb dL_law_590 (by decide) ?_
  refine lv_iadd hx hb dL_law_591 ?_
  refine l_sld hc hw.2.2.1 hi2 dL_law_592 ?_
  refine lv_aload_n hx hb dL_law_593 rfl (lv_at hl 0 rfl) ?_
  refine lv_iload_n hx hb dL_law_594 rfl (lv_at hl 3 rfl) ?_
  refine lv_iconst (v := 3) hx hb dL_law_595 (by decide) ?_
  refine lv_iadd hx hb dL_law_596 ?_
  refine l_sld hc hw.2.2.1 hi3 dL_law_597 ?_
  refine lv_aload_n hx hb dL_law_598 rfl (lv_at hl 0 rfl) ?_
  refine lv_iload_n hx hb dL_law_599 rfl (lv_at hl 3 rfl) ?_
  refine lv_iconst (v := 4) hx hb dL_law_600 (by decide) ?_
  refine lv_iadd hx hb dL_law_601 ?_
  refine l_sld hc hw.2.2.1 hi4 dL_law_602 ?_
  refine l_callC (As := [.int (xs (x3 + 1).toNatClampNeg), .int (xs (x3 + 2).toNatClampNeg), .int (xs (x3 + 3).toNatClampNeg), .int (xs (x3 + 4).toNatClampNeg)]) (rv := some (.long r)) (S' := S) (n := 4) hc hw (hob S M hI) (mt_X7_number l D cs (l_A s o2) S o1 (xs (x3 + 1).toNatClampNeg) (xs (x3 + 2).toNatClampNeg) (xs (x3 + 3).toNatClampNeg) (xs (x3 + 4).toNatClampNeg) e1) wM_L_64 wI_X7_number wS_X7_number wZ_X7 wC_X7_number md_X7_number ⟨rfl, rfl, Nat.le_of_ble_eq_true rfl, Nat.le_of_ble_eq_true rfl⟩ rfl hl.1 rfl (Nat.le_of_ble_eq_true rfl) dL_law_603 ⟨by show _ ≤ 600000; omega, by show _ ≤ 7302250; omega⟩ (fun H locs hw => ?_)
  show W p l e room_1 s m #[Value.ref b] below meth c H locs (cells + 0) (slots + 0) (lw_Z below #[Value.ref b] s) (F0 m 606 ls [.long r])
  refine lv_aload_n hx hb dL_law_606 rfl (lv_at hl 2 rfl) ?_
  refine lv_aload_n hx hb dL_law_607 rfl (lv_at hl 0 rfl) ?_
  refine lv_iload_n hx hb dL_law_608 rfl (lv_at hl 3 rfl) ?_
  refine lv_iconst (v := 1) hx hb dL_law_609 (by decide) ?_
  refine lv_iadd hx hb dL_law_610 ?_
  refine l_sld hc hw.2.2.1 hi1 dL_law_611 ?_
  refine lv_aload_n hx hb dL_law_612 rfl (lv_at hl 0 rfl) ?_
  refine lv_iload_n hx hb dL_law_613 rfl (lv_at hl 3 rfl) ?_
  refine lv_iconst (v := 2) hx hb dL_law_614 (by decide) ?_
  refine lv_iadd hx hb dL_law_615 ?_
  refine l_sld hc hw.2.2.1 hi2 dL_law_616 ?_
  refine lv_aload_n hx hb dL_law_617 rfl (lv_at hl 0 rfl) ?_
  refine lv_iload_n hx hb dL_law_618 rfl (lv_at hl 3 rfl) ?_
  refine lv_iconst (v := 3) hx hb dL_law_619 (by decide) ?_
  refine lv_iadd hx hb dL_law_620 ?_
  refine l_sld hc hw.2.2.1 hi3 dL_law_621 ?_
  refine lv_aload_n hx hb dL_law_622 rfl (lv_at hl 0 rfl) ?_
  refine lv_iload_n hx hb dL_law_623 rfl (lv_at hl 3 rfl) ?_
  refine lv_iconst (v := 4) hx hb dL_law_624 (by decide) ?_
  refine lv_iadd hx hb dL_law_625 ?_
  refine l_sld hc hw.2.2.1 hi4 dL_law_626 ?_
  refine l_callMl (As := [.int (xs (x3 + 1).toNatClampNeg), .int (xs (x3 + 2).toNatClampNeg), .int (xs (x3 + 3).toNatClampNeg), .int (xs (x3 + 4).toNatClampNeg)]) (r := r) (M' := M) (n := 4) hc hw (mt_X8_number_ l D (cs 0) (cs 1) o2 H.size M (xs (x3 + 1).toNatClampNeg) (xs (x3 + 2).toNatClampNeg) (xs (x3 + 3).toNatClampNeg) (xs (x3 + 4).toNatClampNeg) e2) wM_L_68 wI_X8_number_ wS_X8_number_ wZ_X8 wC_X8_number_ md_X8_number_ ⟨rfl, rfl, Nat.le_of_ble_eq_true rfl, Nat.le_of_ble_eq_true rfl⟩ rfl hl.1 rfl (Nat.le_of_ble_eq_true rfl) dL_law_627 ⟨by show _ ≤ 600000; omega, by show _ ≤ 7302250; omega⟩ (fun H locs hw => ?_)
  refine W.lcmp hx hb dL_law_630 ?_
  refine lv_if_eq (tgt := 1284) hx hb dL_law_631 (by decide) (fun cq => ?_) (fun cq => ?_)
  · refine W.widen (k := cells + 20) (n := slots + 123) (by omega) (by omega) ?_
    exact kk S M hI1 H locs ls hw hl
  · exact absurd (by simp [lg_cmp]) cq
/-- value: class and reference answer alike -/
def z_G_12 (Inv : GS → MS → Prop) (o : Nat) : Prop := ∀ (S : GS) (M : MS), Inv S M → ∀ (a0 a1 a2 : Int32), ∃ (r : Int64) (M1 : MS), f_X7_value S o a0 a1 a2 = some r ∧ f_X8_value M a0 a1 a2 = some (r, M1) ∧ Inv S M1
set_option maxHeartbeats 4000000 in
theorem l_case_12 {p : Program} {l : Launch} {e : Env} {s : State} {m : MethodId} {below : List Frame} {meth : Method} {c : Code} {b L : Nat} {xs : Nat → Int32} {D : va_G} {cs : Nat → ClassId} {o1 o2 cells slots : Nat} {x3 : Int32} {S : GS} {M : MS} {Inv : GS → MS → Prop} (hc : l_X p s m meth c b L xs D cs) (hG : z_G_12 Inv o1) (hob : ∀ S M, Inv S M → g_is S 7 o1) (hI : Inv S M) (hi1 : vp_in (x3 + 1) L) (hi2 : vp_in (x3 + 2) L) (hi3 : vp_in (x3 + 3) L) (hi4 : vp_in (x3 + 4) L) (hi5 : vp_in (x3 + 5) L) (hrc : cells + 20 ≤ 600000) (hrs : slots + 123 ≤ 7302250) (kk : ∀ (S1 : GS) (M1 : MS), Inv S1 M1 → l_At p l e s m below meth c b D cs o1 o2 1284 (cells + 20) (slots + 123) x3 S1 M1) : l_At p l e s m below meth c b D cs o1 o2 636 cells slots x3 S M := by
  intro H locs ls hw hl
  have hx := hc.1.1
  have hb : c.code = code := hc.1.2.1
  obtain ⟨r, M1, e1, e2, hI1⟩ := hG S M hI (xs (x3 + 1).toNatClampNeg) (xs (x3 + 2).toNatClampNeg) (xs (x3 + 3).toNatClampNeg)
  refine lv_aload_n hx hb dL_law_636 rfl (lv_at hl 1 rfl) ?_
  refine lv_aload_n hx hb dL_law_637 rfl (lv_at hl 0 rfl) ?_
  refine lv_iload_n hx hb dL_law_638 rfl (lv_at hl 3 rfl) ?_
  refine lv_iconst (v := 1) hx hb dL_law_639 (by decide) ?_
  refine lv_iadd hx hb dL_law_640 ?_
  refine l_sld hc hw.2.2.1 hi1 dL_law_641 ?_
  refine lv_aload_n hx hb dL_law_642 rfl (lv_at hl 0 rfl) ?_
  refine lv_iload_n hx hb dL_law_643 rfl (lv_at hl 3 rfl) ?_
  refine lv_iconst (v := 2) hx hb dL_law_644 (by decide) ?_
  refine lv_iadd hx hb dL_law_645 ?_
  refine l_sld hc hw.2.2.1 hi2 dL_law_646 ?_
  refine lv_aload_n hx hb dL_law_647 rfl (lv_at hl 0 rfl) ?_
  refine lv_iload_n hx hb dL_law_648 rfl (lv_at hl 3 rfl) ?_
  refine lv_iconst (v := 3) hx hb dL_law_649 (by decide) ?_
  refine lv_iadd hx hb dL_law_650 ?_
  refine l_sld hc hw.2.2.1 hi3 dL_law_651 ?_
  refine l_callC (As := [.int (xs (x3 + 1).toNatClampNeg), .int (xs (x3 + 2).toNatClampNeg), .int (xs (x3 + 3).toNatClampNeg)]) (rv := some (.long r)) (S' := S) (n := 3) hc hw (hob S M hI) (mt_X7_value l D cs (l_A s o2) S o1 (xs (x3 + 1).toNatClampNeg) (xs (x3 + 2).toNatClampNeg) (xs (x3 + 3).toNatClampNeg) e1) wM_L_69 wI_X7_value wS_X7_value wZ_X7 wC_X7_value md_X7_value ⟨rfl, rfl, Nat.le_of_ble_eq_true rfl, Nat.le_of_ble_eq_true rfl⟩ rfl hl.1 rfl (Nat.le_of_ble_eq_true rfl) dL_law_652 ⟨by show _ ≤ 600000; omega, by show _ ≤ 7302250; omega⟩ (fun H locs hw => ?_)
  show W p l e room_1 s m #[Value.ref b] below meth c H locs (cells + 0) (slots + 0) (lw_Z below #[Value.ref b] s) (F0 m 655 ls [.long r])
  refine lv_aload_n hx hb dL_law_655 rfl (lv_at hl 2 rfl) ?_
  refine lv_aload_n hx hb dL_law_656 rfl (lv_at hl 0 rfl) ?_
  refine lv_iload_n hx hb dL_law_657 rfl (lv_at hl 3 rfl) ?_
  refine lv_iconst (v := 1) hx hb dL_law_658 (by decide) ?_
  refine lv_iadd hx hb dL_law_659 ?_
  refine l_sld hc hw.2.2.1 hi1 dL_law_660 ?_
  refine lv_aload_n hx hb dL_law_661 rfl (lv_at hl 0 rfl) ?_
  refine lv_iload_n hx hb dL_law_662 rfl (lv_at hl 3 rfl) ?_
  refine lv_iconst (v := 2) hx hb dL_law_663 (by decide) ?_
  refine lv_iadd hx hb dL_law_664 ?_
  refine l_sld hc hw.2.2.1 hi2 dL_law_665 ?_
  refine lv_aload_n hx hb dL_law_666 rfl (lv_at hl 0 rfl) ?_
  refine lv_iload_n hx hb dL_law_667 rfl (lv_at hl 3 rfl) ?_
  refine lv_iconst (v := 3) hx hb dL_law_668 (by decide) ?_
  refine lv_iadd hx hb dL_law_669 ?_
  refine l_sld hc hw.2.2.1 hi3 dL_law_670 ?_
  refine l_callMl (As := [.int (xs (x3 + 1).toNatClampNeg), .int (xs (x3 + 2).toNatClampNeg), .int (xs (x3 + 3).toNatClampNeg)]) (r := r) (M' := M1) (n := 3) hc hw (mt_X8_value l D (cs 0) (cs 1) o2 H.size M (xs (x3 + 1).toNatClampNeg) (xs (x3 + 2).toNatClampNeg) (xs (x3 + 3).toNatClampNeg) e2) wM_L_72 wI_X8_value wS_X8_value wZ_X8 wC_X8_value md_X8_value ⟨rfl, rfl, Nat.le_of_ble_eq_true rfl, Nat.le_of_ble_eq_true rfl⟩ rfl hl.1 rfl (Nat.le_of_ble_eq_true rfl) dL_law_671 ⟨by show _ ≤ 600000; omega, by show _ ≤ 7302250; omega⟩ (fun H locs hw => ?_)
  refine W.lcmp hx hb dL_law_674 ?_
  refine lv_if_eq (tgt := 1284) hx hb dL_law_675 (by decide) (fun cq => ?_) (fun cq => ?_)
  · refine W.widen (k := cells + 20) (n := slots + 123) (by omega) (by omega) ?_
    exact kk S M1 hI1 H locs ls hw hl
  · exact absurd (by simp [lg_cmp]) cq
/-- miss: class and reference answer alike -/
def z_G_13 (Inv : GS → MS → Prop) (o : Nat) : Prop := ∀ (S : GS) (M : MS), Inv S M → ∀ (a0 a1 a2 : Int32), ∃ (r : Int64) (M1 : MS), f_X7_miss S o a0 a1 a2 = some r ∧ f_X8_miss M a0 a1 a2 = some (r, M1) ∧ Inv S M1
set_option maxHeartbeats 4000000 in
theorem l_case_13 {p : Program} {l : Launch} {e : Env} {s : State} {m : MethodId} {below : List Frame} {meth : Method} {c : Code} {b L : Nat} {xs : Nat → Int32} {D : va_G} {cs : Nat → ClassId} {o1 o2 cells slots : Nat} {x3 : Int32} {S : GS} {M : MS} {Inv : GS → MS → Prop} (hc : l_X p s m meth c b L xs D cs) (hG : z_G_13 Inv o1) (hob : ∀ S M, Inv S M → g_is S 7 o1) (hI : Inv S M) (hi1 : vp_in (x3 + 1) L) (hi2 : vp_in (x3 + 2) L) (hi3 : vp_in (x3 + 3) L) (hi4 : vp_in (x3 + 4) L) (hi5 : vp_in (x3 + 5) L) (hrc : cells + 20 ≤ 600000) (hrs : slots + 123 ≤ 7302250) (kk : ∀ (S1 : GS) (M1 : MS), Inv S1 M1 → l_At p l e s m below meth c b D cs o1 o2 1284 (cells + 20) (slots + 123) x3 S1 M1) : l_At p l e s m below meth c b D cs o1 o2 680 cells slots x3 S M := by
  intro H locs ls hw hl
  have hx := hc.1.1
  have hb : c.code = code := hc.1.2.1
  obtain ⟨r, M1, e1, e2, hI1⟩ := hG S M hI (xs (x3 + 1).toNatClampNeg) (xs (x3 + 2).toNatClampNeg) (xs (x3 + 3).toNatClampNeg)
  refine lv_aload_n hx hb dL_law_680 rfl (lv_at hl 1 rfl) ?_
  refine lv_aload_n hx hb dL_law_681 rfl (lv_at hl 0 rfl) ?_
  refine lv_iload_n hx hb dL_law_682 rfl (lv_at hl 3 rfl) ?_
  refine lv_iconst (v := 1) hx hb dL_law_683 (by decide) ?_
  refine lv_iadd hx hb dL_law_684 ?_
  refine l_sld hc hw.2.2.1 hi1 dL_law_685 ?_
  refine lv_aload_n hx hb dL_law_686 rfl (lv_at hl 0 rfl) ?_
  refine lv_iload_n hx hb dL_law_687 rfl (lv_at hl 3 rfl) ?_
  refine lv_iconst (v := 2) hx hb dL_law_688 (by decide) ?_
  refine lv_iadd hx hb dL_law_689 ?_
  refine l_sld hc hw.2.2.1 hi2 dL_law_690 ?_
  refine lv_aload_n hx hb dL_law_691 rfl (lv_at hl 0 rfl) ?_
  refine lv_iload_n hx hb dL_law_692 rfl (lv_at hl 3 rfl) ?_
  refine lv_iconst (v := 3) hx hb dL_law_693 (by decide) ?_
  refine lv_iadd hx hb dL_law_694 ?_
  refine l_sld hc hw.2.2.1 hi3 dL_law_695 ?_
  refine l_callC (As := [.int (xs (x3 + 1).toNatClampNeg), .int (xs (x3 + 2).toNatClampNeg), .int (xs (x3 + 3).toNatClampNeg)]) (rv := some (.long r)) (S' := S) (n := 3) hc hw (hob S M hI) (mt_X7_miss l D cs (l_A s o2) S o1 (xs (x3 + 1).toNatClampNeg) (xs (x3 + 2).toNatClampNeg) (xs (x3 + 3).toNatClampNeg) e1) wM_L_73 wI_X7_miss wS_X7_miss wZ_X7 wC_X7_miss md_X7_miss ⟨rfl, rfl, Nat.le_of_ble_eq_true rfl, Nat.le_of_ble_eq_true rfl⟩ rfl hl.1 rfl (Nat.le_of_ble_eq_true rfl) dL_law_696 ⟨by show _ ≤ 600000; omega, by show _ ≤ 7302250; omega⟩ (fun H locs hw => ?_)
  show W p l e room_1 s m #[Value.ref b] below meth c H locs (cells + 0) (slots + 0) (lw_Z below #[Value.ref b] s) (F0 m 699 ls [.long r])
  refine lv_aload_n hx hb dL_law_699 rfl (lv_at hl 2 rfl) ?_
  refine lv_aload_n hx hb dL_law_700 rfl (lv_at hl 0 rfl) ?_
  refine lv_iload_n hx hb dL_law_701 rfl (lv_at hl 3 rfl) ?_
  refine lv_iconst (v := 1) hx hb dL_law_702 (by decide) ?_
  refine lv_iadd hx hb dL_law_703 ?_
  refine l_sld hc hw.2.2.1 hi1 dL_law_704 ?_
  refine lv_aload_n hx hb dL_law_705 rfl (lv_at hl 0 rfl) ?_
  refine lv_iload_n hx hb dL_law_706 rfl (lv_at hl 3 rfl) ?_
  refine lv_iconst (v := 2) hx hb dL_law_707 (by decide) ?_
  refine lv_iadd hx hb dL_law_708 ?_
  refine l_sld hc hw.2.2.1 hi2 dL_law_709 ?_
  refine lv_aload_n hx hb dL_law_710 rfl (lv_at hl 0 rfl) ?_
  refine lv_iload_n hx hb dL_law_711 rfl (lv_at hl 3 rfl) ?_
  refine lv_iconst (v := 3) hx hb dL_law_712 (by decide) ?_
  refine lv_iadd hx hb dL_law_713 ?_
  refine l_sld hc hw.2.2.1 hi3 dL_law_714 ?_
  refine l_callMl (As := [.int (xs (x3 + 1).toNatClampNeg), .int (xs (x3 + 2).toNatClampNeg), .int (xs (x3 + 3).toNatClampNeg)]) (r := r) (M' := M1) (n := 3) hc hw (mt_X8_miss l D (cs 0) (cs 1) o2 H.size M (xs (x3 + 1).toNatClampNeg) (xs (x3 + 2).toNatClampNeg) (xs (x3 + 3).toNatClampNeg) e2) wM_L_76 wI_X8_miss wS_X8_miss wZ_X8 wC_X8_miss md_X8_miss ⟨rfl, rfl, Nat.le_of_ble_eq_true rfl, Nat.le_of_ble_eq_true rfl⟩ rfl hl.1 rfl (Nat.le_of_ble_eq_true rfl) dL_law_715 ⟨by show _ ≤ 600000; omega, by show _ ≤ 7302250; omega⟩ (fun H locs hw => ?_)
  refine W.lcmp hx hb dL_law_718 ?_
  refine lv_if_eq (tgt := 1284) hx hb dL_law_719 (by decide) (fun cq => ?_) (fun cq => ?_)
  · refine W.widen (k := cells + 20) (n := slots + 123) (by omega) (by omega) ?_
    exact kk S M1 hI1 H locs ls hw hl
  · exact absurd (by simp [lg_cmp]) cq
/-- level: class and reference answer alike -/
def z_G_14 (Inv : GS → MS → Prop) (o : Nat) : Prop := ∀ (S : GS) (M : MS), Inv S M → ∀ (a0 a1 : Int32), ∃ (r : Int64) (M1 : MS), f_X7_level S o a0 a1 = some r ∧ f_X8_level M a0 a1 = some (r, M1) ∧ Inv S M1
set_option maxHeartbeats 4000000 in
theorem l_case_14 {p : Program} {l : Launch} {e : Env} {s : State} {m : MethodId} {below : List Frame} {meth : Method} {c : Code} {b L : Nat} {xs : Nat → Int32} {D : va_G} {cs : Nat → ClassId} {o1 o2 cells slots : Nat} {x3 : Int32} {S : GS} {M : MS} {Inv : GS → MS → Prop} (hc : l_X p s m meth c b L xs D cs) (hG : z_G_14 Inv o1) (hob : ∀ S M, Inv S M → g_is S 7 o1) (hI : Inv S M) (hi1 : vp_in (x3 + 1) L) (hi2 : vp_in (x3 + 2) L) (hi3 : vp_in (x3 + 3) L) (hi4 : vp_in (x3 + 4) L) (hi5 : vp_in (x3 + 5) L) (hrc : cells + 20 ≤ 600000) (hrs : slots + 123 ≤ 7302250) (kk : ∀ (S1 : GS) (M1 : MS), Inv S1 M1 → l_At p l e s m below meth c b D cs o1 o2 1284 (cells + 20) (slots + 123) x3 S1 M1) : l_At p l e s m below meth c b D cs o1 o2 724 cells slots x3 S M := by
  intro H locs ls hw hl
  have hx := hc.1.1
  have hb : c.code = code := hc.1.2.1
  obtain ⟨r, M1, e1, e2, hI1⟩ := hG S M hI (xs (x3 + 1).toNatClampNeg) (xs (x3 + 2).toNatClampNeg)
  refine lv_aload_n hx hb dL_law_724 rfl (lv_at hl 1 rfl) ?_
  refine lv_aload_n hx hb dL_law_725 rfl (lv_at hl 0 rfl) ?_
  refine lv_iload_n hx hb dL_law_726 rfl (lv_at hl 3 rfl) ?_
  refine lv_iconst (v := 1) hx hb dL_law_727 (by decide) ?_
  refine lv_iadd hx hb dL_law_728 ?_
  refine l_sld hc hw.2.2.1 hi1 dL_law_729 ?_
  refine lv_aload_n hx hb dL_law_730 rfl (lv_at hl 0 rfl) ?_
  refine lv_iload_n hx hb dL_law_731 rfl (lv_at hl 3 rfl) ?_
  refine lv_iconst (v := 2) hx hb dL_law_732 (by decide) ?_
  refine lv_iadd hx hb dL_law_733 ?_
  refine l_sld hc hw.2.2.1 hi2 dL_law_734 ?_
  refine l_callC (As := [.int (xs (x3 + 1).toNatClampNeg), .int (xs (x3 + 2).toNatClampNeg)]) (rv := some (.long r)) (S' := S) (n := 2) hc hw (hob S M hI) (mt_X7_level l D cs (l_A s o2) S o1 (xs (x3 + 1).toNatClampNeg) (xs (x3 + 2).toNatClampNeg) e1) wM_L_77 wI_X7_level wS_X7_level wZ_X7 wC_X7_level md_X7_level ⟨rfl, rfl, Nat.le_of_ble_eq_true rfl, Nat.le_of_ble_eq_true rfl⟩ rfl hl.1 rfl (Nat.le_of_ble_eq_true rfl) dL_law_735 ⟨by show _ ≤ 600000; omega, by show _ ≤ 7302250; omega⟩ (fun H locs hw => ?_)
  show W p l e room_1 s m #[Value.ref b] below meth c H locs (cells + 0) (slots + 0) (lw_Z below #[Value.ref b] s) (F0 m 738 ls [.long r])
  refine lv_aload_n hx hb dL_law_738 rfl (lv_at hl 2 rfl) ?_
  refine lv_aload_n hx hb dL_law_739 rfl (lv_at hl 0 rfl) ?_
  refine lv_iload_n hx hb dL_law_740 rfl (lv_at hl 3 rfl) ?_
  refine lv_iconst (v := 1) hx hb dL_law_741 (by decide) ?_
  refine lv_iadd hx hb dL_law_742 ?_
  refine l_sld hc hw.2.2.1 hi1 dL_law_743 ?_
  refine lv_aload_n hx hb dL_law_744 rfl (lv_at hl 0 rfl) ?_
  refine lv_iload_n hx hb dL_law_745 rfl (lv_at hl 3 rfl) ?_
  refine lv_iconst (v := 2) hx hb dL_law_746 (by decide) ?_
  refine lv_iadd hx hb dL_law_747 ?_
  refine l_sld hc hw.2.2.1 hi2 dL_law_748 ?_
  refine l_callMl (As := [.int (xs (x3 + 1).toNatClampNeg), .int (xs (x3 + 2).toNatClampNeg)]) (r := r) (M' := M1) (n := 2) hc hw (mt_X8_level l D (cs 0) (cs 1) o2 H.size M (xs (x3 + 1).toNatClampNeg) (xs (x3 + 2).toNatClampNeg) e2) wM_L_81 wI_X8_level wS_X8_level wZ_X8 wC_X8_level md_X8_level ⟨rfl, rfl, Nat.le_of_ble_eq_true rfl, Nat.le_of_ble_eq_true rfl⟩ rfl hl.1 rfl (Nat.le_of_ble_eq_true rfl) dL_law_749 ⟨by show _ ≤ 600000; omega, by show _ ≤ 7302250; omega⟩ (fun H locs hw => ?_)
  refine W.lcmp hx hb dL_law_752 ?_
  refine lv_if_eq (tgt := 1284) hx hb dL_law_753 (by decide) (fun cq => ?_) (fun cq => ?_)
  · refine W.widen (k := cells + 20) (n := slots + 123) (by omega) (by omega) ?_
    exact kk S M1 hI1 H locs ls hw hl
  · exact absurd (by simp [lg_cmp]) cq
/-- far: class and reference answer alike -/
def z_G_15 (Inv : GS → MS → Prop) (o : Nat) : Prop := ∀ (S : GS) (M : MS), Inv S M → ∀ (a0 a1 : Int32), ∃ (r : Int32) (M1 : MS), f_X7_far S o a0 a1 = some r ∧ f_X8_far M a0 a1 = some (r, M1) ∧ Inv S M1
set_option maxHeartbeats 4000000 in
theorem l_case_15 {p : Program} {l : Launch} {e : Env} {s : State} {m : MethodId} {below : List Frame} {meth : Method} {c : Code} {b L : Nat} {xs : Nat → Int32} {D : va_G} {cs : Nat → ClassId} {o1 o2 cells slots : Nat} {x3 : Int32} {S : GS} {M : MS} {Inv : GS → MS → Prop} (hc : l_X p s m meth c b L xs D cs) (hG : z_G_15 Inv o1) (hob : ∀ S M, Inv S M → g_is S 7 o1) (hI : Inv S M) (hi1 : vp_in (x3 + 1) L) (hi2 : vp_in (x3 + 2) L) (hi3 : vp_in (x3 + 3) L) (hi4 : vp_in (x3 + 4) L) (hi5 : vp_in (x3 + 5) L) (hrc : cells + 20 ≤ 600000) (hrs : slots + 123 ≤ 7302250) (kk : ∀ (S1 : GS) (M1 : MS), Inv S1 M1 → l_At p l e s m below meth c b D cs o1 o2 1284 (cells + 20) (slots + 123) x3 S1 M1) : l_At p l e s m below meth c b D cs o1 o2 758 cells slots x3 S M := by
  intro H locs ls hw hl
  have hx := hc.1.1
  have hb : c.code = code := hc.1.2.1
  obtain ⟨r, M1, e1, e2, hI1⟩ := hG S M hI (xs (x3 + 1).toNatClampNeg) (xs (x3 + 2).toNatClampNeg)
  refine lv_aload_n hx hb dL_law_758 rfl (lv_at hl 1 rfl) ?_
  refine lv_aload_n hx hb dL_law_759 rfl (lv_at hl 0 rfl) ?_
  refine lv_iload_n hx hb dL_law_760 rfl (lv_at hl 3 rfl) ?_
  refine lv_iconst (v := 1) hx hb dL_law_761 (by decide) ?_
  refine lv_iadd hx hb dL_law_762 ?_
  refine l_sld hc hw.2.2.1 hi1 dL_law_763 ?_
  refine lv_aload_n hx hb dL_law_764 rfl (lv_at hl 0 rfl) ?_
  refine lv_iload_n hx hb dL_law_765 rfl (lv_at hl 3 rfl) ?_
  refine lv_iconst (v := 2) hx hb dL_law_766 (by decide) ?_
  refine lv_iadd hx hb dL_law_767 ?_
  refine l_sld hc hw.2.2.1 hi2 dL_law_768 ?_
  refine l_callC (As := [.int (xs (x3 + 1).toNatClampNeg), .int (xs (x3 + 2).toNatClampNeg)]) (rv := some (.int r)) (S' := S) (n := 2) hc hw (hob S M hI) (mt_X7_far l D cs (l_A s o2) S o1 (xs (x3 + 1).toNatClampNeg) (xs (x3 + 2).toNatClampNeg) e1) wM_L_82 wI_X7_far wS_X7_far wZ_X7 wC_X7_far md_X7_far ⟨rfl, rfl, Nat.le_of_ble_eq_true rfl, Nat.le_of_ble_eq_true rfl⟩ rfl hl.1 rfl (Nat.le_of_ble_eq_true rfl) dL_law_769 ⟨by show _ ≤ 600000; omega, by show _ ≤ 7302250; omega⟩ (fun H locs hw => ?_)
  show W p l e room_1 s m #[Value.ref b] below meth c H locs (cells + 0) (slots + 0) (lw_Z below #[Value.ref b] s) (F0 m 772 ls [.int r])
  refine lv_aload_n hx hb dL_law_772 rfl (lv_at hl 2 rfl) ?_
  refine lv_aload_n hx hb dL_law_773 rfl (lv_at hl 0 rfl) ?_
  refine lv_iload_n hx hb dL_law_774 rfl (lv_at hl 3 rfl) ?_
  refine lv_iconst (v := 1) hx hb dL_law_775 (by decide) ?_
  refine lv_iadd hx hb dL_law_776 ?_
  refine l_sld hc hw.2.2.1 hi1 dL_law_777 ?_
  refine lv_aload_n hx hb dL_law_778 rfl (lv_at hl 0 rfl) ?_
  refine lv_iload_n hx hb dL_law_779 rfl (lv_at hl 3 rfl) ?_
  refine lv_iconst (v := 2) hx hb dL_law_780 (by decide) ?_
  refine lv_iadd hx hb dL_law_781 ?_
  refine l_sld hc hw.2.2.1 hi2 dL_law_782 ?_
  refine l_callMi (As := [.int (xs (x3 + 1).toNatClampNeg), .int (xs (x3 + 2).toNatClampNeg)]) (r := r) (M' := M1) (n := 2) hc hw (mt_X8_far l D (cs 0) (cs 1) o2 H.size M (xs (x3 + 1).toNatClampNeg) (xs (x3 + 2).toNatClampNeg) e2) wM_L_85 wI_X8_far wS_X8_far wZ_X8 wC_X8_far md_X8_far ⟨rfl, rfl, Nat.le_of_ble_eq_true rfl, Nat.le_of_ble_eq_true rfl⟩ rfl hl.1 rfl (Nat.le_of_ble_eq_true rfl) dL_law_783 ⟨by show _ ≤ 600000; omega, by show _ ≤ 7302250; omega⟩ (fun H locs hw => ?_)
  refine lv_icmp_eq (tgt := 1284) hx hb dL_law_786 (by decide) (fun cq => ?_) (fun cq => ?_)
  · refine W.widen (k := cells + 20) (n := slots + 123) (by omega) (by omega) ?_
    exact kk S M1 hI1 H locs ls hw hl
  · exact absurd rfl cq
/-- begins: class and reference answer alike -/
def z_G_16 (Inv : GS → MS → Prop) (o : Nat) : Prop := ∀ (S : GS) (M : MS), Inv S M → ∀ (a0 a1 : Int32), ∃ (r : Int32), f_X7_begins S o a0 a1 = some r ∧ f_X8_begins M a0 a1 = some r ∧ Inv S M
set_option maxHeartbeats 4000000 in
theorem l_case_16 {p : Program} {l : Launch} {e : Env} {s : State} {m : MethodId} {below : List Frame} {meth : Method} {c : Code} {b L : Nat} {xs : Nat → Int32} {D : va_G} {cs : Nat → ClassId} {o1 o2 cells slots : Nat} {x3 : Int32} {S : GS} {M : MS} {Inv : GS → MS → Prop} (hc : l_X p s m meth c b L xs D cs) (hG : z_G_16 Inv o1) (hob : ∀ S M, Inv S M → g_is S 7 o1) (hI : Inv S M) (hi1 : vp_in (x3 + 1) L) (hi2 : vp_in (x3 + 2) L) (hi3 : vp_in (x3 + 3) L) (hi4 : vp_in (x3 + 4) L) (hi5 : vp_in (x3 + 5) L) (hrc : cells + 20 ≤ 600000) (hrs : slots + 123 ≤ 7302250) (kk : ∀ (S1 : GS) (M1 : MS), Inv S1 M1 → l_At p l e s m below meth c b D cs o1 o2 1284 (cells + 20) (slots + 123) x3 S1 M1) : l_At p l e s m below meth c b D cs o1 o2 791 cells slots x3 S M := by
  intro H locs ls hw hl
  have hx := hc.1.1
  have hb : c.code = code := hc.1.2.1
  obtain ⟨r, e1, e2, hI1⟩ := hG S M hI (xs (x3 + 1).toNatClampNeg) (xs (x3 + 2).toNatClampNeg)
  refine lv_aload_n hx hb dL_law_791 rfl (lv_at hl 1 rfl) ?_
  refine lv_aload_n hx hb dL_law_792 rfl (lv_at hl 0 rfl) ?_
  refine lv_iload_n hx hb dL_law_793 rfl (lv_at hl 3 rfl) ?_
  refine lv_iconst (v := 1) hx hb dL_law_794 (by decide) ?_
  refine lv_iadd hx hb dL_law_795 ?_
  refine l_sld hc hw.2.2.1 hi1 dL_law_796 ?_
  refine lv_aload_n hx hb dL_law_797 rfl (lv_at hl 0 rfl) ?_
  refine lv_iload_n hx hb dL_law_798 rfl (lv_at hl 3 rfl) ?_
  refine lv_iconst (v := 2) hx hb dL_law_799 (by decide) ?_
  refine lv_iadd hx hb dL_law_800 ?_
  refine l_sld hc hw.2.2.1 hi2 dL_law_801 ?_
  refine l_callC (As := [.int (xs (x3 + 1).toNatClampNeg), .int (xs (x3 + 2).toNatClampNeg)]) (rv := some (.int r)) (S' := S) (n := 2) hc hw (hob S M hI) (mt_X7_begins l D cs (l_A s o2) S o1 (xs (x3 + 1).toNatClampNeg) (xs (x3 + 2).toNatClampNeg) e1) wM_L_86 wI_X7_begins wS_X7_begins wZ_X7 wC_X7_begins md_X7_begins ⟨rfl, rfl, Nat.le_of_ble_eq_true rfl, Nat.le_of_ble_eq_true rfl⟩ rfl hl.1 rfl (Nat.le_of_ble_eq_true rfl) dL_law_802 ⟨by show _ ≤ 600000; omega, by show _ ≤ 7302250; omega⟩ (fun H locs hw => ?_)
  show W p l e room_1 s m #[Value.ref b] below meth c H locs (cells + 0) (slots + 0) (lw_Z below #[Value.ref b] s) (F0 m 805 ls [.int r])
  refine lv_aload_n hx hb dL_law_805 rfl (lv_at hl 2 rfl) ?_
  refine lv_aload_n hx hb dL_law_806 rfl (lv_at hl 0 rfl) ?_
  refine lv_iload_n hx hb dL_law_807 rfl (lv_at hl 3 rfl) ?_
  refine lv_iconst (v := 1) hx hb dL_law_808 (by decide) ?_
  refine lv_iadd hx hb dL_law_809 ?_
  refine l_sld hc hw.2.2.1 hi1 dL_law_810 ?_
  refine lv_aload_n hx hb dL_law_811 rfl (lv_at hl 0 rfl) ?_
  refine lv_iload_n hx hb dL_law_812 rfl (lv_at hl 3 rfl) ?_
  refine lv_iconst (v := 2) hx hb dL_law_813 (by decide) ?_
  refine lv_iadd hx hb dL_law_814 ?_
  refine l_sld hc hw.2.2.1 hi2 dL_law_815 ?_
  refine l_callMi (As := [.int (xs (x3 + 1).toNatClampNeg), .int (xs (x3 + 2).toNatClampNeg)]) (r := r) (M' := M) (n := 2) hc hw (mt_X8_begins l D (cs 0) (cs 1) o2 H.size M (xs (x3 + 1).toNatClampNeg) (xs (x3 + 2).toNatClampNeg) e2) wM_L_89 wI_X8_begins wS_X8_begins wZ_X8 wC_X8_begins md_X8_begins ⟨rfl, rfl, Nat.le_of_ble_eq_true rfl, Nat.le_of_ble_eq_true rfl⟩ rfl hl.1 rfl (Nat.le_of_ble_eq_true rfl) dL_law_816 ⟨by show _ ≤ 600000; omega, by show _ ≤ 7302250; omega⟩ (fun H locs hw => ?_)
  refine lv_icmp_eq (tgt := 1284) hx hb dL_law_819 (by decide) (fun cq => ?_) (fun cq => ?_)
  · refine W.widen (k := cells + 20) (n := slots + 123) (by omega) (by omega) ?_
    exact kk S M hI1 H locs ls hw hl
  · exact absurd rfl cq
/-- turns: class and reference answer alike -/
def z_G_17 (Inv : GS → MS → Prop) (o : Nat) : Prop := ∀ (S : GS) (M : MS), Inv S M → ∀ (a0 : Int32), ∃ (r : Int32) (M1 : MS), f_X7_turns S o a0 = some r ∧ f_X8_turns M a0 = some (r, M1) ∧ Inv S M1
set_option maxHeartbeats 4000000 in
theorem l_case_17 {p : Program} {l : Launch} {e : Env} {s : State} {m : MethodId} {below : List Frame} {meth : Method} {c : Code} {b L : Nat} {xs : Nat → Int32} {D : va_G} {cs : Nat → ClassId} {o1 o2 cells slots : Nat} {x3 : Int32} {S : GS} {M : MS} {Inv : GS → MS → Prop} (hc : l_X p s m meth c b L xs D cs) (hG : z_G_17 Inv o1) (hob : ∀ S M, Inv S M → g_is S 7 o1) (hI : Inv S M) (hi1 : vp_in (x3 + 1) L) (hi2 : vp_in (x3 + 2) L) (hi3 : vp_in (x3 + 3) L) (hi4 : vp_in (x3 + 4) L) (hi5 : vp_in (x3 + 5) L) (hrc : cells + 20 ≤ 600000) (hrs : slots + 123 ≤ 7302250) (kk : ∀ (S1 : GS) (M1 : MS), Inv S1 M1 → l_At p l e s m below meth c b D cs o1 o2 1284 (cells + 20) (slots + 123) x3 S1 M1) : l_At p l e s m below meth c b D cs o1 o2 824 cells slots x3 S M := by
  intro H locs ls hw hl
  have hx := hc.1.1
  have hb : c.code = code := hc.1.2.1
  obtain ⟨r, M1, e1, e2, hI1⟩ := hG S M hI (xs (x3 + 1).toNatClampNeg)
  refine lv_aload_n hx hb dL_law_824 rfl (lv_at hl 1 rfl) ?_
  refine lv_aload_n hx hb dL_law_825 rfl (lv_at hl 0 rfl) ?_
  refine lv_iload_n hx hb dL_law_826 rfl (lv_at hl 3 rfl) ?_
  refine lv_iconst (v := 1) hx hb dL_law_827 (by decide) ?_
  refine lv_iadd hx hb dL_law_828 ?_
  refine l_sld hc hw.2.2.1 hi1 dL_law_829 ?_
  refine l_callC (As := [.int (xs (x3 + 1).toNatClampNeg)]) (rv := some (.int r)) (S' := S) (n := 1) hc hw (hob S M hI) (mt_X7_turns l D cs (l_A s o2) S o1 (xs (x3 + 1).toNatClampNeg) e1) wM_L_90 wI_X7_turns wS_X7_turns wZ_X7 wC_X7_turns md_X7_turns ⟨rfl, rfl, Nat.le_of_ble_eq_true rfl, Nat.le_of_ble_eq_true rfl⟩ rfl hl.1 rfl (Nat.le_of_ble_eq_true rfl) dL_law_830 ⟨by show _ ≤ 600000; omega, by show _ ≤ 7302250; omega⟩ (fun H locs hw => ?_)
  show W p l e room_1 s m #[Value.ref b] below meth c H locs (cells + 0) (slots + 0) (lw_Z below #[Value.ref b] s) (F0 m 833 ls [.int r])
  refine lv_aload_n hx hb dL_law_833 rfl (lv_at hl 2 rfl) ?_
  refine lv_aload_n hx hb dL_law_834 rfl (lv_at hl 0 rfl) ?_
  refine lv_iload_n hx hb dL_law_835 rfl (lv_at hl 3 rfl) ?_
  refine lv_iconst (v := 1) hx hb dL_law_836 (by decide) ?_
  refine lv_iadd hx hb dL_law_837 ?_
  refine l_sld hc hw.2.2.1 hi1 dL_law_838 ?_
  refine l_callMi (As := [.int (xs (x3 + 1).toNatClampNeg)]) (r := r) (M' := M1) (n := 1) hc hw (mt_X8_turns l D (cs 0) (cs 1) o2 H.size M (xs (x3 + 1).toNatClampNeg) e2) wM_L_93 wI_X8_turns wS_X8_turns wZ_X8 wC_X8_turns md_X8_turns ⟨rfl, rfl, Nat.le_of_ble_eq_true rfl, Nat.le_of_ble_eq_true rfl⟩ rfl hl.1 rfl (Nat.le_of_ble_eq_true rfl) dL_law_839 ⟨by show _ ≤ 600000; omega, by show _ ≤ 7302250; omega⟩ (fun H locs hw => ?_)
  refine lv_icmp_eq (tgt := 1284) hx hb dL_law_842 (by decide) (fun cq => ?_) (fun cq => ?_)
  · refine W.widen (k := cells + 20) (n := slots + 123) (by omega) (by omega) ?_
    exact kk S M1 hI1 H locs ls hw hl
  · exact absurd rfl cq
/-- low: class and reference answer alike -/
def z_G_18 (Inv : GS → MS → Prop) (o : Nat) : Prop := ∀ (S : GS) (M : MS), Inv S M → ∀ (a0 a1 a2 : Int32), ∃ (r : Int64) (S1 : GS) (M1 : MS), f_X7_low S o a0 a1 a2 = some (r, S1) ∧ f_X8_low M a0 a1 a2 = some (r, M1) ∧ Inv S1 M1
set_option maxHeartbeats 4000000 in
theorem l_case_18 {p : Program} {l : Launch} {e : Env} {s : State} {m : MethodId} {below : List Frame} {meth : Method} {c : Code} {b L : Nat} {xs : Nat → Int32} {D : va_G} {cs : Nat → ClassId} {o1 o2 cells slots : Nat} {x3 : Int32} {S : GS} {M : MS} {Inv : GS → MS → Prop} (hc : l_X p s m meth c b L xs D cs) (hG : z_G_18 Inv o1) (hob : ∀ S M, Inv S M → g_is S 7 o1) (hI : Inv S M) (hi1 : vp_in (x3 + 1) L) (hi2 : vp_in (x3 + 2) L) (hi3 : vp_in (x3 + 3) L) (hi4 : vp_in (x3 + 4) L) (hi5 : vp_in (x3 + 5) L) (hrc : cells + 20 ≤ 600000) (hrs : slots + 123 ≤ 7302250) (kk : ∀ (S1 : GS) (M1 : MS), Inv S1 M1 → l_At p l e s m below meth c b D cs o1 o2 1284 (cells + 20) (slots + 123) x3 S1 M1) : l_At p l e s m below meth c b D cs o1 o2 847 cells slots x3 S M := by
  intro H locs ls hw hl
  have hx := hc.1.1
  have hb : c.code = code := hc.1.2.1
  obtain ⟨r, S1, M1, e1, e2, hI1⟩ := hG S M hI (xs (x3 + 1).toNatClampNeg) (xs (x3 + 2).toNatClampNeg) (xs (x3 + 3).toNatClampNeg)
  refine lv_aload_n hx hb dL_law_847 rfl (lv_at hl 1 rfl) ?_
  refine lv_aload_n hx hb dL_law_848 rfl (lv_at hl 0 rfl) ?_
  refine lv_iload_n hx hb dL_law_849 rfl (lv_at hl 3 rfl) ?_
  refine lv_iconst (v := 1) hx hb dL_law_850 (by decide) ?_
  refine lv_iadd hx hb dL_law_851 ?_
  refine l_sld hc hw.2.2.1 hi1 dL_law_852 ?_
  refine lv_aload_n hx hb dL_law_853 rfl (lv_at hl 0 rfl) ?_
  refine lv_iload_n hx hb dL_law_854 rfl (lv_at hl 3 rfl) ?_
  refine lv_iconst (v := 2) hx hb dL_law_855 (by decide) ?_
  refine lv_iadd hx hb dL_law_856 ?_
  refine l_sld hc hw.2.2.1 hi2 dL_law_857 ?_
  refine lv_aload_n hx hb dL_law_858 rfl (lv_at hl 0 rfl) ?_
  refine lv_iload_n hx hb dL_law_859 rfl (lv_at hl 3 rfl) ?_
  refine lv_iconst (v := 3) hx hb dL_law_860 (by decide) ?_
  refine lv_iadd hx hb dL_law_861 ?_
  refine l_sld hc hw.2.2.1 hi3 dL_law_862 ?_
  refine l_callC (As := [.int (xs (x3 + 1).toNatClampNeg), .int (xs (x3 + 2).toNatClampNeg), .int (xs (x3 + 3).toNatClampNeg)]) (rv := some (.long r)) (S' := S1) (n := 3) hc hw (hob S M hI) (mt_X7_low l D cs (l_A s o2) S o1 (xs (x3 + 1).toNatClampNeg) (xs (x3 + 2).toNatClampNeg) (xs (x3 + 3).toNatClampNeg) e1) wM_L_94 wI_X7_low wS_X7_low wZ_X7 wC_X7_low md_X7_low ⟨rfl, rfl, Nat.le_of_ble_eq_true rfl, Nat.le_of_ble_eq_true rfl⟩ rfl hl.1 rfl (Nat.le_of_ble_eq_true rfl) dL_law_863 ⟨by show _ ≤ 600000; omega, by show _ ≤ 7302250; omega⟩ (fun H locs hw => ?_)
  show W p l e room_1 s m #[Value.ref b] below meth c H locs (cells + 0) (slots + 0) (lw_Z below #[Value.ref b] s) (F0 m 866 ls [.long r])
  refine lv_aload_n hx hb dL_law_866 rfl (lv_at hl 2 rfl) ?_
  refine lv_aload_n hx hb dL_law_867 rfl (lv_at hl 0 rfl) ?_
  refine lv_iload_n hx hb dL_law_868 rfl (lv_at hl 3 rfl) ?_
  refine lv_iconst (v := 1) hx hb dL_law_869 (by decide) ?_
  refine lv_iadd hx hb dL_law_870 ?_
  refine l_sld hc hw.2.2.1 hi1 dL_law_871 ?_
  refine lv_aload_n hx hb dL_law_872 rfl (lv_at hl 0 rfl) ?_
  refine lv_iload_n hx hb dL_law_873 rfl (lv_at hl 3 rfl) ?_
  refine lv_iconst (v := 2) hx hb dL_law_874 (by decide) ?_
  refine lv_iadd hx hb dL_law_875 ?_
  refine l_sld hc hw.2.2.1 hi2 dL_law_876 ?_
  refine lv_aload_n hx hb dL_law_877 rfl (lv_at hl 0 rfl) ?_
  refine lv_iload_n hx hb dL_law_878 rfl (lv_at hl 3 rfl) ?_
  refine lv_iconst (v := 3) hx hb dL_law_879 (by decide) ?_
  refine lv_iadd hx hb dL_law_880 ?_
  refine l_sld hc hw.2.2.1 hi3 dL_law_881 ?_
  refine l_callMl (As := [.int (xs (x3 + 1).toNatClampNeg), .int (xs (x3 + 2).toNatClampNeg), .int (xs (x3 + 3).toNatClampNeg)]) (r := r) (M' := M1) (n := 3) hc hw (mt_X8_low l D (cs 0) (cs 1) o2 H.size M (xs (x3 + 1).toNatClampNeg) (xs (x3 + 2).toNatClampNeg) (xs (x3 + 3).toNatClampNeg) e2) wM_L_97 wI_X8_low wS_X8_low wZ_X8 wC_X8_low md_X8_low ⟨rfl, rfl, Nat.le_of_ble_eq_true rfl, Nat.le_of_ble_eq_true rfl⟩ rfl hl.1 rfl (Nat.le_of_ble_eq_true rfl) dL_law_882 ⟨by show _ ≤ 600000; omega, by show _ ≤ 7302250; omega⟩ (fun H locs hw => ?_)
  refine W.lcmp hx hb dL_law_885 ?_
  refine lv_if_eq (tgt := 1284) hx hb dL_law_886 (by decide) (fun cq => ?_) (fun cq => ?_)
  · refine W.widen (k := cells + 20) (n := slots + 123) (by omega) (by omega) ?_
    exact kk S1 M1 hI1 H locs ls hw hl
  · exact absurd (by simp [lg_cmp]) cq
/-- swap: class and reference answer alike -/
def z_G_19 (Inv : GS → MS → Prop) (o : Nat) : Prop := ∀ (S : GS) (M : MS), Inv S M → ∀ (a0 a1 : Int32), ∃ (r : Int32) (S1 : GS) (M1 : MS), f_X7_swap S o a0 a1 = some (r, S1) ∧ f_X8_swap M a0 a1 = some (r, M1) ∧ Inv S1 M1
set_option maxHeartbeats 4000000 in
theorem l_case_19 {p : Program} {l : Launch} {e : Env} {s : State} {m : MethodId} {below : List Frame} {meth : Method} {c : Code} {b L : Nat} {xs : Nat → Int32} {D : va_G} {cs : Nat → ClassId} {o1 o2 cells slots : Nat} {x3 : Int32} {S : GS} {M : MS} {Inv : GS → MS → Prop} (hc : l_X p s m meth c b L xs D cs) (hG : z_G_19 Inv o1) (hob : ∀ S M, Inv S M → g_is S 7 o1) (hI : Inv S M) (hi1 : vp_in (x3 + 1) L) (hi2 : vp_in (x3 + 2) L) (hi3 : vp_in (x3 + 3) L) (hi4 : vp_in (x3 + 4) L) (hi5 : vp_in (x3 + 5) L) (hrc : cells + 20 ≤ 600000) (hrs : slots + 123 ≤ 7302250) (kk : ∀ (S1 : GS) (M1 : MS), Inv S1 M1 → l_At p l e s m below meth c b D cs o1 o2 1284 (cells + 20) (slots + 123) x3 S1 M1) : l_At p l e s m below meth c b D cs o1 o2 891 cells slots x3 S M := by
  intro H locs ls hw hl
  have hx := hc.1.1
  have hb : c.code = code := hc.1.2.1
  obtain ⟨r, S1, M1, e1, e2, hI1⟩ := hG S M hI (xs (x3 + 1).toNatClampNeg) (xs (x3 + 2).toNatClampNeg)
  refine lv_aload_n hx hb dL_law_891 rfl (lv_at hl 1 rfl) ?_
  refine lv_aload_n hx hb dL_law_892 rfl (lv_at hl 0 rfl) ?_
  refine lv_iload_n hx hb dL_law_893 rfl (lv_at hl 3 rfl) ?_
  refine lv_iconst (v := 1) hx hb dL_law_894 (by decide) ?_
  refine lv_iadd hx hb dL_law_895 ?_
  refine l_sld hc hw.2.2.1 hi1 dL_law_896 ?_
  refine lv_aload_n hx hb dL_law_897 rfl (lv_at hl 0 rfl) ?_
  refine lv_iload_n hx hb dL_law_898 rfl (lv_at hl 3 rfl) ?_
  refine lv_iconst (v := 2) hx hb dL_law_899 (by decide) ?_
  refine lv_iadd hx hb dL_law_900 ?_
  refine l_sld hc hw.2.2.1 hi2 dL_law_901 ?_
  refine l_callC (As := [.int (xs (x3 + 1).toNatClampNeg), .int (xs (x3 + 2).toNatClampNeg)]) (rv := some (.int r)) (S' := S1) (n := 2) hc hw (hob S M hI) (mt_X7_swap l D cs (l_A s o2) S o1 (xs (x3 + 1).toNatClampNeg) (xs (x3 + 2).toNatClampNeg) e1) wM_L_98 wI_X7_swap wS_X7_swap wZ_X7 wC_X7_swap md_X7_swap ⟨rfl, rfl, Nat.le_of_ble_eq_true rfl, Nat.le_of_ble_eq_true rfl⟩ rfl hl.1 rfl (Nat.le_of_ble_eq_true rfl) dL_law_902 ⟨by show _ ≤ 600000; omega, by show _ ≤ 7302250; omega⟩ (fun H locs hw => ?_)
  show W p l e room_1 s m #[Value.ref b] below meth c H locs (cells + 0) (slots + 0) (lw_Z below #[Value.ref b] s) (F0 m 905 ls [.int r])
  refine lv_aload_n hx hb dL_law_905 rfl (lv_at hl 2 rfl) ?_
  refine lv_aload_n hx hb dL_law_906 rfl (lv_at hl 0 rfl) ?_
  refine lv_iload_n hx hb dL_law_907 rfl (lv_at hl 3 rfl) ?_
  refine lv_iconst (v := 1) hx hb dL_law_908 (by decide) ?_
  refine lv_iadd hx hb dL_law_909 ?_
  refine l_sld hc hw.2.2.1 hi1 dL_law_910 ?_
  refine lv_aload_n hx hb dL_law_911 rfl (lv_at hl 0 rfl) ?_
  refine lv_iload_n hx hb dL_law_912 rfl (lv_at hl 3 rfl) ?_
  refine lv_iconst (v := 2) hx hb dL_law_913 (by decide) ?_
  refine lv_iadd hx hb dL_law_914 ?_
  refine l_sld hc hw.2.2.1 hi2 dL_law_915 ?_
  refine l_callMi (As := [.int (xs (x3 + 1).toNatClampNeg), .int (xs (x3 + 2).toNatClampNeg)]) (r := r) (M' := M1) (n := 2) hc hw (mt_X8_swap l D (cs 0) (cs 1) o2 H.size M (xs (x3 + 1).toNatClampNeg) (xs (x3 + 2).toNatClampNeg) e2) wM_L_101 wI_X8_swap wS_X8_swap wZ_X8 wC_X8_swap md_X8_swap ⟨rfl, rfl, Nat.le_of_ble_eq_true rfl, Nat.le_of_ble_eq_true rfl⟩ rfl hl.1 rfl (Nat.le_of_ble_eq_true rfl) dL_law_916 ⟨by show _ ≤ 600000; omega, by show _ ≤ 7302250; omega⟩ (fun H locs hw => ?_)
  refine lv_icmp_eq (tgt := 1284) hx hb dL_law_919 (by decide) (fun cq => ?_) (fun cq => ?_)
  · refine W.widen (k := cells + 20) (n := slots + 123) (by omega) (by omega) ?_
    exact kk S1 M1 hI1 H locs ls hw hl
  · exact absurd rfl cq
/-- swaps: class and reference answer alike -/
def z_G_20 (Inv : GS → MS → Prop) (o : Nat) : Prop := ∀ (S : GS) (M : MS), Inv S M → ∀ (a0 a1 : Int32), ∃ (r : Int32) (S1 : GS) (M1 : MS), f_X7_swaps S o a0 a1 = some (r, S1) ∧ f_X8_swaps M a0 a1 = some (r, M1) ∧ Inv S1 M1
set_option maxHeartbeats 4000000 in
theorem l_case_20 {p : Program} {l : Launch} {e : Env} {s : State} {m : MethodId} {below : List Frame} {meth : Method} {c : Code} {b L : Nat} {xs : Nat → Int32} {D : va_G} {cs : Nat → ClassId} {o1 o2 cells slots : Nat} {x3 : Int32} {S : GS} {M : MS} {Inv : GS → MS → Prop} (hc : l_X p s m meth c b L xs D cs) (hG : z_G_20 Inv o1) (hob : ∀ S M, Inv S M → g_is S 7 o1) (hI : Inv S M) (hi1 : vp_in (x3 + 1) L) (hi2 : vp_in (x3 + 2) L) (hi3 : vp_in (x3 + 3) L) (hi4 : vp_in (x3 + 4) L) (hi5 : vp_in (x3 + 5) L) (hrc : cells + 20 ≤ 600000) (hrs : slots + 123 ≤ 7302250) (kk : ∀ (S1 : GS) (M1 : MS), Inv S1 M1 → l_At p l e s m below meth c b D cs o1 o2 1284 (cells + 20) (slots + 123) x3 S1 M1) : l_At p l e s m below meth c b D cs o1 o2 924 cells slots x3 S M := by
  intro H locs ls hw hl
  have hx := hc.1.1
  have hb : c.code = code := hc.1.2.1
  obtain ⟨r, S1, M1, e1, e2, hI1⟩ := hG S M hI (xs (x3 + 1).toNatClampNeg) (xs (x3 + 2).toNatClampNeg)
  refine lv_aload_n hx hb dL_law_924 rfl (lv_at hl 1 rfl) ?_
  refine lv_aload_n hx hb dL_law_925 rfl (lv_at hl 0 rfl) ?_
  refine lv_iload_n hx hb dL_law_926 rfl (lv_at hl 3 rfl) ?_
  refine lv_iconst (v := 1) hx hb dL_law_927 (by decide) ?_
  refine lv_iadd hx hb dL_law_928 ?_
  refine l_sld hc hw.2.2.1 hi1 dL_law_929 ?_
  refine lv_aload_n hx hb dL_law_930 rfl (lv_at hl 0 rfl) ?_
  refine lv_iload_n hx hb dL_law_931 rfl (lv_at hl 3 rfl) ?_
  refine lv_iconst (v := 2) hx hb dL_law_932 (by decide) ?_
  refine lv_iadd hx hb dL_law_933 ?_
  refine l_sld hc hw.2.2.1 hi2 dL_law_934 ?_
  refine l_callC (As := [.int (xs (x3 + 1).toNatClampNeg), .int (xs (x3 + 2).toNatClampNeg)]) (rv := some (.int r)) (S' := S1) (n := 2) hc hw (hob S M hI) (mt_X7_swaps l D cs (l_A s o2) S o1 (xs (x3 + 1).toNatClampNeg) (xs (x3 + 2).toNatClampNeg) e1) wM_L_102 wI_X7_swaps wS_X7_swaps wZ_X7 wC_X7_swaps md_X7_swaps ⟨rfl, rfl, Nat.le_of_ble_eq_true rfl, Nat.le_of_ble_eq_true rfl⟩ rfl hl.1 rfl (Nat.le_of_ble_eq_true rfl) dL_law_935 ⟨by show _ ≤ 600000; omega, by show _ ≤ 7302250; omega⟩ (fun H locs hw => ?_)
  show W p l e room_1 s m #[Value.ref b] below meth c H locs (cells + 0) (slots + 0) (lw_Z below #[Value.ref b] s) (F0 m 938 ls [.int r])
  refine lv_aload_n hx hb dL_law_938 rfl (lv_at hl 2 rfl) ?_
  refine lv_aload_n hx hb dL_law_939 rfl (lv_at hl 0 rfl) ?_
  refine lv_iload_n hx hb dL_law_940 rfl (lv_at hl 3 rfl) ?_
  refine lv_iconst (v := 1) hx hb dL_law_941 (by decide) ?_
  refine lv_iadd hx hb dL_law_942 ?_
  refine l_sld hc hw.2.2.1 hi1 dL_law_943 ?_
  refine lv_aload_n hx hb dL_law_944 rfl (lv_at hl 0 rfl) ?_
  refine lv_iload_n hx hb dL_law_945 rfl (lv_at hl 3 rfl) ?_
  refine lv_iconst (v := 2) hx hb dL_law_946 (by decide) ?_
  refine lv_iadd hx hb dL_law_947 ?_
  refine l_sld hc hw.2.2.1 hi2 dL_law_948 ?_
  refine l_callMi (As := [.int (xs (x3 + 1).toNatClampNeg), .int (xs (x3 + 2).toNatClampNeg)]) (r := r) (M' := M1) (n := 2) hc hw (mt_X8_swaps l D (cs 0) (cs 1) o2 H.size M (xs (x3 + 1).toNatClampNeg) (xs (x3 + 2).toNatClampNeg) e2) wM_L_105 wI_X8_swaps wS_X8_swaps wZ_X8 wC_X8_swaps md_X8_swaps ⟨rfl, rfl, Nat.le_of_ble_eq_true rfl, Nat.le_of_ble_eq_true rfl⟩ rfl hl.1 rfl (Nat.le_of_ble_eq_true rfl) dL_law_949 ⟨by show _ ≤ 600000; omega, by show _ ≤ 7302250; omega⟩ (fun H locs hw => ?_)
  refine lv_icmp_eq (tgt := 1284) hx hb dL_law_952 (by decide) (fun cq => ?_) (fun cq => ?_)
  · refine W.widen (k := cells + 20) (n := slots + 123) (by omega) (by omega) ?_
    exact kk S1 M1 hI1 H locs ls hw hl
  · exact absurd rfl cq
/-- against: class and reference answer alike -/
def z_G_21 (Inv : GS → MS → Prop) (o : Nat) : Prop := ∀ (S : GS) (M : MS), Inv S M → ∀ (a0 a1 : Int32), ∃ (r : Int32) (M1 : MS), f_X7_against S o a0 a1 = some r ∧ f_X8_against M a0 a1 = some (r, M1) ∧ Inv S M1
set_option maxHeartbeats 4000000 in
theorem l_case_21 {p : Program} {l : Launch} {e : Env} {s : State} {m : MethodId} {below : List Frame} {meth : Method} {c : Code} {b L : Nat} {xs : Nat → Int32} {D : va_G} {cs : Nat → ClassId} {o1 o2 cells slots : Nat} {x3 : Int32} {S : GS} {M : MS} {Inv : GS → MS → Prop} (hc : l_X p s m meth c b L xs D cs) (hG : z_G_21 Inv o1) (hob : ∀ S M, Inv S M → g_is S 7 o1) (hI : Inv S M) (hi1 : vp_in (x3 + 1) L) (hi2 : vp_in (x3 + 2) L) (hi3 : vp_in (x3 + 3) L) (hi4 : vp_in (x3 + 4) L) (hi5 : vp_in (x3 + 5) L) (hrc : cells + 20 ≤ 600000) (hrs : slots + 123 ≤ 7302250) (kk : ∀ (S1 : GS) (M1 : MS), Inv S1 M1 → l_At p l e s m below meth c b D cs o1 o2 1284 (cells + 20) (slots + 123) x3 S1 M1) : l_At p l e s m below meth c b D cs o1 o2 957 cells slots x3 S M := by
  intro H locs ls hw hl
  have hx := hc.1.1
  have hb : c.code = code := hc.1.2.1
  obtain ⟨r, M1, e1, e2, hI1⟩ := hG S M hI (xs (x3 + 1).toNatClampNeg) (xs (x3 + 2).toNatClampNeg)
  refine lv_aload_n hx hb dL_law_957 rfl (lv_at hl 1 rfl) ?_
  refine lv_aload_n hx hb dL_law_958 rfl (lv_at hl 0 rfl) ?_
  refine lv_iload_n hx hb dL_law_959 rfl (lv_at hl 3 rfl) ?_
  refine lv_iconst (v := 1) hx hb dL_law_960 (by decide) ?_
  refine lv_iadd hx hb dL_law_961 ?_
  refine l_sld hc hw.2.2.1 hi1 dL_law_962 ?_
  refine lv_aload_n hx hb dL_law_963 rfl (lv_at hl 0 rfl) ?_
  refine lv_iload_n hx hb dL_law_964 rfl (lv_at hl 3 rfl) ?_
  refine lv_iconst (v := 2) hx hb dL_law_965 (by decide) ?_
  refine lv_iadd hx hb dL_law_966 ?_
  refine l_sld hc hw.2.2.1 hi2 dL_law_967 ?_
  refine l_callC (As := [.int (xs (x3 + 1).toNatClampNeg), .int (xs (x3 + 2).toNatClampNeg)]) (rv := some (.int r)) (S' := S) (n := 2) hc hw (hob S M hI) (mt_X7_against l D cs (l_A s o2) S o1 (xs (x3 + 1).toNatClampNeg) (xs (x3 + 2).toNatClampNeg) e1) wM_L_106 wI_X7_against wS_X7_against wZ_X7 wC_X7_against md_X7_against ⟨rfl, rfl, Nat.le_of_ble_eq_true rfl, Nat.le_of_ble_eq_true rfl⟩ rfl hl.1 rfl (Nat.le_of_ble_eq_true rfl) dL_law_968 ⟨by show _ ≤ 600000; omega, by show _ ≤ 7302250; omega⟩ (fun H locs hw => ?_)
  show W p l e room_1 s m #[Value.ref b] below meth c H locs (cells + 0) (slots + 0) (lw_Z below #[Value.ref b] s) (F0 m 971 ls [.int r])
  refine lv_aload_n hx hb dL_law_971 rfl (lv_at hl 2 rfl) ?_
  refine lv_aload_n hx hb dL_law_972 rfl (lv_at hl 0 rfl) ?_
  refine lv_iload_n hx hb dL_law_973 rfl (lv_at hl 3 rfl) ?_
  refine lv_iconst (v := 1) hx hb dL_law_974 (by decide) ?_
  refine lv_iadd hx hb dL_law_975 ?_
  refine l_sld hc hw.2.2.1 hi1 dL_law_976 ?_
  refine lv_aload_n hx hb dL_law_977 rfl (lv_at hl 0 rfl) ?_
  refine lv_iload_n hx hb dL_law_978 rfl (lv_at hl 3 rfl) ?_
  refine lv_iconst (v := 2) hx hb dL_law_979 (by decide) ?_
  refine lv_iadd hx hb dL_law_980 ?_
  refine l_sld hc hw.2.2.1 hi2 dL_law_981 ?_
  refine l_callMi (As := [.int (xs (x3 + 1).toNatClampNeg), .int (xs (x3 + 2).toNatClampNeg)]) (r := r) (M' := M1) (n := 2) hc hw (mt_X8_against l D (cs 0) (cs 1) o2 H.size M (xs (x3 + 1).toNatClampNeg) (xs (x3 + 2).toNatClampNeg) e2) wM_L_109 wI_X8_against wS_X8_against wZ_X8 wC_X8_against md_X8_against ⟨rfl, rfl, Nat.le_of_ble_eq_true rfl, Nat.le_of_ble_eq_true rfl⟩ rfl hl.1 rfl (Nat.le_of_ble_eq_true rfl) dL_law_982 ⟨by show _ ≤ 600000; omega, by show _ ≤ 7302250; omega⟩ (fun H locs hw => ?_)
  refine lv_icmp_eq (tgt := 1284) hx hb dL_law_985 (by decide) (fun cq => ?_) (fun cq => ?_)
  · refine W.widen (k := cells + 20) (n := slots + 123) (by omega) (by omega) ?_
    exact kk S M1 hI1 H locs ls hw hl
  · exact absurd rfl cq
/-- same: class and reference answer alike -/
def z_G_22 (Inv : GS → MS → Prop) (o : Nat) : Prop := ∀ (S : GS) (M : MS), Inv S M → ∀ (a0 a1 : Int32), ∃ (r : Int32), f_X7_same S o a0 a1 = some r ∧ f_X8_same M a0 a1 = some r ∧ Inv S M
set_option maxHeartbeats 4000000 in
theorem l_case_22 {p : Program} {l : Launch} {e : Env} {s : State} {m : MethodId} {below : List Frame} {meth : Method} {c : Code} {b L : Nat} {xs : Nat → Int32} {D : va_G} {cs : Nat → ClassId} {o1 o2 cells slots : Nat} {x3 : Int32} {S : GS} {M : MS} {Inv : GS → MS → Prop} (hc : l_X p s m meth c b L xs D cs) (hG : z_G_22 Inv o1) (hob : ∀ S M, Inv S M → g_is S 7 o1) (hI : Inv S M) (hi1 : vp_in (x3 + 1) L) (hi2 : vp_in (x3 + 2) L) (hi3 : vp_in (x3 + 3) L) (hi4 : vp_in (x3 + 4) L) (hi5 : vp_in (x3 + 5) L) (hrc : cells + 20 ≤ 600000) (hrs : slots + 123 ≤ 7302250) (kk : ∀ (S1 : GS) (M1 : MS), Inv S1 M1 → l_At p l e s m below meth c b D cs o1 o2 1284 (cells + 20) (slots + 123) x3 S1 M1) : l_At p l e s m below meth c b D cs o1 o2 990 cells slots x3 S M := by
  intro H locs ls hw hl
  have hx := hc.1.1
  have hb : c.code = code := hc.1.2.1
  obtain ⟨r, e1, e2, hI1⟩ := hG S M hI (xs (x3 + 1).toNatClampNeg) (xs (x3 + 2).toNatClampNeg)
  refine lv_aload_n hx hb dL_law_990 rfl (lv_at hl 1 rfl) ?_
  refine lv_aload_n hx hb dL_law_991 rfl (lv_at hl 0 rfl) ?_
  refine lv_iload_n hx hb dL_law_992 rfl (lv_at hl 3 rfl) ?_
  refine lv_iconst (v := 1) hx hb dL_law_993 (by decide) ?_
  refine lv_iadd hx hb dL_law_994 ?_
  refine l_sld hc hw.2.2.1 hi1 dL_law_995 ?_
  refine lv_aload_n hx hb dL_law_996 rfl (lv_at hl 0 rfl) ?_
  refine lv_iload_n hx hb dL_law_997 rfl (lv_at hl 3 rfl) ?_
  refine lv_iconst (v := 2) hx hb dL_law_998 (by decide) ?_
  refine lv_iadd hx hb dL_law_999 ?_
  refine l_sld hc hw.2.2.1 hi2 dL_law_1000 ?_
  refine l_callC (As := [.int (xs (x3 + 1).toNatClampNeg), .int (xs (x3 + 2).toNatClampNeg)]) (rv := some (.int r)) (S' := S) (n := 2) hc hw (hob S M hI) (mt_X7_same l D cs (l_A s o2) S o1 (xs (x3 + 1).toNatClampNeg) (xs (x3 + 2).toNatClampNeg) e1) wM_L_110 wI_X7_same wS_X7_same wZ_X7 wC_X7_same md_X7_same ⟨rfl, rfl, Nat.le_of_ble_eq_true rfl, Nat.le_of_ble_eq_true rfl⟩ rfl hl.1 rfl (Nat.le_of_ble_eq_true rfl) dL_law_1001 ⟨by show _ ≤ 600000; omega, by show _ ≤ 7302250; omega⟩ (fun H locs hw => ?_)
  show W p l e room_1 s m #[Value.ref b] below meth c H locs (cells + 0) (slots + 0) (lw_Z below #[Value.ref b] s) (F0 m 1004 ls [.int r])
  refine lv_aload_n hx hb dL_law_1004 rfl (lv_at hl 2 rfl) ?_
  refine lv_aload_n hx hb dL_law_1005 rfl (lv_at hl 0 rfl) ?_
  refine lv_iload_n hx hb dL_law_1006 rfl (lv_at hl 3 rfl) ?_
  refine lv_iconst (v := 1) hx hb dL_law_1007 (by decide) ?_
  refine lv_iadd hx hb dL_law_1008 ?_
  refine l_sld hc hw.2.2.1 hi1 dL_law_1009 ?_
  refine lv_aload_n hx hb dL_law_1010 rfl (lv_at hl 0 rfl) ?_
  refine lv_iload_n hx hb dL_law_1011 rfl (lv_at hl 3 rfl) ?_
  refine lv_iconst (v := 2) hx hb dL_law_1012 (by decide) ?_
  refine lv_iadd hx hb dL_law_1013 ?_
  refine l_sld hc hw.2.2.1 hi2 dL_law_1014 ?_
  refine l_callMi (As := [.int (xs (x3 + 1).toNatClampNeg), .int (xs (x3 + 2).toNatClampNeg)]) (r := r) (M' := M) (n := 2) hc hw (mt_X8_same l D (cs 0) (cs 1) o2 H.size M (xs (x3 + 1).toNatClampNeg) (xs (x3 + 2).toNatClampNeg) e2) wM_L_113 wI_X8_same wS_X8_same wZ_X8 wC_X8_same md_X8_same ⟨rfl, rfl, Nat.le_of_ble_eq_true rfl, Nat.le_of_ble_eq_true rfl⟩ rfl hl.1 rfl (Nat.le_of_ble_eq_true rfl) dL_law_1015 ⟨by show _ ≤ 600000; omega, by show _ ≤ 7302250; omega⟩ (fun H locs hw => ?_)
  refine lv_icmp_eq (tgt := 1284) hx hb dL_law_1018 (by decide) (fun cq => ?_) (fun cq => ?_)
  · refine W.widen (k := cells + 20) (n := slots + 123) (by omega) (by omega) ?_
    exact kk S M hI1 H locs ls hw hl
  · exact absurd rfl cq
/-- act: class and reference answer alike -/
def z_G_23 (Inv : GS → MS → Prop) (o : Nat) : Prop := ∀ (S : GS) (M : MS), Inv S M → ∀ (a0 a1 a2 : Int32), ∃ (r : Int32) (S1 : GS) (M1 : MS), f_X7_act S o a0 a1 a2 = some (r, S1) ∧ f_X8_act M a0 a1 a2 = some (r, M1) ∧ Inv S1 M1
set_option maxHeartbeats 4000000 in
theorem l_case_23 {p : Program} {l : Launch} {e : Env} {s : State} {m : MethodId} {below : List Frame} {meth : Method} {c : Code} {b L : Nat} {xs : Nat → Int32} {D : va_G} {cs : Nat → ClassId} {o1 o2 cells slots : Nat} {x3 : Int32} {S : GS} {M : MS} {Inv : GS → MS → Prop} (hc : l_X p s m meth c b L xs D cs) (hG : z_G_23 Inv o1) (hob : ∀ S M, Inv S M → g_is S 7 o1) (hI : Inv S M) (hi1 : vp_in (x3 + 1) L) (hi2 : vp_in (x3 + 2) L) (hi3 : vp_in (x3 + 3) L) (hi4 : vp_in (x3 + 4) L) (hi5 : vp_in (x3 + 5) L) (hrc : cells + 20 ≤ 600000) (hrs : slots + 123 ≤ 7302250) (kk : ∀ (S1 : GS) (M1 : MS), Inv S1 M1 → l_At p l e s m below meth c b D cs o1 o2 1284 (cells + 20) (slots + 123) x3 S1 M1) : l_At p l e s m below meth c b D cs o1 o2 1023 cells slots x3 S M := by
  intro H locs ls hw hl
  have hx := hc.1.1
  have hb : c.code = code := hc.1.2.1
  obtain ⟨r, S1, M1, e1, e2, hI1⟩ := hG S M hI (xs (x3 + 1).toNatClampNeg) (xs (x3 + 2).toNatClampNeg) (xs (x3 + 3).toNatClampNeg)
  refine lv_aload_n hx hb dL_law_1023 rfl (lv_at hl 1 rfl) ?_
  refine lv_aload_n hx hb dL_law_1024 rfl (lv_at hl 0 rfl) ?_
  refine lv_iload_n hx hb dL_law_1025 rfl (lv_at hl 3 rfl) ?_
  refine lv_iconst (v := 1) hx hb dL_law_1026 (by decide) ?_
  refine lv_iadd hx hb dL_law_1027 ?_
  refine l_sld hc hw.2.2.1 hi1 dL_law_1028 ?_
  refine lv_aload_n hx hb dL_law_1029 rfl (lv_at hl 0 rfl) ?_
  refine lv_iload_n hx hb dL_law_1030 rfl (lv_at hl 3 rfl) ?_
  refine lv_iconst (v := 2) hx hb dL_law_1031 (by decide) ?_
  refine lv_iadd hx hb dL_law_1032 ?_
  refine l_sld hc hw.2.2.1 hi2 dL_law_1033 ?_
  refine lv_aload_n hx hb dL_law_1034 rfl (lv_at hl 0 rfl) ?_
  refine lv_iload_n hx hb dL_law_1035 rfl (lv_at hl 3 rfl) ?_
  refine lv_iconst (v := 3) hx hb dL_law_1036 (by decide) ?_
  refine lv_iadd hx hb dL_law_1037 ?_
  refine l_sld hc hw.2.2.1 hi3 dL_law_1038 ?_
  refine l_callC (As := [.int (xs (x3 + 1).toNatClampNeg), .int (xs (x3 + 2).toNatClampNeg), .int (xs (x3 + 3).toNatClampNeg)]) (rv := some (.int r)) (S' := S1) (n := 3) hc hw (hob S M hI) (mt_X7_act l D cs (l_A s o2) S o1 (xs (x3 + 1).toNatClampNeg) (xs (x3 + 2).toNatClampNeg) (xs (x3 + 3).toNatClampNeg) e1) wM_L_114 wI_X7_act wS_X7_act wZ_X7 wC_X7_act md_X7_act ⟨rfl, rfl, Nat.le_of_ble_eq_true rfl, Nat.le_of_ble_eq_true rfl⟩ rfl hl.1 rfl (Nat.le_of_ble_eq_true rfl) dL_law_1039 ⟨by show _ ≤ 600000; omega, by show _ ≤ 7302250; omega⟩ (fun H locs hw => ?_)
  show W p l e room_1 s m #[Value.ref b] below meth c H locs (cells + 0) (slots + 0) (lw_Z below #[Value.ref b] s) (F0 m 1042 ls [.int r])
  refine lv_aload_n hx hb dL_law_1042 rfl (lv_at hl 2 rfl) ?_
  refine lv_aload_n hx hb dL_law_1043 rfl (lv_at hl 0 rfl) ?_
  refine lv_iload_n hx hb dL_law_1044 rfl (lv_at hl 3 rfl) ?_
  refine lv_iconst (v := 1) hx hb dL_law_1045 (by decide) ?_
  refine lv_iadd hx hb dL_law_1046 ?_
  refine l_sld hc hw.2.2.1 hi1 dL_law_1047 ?_
  refine lv_aload_n hx hb dL_law_1048 rfl (lv_at hl 0 rfl) ?_
  refine lv_iload_n hx hb dL_law_1049 rfl (lv_at hl 3 rfl) ?_
  refine lv_iconst (v := 2) hx hb dL_law_1050 (by decide) ?_
  refine lv_iadd hx hb dL_law_1051 ?_
  refine l_sld hc hw.2.2.1 hi2 dL_law_1052 ?_
  refine lv_aload_n hx hb dL_law_1053 rfl (lv_at hl 0 rfl) ?_
  refine lv_iload_n hx hb dL_law_1054 rfl (lv_at hl 3 rfl) ?_
  refine lv_iconst (v := 3) hx hb dL_law_1055 (by decide) ?_
  refine lv_iadd hx hb dL_law_1056 ?_
  refine l_sld hc hw.2.2.1 hi3 dL_law_1057 ?_
  refine l_callMi (As := [.int (xs (x3 + 1).toNatClampNeg), .int (xs (x3 + 2).toNatClampNeg), .int (xs (x3 + 3).toNatClampNeg)]) (r := r) (M' := M1) (n := 3) hc hw (mt_X8_act l D (cs 0) (cs 1) o2 H.size M (xs (x3 + 1).toNatClampNeg) (xs (x3 + 2).toNatClampNeg) (xs (x3 + 3).toNatClampNeg) e2) wM_L_117 wI_X8_act wS_X8_act wZ_X8 wC_X8_act md_X8_act ⟨rfl, rfl, Nat.le_of_ble_eq_true rfl, Nat.le_of_ble_eq_true rfl⟩ rfl hl.1 rfl (Nat.le_of_ble_eq_true rfl) dL_law_1058 ⟨by show _ ≤ 600000; omega, by show _ ≤ 7302250; omega⟩ (fun H locs hw => ?_)
  refine lv_icmp_eq (tgt := 1284) hx hb dL_law_1061 (by decide) (fun cq => ?_) (fun cq => ?_)
  · refine W.widen (k := cells + 20) (n := slots + 123) (by omega) (by omega) ?_
    exact kk S1 M1 hI1 H locs ls hw hl
  · exact absurd rfl cq
/-- trace: class and reference answer alike -/
def z_G_24 (Inv : GS → MS → Prop) (o : Nat) : Prop := ∀ (S : GS) (M : MS), Inv S M → ∀ (a0 : Int32), ∃ (r : Int32), f_X7_trace S o a0 = some r ∧ f_X8_trace M a0 = some r ∧ Inv S M
set_option maxHeartbeats 4000000 in
theorem l_case_24 {p : Program} {l : Launch} {e : Env} {s : State} {m : MethodId} {below : List Frame} {meth : Method} {c : Code} {b L : Nat} {xs : Nat → Int32} {D : va_G} {cs : Nat → ClassId} {o1 o2 cells slots : Nat} {x3 : Int32} {S : GS} {M : MS} {Inv : GS → MS → Prop} (hc : l_X p s m meth c b L xs D cs) (hG : z_G_24 Inv o1) (hob : ∀ S M, Inv S M → g_is S 7 o1) (hI : Inv S M) (hi1 : vp_in (x3 + 1) L) (hi2 : vp_in (x3 + 2) L) (hi3 : vp_in (x3 + 3) L) (hi4 : vp_in (x3 + 4) L) (hi5 : vp_in (x3 + 5) L) (hrc : cells + 20 ≤ 600000) (hrs : slots + 123 ≤ 7302250) (kk : ∀ (S1 : GS) (M1 : MS), Inv S1 M1 → l_At p l e s m below meth c b D cs o1 o2 1284 (cells + 20) (slots + 123) x3 S1 M1) : l_At p l e s m below meth c b D cs o1 o2 1066 cells slots x3 S M := by
  intro H locs ls hw hl
  have hx := hc.1.1
  have hb : c.code = code := hc.1.2.1
  obtain ⟨r, e1, e2, hI1⟩ := hG S M hI (xs (x3 + 1).toNatClampNeg)
  refine lv_aload_n hx hb dL_law_1066 rfl (lv_at hl 1 rfl) ?_
  refine lv_aload_n hx hb dL_law_1067 rfl (lv_at hl 0 rfl) ?_
  refine lv_iload_n hx hb dL_law_1068 rfl (lv_at hl 3 rfl) ?_
  refine lv_iconst (v := 1) hx hb dL_law_1069 (by decide) ?_
  refine lv_iadd hx hb dL_law_1070 ?_
  refine l_sld hc hw.2.2.1 hi1 dL_law_1071 ?_
  refine l_callC (As := [.int (xs (x3 + 1).toNatClampNeg)]) (rv := some (.int r)) (S' := S) (n := 1) hc hw (hob S M hI) (mt_X7_trace l D cs (l_A s o2) S o1 (xs (x3 + 1).toNatClampNeg) e1) wM_L_118 wI_X7_trace wS_X7_trace wZ_X7 wC_X7_trace md_X7_trace ⟨rfl, rfl, Nat.le_of_ble_eq_true rfl, Nat.le_of_ble_eq_true rfl⟩ rfl hl.1 rfl (Nat.le_of_ble_eq_true rfl) dL_law_1072 ⟨by show _ ≤ 600000; omega, by show _ ≤ 7302250; omega⟩ (fun H locs hw => ?_)
  show W p l e room_1 s m #[Value.ref b] below meth c H locs (cells + 0) (slots + 0) (lw_Z below #[Value.ref b] s) (F0 m 1075 ls [.int r])
  refine lv_aload_n hx hb dL_law_1075 rfl (lv_at hl 2 rfl) ?_
  refine lv_aload_n hx hb dL_law_1076 rfl (lv_at hl 0 rfl) ?_
  refine lv_iload_n hx hb dL_law_1077 rfl (lv_at hl 3 rfl) ?_
  refine lv_iconst (v := 1) hx hb dL_law_1078 (by decide) ?_
  refine lv_iadd hx hb dL_law_1079 ?_
  refine l_sld hc hw.2.2.1 hi1 dL_law_1080 ?_
  refine l_callMi (As := [.int (xs (x3 + 1).toNatClampNeg)]) (r := r) (M' := M) (n := 1) hc hw (mt_X8_trace l D (cs 0) (cs 1) o2 H.size M (xs (x3 + 1).toNatClampNeg) e2) wM_L_121 wI_X8_trace wS_X8_trace wZ_X8 wC_X8_trace md_X8_trace ⟨rfl, rfl, Nat.le_of_ble_eq_true rfl, Nat.le_of_ble_eq_true rfl⟩ rfl hl.1 rfl (Nat.le_of_ble_eq_true rfl) dL_law_1081 ⟨by show _ ≤ 600000; omega, by show _ ≤ 7302250; omega⟩ (fun H locs hw => ?_)
  refine lv_icmp_eq (tgt := 1284) hx hb dL_law_1084 (by decide) (fun cq => ?_) (fun cq => ?_)
  · refine W.widen (k := cells + 20) (n := slots + 123) (by omega) (by omega) ?_
    exact kk S M hI1 H locs ls hw hl
  · exact absurd rfl cq
/-- sheet: class and reference answer alike -/
def z_G_25 (Inv : GS → MS → Prop) (o : Nat) : Prop := ∀ (S : GS) (M : MS), Inv S M → ∀ (a0 a1 a2 : Int32), ∃ (r : Int32) (S1 : GS) (M1 : MS), f_X7_sheet S o a0 a1 a2 = some (r, S1) ∧ f_X8_sheet M a0 a1 a2 = some (r, M1) ∧ Inv S1 M1
set_option maxHeartbeats 4000000 in
theorem l_case_25 {p : Program} {l : Launch} {e : Env} {s : State} {m : MethodId} {below : List Frame} {meth : Method} {c : Code} {b L : Nat} {xs : Nat → Int32} {D : va_G} {cs : Nat → ClassId} {o1 o2 cells slots : Nat} {x3 : Int32} {S : GS} {M : MS} {Inv : GS → MS → Prop} (hc : l_X p s m meth c b L xs D cs) (hG : z_G_25 Inv o1) (hob : ∀ S M, Inv S M → g_is S 7 o1) (hI : Inv S M) (hi1 : vp_in (x3 + 1) L) (hi2 : vp_in (x3 + 2) L) (hi3 : vp_in (x3 + 3) L) (hi4 : vp_in (x3 + 4) L) (hi5 : vp_in (x3 + 5) L) (hrc : cells + 20 ≤ 600000) (hrs : slots + 123 ≤ 7302250) (kk : ∀ (S1 : GS) (M1 : MS), Inv S1 M1 → l_At p l e s m below meth c b D cs o1 o2 1284 (cells + 20) (slots + 123) x3 S1 M1) : l_At p l e s m below meth c b D cs o1 o2 1089 cells slots x3 S M := by
  intro H locs ls hw hl
  have hx := hc.1.1
  have hb : c.code = code := hc.1.2.1
  obtain ⟨r, S1, M1, e1, e2, hI1⟩ := hG S M hI (xs (x3 + 1).toNatClampNeg) (xs (x3 + 2).toNatClampNeg) (xs (x3 + 3).toNatClampNeg)
  refine lv_aload_n hx hb dL_law_1089 rfl (lv_at hl 1 rfl) ?_
  refine lv_aload_n hx hb dL_law_1090 rfl (lv_at hl 0 rfl) ?_
  refine lv_iload_n hx hb dL_law_1091 rfl (lv_at hl 3 rfl) ?_
  refine lv_iconst (v := 1) hx hb dL_law_1092 (by decide) ?_
  refine lv_iadd hx hb dL_law_1093 ?_
  refine l_sld hc hw.2.2.1 hi1 dL_law_1094 ?_
  refine lv_aload_n hx hb dL_law_1095 rfl (lv_at hl 0 rfl) ?_
  refine lv_iload_n hx hb dL_law_1096 rfl (lv_at hl 3 rfl) ?_
  refine lv_iconst (v := 2) hx hb dL_law_1097 (by decide) ?_
  refine lv_iadd hx hb dL_law_1098 ?_
  refine l_sld hc hw.2.2.1 hi2 dL_law_1099 ?_
  refine lv_aload_n hx hb dL_law_1100 rfl (lv_at hl 0 rfl) ?_
  refine lv_iload_n hx hb dL_law_1101 rfl (lv_at hl 3 rfl) ?_
  refine lv_iconst (v := 3) hx hb dL_law_1102 (by decide) ?_
  refine lv_iadd hx hb dL_law_1103 ?_
  refine l_sld hc hw.2.2.1 hi3 dL_law_1104 ?_
  refine l_callC (As := [.int (xs (x3 + 1).toNatClampNeg), .int (xs (x3 + 2).toNatClampNeg), .int (xs (x3 + 3).toNatClampNeg)]) (rv := some (.int r)) (S' := S1) (n := 3) hc hw (hob S M hI) (mt_X7_sheet l D cs (l_A s o2) S o1 (xs (x3 + 1).toNatClampNeg) (xs (x3 + 2).toNatClampNeg) (xs (x3 + 3).toNatClampNeg) e1) wM_L_122 wI_X7_sheet wS_X7_sheet wZ_X7 wC_X7_sheet md_X7_sheet ⟨rfl, rfl, Nat.le_of_ble_eq_true rfl, Nat.le_of_ble_eq_true rfl⟩ rfl hl.1 rfl (Nat.le_of_ble_eq_true rfl) dL_law_1105 ⟨by show _ ≤ 600000; omega, by show _ ≤ 7302250; omega⟩ (fun H locs hw => ?_)
  show W p l e room_1 s m #[Value.ref b] below meth c H locs (cells + 2) (slots + 42) (lw_Z below #[Value.ref b] s) (F0 m 1108 ls [.int r])
  refine lv_aload_n hx hb dL_law_1108 rfl (lv_at hl 2 rfl) ?_
  refine lv_aload_n hx hb dL_law_1109 rfl (lv_at hl 0 rfl) ?_
  refine lv_iload_n hx hb dL_law_1110 rfl (lv_at hl 3 rfl) ?_
  refine lv_iconst (v := 1) hx hb dL_law_1111 (by decide) ?_
  refine lv_iadd hx hb dL_law_1112 ?_
  refine l_sld hc hw.2.2.1 hi1 dL_law_1113 ?_
  refine lv_aload_n hx hb dL_law_1114 rfl (lv_at hl 0 rfl) ?_
  refine lv_iload_n hx hb dL_law_1115 rfl (lv_at hl 3 rfl) ?_
  refine lv_iconst (v := 2) hx hb dL_law_1116 (by decide) ?_
  refine lv_iadd hx hb dL_law_1117 ?_
  refine l_sld hc hw.2.2.1 hi2 dL_law_1118 ?_
  refine lv_aload_n hx hb dL_law_1119 rfl (lv_at hl 0 rfl) ?_
  refine lv_iload_n hx hb dL_law_1120 rfl (lv_at hl 3 rfl) ?_
  refine lv_iconst (v := 3) hx hb dL_law_1121 (by decide) ?_
  refine lv_iadd hx hb dL_law_1122 ?_
  refine l_sld hc hw.2.2.1 hi3 dL_law_1123 ?_
  refine l_callMi (As := [.int (xs (x3 + 1).toNatClampNeg), .int (xs (x3 + 2).toNatClampNeg), .int (xs (x3 + 3).toNatClampNeg)]) (r := r) (M' := M1) (n := 3) hc hw (mt_X8_sheet l D (cs 0) (cs 1) o2 H.size M (xs (x3 + 1).toNatClampNeg) (xs (x3 + 2).toNatClampNeg) (xs (x3 + 3).toNatClampNeg) e2) wM_L_125 wI_X8_sheet wS_X8_sheet wZ_X8 wC_X8_sheet md_X8_sheet ⟨rfl, rfl, Nat.le_of_ble_eq_true rfl, Nat.le_of_ble_eq_true rfl⟩ rfl hl.1 rfl (Nat.le_of_ble_eq_true rfl) dL_law_1124 ⟨by show _ ≤ 600000; omega, by show _ ≤ 7302250; omega⟩ (fun H locs hw => ?_)
  refine lv_icmp_eq (tgt := 1284) hx hb dL_law_1127 (by decide) (fun cq => ?_) (fun cq => ?_)
  · refine W.widen (k := cells + 20) (n := slots + 123) (by omega) (by omega) ?_
    exact kk S1 M1 hI1 H locs ls hw hl
  · exact absurd rfl cq
/-- cell: class and reference answer alike -/
def z_G_26 (Inv : GS → MS → Prop) (o : Nat) : Prop := ∀ (S : GS) (M : MS), Inv S M → ∀ (a0 a1 a2 : Int32), ∃ (r : Int32) (S1 : GS) (M1 : MS), f_X7_cell S o a0 a1 a2 = some (r, S1) ∧ f_X8_cell M a0 a1 a2 = some (r, M1) ∧ Inv S1 M1
set_option maxHeartbeats 4000000 in
theorem l_case_26 {p : Program} {l : Launch} {e : Env} {s : State} {m : MethodId} {below : List Frame} {meth : Method} {c : Code} {b L : Nat} {xs : Nat → Int32} {D : va_G} {cs : Nat → ClassId} {o1 o2 cells slots : Nat} {x3 : Int32} {S : GS} {M : MS} {Inv : GS → MS → Prop} (hc : l_X p s m meth c b L xs D cs) (hG : z_G_26 Inv o1) (hob : ∀ S M, Inv S M → g_is S 7 o1) (hI : Inv S M) (hi1 : vp_in (x3 + 1) L) (hi2 : vp_in (x3 + 2) L) (hi3 : vp_in (x3 + 3) L) (hi4 : vp_in (x3 + 4) L) (hi5 : vp_in (x3 + 5) L) (hrc : cells + 20 ≤ 600000) (hrs : slots + 123 ≤ 7302250) (kk : ∀ (S1 : GS) (M1 : MS), Inv S1 M1 → l_At p l e s m below meth c b D cs o1 o2 1284 (cells + 20) (slots + 123) x3 S1 M1) : l_At p l e s m below meth c b D cs o1 o2 1132 cells slots x3 S M := by
  intro H locs ls hw hl
  have hx := hc.1.1
  have hb : c.code = code := hc.1.2.1
  obtain ⟨r, S1, M1, e1, e2, hI1⟩ := hG S M hI (xs (x3 + 1).toNatClampNeg) (xs (x3 + 2).toNatClampNeg) (xs (x3 + 3).toNatClampNeg)
  refine lv_aload_n hx hb dL_law_1132 rfl (lv_at hl 1 rfl) ?_
  refine lv_aload_n hx hb dL_law_1133 rfl (lv_at hl 0 rfl) ?_
  refine lv_iload_n hx hb dL_law_1134 rfl (lv_at hl 3 rfl) ?_
  refine lv_iconst (v := 1) hx hb dL_law_1135 (by decide) ?_
  refine lv_iadd hx hb dL_law_1136 ?_
  refine l_sld hc hw.2.2.1 hi1 dL_law_1137 ?_
  refine lv_aload_n hx hb dL_law_1138 rfl (lv_at hl 0 rfl) ?_
  refine lv_iload_n hx hb dL_law_1139 rfl (lv_at hl 3 rfl) ?_
  refine lv_iconst (v := 2) hx hb dL_law_1140 (by decide) ?_
  refine lv_iadd hx hb dL_law_1141 ?_
  refine l_sld hc hw.2.2.1 hi2 dL_law_1142 ?_
  refine lv_aload_n hx hb dL_law_1143 rfl (lv_at hl 0 rfl) ?_
  refine lv_iload_n hx hb dL_law_1144 rfl (lv_at hl 3 rfl) ?_
  refine lv_iconst (v := 3) hx hb dL_law_1145 (by decide) ?_
  refine lv_iadd hx hb dL_law_1146 ?_
  refine l_sld hc hw.2.2.1 hi3 dL_law_1147 ?_
  refine l_callC (As := [.int (xs (x3 + 1).toNatClampNeg), .int (xs (x3 + 2).toNatClampNeg), .int (xs (x3 + 3).toNatClampNeg)]) (rv := some (.int r)) (S' := S1) (n := 3) hc hw (hob S M hI) (mt_X7_cell l D cs (l_A s o2) S o1 (xs (x3 + 1).toNatClampNeg) (xs (x3 + 2).toNatClampNeg) (xs (x3 + 3).toNatClampNeg) e1) wM_L_126 wI_X7_cell wS_X7_cell wZ_X7 wC_X7_cell md_X7_cell ⟨rfl, rfl, Nat.le_of_ble_eq_true rfl, Nat.le_of_ble_eq_true rfl⟩ rfl hl.1 rfl (Nat.le_of_ble_eq_true rfl) dL_law_1148 ⟨by show _ ≤ 600000; omega, by show _ ≤ 7302250; omega⟩ (fun H locs hw => ?_)
  show W p l e room_1 s m #[Value.ref b] below meth c H locs (cells + 0) (slots + 0) (lw_Z below #[Value.ref b] s) (F0 m 1151 ls [.int r])
  refine lv_aload_n hx hb dL_law_1151 rfl (lv_at hl 2 rfl) ?_
  refine lv_aload_n hx hb dL_law_1152 rfl (lv_at hl 0 rfl) ?_
  refine lv_iload_n hx hb dL_law_1153 rfl (lv_at hl 3 rfl) ?_
  refine lv_iconst (v := 1) hx hb dL_law_1154 (by decide) ?_
  refine lv_iadd hx hb dL_law_1155 ?_
  refine l_sld hc hw.2.2.1 hi1 dL_law_1156 ?_
  refine lv_aload_n hx hb dL_law_1157 rfl (lv_at hl 0 rfl) ?_
  refine lv_iload_n hx hb dL_law_1158 rfl (lv_at hl 3 rfl) ?_
  refine lv_iconst (v := 2) hx hb dL_law_1159 (by decide) ?_
  refine lv_iadd hx hb dL_law_1160 ?_
  refine l_sld hc hw.2.2.1 hi2 dL_law_1161 ?_
  refine lv_aload_n hx hb dL_law_1162 rfl (lv_at hl 0 rfl) ?_
  refine lv_iload_n hx hb dL_law_1163 rfl (lv_at hl 3 rfl) ?_
  refine lv_iconst (v := 3) hx hb dL_law_1164 (by decide) ?_
  refine lv_iadd hx hb dL_law_1165 ?_
  refine l_sld hc hw.2.2.1 hi3 dL_law_1166 ?_
  refine l_callMi (As := [.int (xs (x3 + 1).toNatClampNeg), .int (xs (x3 + 2).toNatClampNeg), .int (xs (x3 + 3).toNatClampNeg)]) (r := r) (M' := M1) (n := 3) hc hw (mt_X8_cell l D (cs 0) (cs 1) o2 H.size M (xs (x3 + 1).toNatClampNeg) (xs (x3 + 2).toNatClampNeg) (xs (x3 + 3).toNatClampNeg) e2) wM_L_129 wI_X8_cell wS_X8_cell wZ_X8 wC_X8_cell md_X8_cell ⟨rfl, rfl, Nat.le_of_ble_eq_true rfl, Nat.le_of_ble_eq_true rfl⟩ rfl hl.1 rfl (Nat.le_of_ble_eq_true rfl) dL_law_1167 ⟨by show _ ≤ 600000; omega, by show _ ≤ 7302250; omega⟩ (fun H locs hw => ?_)
  refine lv_icmp_eq (tgt := 1284) hx hb dL_law_1170 (by decide) (fun cq => ?_) (fun cq => ?_)
  · refine W.widen (k := cells + 20) (n := slots + 123) (by omega) (by omega) ?_
    exact kk S1 M1 hI1 H locs ls hw hl
  · exact absurd rfl cq
/-- points: class and reference answer alike -/
def z_G_27 (Inv : GS → MS → Prop) (o : Nat) : Prop := ∀ (S : GS) (M : MS), Inv S M → ∀ (a0 a1 a2 a3 : Int32), ∃ (r : Int32) (S1 : GS) (M1 : MS), f_X7_points S o a0 a1 a2 a3 = some (r, S1) ∧ f_X8_points M a0 a1 a2 a3 = some (r, M1) ∧ Inv S1 M1
set_option maxHeartbeats 4000000 in
theorem l_case_27 {p : Program} {l : Launch} {e : Env} {s : State} {m : MethodId} {below : List Frame} {meth : Method} {c : Code} {b L : Nat} {xs : Nat → Int32} {D : va_G} {cs : Nat → ClassId} {o1 o2 cells slots : Nat} {x3 : Int32} {S : GS} {M : MS} {Inv : GS → MS → Prop} (hc : l_X p s m meth c b L xs D cs) (hG : z_G_27 Inv o1) (hob : ∀ S M, Inv S M → g_is S 7 o1) (hI : Inv S M) (hi1 : vp_in (x3 + 1) L) (hi2 : vp_in (x3 + 2) L) (hi3 : vp_in (x3 + 3) L) (hi4 : vp_in (x3 + 4) L) (hi5 : vp_in (x3 + 5) L) (hrc : cells + 20 ≤ 600000) (hrs : slots + 123 ≤ 7302250) (kk : ∀ (S1 : GS) (M1 : MS), Inv S1 M1 → l_At p l e s m below meth c b D cs o1 o2 1284 (cells + 20) (slots + 123) x3 S1 M1) : l_At p l e s m below meth c b D cs o1 o2 1175 cells slots x3 S M := by
  intro H locs ls hw hl
  have hx := hc.1.1
  have hb : c.code = code := hc.1.2.1
  obtain ⟨r, S1, M1, e1, e2, hI1⟩ := hG S M hI (xs (x3 + 1).toNatClampNeg) (xs (x3 + 2).toNatClampNeg) (xs (x3 + 3).toNatClampNeg) (xs (x3 + 4).toNatClampNeg)
  refine lv_aload_n hx hb dL_law_1175 rfl (lv_at hl 1 rfl) ?_
  refine lv_aload_n hx hb dL_law_1176 rfl (lv_at hl 0 rfl) ?_
  refine lv_iload_n hx hb dL_law_1177 rfl (lv_at hl 3 rfl) ?_
  refine lv_iconst (v := 1) hx hb dL_law_1178 (by decide) ?_
  refine lv_iadd hx hb dL_law_1179 ?_
  refine l_sld hc hw.2.2.1 hi1 dL_law_1180 ?_
  refine lv_aload_n hx hb dL_law_1181 rfl (lv_at hl 0 rfl) ?_
  refine lv_iload_n hx hb dL_law_1182 rfl (lv_at hl 3 rfl) ?_
  refine lv_iconst (v := 2) hx hb dL_law_1183 (by decide) ?_
  refine lv_iadd hx hb dL_law_1184 ?_
  refine l_sld hc hw.2.2.1 hi2 dL_law_1185 ?_
  refine lv_aload_n hx hb dL_law_1186 rfl (lv_at hl 0 rfl) ?_
  refine lv_iload_n hx hb dL_law_1187 rfl (lv_at hl 3 rfl) ?_
  refine lv_iconst (v := 3) hx hb dL_law_1188 (by decide) ?_
  refine lv_iadd hx hb dL_law_1189 ?_
  refine l_sld hc hw.2.2.1 hi3 dL_law_1190 ?_
  refine lv_aload_n hx hb dL_law_1191 rfl (lv_at hl 0 rfl) ?_
  refine lv_iload_n hx hb dL_law_1192 rfl (lv_at hl 3 rfl) ?_
  refine lv_iconst (v := 4) hx hb dL_law_1193 (by decide) ?_
  refine lv_iadd hx hb dL_law_1194 ?_
  refine l_sld hc hw.2.2.1 hi4 dL_law_1195 ?_
  refine l_callC (As := [.int (xs (x3 + 1).toNatClampNeg), .int (xs (x3 + 2).toNatClampNeg), .int (xs (x3 + 3).toNatClampNeg), .int (xs (x3 + 4).toNatClampNeg)]) (rv := some (.int r)) (S' := S1) (n := 4) hc hw (hob S M hI) (mt_X7_points l D cs (l_A s o2) S o1 (xs (x3 + 1).toNatClampNeg) (xs (x3 + 2).toNatClampNeg) (xs (x3 + 3).toNatClampNeg) (xs (x3 + 4).toNatClampNeg) e1) wM_L_130 wI_X7_points wS_X7_points wZ_X7 wC_X7_points md_X7_points ⟨rfl, rfl, Nat.le_of_ble_eq_true rfl, Nat.le_of_ble_eq_true rfl⟩ rfl hl.1 rfl (Nat.le_of_ble_eq_true rfl) dL_law_1196 ⟨by show _ ≤ 600000; omega, by show _ ≤ 7302250; omega⟩ (fun H locs hw => ?_)
  show W p l e room_1 s m #[Value.ref b] below meth c H locs (cells + 0) (slots + 0) (lw_Z below #[Value.ref b] s) (F0 m 1199 ls [.int r])
  refine lv_aload_n hx hb dL_law_1199 rfl (lv_at hl 2 rfl) ?_
  refine lv_aload_n hx hb dL_law_1200 rfl (lv_at hl 0 rfl) ?_
  refine lv_iload_n hx hb dL_law_1201 rfl (lv_at hl 3 rfl) ?_
  refine lv_iconst (v := 1) hx hb dL_law_1202 (by decide) ?_
  refine lv_iadd hx hb dL_law_1203 ?_
  refine l_sld hc hw.2.2.1 hi1 dL_law_1204 ?_
  refine lv_aload_n hx hb dL_law_1205 rfl (lv_at hl 0 rfl) ?_
  refine lv_iload_n hx hb dL_law_1206 rfl (lv_at hl 3 rfl) ?_
  refine lv_iconst (v := 2) hx hb dL_law_1207 (by decide) ?_
  refine lv_iadd hx hb dL_law_1208 ?_
  refine l_sld hc hw.2.2.1 hi2 dL_law_1209 ?_
  refine lv_aload_n hx hb dL_law_1210 rfl (lv_at hl 0 rfl) ?_
  refine lv_iload_n hx hb dL_law_1211 rfl (lv_at hl 3 rfl) ?_
  refine lv_iconst (v := 3) hx hb dL_law_1212 (by decide) ?_
  refine lv_iadd hx hb dL_law_1213 ?_
  refine l_sld hc hw.2.2.1 hi3 dL_law_1214 ?_
  refine lv_aload_n hx hb dL_law_1215 rfl (lv_at hl 0 rfl) ?_
  refine lv_iload_n hx hb dL_law_1216 rfl (lv_at hl 3 rfl) ?_
  refine lv_iconst (v := 4) hx hb dL_law_1217 (by decide) ?_
  refine lv_iadd hx hb dL_law_1218 ?_
  refine l_sld hc hw.2.2.1 hi4 dL_law_1219 ?_
  refine l_callMi (As := [.int (xs (x3 + 1).toNatClampNeg), .int (xs (x3 + 2).toNatClampNeg), .int (xs (x3 + 3).toNatClampNeg), .int (xs (x3 + 4).toNatClampNeg)]) (r := r) (M' := M1) (n := 4) hc hw (mt_X8_points l D (cs 0) (cs 1) o2 H.size M (xs (x3 + 1).toNatClampNeg) (xs (x3 + 2).toNatClampNeg) (xs (x3 + 3).toNatClampNeg) (xs (x3 + 4).toNatClampNeg) e2) wM_L_133 wI_X8_points wS_X8_points wZ_X8 wC_X8_points md_X8_points ⟨rfl, rfl, Nat.le_of_ble_eq_true rfl, Nat.le_of_ble_eq_true rfl⟩ rfl hl.1 rfl (Nat.le_of_ble_eq_true rfl) dL_law_1220 ⟨by show _ ≤ 600000; omega, by show _ ≤ 7302250; omega⟩ (fun H locs hw => ?_)
  refine lv_icmp_eq (tgt := 1284) hx hb dL_law_1223 (by decide) (fun cq => ?_) (fun cq => ?_)
  · refine W.widen (k := cells + 20) (n := slots + 123) (by omega) (by omega) ?_
    exact kk S1 M1 hI1 H locs ls hw hl
  · exact absurd rfl cq
/-- forge: class and reference answer alike -/
def z_G_28 (Inv : GS → MS → Prop) (o : Nat) : Prop := ∀ (S : GS) (M : MS), Inv S M → ∀ (a0 a1 a2 : Int32), ∃ (r : Int32) (S1 : GS) (M1 : MS), f_X7_forge S o a0 a1 a2 = some (r, S1) ∧ f_X8_forge M a0 a1 a2 = some (r, M1) ∧ Inv S1 M1
set_option maxHeartbeats 4000000 in
theorem l_case_28 {p : Program} {l : Launch} {e : Env} {s : State} {m : MethodId} {below : List Frame} {meth : Method} {c : Code} {b L : Nat} {xs : Nat → Int32} {D : va_G} {cs : Nat → ClassId} {o1 o2 cells slots : Nat} {x3 : Int32} {S : GS} {M : MS} {Inv : GS → MS → Prop} (hc : l_X p s m meth c b L xs D cs) (hG : z_G_28 Inv o1) (hob : ∀ S M, Inv S M → g_is S 7 o1) (hI : Inv S M) (hi1 : vp_in (x3 + 1) L) (hi2 : vp_in (x3 + 2) L) (hi3 : vp_in (x3 + 3) L) (hi4 : vp_in (x3 + 4) L) (hi5 : vp_in (x3 + 5) L) (hrc : cells + 20 ≤ 600000) (hrs : slots + 123 ≤ 7302250) (kk : ∀ (S1 : GS) (M1 : MS), Inv S1 M1 → l_At p l e s m below meth c b D cs o1 o2 1284 (cells + 20) (slots + 123) x3 S1 M1) : l_At p l e s m below meth c b D cs o1 o2 1228 cells slots x3 S M := by
  intro H locs ls hw hl
  have hx := hc.1.1
  have hb : c.code = code := hc.1.2.1
  obtain ⟨r, S1, M1, e1, e2, hI1⟩ := hG S M hI (xs (x3 + 1).toNatClampNeg) (xs (x3 + 2).toNatClampNeg) (xs (x3 + 3).toNatClampNeg)
  refine lv_aload_n hx hb dL_law_1228 rfl (lv_at hl 1 rfl) ?_
  refine lv_aload_n hx hb dL_law_1229 rfl (lv_at hl 0 rfl) ?_
  refine lv_iload_n hx hb dL_law_1230 rfl (lv_at hl 3 rfl) ?_
  refine lv_iconst (v := 1) hx hb dL_law_1231 (by decide) ?_
  refine lv_iadd hx hb dL_law_1232 ?_
  refine l_sld hc hw.2.2.1 hi1 dL_law_1233 ?_
  refine lv_aload_n hx hb dL_law_1234 rfl (lv_at hl 0 rfl) ?_
  refine lv_iload_n hx hb dL_law_1235 rfl (lv_at hl 3 rfl) ?_
  refine lv_iconst (v := 2) hx hb dL_law_1236 (by decide) ?_
  refine lv_iadd hx hb dL_law_1237 ?_
  refine l_sld hc hw.2.2.1 hi2 dL_law_1238 ?_
  refine lv_aload_n hx hb dL_law_1239 rfl (lv_at hl 0 rfl) ?_
  refine lv_iload_n hx hb dL_law_1240 rfl (lv_at hl 3 rfl) ?_
  refine lv_iconst (v := 3) hx hb dL_law_1241 (by decide) ?_
  refine lv_iadd hx hb dL_law_1242 ?_
  refine l_sld hc hw.2.2.1 hi3 dL_law_1243 ?_
  refine l_callC (As := [.int (xs (x3 + 1).toNatClampNeg), .int (xs (x3 + 2).toNatClampNeg), .int (xs (x3 + 3).toNatClampNeg)]) (rv := some (.int r)) (S' := S1) (n := 3) hc hw (hob S M hI) (mt_X7_forge l D cs (l_A s o2) S o1 (xs (x3 + 1).toNatClampNeg) (xs (x3 + 2).toNatClampNeg) (xs (x3 + 3).toNatClampNeg) e1) wM_L_134 wI_X7_forge wS_X7_forge wZ_X7 wC_X7_forge md_X7_forge ⟨rfl, rfl, Nat.le_of_ble_eq_true rfl, Nat.le_of_ble_eq_true rfl⟩ rfl hl.1 rfl (Nat.le_of_ble_eq_true rfl) dL_law_1244 ⟨by show _ ≤ 600000; omega, by show _ ≤ 7302250; omega⟩ (fun H locs hw => ?_)
  show W p l e room_1 s m #[Value.ref b] below meth c H locs (cells + 0) (slots + 0) (lw_Z below #[Value.ref b] s) (F0 m 1247 ls [.int r])
  refine lv_aload_n hx hb dL_law_1247 rfl (lv_at hl 2 rfl) ?_
  refine lv_aload_n hx hb dL_law_1248 rfl (lv_at hl 0 rfl) ?_
  refine lv_iload_n hx hb dL_law_1249 rfl (lv_at hl 3 rfl) ?_
  refine lv_iconst (v := 1) hx hb dL_law_1250 (by decide) ?_
  refine lv_iadd hx hb dL_law_1251 ?_
  refine l_sld hc hw.2.2.1 hi1 dL_law_1252 ?_
  refine lv_aload_n hx hb dL_law_1253 rfl (lv_at hl 0 rfl) ?_
  refine lv_iload_n hx hb dL_law_1254 rfl (lv_at hl 3 rfl) ?_
  refine lv_iconst (v := 2) hx hb dL_law_1255 (by decide) ?_
  refine lv_iadd hx hb dL_law_1256 ?_
  refine l_sld hc hw.2.2.1 hi2 dL_law_1257 ?_
  refine lv_aload_n hx hb dL_law_1258 rfl (lv_at hl 0 rfl) ?_
  refine lv_iload_n hx hb dL_law_1259 rfl (lv_at hl 3 rfl) ?_
  refine lv_iconst (v := 3) hx hb dL_law_1260 (by decide) ?_
  refine lv_iadd hx hb dL_law_1261 ?_
  refine l_sld hc hw.2.2.1 hi3 dL_law_1262 ?_
  refine l_callMi (As := [.int (xs (x3 + 1).toNatClampNeg), .int (xs (x3 + 2).toNatClampNeg), .int (xs (x3 + 3).toNatClampNeg)]) (r := r) (M' := M1) (n := 3) hc hw (mt_X8_forge l D (cs 0) (cs 1) o2 H.size M (xs (x3 + 1).toNatClampNeg) (xs (x3 + 2).toNatClampNeg) (xs (x3 + 3).toNatClampNeg) e2) wM_L_137 wI_X8_forge wS_X8_forge wZ_X8 wC_X8_forge md_X8_forge ⟨rfl, rfl, Nat.le_of_ble_eq_true rfl, Nat.le_of_ble_eq_true rfl⟩ rfl hl.1 rfl (Nat.le_of_ble_eq_true rfl) dL_law_1263 ⟨by show _ ≤ 600000; omega, by show _ ≤ 7302250; omega⟩ (fun H locs hw => ?_)
  refine lv_icmp_eq (tgt := 1284) hx hb dL_law_1266 (by decide) (fun cq => ?_) (fun cq => ?_)
  · refine W.widen (k := cells + 20) (n := slots + 123) (by omega) (by omega) ?_
    exact kk S1 M1 hI1 H locs ls hw hl
  · exact absurd rfl cq
/-- status: class and reference answer alike -/
def z_G_29 (Inv : GS → MS → Prop) (o : Nat) : Prop := ∀ (S : GS) (M : MS), Inv S M → ∃ (r : Int32), f_X7_status S o  = some r ∧ f_X8_status M  = some r ∧ Inv S M
set_option maxHeartbeats 4000000 in
theorem l_case_29 {p : Program} {l : Launch} {e : Env} {s : State} {m : MethodId} {below : List Frame} {meth : Method} {c : Code} {b L : Nat} {xs : Nat → Int32} {D : va_G} {cs : Nat → ClassId} {o1 o2 cells slots : Nat} {x3 : Int32} {S : GS} {M : MS} {Inv : GS → MS → Prop} (hc : l_X p s m meth c b L xs D cs) (hG : z_G_29 Inv o1) (hob : ∀ S M, Inv S M → g_is S 7 o1) (hI : Inv S M) (hi1 : vp_in (x3 + 1) L) (hi2 : vp_in (x3 + 2) L) (hi3 : vp_in (x3 + 3) L) (hi4 : vp_in (x3 + 4) L) (hi5 : vp_in (x3 + 5) L) (hrc : cells + 20 ≤ 600000) (hrs : slots + 123 ≤ 7302250) (kk : ∀ (S1 : GS) (M1 : MS), Inv S1 M1 → l_At p l e s m below meth c b D cs o1 o2 1284 (cells + 20) (slots + 123) x3 S1 M1) : l_At p l e s m below meth c b D cs o1 o2 1271 cells slots x3 S M := by
  intro H locs ls hw hl
  have hx := hc.1.1
  have hb : c.code = code := hc.1.2.1
  obtain ⟨r, e1, e2, hI1⟩ := hG S M hI 
  refine lv_aload_n hx hb dL_law_1271 rfl (lv_at hl 1 rfl) ?_
  refine l_callC (As := []) (rv := some (.int r)) (S' := S) (n := 0) hc hw (hob S M hI) (mt_X7_status l D cs (l_A s o2) S o1  e1) wM_L_138 wI_X7_status wS_X7_status wZ_X7 wC_X7_status md_X7_status ⟨rfl, rfl, Nat.le_of_ble_eq_true rfl, Nat.le_of_ble_eq_true rfl⟩ rfl hl.1 rfl (Nat.le_of_ble_eq_true rfl) dL_law_1272 ⟨by show _ ≤ 600000; omega, by show _ ≤ 7302250; omega⟩ (fun H locs hw => ?_)
  show W p l e room_1 s m #[Value.ref b] below meth c H locs (cells + 0) (slots + 0) (lw_Z below #[Value.ref b] s) (F0 m 1275 ls [.int r])
  refine lv_aload_n hx hb dL_law_1275 rfl (lv_at hl 2 rfl) ?_
  refine l_callMi (As := []) (r := r) (M' := M) (n := 0) hc hw (mt_X8_status l D (cs 0) (cs 1) o2 H.size M  e2) wM_L_141 wI_X8_status wS_X8_status wZ_X8 wC_X8_status md_X8_status ⟨rfl, rfl, Nat.le_of_ble_eq_true rfl, Nat.le_of_ble_eq_true rfl⟩ rfl hl.1 rfl (Nat.le_of_ble_eq_true rfl) dL_law_1276 ⟨by show _ ≤ 600000; omega, by show _ ≤ 7302250; omega⟩ (fun H locs hw => ?_)
  refine lv_icmp_eq (tgt := 1284) hx hb dL_law_1279 (by decide) (fun cq => ?_) (fun cq => ?_)
  · refine W.widen (k := cells + 20) (n := slots + 123) (by omega) (by omega) ?_
    exact kk S M hI1 H locs ls hw hl
  · exact absurd rfl cq
