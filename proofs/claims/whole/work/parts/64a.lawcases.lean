set_option maxHeartbeats 4000000 in
set_option maxRecDepth 100000 in
theorem c_L_case_228 {p : Program} {l : Launch} {e : Env} {s : State} {m : MethodId} {below : List Frame} {meth : Method} {c : Code} {b L : Nat} {xs : Nat → Int32} {D : va_G} {cA : Nat → ClassId} (hflags : l.stackTraces = false) (C0 : lw_At p s m meth c b L xs) {C S : Nat} (hC : C + 80 ≤ 601024) (hS : S + 2400 ≤ 7293034) {r1 r2 r3 : Nat} {k : gS → gS → Int32 → Prop} (hk : ∀ (gc gm : gS) (i4 : Int32), k gc gm i4 → ∀ (H : Heap) (locs : List Loc) (ls : Array Slot), gL D cA s gc gm H locs → lv_has ls 9 [(0, .ref b), (1, .ref r1), (2, .ref r2), (3, .ref r3), (4, .int i4)] → W p l e room_1 s m #[Value.ref b] below meth c H locs (C + 80) (S + 2400) (lw_Z below #[Value.ref b] s) (F0 m 23 ls [])) (gc gm : gS) (i4 : Int32) (h : b_L_law_228 xs L r1 r2 r3 gc gm i4 k) (H : Heap) (locs : List Loc) (ls : Array Slot) (hc : gL D cA s gc gm H locs) (hl : lv_has ls 9 [(0, .ref b), (1, .ref r1), (2, .ref r2), (3, .ref r3), (4, .int i4)]) : W p l e room_1 s m #[Value.ref b] below meth c H locs C S (lw_Z below #[Value.ref b] s) (F0 m 228 ls []) := by
  obtain ⟨hx, hb, hr, hml, hown, hts0, hX, hbl, hlk, hgv⟩ := id C0
  have hts : ∀ w ∈ wsL_law, w.before #[Value.ref b] s = true := fun w h => hts0 w (wsL_law_in w h)
  have CF : CallFix p m c cL_law 9 s #[Value.ref b] wsL_law RL := ⟨hx, hb, hml, hown, hts⟩
  have hbA : ¬ (fun q : Nat => s.heap.size ≤ q) b := Nat.not_le.mpr hbl
  unfold b_L_law_228 at h
  refine lv_aload_n hx hb dL_law_228 rfl (lv_at hl 1 rfl) ?_
  refine lv_aload_n hx hb dL_law_229 rfl (lv_at hl 0 rfl) ?_
  refine lv_iload hx hb dL_law_230 (lv_at hl 4 rfl) ?_
  refine lv_iconst (v := 1) hx hb dL_law_232 (by decide) ?_
  refine lv_iadd hx hb dL_law_233 ?_
  obtain ⟨hi1, h⟩ := h
  refine va_sld hx hb hX hbl hbA hc.1.2.2.2.2.2 hi1 dL_law_234 ?_
  refine lv_aload_n hx hb dL_law_235 rfl (lv_at hl 0 rfl) ?_
  refine lv_iload hx hb dL_law_236 (lv_at hl 4 rfl) ?_
  refine lv_iconst (v := 2) hx hb dL_law_238 (by decide) ?_
  refine lv_iadd hx hb dL_law_239 ?_
  obtain ⟨hi2, h⟩ := h
  refine va_sld hx hb hX hbl hbA hc.1.2.2.2.2.2 hi2 dL_law_240 ?_
  refine lv_aload_n hx hb dL_law_241 rfl (lv_at hl 3 rfl) ?_
  refine l_calli (vx_runSW (As := [.ref r1, .int (xs (Int32.toNatClampNeg (i4 + 1))), .int (xs (Int32.toNatClampNeg (i4 + 2))), .ref r3]) (rest := []) CF (c_L_open hflags h) (vx_cwSW (hh := [(0, 10, 13, 13), (0, 10, 17, 15)]) 4 hts gL_law_L_open rfl rfl rfl (by decide +kernel) ⟨Nat.le_of_ble_eq_true rfl, Nat.le_of_ble_eq_true rfl⟩) hc.1.preS rfl rfl hl.1 rfl (lv_room (Nat.le_of_ble_eq_true rfl)) dL_law_242 ⟨(by show _ + 14 ≤ 601024; omega), (by show _ + 131 ≤ 7293034; omega)⟩) hc (fun x3 g4 H locs hq hc => ?_)
  replace h := hq
  refine W.widen (k := C + 14) (n := S + 131) (by omega) (by omega) ?_
  refine lv_istore (lv' := [(5, .int x3), (0, .ref b), (1, .ref r1), (2, .ref r2), (3, .ref r3), (4, .int i4)]) hx hb dL_law_245 hl (by decide) rfl (fun ls hl => ?_)
  refine lv_aload_n hx hb dL_law_247 rfl (lv_at hl 3 rfl) ?_
  refine lv_aload_n hx hb dL_law_248 rfl (lv_at hl 1 rfl) ?_
  refine lv_iload hx hb dL_law_249 (lv_at hl 5 rfl) ?_
  refine lv_iconst (v := 1) hx hb dL_law_251 (by decide) ?_
  refine lv_iadd hx hb dL_law_252 ?_
  obtain ⟨hi5, h⟩ := h
  refine va_sld hx hb hX hbl hbA hc.1.2.2.2.2.2 hi5 dL_law_253 ?_
  refine lv_aload_n hx hb dL_law_254 rfl (lv_at hl 1 rfl) ?_
  refine lv_iload hx hb dL_law_255 (lv_at hl 5 rfl) ?_
  refine lv_iconst (v := 2) hx hb dL_law_257 (by decide) ?_
  refine lv_iadd hx hb dL_law_258 ?_
  obtain ⟨hi6, h⟩ := h
  refine va_sld hx hb hX hbl hbA hc.1.2.2.2.2.2 hi6 dL_law_259 ?_
  obtain ⟨hk7, h⟩ := h
  refine l_calli (va_runV (As := [.int (xs (Int32.toNatClampNeg (i4 + 1))), .int (xs (Int32.toNatClampNeg (i4 + 2)))]) (rest := []) CF (c_X11_open h) (cwV 2 hts gL_law_X11_open rfl rfl rfl (by decide +kernel) ⟨Nat.le_of_ble_eq_true rfl, Nat.le_of_ble_eq_true rfl⟩) (hc.swap.1.preV hk7 rfl (by decide)) rfl rfl hl.1 rfl (lv_room (Nat.le_of_ble_eq_true rfl)) dL_law_260 ⟨(by show _ + 0 ≤ 601024; omega), (by show _ + 0 ≤ 7293034; omega)⟩) hc.swap (fun x8 g9 H locs hq hcs => ?_)
  have hc := hcs.swap
  replace h := hq
  refine lv_istore (lv' := [(6, .int x8), (5, .int x3), (0, .ref b), (1, .ref r1), (2, .ref r2), (3, .ref r3), (4, .int i4)]) hx hb dL_law_263 hl (by decide) rfl (fun ls hl => ?_)
  refine lv_aload_n hx hb dL_law_265 rfl (lv_at hl 4 rfl) ?_
  obtain ⟨hk10, h⟩ := h
  refine l_calli (va_runV (As := []) (rest := []) CF (c_X11_thrown h) (cwV 0 hts gL_law_X11_thrown rfl rfl rfl (by decide +kernel) ⟨Nat.le_of_ble_eq_true rfl, Nat.le_of_ble_eq_true rfl⟩) (hc.swap.1.preV hk10 rfl (by decide)) rfl rfl hl.1 rfl (lv_room (Nat.le_of_ble_eq_true rfl)) dL_law_266 ⟨(by show _ + 0 ≤ 601024; omega), (by show _ + 0 ≤ 7293034; omega)⟩) hc.swap (fun x11 g12 H locs hq hcs => ?_)
  have hc := hcs.swap
  obtain ⟨rfl, h⟩ := hq
  refine lv_iload hx hb dL_law_269 (lv_at hl 1 rfl) ?_
  refine lv_icmp_eq (tgt := 276) hx hb dL_law_271 (by decide) (fun c13 => ?_) (fun c13 => ?_)
  · replace h := h.1 c13
    refine lv_iload hx hb dL_law_276 (lv_at hl 1 rfl) ?_
    refine lv_if_ne (tgt := 293) hx hb dL_law_278 (by decide) (fun c14 => ?_) (fun c14 => ?_)
    · replace h := h.2 c14
      refine lv_goto (tgt := 2680) hx hb dL_law_293 (by decide) ?_
      refine lv_iinc (v := (i4 + 5)) (lv' := [(4, .int (i4 + 5)), (6, .int x8), (5, .int x3), (0, .ref b), (1, .ref r1), (2, .ref r2), (3, .ref r3)]) hx hb dL_law_2680 hl (k := 6) rfl rfl (by decide) rfl (fun ls hl => ?_)
      refine lv_goto (tgt := 23) hx hb dL_law_2683 (by decide) ?_
      refine W.widen (k := C + 80) (n := S + 2400) (by omega) (by omega) ?_
      exact hk g4 g9 (i4 + 5) h _ _ _ hc (lv_sub hl [3, 4, 5, 6, 0] rfl)
    · replace h := h.1 c14
      refine lv_aload_n hx hb dL_law_281 rfl (lv_at hl 5 rfl) ?_
      refine lv_iconst (v := 0) hx hb dL_law_282 (by decide) ?_
      obtain ⟨hk15, h⟩ := h
      obtain ⟨hi16, h⟩ := h
      refine g_lald CF hc.1 hk15 hi16 dL_law_283 ?_
      refine lv_iload hx hb dL_law_284 (lv_at hl 0 rfl) ?_
      refine lv_i2l hx hb dL_law_286 rfl ?_
      refine W.lcmp hx hb dL_law_287 ?_
      refine lv_if_eq (tgt := 293) hx hb dL_law_288 (by decide) (fun c17 => ?_) (fun c17 => ?_)
      · replace h := h.1 c17
        refine lv_goto (tgt := 2680) hx hb dL_law_293 (by decide) ?_
        refine lv_iinc (v := (i4 + 5)) (lv' := [(4, .int (i4 + 5)), (6, .int x8), (5, .int x3), (0, .ref b), (1, .ref r1), (2, .ref r2), (3, .ref r3)]) hx hb dL_law_2680 hl (k := 6) rfl rfl (by decide) rfl (fun ls hl => ?_)
        refine lv_goto (tgt := 23) hx hb dL_law_2683 (by decide) ?_
        refine W.widen (k := C + 80) (n := S + 2400) (by omega) (by omega) ?_
        exact hk g4 g9 (i4 + 5) h _ _ _ hc (lv_sub hl [3, 4, 5, 6, 0] rfl)
      · replace h := h.2 c17
        refine lv_iconst (v := 0) hx hb dL_law_291 (by decide) ?_
        exact h.elim
  · replace h := h.2 c13
    refine lv_iconst (v := 0) hx hb dL_law_274 (by decide) ?_
    exact h.elim
set_option maxHeartbeats 4000000 in
set_option maxRecDepth 100000 in
theorem c_L_case_296 {p : Program} {l : Launch} {e : Env} {s : State} {m : MethodId} {below : List Frame} {meth : Method} {c : Code} {b L : Nat} {xs : Nat → Int32} {D : va_G} {cA : Nat → ClassId} (hflags : l.stackTraces = false) (C0 : lw_At p s m meth c b L xs) {C S : Nat} (hC : C + 80 ≤ 601024) (hS : S + 2400 ≤ 7293034) {r1 r2 r3 : Nat} {k : gS → gS → Int32 → Prop} (hk : ∀ (gc gm : gS) (i4 : Int32), k gc gm i4 → ∀ (H : Heap) (locs : List Loc) (ls : Array Slot), gL D cA s gc gm H locs → lv_has ls 9 [(0, .ref b), (1, .ref r1), (2, .ref r2), (3, .ref r3), (4, .int i4)] → W p l e room_1 s m #[Value.ref b] below meth c H locs (C + 80) (S + 2400) (lw_Z below #[Value.ref b] s) (F0 m 23 ls [])) (gc gm : gS) (i4 : Int32) (h : b_L_law_296 xs L r1 r2 r3 gc gm i4 k) (H : Heap) (locs : List Loc) (ls : Array Slot) (hc : gL D cA s gc gm H locs) (hl : lv_has ls 9 [(0, .ref b), (1, .ref r1), (2, .ref r2), (3, .ref r3), (4, .int i4)]) : W p l e room_1 s m #[Value.ref b] below meth c H locs C S (lw_Z below #[Value.ref b] s) (F0 m 296 ls []) := by
  obtain ⟨hx, hb, hr, hml, hown, hts0, hX, hbl, hlk, hgv⟩ := id C0
  have hts : ∀ w ∈ wsL_law, w.before #[Value.ref b] s = true := fun w h => hts0 w (wsL_law_in w h)
  have CF : CallFix p m c cL_law 9 s #[Value.ref b] wsL_law RL := ⟨hx, hb, hml, hown, hts⟩
  have hbA : ¬ (fun q : Nat => s.heap.size ≤ q) b := Nat.not_le.mpr hbl
  unfold b_L_law_296 at h
  refine lv_aload_n hx hb dL_law_296 rfl (lv_at hl 1 rfl) ?_
  refine lv_aload_n hx hb dL_law_297 rfl (lv_at hl 0 rfl) ?_
  refine lv_iload hx hb dL_law_298 (lv_at hl 4 rfl) ?_
  refine lv_iconst (v := 1) hx hb dL_law_300 (by decide) ?_
  refine lv_iadd hx hb dL_law_301 ?_
  obtain ⟨hi1, h⟩ := h
  refine va_sld hx hb hX hbl hbA hc.1.2.2.2.2.2 hi1 dL_law_302 ?_
  refine lv_aload_n hx hb dL_law_303 rfl (lv_at hl 0 rfl) ?_
  refine lv_iload hx hb dL_law_304 (lv_at hl 4 rfl) ?_
  refine lv_iconst (v := 2) hx hb dL_law_306 (by decide) ?_
  refine lv_iadd hx hb dL_law_307 ?_
  obtain ⟨hi2, h⟩ := h
  refine va_sld hx hb hX hbl hbA hc.1.2.2.2.2.2 hi2 dL_law_308 ?_
  refine lv_aload_n hx hb dL_law_309 rfl (lv_at hl 3 rfl) ?_
  refine l_calli (vx_runSW (As := [.ref r1, .int (xs (Int32.toNatClampNeg (i4 + 1))), .int (xs (Int32.toNatClampNeg (i4 + 2))), .ref r3]) (rest := []) CF (c_L_write hflags h) (vx_cwSW (hh := [(0, 10, 13, 13), (0, 10, 17, 15)]) 4 hts gL_law_L_write rfl rfl rfl (by decide +kernel) ⟨Nat.le_of_ble_eq_true rfl, Nat.le_of_ble_eq_true rfl⟩) hc.1.preS rfl rfl hl.1 rfl (lv_room (Nat.le_of_ble_eq_true rfl)) dL_law_310 ⟨(by show _ + 1 ≤ 601024; omega), (by show _ + 6 ≤ 7293034; omega)⟩) hc (fun x3 g4 H locs hq hc => ?_)
  replace h := hq
  refine W.widen (k := C + 1) (n := S + 6) (by omega) (by omega) ?_
  refine lv_istore (lv' := [(5, .int x3), (0, .ref b), (1, .ref r1), (2, .ref r2), (3, .ref r3), (4, .int i4)]) hx hb dL_law_313 hl (by decide) rfl (fun ls hl => ?_)
  refine lv_aload_n hx hb dL_law_315 rfl (lv_at hl 3 rfl) ?_
  refine lv_aload_n hx hb dL_law_316 rfl (lv_at hl 1 rfl) ?_
  refine lv_iload hx hb dL_law_317 (lv_at hl 5 rfl) ?_
  refine lv_iconst (v := 1) hx hb dL_law_319 (by decide) ?_
  refine lv_iadd hx hb dL_law_320 ?_
  obtain ⟨hi5, h⟩ := h
  refine va_sld hx hb hX hbl hbA hc.1.2.2.2.2.2 hi5 dL_law_321 ?_
  refine lv_aload_n hx hb dL_law_322 rfl (lv_at hl 1 rfl) ?_
  refine lv_iload hx hb dL_law_323 (lv_at hl 5 rfl) ?_
  refine lv_iconst (v := 2) hx hb dL_law_325 (by decide) ?_
  refine lv_iadd hx hb dL_law_326 ?_
  obtain ⟨hi6, h⟩ := h
  refine va_sld hx hb hX hbl hbA hc.1.2.2.2.2.2 hi6 dL_law_327 ?_
  obtain ⟨hk7, h⟩ := h
  refine l_calli (va_runV (As := [.int (xs (Int32.toNatClampNeg (i4 + 1))), .int (xs (Int32.toNatClampNeg (i4 + 2)))]) (rest := []) CF (c_X11_write h) (cwV 2 hts gL_law_X11_write rfl rfl rfl (by decide +kernel) ⟨Nat.le_of_ble_eq_true rfl, Nat.le_of_ble_eq_true rfl⟩) (hc.swap.1.preV hk7 rfl (by decide)) rfl rfl hl.1 rfl (lv_room (Nat.le_of_ble_eq_true rfl)) dL_law_328 ⟨(by show _ + 0 ≤ 601024; omega), (by show _ + 0 ≤ 7293034; omega)⟩) hc.swap (fun x8 g9 H locs hq hcs => ?_)
  have hc := hcs.swap
  replace h := hq
  refine lv_istore (lv' := [(6, .int x8), (5, .int x3), (0, .ref b), (1, .ref r1), (2, .ref r2), (3, .ref r3), (4, .int i4)]) hx hb dL_law_331 hl (by decide) rfl (fun ls hl => ?_)
  refine lv_aload_n hx hb dL_law_333 rfl (lv_at hl 4 rfl) ?_
  obtain ⟨hk10, h⟩ := h
  refine l_calli (va_runV (As := []) (rest := []) CF (c_X11_thrown h) (cwV 0 hts gL_law_X11_thrown rfl rfl rfl (by decide +kernel) ⟨Nat.le_of_ble_eq_true rfl, Nat.le_of_ble_eq_true rfl⟩) (hc.swap.1.preV hk10 rfl (by decide)) rfl rfl hl.1 rfl (lv_room (Nat.le_of_ble_eq_true rfl)) dL_law_334 ⟨(by show _ + 0 ≤ 601024; omega), (by show _ + 0 ≤ 7293034; omega)⟩) hc.swap (fun x11 g12 H locs hq hcs => ?_)
  have hc := hcs.swap
  obtain ⟨rfl, h⟩ := hq
  refine lv_iload hx hb dL_law_337 (lv_at hl 1 rfl) ?_
  refine lv_icmp_eq (tgt := 344) hx hb dL_law_339 (by decide) (fun c13 => ?_) (fun c13 => ?_)
  · replace h := h.1 c13
    refine lv_iload hx hb dL_law_344 (lv_at hl 1 rfl) ?_
    refine lv_if_ne (tgt := 361) hx hb dL_law_346 (by decide) (fun c14 => ?_) (fun c14 => ?_)
    · replace h := h.2 c14
      refine lv_goto (tgt := 2680) hx hb dL_law_361 (by decide) ?_
      refine lv_iinc (v := (i4 + 5)) (lv' := [(4, .int (i4 + 5)), (6, .int x8), (5, .int x3), (0, .ref b), (1, .ref r1), (2, .ref r2), (3, .ref r3)]) hx hb dL_law_2680 hl (k := 6) rfl rfl (by decide) rfl (fun ls hl => ?_)
      refine lv_goto (tgt := 23) hx hb dL_law_2683 (by decide) ?_
      refine W.widen (k := C + 80) (n := S + 2400) (by omega) (by omega) ?_
      exact hk g4 g9 (i4 + 5) h _ _ _ hc (lv_sub hl [3, 4, 5, 6, 0] rfl)
    · replace h := h.1 c14
      refine lv_aload_n hx hb dL_law_349 rfl (lv_at hl 5 rfl) ?_
      refine lv_iconst (v := 0) hx hb dL_law_350 (by decide) ?_
      obtain ⟨hk15, h⟩ := h
      obtain ⟨hi16, h⟩ := h
      refine g_lald CF hc.1 hk15 hi16 dL_law_351 ?_
      refine lv_iload hx hb dL_law_352 (lv_at hl 0 rfl) ?_
      refine lv_i2l hx hb dL_law_354 rfl ?_
      refine W.lcmp hx hb dL_law_355 ?_
      refine lv_if_eq (tgt := 361) hx hb dL_law_356 (by decide) (fun c17 => ?_) (fun c17 => ?_)
      · replace h := h.1 c17
        refine lv_goto (tgt := 2680) hx hb dL_law_361 (by decide) ?_
        refine lv_iinc (v := (i4 + 5)) (lv' := [(4, .int (i4 + 5)), (6, .int x8), (5, .int x3), (0, .ref b), (1, .ref r1), (2, .ref r2), (3, .ref r3)]) hx hb dL_law_2680 hl (k := 6) rfl rfl (by decide) rfl (fun ls hl => ?_)
        refine lv_goto (tgt := 23) hx hb dL_law_2683 (by decide) ?_
        refine W.widen (k := C + 80) (n := S + 2400) (by omega) (by omega) ?_
        exact hk g4 g9 (i4 + 5) h _ _ _ hc (lv_sub hl [3, 4, 5, 6, 0] rfl)
      · replace h := h.2 c17
        refine lv_iconst (v := 0) hx hb dL_law_359 (by decide) ?_
        exact h.elim
  · replace h := h.2 c13
    refine lv_iconst (v := 0) hx hb dL_law_342 (by decide) ?_
    exact h.elim
set_option maxHeartbeats 4000000 in
set_option maxRecDepth 100000 in
theorem c_L_case_364 {p : Program} {l : Launch} {e : Env} {s : State} {m : MethodId} {below : List Frame} {meth : Method} {c : Code} {b L : Nat} {xs : Nat → Int32} {D : va_G} {cA : Nat → ClassId} (hflags : l.stackTraces = false) (C0 : lw_At p s m meth c b L xs) {C S : Nat} (hC : C + 80 ≤ 601024) (hS : S + 2400 ≤ 7293034) {r1 r2 r3 : Nat} {k : gS → gS → Int32 → Prop} (hk : ∀ (gc gm : gS) (i4 : Int32), k gc gm i4 → ∀ (H : Heap) (locs : List Loc) (ls : Array Slot), gL D cA s gc gm H locs → lv_has ls 9 [(0, .ref b), (1, .ref r1), (2, .ref r2), (3, .ref r3), (4, .int i4)] → W p l e room_1 s m #[Value.ref b] below meth c H locs (C + 80) (S + 2400) (lw_Z below #[Value.ref b] s) (F0 m 23 ls [])) (gc gm : gS) (i4 : Int32) (h : b_L_law_364 xs L r1 r2 r3 gc gm i4 k) (H : Heap) (locs : List Loc) (ls : Array Slot) (hc : gL D cA s gc gm H locs) (hl : lv_has ls 9 [(0, .ref b), (1, .ref r1), (2, .ref r2), (3, .ref r3), (4, .int i4)]) : W p l e room_1 s m #[Value.ref b] below meth c H locs C S (lw_Z below #[Value.ref b] s) (F0 m 364 ls []) := by
  obtain ⟨hx, hb, hr, hml, hown, hts0, hX, hbl, hlk, hgv⟩ := id C0
  have hts : ∀ w ∈ wsL_law, w.before #[Value.ref b] s = true := fun w h => hts0 w (wsL_law_in w h)
  have CF : CallFix p m c cL_law 9 s #[Value.ref b] wsL_law RL := ⟨hx, hb, hml, hown, hts⟩
  have hbA : ¬ (fun q : Nat => s.heap.size ≤ q) b := Nat.not_le.mpr hbl
  unfold b_L_law_364 at h
  refine lv_aload_n hx hb dL_law_364 rfl (lv_at hl 1 rfl) ?_
  refine lv_aload_n hx hb dL_law_365 rfl (lv_at hl 3 rfl) ?_
  refine l_calli (vx_runSW (As := [.ref r1, .ref r3]) (rest := []) CF (c_L_close hflags h) (vx_cwSW (hh := [(0, 8, 11, 15)]) 2 hts gL_law_L_close rfl rfl rfl (by decide +kernel) ⟨Nat.le_of_ble_eq_true rfl, Nat.le_of_ble_eq_true rfl⟩) hc.1.preS rfl rfl hl.1 rfl (lv_room (Nat.le_of_ble_eq_true rfl)) dL_law_366 ⟨(by show _ + 1 ≤ 601024; omega), (by show _ + 6 ≤ 7293034; omega)⟩) hc (fun x1 g2 H locs hq hc => ?_)
  replace h := hq
  refine W.widen (k := C + 1) (n := S + 6) (by omega) (by omega) ?_
  refine lv_istore (lv' := [(5, .int x1), (0, .ref b), (1, .ref r1), (2, .ref r2), (3, .ref r3), (4, .int i4)]) hx hb dL_law_369 hl (by decide) rfl (fun ls hl => ?_)
  refine lv_aload_n hx hb dL_law_371 rfl (lv_at hl 3 rfl) ?_
  obtain ⟨hk3, h⟩ := h
  refine l_calli (va_runV (As := []) (rest := []) CF (c_X11_close h) (cwV 0 hts gL_law_X11_close rfl rfl rfl (by decide +kernel) ⟨Nat.le_of_ble_eq_true rfl, Nat.le_of_ble_eq_true rfl⟩) (hc.swap.1.preV hk3 rfl (by decide)) rfl rfl hl.1 rfl (lv_room (Nat.le_of_ble_eq_true rfl)) dL_law_372 ⟨(by show _ + 0 ≤ 601024; omega), (by show _ + 0 ≤ 7293034; omega)⟩) hc.swap (fun x4 g5 H locs hq hcs => ?_)
  have hc := hcs.swap
  replace h := hq
  refine lv_istore (lv' := [(6, .int x4), (5, .int x1), (0, .ref b), (1, .ref r1), (2, .ref r2), (3, .ref r3), (4, .int i4)]) hx hb dL_law_375 hl (by decide) rfl (fun ls hl => ?_)
  refine lv_aload_n hx hb dL_law_377 rfl (lv_at hl 4 rfl) ?_
  obtain ⟨hk6, h⟩ := h
  refine l_calli (va_runV (As := []) (rest := []) CF (c_X11_thrown h) (cwV 0 hts gL_law_X11_thrown rfl rfl rfl (by decide +kernel) ⟨Nat.le_of_ble_eq_true rfl, Nat.le_of_ble_eq_true rfl⟩) (hc.swap.1.preV hk6 rfl (by decide)) rfl rfl hl.1 rfl (lv_room (Nat.le_of_ble_eq_true rfl)) dL_law_378 ⟨(by show _ + 0 ≤ 601024; omega), (by show _ + 0 ≤ 7293034; omega)⟩) hc.swap (fun x7 g8 H locs hq hcs => ?_)
  have hc := hcs.swap
  obtain ⟨rfl, h⟩ := hq
  refine lv_iload hx hb dL_law_381 (lv_at hl 1 rfl) ?_
  refine lv_icmp_eq (tgt := 388) hx hb dL_law_383 (by decide) (fun c9 => ?_) (fun c9 => ?_)
  · replace h := h.1 c9
    refine lv_iload hx hb dL_law_388 (lv_at hl 1 rfl) ?_
    refine lv_if_ne (tgt := 405) hx hb dL_law_390 (by decide) (fun c10 => ?_) (fun c10 => ?_)
    · replace h := h.2 c10
      refine lv_goto (tgt := 2680) hx hb dL_law_405 (by decide) ?_
      refine lv_iinc (v := (i4 + 5)) (lv' := [(4, .int (i4 + 5)), (6, .int x4), (5, .int x1), (0, .ref b), (1, .ref r1), (2, .ref r2), (3, .ref r3)]) hx hb dL_law_2680 hl (k := 6) rfl rfl (by decide) rfl (fun ls hl => ?_)
      refine lv_goto (tgt := 23) hx hb dL_law_2683 (by decide) ?_
      refine W.widen (k := C + 80) (n := S + 2400) (by omega) (by omega) ?_
      exact hk g2 g5 (i4 + 5) h _ _ _ hc (lv_sub hl [3, 4, 5, 6, 0] rfl)
    · replace h := h.1 c10
      refine lv_aload_n hx hb dL_law_393 rfl (lv_at hl 5 rfl) ?_
      refine lv_iconst (v := 0) hx hb dL_law_394 (by decide) ?_
      obtain ⟨hk11, h⟩ := h
      obtain ⟨hi12, h⟩ := h
      refine g_lald CF hc.1 hk11 hi12 dL_law_395 ?_
      refine lv_iload hx hb dL_law_396 (lv_at hl 0 rfl) ?_
      refine lv_i2l hx hb dL_law_398 rfl ?_
      refine W.lcmp hx hb dL_law_399 ?_
      refine lv_if_eq (tgt := 405) hx hb dL_law_400 (by decide) (fun c13 => ?_) (fun c13 => ?_)
      · replace h := h.1 c13
        refine lv_goto (tgt := 2680) hx hb dL_law_405 (by decide) ?_
        refine lv_iinc (v := (i4 + 5)) (lv' := [(4, .int (i4 + 5)), (6, .int x4), (5, .int x1), (0, .ref b), (1, .ref r1), (2, .ref r2), (3, .ref r3)]) hx hb dL_law_2680 hl (k := 6) rfl rfl (by decide) rfl (fun ls hl => ?_)
        refine lv_goto (tgt := 23) hx hb dL_law_2683 (by decide) ?_
        refine W.widen (k := C + 80) (n := S + 2400) (by omega) (by omega) ?_
        exact hk g2 g5 (i4 + 5) h _ _ _ hc (lv_sub hl [3, 4, 5, 6, 0] rfl)
      · replace h := h.2 c13
        refine lv_iconst (v := 0) hx hb dL_law_403 (by decide) ?_
        exact h.elim
  · replace h := h.2 c9
    refine lv_iconst (v := 0) hx hb dL_law_386 (by decide) ?_
    exact h.elim
set_option maxHeartbeats 4000000 in
set_option maxRecDepth 100000 in
theorem c_L_case_408 {p : Program} {l : Launch} {e : Env} {s : State} {m : MethodId} {below : List Frame} {meth : Method} {c : Code} {b L : Nat} {xs : Nat → Int32} {D : va_G} {cA : Nat → ClassId} (hflags : l.stackTraces = false) (C0 : lw_At p s m meth c b L xs) {C S : Nat} (hC : C + 80 ≤ 601024) (hS : S + 2400 ≤ 7293034) {r1 r2 r3 : Nat} {k : gS → gS → Int32 → Prop} (hk : ∀ (gc gm : gS) (i4 : Int32), k gc gm i4 → ∀ (H : Heap) (locs : List Loc) (ls : Array Slot), gL D cA s gc gm H locs → lv_has ls 9 [(0, .ref b), (1, .ref r1), (2, .ref r2), (3, .ref r3), (4, .int i4)] → W p l e room_1 s m #[Value.ref b] below meth c H locs (C + 80) (S + 2400) (lw_Z below #[Value.ref b] s) (F0 m 23 ls [])) (gc gm : gS) (i4 : Int32) (h : b_L_law_408 xs L r1 r2 r3 gc gm i4 k) (H : Heap) (locs : List Loc) (ls : Array Slot) (hc : gL D cA s gc gm H locs) (hl : lv_has ls 9 [(0, .ref b), (1, .ref r1), (2, .ref r2), (3, .ref r3), (4, .int i4)]) : W p l e room_1 s m #[Value.ref b] below meth c H locs C S (lw_Z below #[Value.ref b] s) (F0 m 408 ls []) := by
  obtain ⟨hx, hb, hr, hml, hown, hts0, hX, hbl, hlk, hgv⟩ := id C0
  have hts : ∀ w ∈ wsL_law, w.before #[Value.ref b] s = true := fun w h => hts0 w (wsL_law_in w h)
  have CF : CallFix p m c cL_law 9 s #[Value.ref b] wsL_law RL := ⟨hx, hb, hml, hown, hts⟩
  have hbA : ¬ (fun q : Nat => s.heap.size ≤ q) b := Nat.not_le.mpr hbl
  unfold b_L_law_408 at h
  refine lv_aload_n hx hb dL_law_408 rfl (lv_at hl 1 rfl) ?_
  refine lv_aload_n hx hb dL_law_409 rfl (lv_at hl 0 rfl) ?_
  refine lv_iload hx hb dL_law_410 (lv_at hl 4 rfl) ?_
  refine lv_iconst (v := 1) hx hb dL_law_412 (by decide) ?_
  refine lv_iadd hx hb dL_law_413 ?_
  obtain ⟨hi1, h⟩ := h
  refine va_sld hx hb hX hbl hbA hc.1.2.2.2.2.2 hi1 dL_law_414 ?_
  refine lv_aload_n hx hb dL_law_415 rfl (lv_at hl 3 rfl) ?_
  refine l_calli (vx_runSW (As := [.ref r1, .int (xs (Int32.toNatClampNeg (i4 + 1))), .ref r3]) (rest := []) CF (c_L_remove hflags h) (vx_cwSW (hh := [(0, 16, 19, 28)]) 3 hts gL_law_L_remove rfl rfl rfl (by decide +kernel) ⟨Nat.le_of_ble_eq_true rfl, Nat.le_of_ble_eq_true rfl⟩) hc.1.preS rfl rfl hl.1 rfl (lv_room (Nat.le_of_ble_eq_true rfl)) dL_law_416 ⟨(by show _ + 1 ≤ 601024; omega), (by show _ + 6 ≤ 7293034; omega)⟩) hc (fun x2 g3 H locs hq hc => ?_)
  replace h := hq
  refine W.widen (k := C + 1) (n := S + 6) (by omega) (by omega) ?_
  refine lv_istore (lv' := [(5, .int x2), (0, .ref b), (1, .ref r1), (2, .ref r2), (3, .ref r3), (4, .int i4)]) hx hb dL_law_419 hl (by decide) rfl (fun ls hl => ?_)
  refine lv_aload_n hx hb dL_law_421 rfl (lv_at hl 3 rfl) ?_
  refine lv_aload_n hx hb dL_law_422 rfl (lv_at hl 1 rfl) ?_
  refine lv_iload hx hb dL_law_423 (lv_at hl 5 rfl) ?_
  refine lv_iconst (v := 1) hx hb dL_law_425 (by decide) ?_
  refine lv_iadd hx hb dL_law_426 ?_
  obtain ⟨hi4, h⟩ := h
  refine va_sld hx hb hX hbl hbA hc.1.2.2.2.2.2 hi4 dL_law_427 ?_
  obtain ⟨hk5, h⟩ := h
  refine l_calli (va_runV (As := [.int (xs (Int32.toNatClampNeg (i4 + 1)))]) (rest := []) CF (c_X11_remove h) (cwV 1 hts gL_law_X11_remove rfl rfl rfl (by decide +kernel) ⟨Nat.le_of_ble_eq_true rfl, Nat.le_of_ble_eq_true rfl⟩) (hc.swap.1.preV hk5 rfl (by decide)) rfl rfl hl.1 rfl (lv_room (Nat.le_of_ble_eq_true rfl)) dL_law_428 ⟨(by show _ + 0 ≤ 601024; omega), (by show _ + 0 ≤ 7293034; omega)⟩) hc.swap (fun x6 g7 H locs hq hcs => ?_)
  have hc := hcs.swap
  replace h := hq
  refine lv_istore (lv' := [(6, .int x6), (5, .int x2), (0, .ref b), (1, .ref r1), (2, .ref r2), (3, .ref r3), (4, .int i4)]) hx hb dL_law_431 hl (by decide) rfl (fun ls hl => ?_)
  refine lv_aload_n hx hb dL_law_433 rfl (lv_at hl 4 rfl) ?_
  obtain ⟨hk8, h⟩ := h
  refine l_calli (va_runV (As := []) (rest := []) CF (c_X11_thrown h) (cwV 0 hts gL_law_X11_thrown rfl rfl rfl (by decide +kernel) ⟨Nat.le_of_ble_eq_true rfl, Nat.le_of_ble_eq_true rfl⟩) (hc.swap.1.preV hk8 rfl (by decide)) rfl rfl hl.1 rfl (lv_room (Nat.le_of_ble_eq_true rfl)) dL_law_434 ⟨(by show _ + 0 ≤ 601024; omega), (by show _ + 0 ≤ 7293034; omega)⟩) hc.swap (fun x9 g10 H locs hq hcs => ?_)
  have hc := hcs.swap
  obtain ⟨rfl, h⟩ := hq
  refine lv_iload hx hb dL_law_437 (lv_at hl 1 rfl) ?_
  refine lv_icmp_eq (tgt := 444) hx hb dL_law_439 (by decide) (fun c11 => ?_) (fun c11 => ?_)
  · replace h := h.1 c11
    refine lv_iload hx hb dL_law_444 (lv_at hl 1 rfl) ?_
    refine lv_if_ne (tgt := 468) hx hb dL_law_446 (by decide) (fun c12 => ?_) (fun c12 => ?_)
    · replace h := h.2 c12
      refine lv_goto (tgt := 2680) hx hb dL_law_468 (by decide) ?_
      refine lv_iinc (v := (i4 + 5)) (lv' := [(4, .int (i4 + 5)), (6, .int x6), (5, .int x2), (0, .ref b), (1, .ref r1), (2, .ref r2), (3, .ref r3)]) hx hb dL_law_2680 hl (k := 6) rfl rfl (by decide) rfl (fun ls hl => ?_)
      refine lv_goto (tgt := 23) hx hb dL_law_2683 (by decide) ?_
      refine W.widen (k := C + 80) (n := S + 2400) (by omega) (by omega) ?_
      exact hk g3 g7 (i4 + 5) h _ _ _ hc (lv_sub hl [3, 4, 5, 6, 0] rfl)
    · replace h := h.1 c12
      refine lv_aload_n hx hb dL_law_449 rfl (lv_at hl 5 rfl) ?_
      refine lv_iconst (v := 0) hx hb dL_law_450 (by decide) ?_
      obtain ⟨hk13, h⟩ := h
      obtain ⟨hi14, h⟩ := h
      refine g_lald CF hc.1 hk13 hi14 dL_law_451 ?_
      refine lv_iload hx hb dL_law_452 (lv_at hl 0 rfl) ?_
      refine lv_if_eq (tgt := 461) hx hb dL_law_454 (by decide) (fun c15 => ?_) (fun c15 => ?_)
      · replace h := h.1 c15
        refine lv_lconst (v := 0) hx hb dL_law_461 (by decide) ?_
        refine W.lcmp hx hb dL_law_462 ?_
        refine lv_if_eq (tgt := 468) hx hb dL_law_463 (by decide) (fun c16 => ?_) (fun c16 => ?_)
        · replace h := h.1 c16
          refine lv_goto (tgt := 2680) hx hb dL_law_468 (by decide) ?_
          refine lv_iinc (v := (i4 + 5)) (lv' := [(4, .int (i4 + 5)), (6, .int x6), (5, .int x2), (0, .ref b), (1, .ref r1), (2, .ref r2), (3, .ref r3)]) hx hb dL_law_2680 hl (k := 6) rfl rfl (by decide) rfl (fun ls hl => ?_)
          refine lv_goto (tgt := 23) hx hb dL_law_2683 (by decide) ?_
          refine W.widen (k := C + 80) (n := S + 2400) (by omega) (by omega) ?_
          exact hk g3 g7 (i4 + 5) h _ _ _ hc (lv_sub hl [3, 4, 5, 6, 0] rfl)
        · replace h := h.2 c16
          refine lv_iconst (v := 0) hx hb dL_law_466 (by decide) ?_
          exact h.elim
      · replace h := h.2 c15
        refine lv_lconst (v := 1) hx hb dL_law_457 (by decide) ?_
        refine lv_goto (tgt := 462) hx hb dL_law_458 (by decide) ?_
        refine W.lcmp hx hb dL_law_462 ?_
        refine lv_if_eq (tgt := 468) hx hb dL_law_463 (by decide) (fun c17 => ?_) (fun c17 => ?_)
        · replace h := h.1 c17
          refine lv_goto (tgt := 2680) hx hb dL_law_468 (by decide) ?_
          refine lv_iinc (v := (i4 + 5)) (lv' := [(4, .int (i4 + 5)), (6, .int x6), (5, .int x2), (0, .ref b), (1, .ref r1), (2, .ref r2), (3, .ref r3)]) hx hb dL_law_2680 hl (k := 6) rfl rfl (by decide) rfl (fun ls hl => ?_)
          refine lv_goto (tgt := 23) hx hb dL_law_2683 (by decide) ?_
          refine W.widen (k := C + 80) (n := S + 2400) (by omega) (by omega) ?_
          exact hk g3 g7 (i4 + 5) h _ _ _ hc (lv_sub hl [3, 4, 5, 6, 0] rfl)
        · replace h := h.2 c17
          refine lv_iconst (v := 0) hx hb dL_law_466 (by decide) ?_
          exact h.elim
  · replace h := h.2 c11
    refine lv_iconst (v := 0) hx hb dL_law_442 (by decide) ?_
    exact h.elim
set_option maxHeartbeats 4000000 in
set_option maxRecDepth 100000 in
theorem c_L_case_471 {p : Program} {l : Launch} {e : Env} {s : State} {m : MethodId} {below : List Frame} {meth : Method} {c : Code} {b L : Nat} {xs : Nat → Int32} {D : va_G} {cA : Nat → ClassId} (hflags : l.stackTraces = false) (C0 : lw_At p s m meth c b L xs) {C S : Nat} (hC : C + 80 ≤ 601024) (hS : S + 2400 ≤ 7293034) {r1 r2 r3 : Nat} {k : gS → gS → Int32 → Prop} (hk : ∀ (gc gm : gS) (i4 : Int32), k gc gm i4 → ∀ (H : Heap) (locs : List Loc) (ls : Array Slot), gL D cA s gc gm H locs → lv_has ls 9 [(0, .ref b), (1, .ref r1), (2, .ref r2), (3, .ref r3), (4, .int i4)] → W p l e room_1 s m #[Value.ref b] below meth c H locs (C + 80) (S + 2400) (lw_Z below #[Value.ref b] s) (F0 m 23 ls [])) (gc gm : gS) (i4 : Int32) (h : b_L_law_471 xs L r1 r2 r3 gc gm i4 k) (H : Heap) (locs : List Loc) (ls : Array Slot) (hc : gL D cA s gc gm H locs) (hl : lv_has ls 9 [(0, .ref b), (1, .ref r1), (2, .ref r2), (3, .ref r3), (4, .int i4)]) : W p l e room_1 s m #[Value.ref b] below meth c H locs C S (lw_Z below #[Value.ref b] s) (F0 m 471 ls []) := by
  obtain ⟨hx, hb, hr, hml, hown, hts0, hX, hbl, hlk, hgv⟩ := id C0
  have hts : ∀ w ∈ wsL_law, w.before #[Value.ref b] s = true := fun w h => hts0 w (wsL_law_in w h)
  have CF : CallFix p m c cL_law 9 s #[Value.ref b] wsL_law RL := ⟨hx, hb, hml, hown, hts⟩
  have hbA : ¬ (fun q : Nat => s.heap.size ≤ q) b := Nat.not_le.mpr hbl
  unfold b_L_law_471 at h
  refine lv_aload_n hx hb dL_law_471 rfl (lv_at hl 1 rfl) ?_
  refine lv_aload_n hx hb dL_law_472 rfl (lv_at hl 0 rfl) ?_
  refine lv_iload hx hb dL_law_473 (lv_at hl 4 rfl) ?_
  refine lv_iconst (v := 1) hx hb dL_law_475 (by decide) ?_
  refine lv_iadd hx hb dL_law_476 ?_
  obtain ⟨hi1, h⟩ := h
  refine va_sld hx hb hX hbl hbA hc.1.2.2.2.2.2 hi1 dL_law_477 ?_
  refine lv_aload_n hx hb dL_law_478 rfl (lv_at hl 0 rfl) ?_
  refine lv_iload hx hb dL_law_479 (lv_at hl 4 rfl) ?_
  refine lv_iconst (v := 2) hx hb dL_law_481 (by decide) ?_
  refine lv_iadd hx hb dL_law_482 ?_
  obtain ⟨hi2, h⟩ := h
  refine va_sld hx hb hX hbl hbA hc.1.2.2.2.2.2 hi2 dL_law_483 ?_
  refine lv_if_eq (tgt := 491) hx hb dL_law_484 (by decide) (fun c3 => ?_) (fun c3 => ?_)
  · replace h := h.1 c3
    refine lv_iconst (v := 0) hx hb dL_law_491 (by decide) ?_
    refine lv_aload_n hx hb dL_law_492 rfl (lv_at hl 3 rfl) ?_
    refine l_calli (vx_runSW (As := [.ref r1, .int (xs (Int32.toNatClampNeg (i4 + 1))), .int 0, .ref r3]) (rest := []) CF (c_L_setMute hflags h) (vx_cwSW (hh := [(0, 17, 20, 13)]) 4 hts gL_law_L_setMute rfl rfl rfl (by decide +kernel) ⟨Nat.le_of_ble_eq_true rfl, Nat.le_of_ble_eq_true rfl⟩) hc.1.preS rfl rfl hl.1 rfl (lv_room (Nat.le_of_ble_eq_true rfl)) dL_law_493 ⟨(by show _ + 1 ≤ 601024; omega), (by show _ + 6 ≤ 7293034; omega)⟩) hc (fun x4 g5 H locs hq hc => ?_)
    replace h := hq
    refine W.widen (k := C + 1) (n := S + 6) (by omega) (by omega) ?_
    refine lv_istore (lv' := [(5, .int x4), (0, .ref b), (1, .ref r1), (2, .ref r2), (3, .ref r3), (4, .int i4)]) hx hb dL_law_496 hl (by decide) rfl (fun ls hl => ?_)
    refine lv_aload_n hx hb dL_law_498 rfl (lv_at hl 3 rfl) ?_
    refine lv_aload_n hx hb dL_law_499 rfl (lv_at hl 1 rfl) ?_
    refine lv_iload hx hb dL_law_500 (lv_at hl 5 rfl) ?_
    refine lv_iconst (v := 1) hx hb dL_law_502 (by decide) ?_
    refine lv_iadd hx hb dL_law_503 ?_
    obtain ⟨hi6, h⟩ := h
    refine va_sld hx hb hX hbl hbA hc.1.2.2.2.2.2 hi6 dL_law_504 ?_
    refine lv_aload_n hx hb dL_law_505 rfl (lv_at hl 1 rfl) ?_
    refine lv_iload hx hb dL_law_506 (lv_at hl 5 rfl) ?_
    refine lv_iconst (v := 2) hx hb dL_law_508 (by decide) ?_
    refine lv_iadd hx hb dL_law_509 ?_
    obtain ⟨hi7, h⟩ := h
    refine va_sld hx hb hX hbl hbA hc.1.2.2.2.2.2 hi7 dL_law_510 ?_
    refine lv_if_eq (tgt := 518) hx hb dL_law_511 (by decide) (fun c8 => ?_) (fun c8 => ?_)
    · replace h := h.1 c8
      refine lv_iconst (v := 0) hx hb dL_law_518 (by decide) ?_
      obtain ⟨hk9, h⟩ := h
      refine l_calli (va_runV (As := [.int (xs (Int32.toNatClampNeg (i4 + 1))), .int 0]) (rest := []) CF (c_X11_setMute h) (cwV 2 hts gL_law_X11_setMute rfl rfl rfl (by decide +kernel) ⟨Nat.le_of_ble_eq_true rfl, Nat.le_of_ble_eq_true rfl⟩) (hc.swap.1.preV hk9 rfl (by decide)) rfl rfl hl.1 rfl (lv_room (Nat.le_of_ble_eq_true rfl)) dL_law_519 ⟨(by show _ + 0 ≤ 601024; omega), (by show _ + 0 ≤ 7293034; omega)⟩) hc.swap (fun x10 g11 H locs hq hcs => ?_)
      have hc := hcs.swap
      replace h := hq
      refine lv_istore (lv' := [(6, .int x10), (5, .int x4), (0, .ref b), (1, .ref r1), (2, .ref r2), (3, .ref r3), (4, .int i4)]) hx hb dL_law_522 hl (by decide) rfl (fun ls hl => ?_)
      refine lv_aload_n hx hb dL_law_524 rfl (lv_at hl 4 rfl) ?_
      obtain ⟨hk12, h⟩ := h
      refine l_calli (va_runV (As := []) (rest := []) CF (c_X11_thrown h) (cwV 0 hts gL_law_X11_thrown rfl rfl rfl (by decide +kernel) ⟨Nat.le_of_ble_eq_true rfl, Nat.le_of_ble_eq_true rfl⟩) (hc.swap.1.preV hk12 rfl (by decide)) rfl rfl hl.1 rfl (lv_room (Nat.le_of_ble_eq_true rfl)) dL_law_525 ⟨(by show _ + 0 ≤ 601024; omega), (by show _ + 0 ≤ 7293034; omega)⟩) hc.swap (fun x13 g14 H locs hq hcs => ?_)
      have hc := hcs.swap
      obtain ⟨rfl, h⟩ := hq
      refine lv_iload hx hb dL_law_528 (lv_at hl 1 rfl) ?_
      refine lv_icmp_eq (tgt := 535) hx hb dL_law_530 (by decide) (fun c15 => ?_) (fun c15 => ?_)
      · replace h := h.1 c15
        refine lv_iload hx hb dL_law_535 (lv_at hl 1 rfl) ?_
        refine lv_if_ne (tgt := 559) hx hb dL_law_537 (by decide) (fun c16 => ?_) (fun c16 => ?_)
        · replace h := h.2 c16
          refine lv_goto (tgt := 2680) hx hb dL_law_559 (by decide) ?_
          refine lv_iinc (v := (i4 + 5)) (lv' := [(4, .int (i4 + 5)), (6, .int x10), (5, .int x4), (0, .ref b), (1, .ref r1), (2, .ref r2), (3, .ref r3)]) hx hb dL_law_2680 hl (k := 6) rfl rfl (by decide) rfl (fun ls hl => ?_)
          refine lv_goto (tgt := 23) hx hb dL_law_2683 (by decide) ?_
          refine W.widen (k := C + 80) (n := S + 2400) (by omega) (by omega) ?_
          exact hk g5 g11 (i4 + 5) h _ _ _ hc (lv_sub hl [3, 4, 5, 6, 0] rfl)
        · replace h := h.1 c16
          refine lv_aload_n hx hb dL_law_540 rfl (lv_at hl 5 rfl) ?_
          refine lv_iconst (v := 0) hx hb dL_law_541 (by decide) ?_
          obtain ⟨hk17, h⟩ := h
          obtain ⟨hi18, h⟩ := h
          refine g_lald CF hc.1 hk17 hi18 dL_law_542 ?_
          refine lv_iload hx hb dL_law_543 (lv_at hl 0 rfl) ?_
          refine lv_if_eq (tgt := 552) hx hb dL_law_545 (by decide) (fun c19 => ?_) (fun c19 => ?_)
          · replace h := h.1 c19
            refine lv_lconst (v := 0) hx hb dL_law_552 (by decide) ?_
            refine W.lcmp hx hb dL_law_553 ?_
            refine lv_if_eq (tgt := 559) hx hb dL_law_554 (by decide) (fun c20 => ?_) (fun c20 => ?_)
            · replace h := h.1 c20
              refine lv_goto (tgt := 2680) hx hb dL_law_559 (by decide) ?_
              refine lv_iinc (v := (i4 + 5)) (lv' := [(4, .int (i4 + 5)), (6, .int x10), (5, .int x4), (0, .ref b), (1, .ref r1), (2, .ref r2), (3, .ref r3)]) hx hb dL_law_2680 hl (k := 6) rfl rfl (by decide) rfl (fun ls hl => ?_)
              refine lv_goto (tgt := 23) hx hb dL_law_2683 (by decide) ?_
              refine W.widen (k := C + 80) (n := S + 2400) (by omega) (by omega) ?_
              exact hk g5 g11 (i4 + 5) h _ _ _ hc (lv_sub hl [3, 4, 5, 6, 0] rfl)
            · replace h := h.2 c20
              refine lv_iconst (v := 0) hx hb dL_law_557 (by decide) ?_
              exact h.elim
          · replace h := h.2 c19
            refine lv_lconst (v := 1) hx hb dL_law_548 (by decide) ?_
            refine lv_goto (tgt := 553) hx hb dL_law_549 (by decide) ?_
            refine W.lcmp hx hb dL_law_553 ?_
            refine lv_if_eq (tgt := 559) hx hb dL_law_554 (by decide) (fun c21 => ?_) (fun c21 => ?_)
            · replace h := h.1 c21
              refine lv_goto (tgt := 2680) hx hb dL_law_559 (by decide) ?_
              refine lv_iinc (v := (i4 + 5)) (lv' := [(4, .int (i4 + 5)), (6, .int x10), (5, .int x4), (0, .ref b), (1, .ref r1), (2, .ref r2), (3, .ref r3)]) hx hb dL_law_2680 hl (k := 6) rfl rfl (by decide) rfl (fun ls hl => ?_)
              refine lv_goto (tgt := 23) hx hb dL_law_2683 (by decide) ?_
              refine W.widen (k := C + 80) (n := S + 2400) (by omega) (by omega) ?_
              exact hk g5 g11 (i4 + 5) h _ _ _ hc (lv_sub hl [3, 4, 5, 6, 0] rfl)
            · replace h := h.2 c21
              refine lv_iconst (v := 0) hx hb dL_law_557 (by decide) ?_
              exact h.elim
      · replace h := h.2 c15
        refine lv_iconst (v := 0) hx hb dL_law_533 (by decide) ?_
        exact h.elim
    · replace h := h.2 c8
      refine lv_iconst (v := 1) hx hb dL_law_514 (by decide) ?_
      refine lv_goto (tgt := 519) hx hb dL_law_515 (by decide) ?_
      obtain ⟨hk22, h⟩ := h
      refine l_calli (va_runV (As := [.int (xs (Int32.toNatClampNeg (i4 + 1))), .int 1]) (rest := []) CF (c_X11_setMute h) (cwV 2 hts gL_law_X11_setMute rfl rfl rfl (by decide +kernel) ⟨Nat.le_of_ble_eq_true rfl, Nat.le_of_ble_eq_true rfl⟩) (hc.swap.1.preV hk22 rfl (by decide)) rfl rfl hl.1 rfl (lv_room (Nat.le_of_ble_eq_true rfl)) dL_law_519 ⟨(by show _ + 0 ≤ 601024; omega), (by show _ + 0 ≤ 7293034; omega)⟩) hc.swap (fun x23 g24 H locs hq hcs => ?_)
      have hc := hcs.swap
      replace h := hq
      refine lv_istore (lv' := [(6, .int x23), (5, .int x4), (0, .ref b), (1, .ref r1), (2, .ref r2), (3, .ref r3), (4, .int i4)]) hx hb dL_law_522 hl (by decide) rfl (fun ls hl => ?_)
      refine lv_aload_n hx hb dL_law_524 rfl (lv_at hl 4 rfl) ?_
      obtain ⟨hk25, h⟩ := h
      refine l_calli (va_runV (As := []) (rest := []) CF (c_X11_thrown h) (cwV 0 hts gL_law_X11_thrown rfl rfl rfl (by decide +kernel) ⟨Nat.le_of_ble_eq_true rfl, Nat.le_of_ble_eq_true rfl⟩) (hc.swap.1.preV hk25 rfl (by decide)) rfl rfl hl.1 rfl (lv_room (Nat.le_of_ble_eq_true rfl)) dL_law_525 ⟨(by show _ + 0 ≤ 601024; omega), (by show _ + 0 ≤ 7293034; omega)⟩) hc.swap (fun x26 g27 H locs hq hcs => ?_)
      have hc := hcs.swap
      obtain ⟨rfl, h⟩ := hq
      refine lv_iload hx hb dL_law_528 (lv_at hl 1 rfl) ?_
      refine lv_icmp_eq (tgt := 535) hx hb dL_law_530 (by decide) (fun c28 => ?_) (fun c28 => ?_)
      · replace h := h.1 c28
        refine lv_iload hx hb dL_law_535 (lv_at hl 1 rfl) ?_
        refine lv_if_ne (tgt := 559) hx hb dL_law_537 (by decide) (fun c29 => ?_) (fun c29 => ?_)
        · replace h := h.2 c29
          refine lv_goto (tgt := 2680) hx hb dL_law_559 (by decide) ?_
          refine lv_iinc (v := (i4 + 5)) (lv' := [(4, .int (i4 + 5)), (6, .int x23), (5, .int x4), (0, .ref b), (1, .ref r1), (2, .ref r2), (3, .ref r3)]) hx hb dL_law_2680 hl (k := 6) rfl rfl (by decide) rfl (fun ls hl => ?_)
          refine lv_goto (tgt := 23) hx hb dL_law_2683 (by decide) ?_
          refine W.widen (k := C + 80) (n := S + 2400) (by omega) (by omega) ?_
          exact hk g5 g24 (i4 + 5) h _ _ _ hc (lv_sub hl [3, 4, 5, 6, 0] rfl)
        · replace h := h.1 c29
          refine lv_aload_n hx hb dL_law_540 rfl (lv_at hl 5 rfl) ?_
          refine lv_iconst (v := 0) hx hb dL_law_541 (by decide) ?_
          obtain ⟨hk30, h⟩ := h
          obtain ⟨hi31, h⟩ := h
          refine g_lald CF hc.1 hk30 hi31 dL_law_542 ?_
          refine lv_iload hx hb dL_law_543 (lv_at hl 0 rfl) ?_
          refine lv_if_eq (tgt := 552) hx hb dL_law_545 (by decide) (fun c32 => ?_) (fun c32 => ?_)
          · replace h := h.1 c32
            refine lv_lconst (v := 0) hx hb dL_law_552 (by decide) ?_
            refine W.lcmp hx hb dL_law_553 ?_
            refine lv_if_eq (tgt := 559) hx hb dL_law_554 (by decide) (fun c33 => ?_) (fun c33 => ?_)
            · replace h := h.1 c33
              refine lv_goto (tgt := 2680) hx hb dL_law_559 (by decide) ?_
              refine lv_iinc (v := (i4 + 5)) (lv' := [(4, .int (i4 + 5)), (6, .int x23), (5, .int x4), (0, .ref b), (1, .ref r1), (2, .ref r2), (3, .ref r3)]) hx hb dL_law_2680 hl (k := 6) rfl rfl (by decide) rfl (fun ls hl => ?_)
              refine lv_goto (tgt := 23) hx hb dL_law_2683 (by decide) ?_
              refine W.widen (k := C + 80) (n := S + 2400) (by omega) (by omega) ?_
              exact hk g5 g24 (i4 + 5) h _ _ _ hc (lv_sub hl [3, 4, 5, 6, 0] rfl)
            · replace h := h.2 c33
              refine lv_iconst (v := 0) hx hb dL_law_557 (by decide) ?_
              exact h.elim
          · replace h := h.2 c32
            refine lv_lconst (v := 1) hx hb dL_law_548 (by decide) ?_
            refine lv_goto (tgt := 553) hx hb dL_law_549 (by decide) ?_
            refine W.lcmp hx hb dL_law_553 ?_
            refine lv_if_eq (tgt := 559) hx hb dL_law_554 (by decide) (fun c34 => ?_) (fun c34 => ?_)
            · replace h := h.1 c34
              refine lv_goto (tgt := 2680) hx hb dL_law_559 (by decide) ?_
              refine lv_iinc (v := (i4 + 5)) (lv' := [(4, .int (i4 + 5)), (6, .int x23), (5, .int x4), (0, .ref b), (1, .ref r1), (2, .ref r2), (3, .ref r3)]) hx hb dL_law_2680 hl (k := 6) rfl rfl (by decide) rfl (fun ls hl => ?_)
              refine lv_goto (tgt := 23) hx hb dL_law_2683 (by decide) ?_
              refine W.widen (k := C + 80) (n := S + 2400) (by omega) (by omega) ?_
              exact hk g5 g24 (i4 + 5) h _ _ _ hc (lv_sub hl [3, 4, 5, 6, 0] rfl)
            · replace h := h.2 c34
              refine lv_iconst (v := 0) hx hb dL_law_557 (by decide) ?_
              exact h.elim
      · replace h := h.2 c28
        refine lv_iconst (v := 0) hx hb dL_law_533 (by decide) ?_
        exact h.elim
  · replace h := h.2 c3
    refine lv_iconst (v := 1) hx hb dL_law_487 (by decide) ?_
    refine lv_goto (tgt := 492) hx hb dL_law_488 (by decide) ?_
    refine lv_aload_n hx hb dL_law_492 rfl (lv_at hl 3 rfl) ?_
    refine l_calli (vx_runSW (As := [.ref r1, .int (xs (Int32.toNatClampNeg (i4 + 1))), .int 1, .ref r3]) (rest := []) CF (c_L_setMute hflags h) (vx_cwSW (hh := [(0, 17, 20, 13)]) 4 hts gL_law_L_setMute rfl rfl rfl (by decide +kernel) ⟨Nat.le_of_ble_eq_true rfl, Nat.le_of_ble_eq_true rfl⟩) hc.1.preS rfl rfl hl.1 rfl (lv_room (Nat.le_of_ble_eq_true rfl)) dL_law_493 ⟨(by show _ + 1 ≤ 601024; omega), (by show _ + 6 ≤ 7293034; omega)⟩) hc (fun x35 g36 H locs hq hc => ?_)
    replace h := hq
    refine W.widen (k := C + 1) (n := S + 6) (by omega) (by omega) ?_
    refine lv_istore (lv' := [(5, .int x35), (0, .ref b), (1, .ref r1), (2, .ref r2), (3, .ref r3), (4, .int i4)]) hx hb dL_law_496 hl (by decide) rfl (fun ls hl => ?_)
    refine lv_aload_n hx hb dL_law_498 rfl (lv_at hl 3 rfl) ?_
    refine lv_aload_n hx hb dL_law_499 rfl (lv_at hl 1 rfl) ?_
    refine lv_iload hx hb dL_law_500 (lv_at hl 5 rfl) ?_
    refine lv_iconst (v := 1) hx hb dL_law_502 (by decide) ?_
    refine lv_iadd hx hb dL_law_503 ?_
    obtain ⟨hi37, h⟩ := h
    refine va_sld hx hb hX hbl hbA hc.1.2.2.2.2.2 hi37 dL_law_504 ?_
    refine lv_aload_n hx hb dL_law_505 rfl (lv_at hl 1 rfl) ?_
    refine lv_iload hx hb dL_law_506 (lv_at hl 5 rfl) ?_
    refine lv_iconst (v := 2) hx hb dL_law_508 (by decide) ?_
    refine lv_iadd hx hb dL_law_509 ?_
    obtain ⟨hi38, h⟩ := h
    refine va_sld hx hb hX hbl hbA hc.1.2.2.2.2.2 hi38 dL_law_510 ?_
    refine lv_if_eq (tgt := 518) hx hb dL_law_511 (by decide) (fun c39 => ?_) (fun c39 => ?_)
    · replace h := h.1 c39
      refine lv_iconst (v := 0) hx hb dL_law_518 (by decide) ?_
      obtain ⟨hk40, h⟩ := h
      refine l_calli (va_runV (As := [.int (xs (Int32.toNatClampNeg (i4 + 1))), .int 0]) (rest := []) CF (c_X11_setMute h) (cwV 2 hts gL_law_X11_setMute rfl rfl rfl (by decide +kernel) ⟨Nat.le_of_ble_eq_true rfl, Nat.le_of_ble_eq_true rfl⟩) (hc.swap.1.preV hk40 rfl (by decide)) rfl rfl hl.1 rfl (lv_room (Nat.le_of_ble_eq_true rfl)) dL_law_519 ⟨(by show _ + 0 ≤ 601024; omega), (by show _ + 0 ≤ 7293034; omega)⟩) hc.swap (fun x41 g42 H locs hq hcs => ?_)
      have hc := hcs.swap
      replace h := hq
      refine lv_istore (lv' := [(6, .int x41), (5, .int x35), (0, .ref b), (1, .ref r1), (2, .ref r2), (3, .ref r3), (4, .int i4)]) hx hb dL_law_522 hl (by decide) rfl (fun ls hl => ?_)
      refine lv_aload_n hx hb dL_law_524 rfl (lv_at hl 4 rfl) ?_
      obtain ⟨hk43, h⟩ := h
      refine l_calli (va_runV (As := []) (rest := []) CF (c_X11_thrown h) (cwV 0 hts gL_law_X11_thrown rfl rfl rfl (by decide +kernel) ⟨Nat.le_of_ble_eq_true rfl, Nat.le_of_ble_eq_true rfl⟩) (hc.swap.1.preV hk43 rfl (by decide)) rfl rfl hl.1 rfl (lv_room (Nat.le_of_ble_eq_true rfl)) dL_law_525 ⟨(by show _ + 0 ≤ 601024; omega), (by show _ + 0 ≤ 7293034; omega)⟩) hc.swap (fun x44 g45 H locs hq hcs => ?_)
      have hc := hcs.swap
      obtain ⟨rfl, h⟩ := hq
      refine lv_iload hx hb dL_law_528 (lv_at hl 1 rfl) ?_
      refine lv_icmp_eq (tgt := 535) hx hb dL_law_530 (by decide) (fun c46 => ?_) (fun c46 => ?_)
      · replace h := h.1 c46
        refine lv_iload hx hb dL_law_535 (lv_at hl 1 rfl) ?_
        refine lv_if_ne (tgt := 559) hx hb dL_law_537 (by decide) (fun c47 => ?_) (fun c47 => ?_)
        · replace h := h.2 c47
          refine lv_goto (tgt := 2680) hx hb dL_law_559 (by decide) ?_
          refine lv_iinc (v := (i4 + 5)) (lv' := [(4, .int (i4 + 5)), (6, .int x41), (5, .int x35), (0, .ref b), (1, .ref r1), (2, .ref r2), (3, .ref r3)]) hx hb dL_law_2680 hl (k := 6) rfl rfl (by decide) rfl (fun ls hl => ?_)
          refine lv_goto (tgt := 23) hx hb dL_law_2683 (by decide) ?_
          refine W.widen (k := C + 80) (n := S + 2400) (by omega) (by omega) ?_
          exact hk g36 g42 (i4 + 5) h _ _ _ hc (lv_sub hl [3, 4, 5, 6, 0] rfl)
        · replace h := h.1 c47
          refine lv_aload_n hx hb dL_law_540 rfl (lv_at hl 5 rfl) ?_
          refine lv_iconst (v := 0) hx hb dL_law_541 (by decide) ?_
          obtain ⟨hk48, h⟩ := h
          obtain ⟨hi49, h⟩ := h
          refine g_lald CF hc.1 hk48 hi49 dL_law_542 ?_
          refine lv_iload hx hb dL_law_543 (lv_at hl 0 rfl) ?_
          refine lv_if_eq (tgt := 552) hx hb dL_law_545 (by decide) (fun c50 => ?_) (fun c50 => ?_)
          · replace h := h.1 c50
            refine lv_lconst (v := 0) hx hb dL_law_552 (by decide) ?_
            refine W.lcmp hx hb dL_law_553 ?_
            refine lv_if_eq (tgt := 559) hx hb dL_law_554 (by decide) (fun c51 => ?_) (fun c51 => ?_)
            · replace h := h.1 c51
              refine lv_goto (tgt := 2680) hx hb dL_law_559 (by decide) ?_
              refine lv_iinc (v := (i4 + 5)) (lv' := [(4, .int (i4 + 5)), (6, .int x41), (5, .int x35), (0, .ref b), (1, .ref r1), (2, .ref r2), (3, .ref r3)]) hx hb dL_law_2680 hl (k := 6) rfl rfl (by decide) rfl (fun ls hl => ?_)
              refine lv_goto (tgt := 23) hx hb dL_law_2683 (by decide) ?_
              refine W.widen (k := C + 80) (n := S + 2400) (by omega) (by omega) ?_
              exact hk g36 g42 (i4 + 5) h _ _ _ hc (lv_sub hl [3, 4, 5, 6, 0] rfl)
            · replace h := h.2 c51
              refine lv_iconst (v := 0) hx hb dL_law_557 (by decide) ?_
              exact h.elim
          · replace h := h.2 c50
            refine lv_lconst (v := 1) hx hb dL_law_548 (by decide) ?_
            refine lv_goto (tgt := 553) hx hb dL_law_549 (by decide) ?_
            refine W.lcmp hx hb dL_law_553 ?_
            refine lv_if_eq (tgt := 559) hx hb dL_law_554 (by decide) (fun c52 => ?_) (fun c52 => ?_)
            · replace h := h.1 c52
              refine lv_goto (tgt := 2680) hx hb dL_law_559 (by decide) ?_
              refine lv_iinc (v := (i4 + 5)) (lv' := [(4, .int (i4 + 5)), (6, .int x41), (5, .int x35), (0, .ref b), (1, .ref r1), (2, .ref r2), (3, .ref r3)]) hx hb dL_law_2680 hl (k := 6) rfl rfl (by decide) rfl (fun ls hl => ?_)
              refine lv_goto (tgt := 23) hx hb dL_law_2683 (by decide) ?_
              refine W.widen (k := C + 80) (n := S + 2400) (by omega) (by omega) ?_
              exact hk g36 g42 (i4 + 5) h _ _ _ hc (lv_sub hl [3, 4, 5, 6, 0] rfl)
            · replace h := h.2 c52
              refine lv_iconst (v := 0) hx hb dL_law_557 (by decide) ?_
              exact h.elim
      · replace h := h.2 c46
        refine lv_iconst (v := 0) hx hb dL_law_533 (by decide) ?_
        exact h.elim
    · replace h := h.2 c39
      refine lv_iconst (v := 1) hx hb dL_law_514 (by decide) ?_
      refine lv_goto (tgt := 519) hx hb dL_law_515 (by decide) ?_
      obtain ⟨hk53, h⟩ := h
      refine l_calli (va_runV (As := [.int (xs (Int32.toNatClampNeg (i4 + 1))), .int 1]) (rest := []) CF (c_X11_setMute h) (cwV 2 hts gL_law_X11_setMute rfl rfl rfl (by decide +kernel) ⟨Nat.le_of_ble_eq_true rfl, Nat.le_of_ble_eq_true rfl⟩) (hc.swap.1.preV hk53 rfl (by decide)) rfl rfl hl.1 rfl (lv_room (Nat.le_of_ble_eq_true rfl)) dL_law_519 ⟨(by show _ + 0 ≤ 601024; omega), (by show _ + 0 ≤ 7293034; omega)⟩) hc.swap (fun x54 g55 H locs hq hcs => ?_)
      have hc := hcs.swap
      replace h := hq
      refine lv_istore (lv' := [(6, .int x54), (5, .int x35), (0, .ref b), (1, .ref r1), (2, .ref r2), (3, .ref r3), (4, .int i4)]) hx hb dL_law_522 hl (by decide) rfl (fun ls hl => ?_)
      refine lv_aload_n hx hb dL_law_524 rfl (lv_at hl 4 rfl) ?_
      obtain ⟨hk56, h⟩ := h
      refine l_calli (va_runV (As := []) (rest := []) CF (c_X11_thrown h) (cwV 0 hts gL_law_X11_thrown rfl rfl rfl (by decide +kernel) ⟨Nat.le_of_ble_eq_true rfl, Nat.le_of_ble_eq_true rfl⟩) (hc.swap.1.preV hk56 rfl (by decide)) rfl rfl hl.1 rfl (lv_room (Nat.le_of_ble_eq_true rfl)) dL_law_525 ⟨(by show _ + 0 ≤ 601024; omega), (by show _ + 0 ≤ 7293034; omega)⟩) hc.swap (fun x57 g58 H locs hq hcs => ?_)
      have hc := hcs.swap
      obtain ⟨rfl, h⟩ := hq
      refine lv_iload hx hb dL_law_528 (lv_at hl 1 rfl) ?_
      refine lv_icmp_eq (tgt := 535) hx hb dL_law_530 (by decide) (fun c59 => ?_) (fun c59 => ?_)
      · replace h := h.1 c59
        refine lv_iload hx hb dL_law_535 (lv_at hl 1 rfl) ?_
        refine lv_if_ne (tgt := 559) hx hb dL_law_537 (by decide) (fun c60 => ?_) (fun c60 => ?_)
        · replace h := h.2 c60
          refine lv_goto (tgt := 2680) hx hb dL_law_559 (by decide) ?_
          refine lv_iinc (v := (i4 + 5)) (lv' := [(4, .int (i4 + 5)), (6, .int x54), (5, .int x35), (0, .ref b), (1, .ref r1), (2, .ref r2), (3, .ref r3)]) hx hb dL_law_2680 hl (k := 6) rfl rfl (by decide) rfl (fun ls hl => ?_)
          refine lv_goto (tgt := 23) hx hb dL_law_2683 (by decide) ?_
          refine W.widen (k := C + 80) (n := S + 2400) (by omega) (by omega) ?_
          exact hk g36 g55 (i4 + 5) h _ _ _ hc (lv_sub hl [3, 4, 5, 6, 0] rfl)
        · replace h := h.1 c60
          refine lv_aload_n hx hb dL_law_540 rfl (lv_at hl 5 rfl) ?_
          refine lv_iconst (v := 0) hx hb dL_law_541 (by decide) ?_
          obtain ⟨hk61, h⟩ := h
          obtain ⟨hi62, h⟩ := h
          refine g_lald CF hc.1 hk61 hi62 dL_law_542 ?_
          refine lv_iload hx hb dL_law_543 (lv_at hl 0 rfl) ?_
          refine lv_if_eq (tgt := 552) hx hb dL_law_545 (by decide) (fun c63 => ?_) (fun c63 => ?_)
          · replace h := h.1 c63
            refine lv_lconst (v := 0) hx hb dL_law_552 (by decide) ?_
            refine W.lcmp hx hb dL_law_553 ?_
            refine lv_if_eq (tgt := 559) hx hb dL_law_554 (by decide) (fun c64 => ?_) (fun c64 => ?_)
            · replace h := h.1 c64
              refine lv_goto (tgt := 2680) hx hb dL_law_559 (by decide) ?_
              refine lv_iinc (v := (i4 + 5)) (lv' := [(4, .int (i4 + 5)), (6, .int x54), (5, .int x35), (0, .ref b), (1, .ref r1), (2, .ref r2), (3, .ref r3)]) hx hb dL_law_2680 hl (k := 6) rfl rfl (by decide) rfl (fun ls hl => ?_)
              refine lv_goto (tgt := 23) hx hb dL_law_2683 (by decide) ?_
              refine W.widen (k := C + 80) (n := S + 2400) (by omega) (by omega) ?_
              exact hk g36 g55 (i4 + 5) h _ _ _ hc (lv_sub hl [3, 4, 5, 6, 0] rfl)
            · replace h := h.2 c64
              refine lv_iconst (v := 0) hx hb dL_law_557 (by decide) ?_
              exact h.elim
          · replace h := h.2 c63
            refine lv_lconst (v := 1) hx hb dL_law_548 (by decide) ?_
            refine lv_goto (tgt := 553) hx hb dL_law_549 (by decide) ?_
            refine W.lcmp hx hb dL_law_553 ?_
            refine lv_if_eq (tgt := 559) hx hb dL_law_554 (by decide) (fun c65 => ?_) (fun c65 => ?_)
            · replace h := h.1 c65
              refine lv_goto (tgt := 2680) hx hb dL_law_559 (by decide) ?_
              refine lv_iinc (v := (i4 + 5)) (lv' := [(4, .int (i4 + 5)), (6, .int x54), (5, .int x35), (0, .ref b), (1, .ref r1), (2, .ref r2), (3, .ref r3)]) hx hb dL_law_2680 hl (k := 6) rfl rfl (by decide) rfl (fun ls hl => ?_)
              refine lv_goto (tgt := 23) hx hb dL_law_2683 (by decide) ?_
              refine W.widen (k := C + 80) (n := S + 2400) (by omega) (by omega) ?_
              exact hk g36 g55 (i4 + 5) h _ _ _ hc (lv_sub hl [3, 4, 5, 6, 0] rfl)
            · replace h := h.2 c65
              refine lv_iconst (v := 0) hx hb dL_law_557 (by decide) ?_
              exact h.elim
      · replace h := h.2 c59
        refine lv_iconst (v := 0) hx hb dL_law_533 (by decide) ?_
        exact h.elim
set_option maxHeartbeats 4000000 in
set_option maxRecDepth 100000 in
theorem c_L_case_562 {p : Program} {l : Launch} {e : Env} {s : State} {m : MethodId} {below : List Frame} {meth : Method} {c : Code} {b L : Nat} {xs : Nat → Int32} {D : va_G} {cA : Nat → ClassId} (hflags : l.stackTraces = false) (C0 : lw_At p s m meth c b L xs) {C S : Nat} (hC : C + 80 ≤ 601024) (hS : S + 2400 ≤ 7293034) {r1 r2 r3 : Nat} {k : gS → gS → Int32 → Prop} (hk : ∀ (gc gm : gS) (i4 : Int32), k gc gm i4 → ∀ (H : Heap) (locs : List Loc) (ls : Array Slot), gL D cA s gc gm H locs → lv_has ls 9 [(0, .ref b), (1, .ref r1), (2, .ref r2), (3, .ref r3), (4, .int i4)] → W p l e room_1 s m #[Value.ref b] below meth c H locs (C + 80) (S + 2400) (lw_Z below #[Value.ref b] s) (F0 m 23 ls [])) (gc gm : gS) (i4 : Int32) (h : b_L_law_562 xs L r1 r2 r3 gc gm i4 k) (H : Heap) (locs : List Loc) (ls : Array Slot) (hc : gL D cA s gc gm H locs) (hl : lv_has ls 9 [(0, .ref b), (1, .ref r1), (2, .ref r2), (3, .ref r3), (4, .int i4)]) : W p l e room_1 s m #[Value.ref b] below meth c H locs C S (lw_Z below #[Value.ref b] s) (F0 m 562 ls []) := by
  obtain ⟨hx, hb, hr, hml, hown, hts0, hX, hbl, hlk, hgv⟩ := id C0
  have hts : ∀ w ∈ wsL_law, w.before #[Value.ref b] s = true := fun w h => hts0 w (wsL_law_in w h)
  have CF : CallFix p m c cL_law 9 s #[Value.ref b] wsL_law RL := ⟨hx, hb, hml, hown, hts⟩
  have hbA : ¬ (fun q : Nat => s.heap.size ≤ q) b := Nat.not_le.mpr hbl
  unfold b_L_law_562 at h
  refine lv_aload_n hx hb dL_law_562 rfl (lv_at hl 1 rfl) ?_
  refine lv_aload_n hx hb dL_law_563 rfl (lv_at hl 0 rfl) ?_
  refine lv_iload hx hb dL_law_564 (lv_at hl 4 rfl) ?_
  refine lv_iconst (v := 1) hx hb dL_law_566 (by decide) ?_
  refine lv_iadd hx hb dL_law_567 ?_
  obtain ⟨hi1, h⟩ := h
  refine va_sld hx hb hX hbl hbA hc.1.2.2.2.2.2 hi1 dL_law_568 ?_
  refine lv_aload_n hx hb dL_law_569 rfl (lv_at hl 0 rfl) ?_
  refine lv_iload hx hb dL_law_570 (lv_at hl 4 rfl) ?_
  refine lv_iconst (v := 2) hx hb dL_law_572 (by decide) ?_
  refine lv_iadd hx hb dL_law_573 ?_
  obtain ⟨hi2, h⟩ := h
  refine va_sld hx hb hX hbl hbA hc.1.2.2.2.2.2 hi2 dL_law_574 ?_
  refine lv_aload_n hx hb dL_law_575 rfl (lv_at hl 3 rfl) ?_
  refine l_calli (vx_runSW (As := [.ref r1, .int (xs (Int32.toNatClampNeg (i4 + 1))), .int (xs (Int32.toNatClampNeg (i4 + 2))), .ref r3]) (rest := []) CF (c_L_setAlias hflags h) (vx_cwSW (hh := [(0, 10, 13, 13)]) 4 hts gL_law_L_setAlias rfl rfl rfl (by decide +kernel) ⟨Nat.le_of_ble_eq_true rfl, Nat.le_of_ble_eq_true rfl⟩) hc.1.preS rfl rfl hl.1 rfl (lv_room (Nat.le_of_ble_eq_true rfl)) dL_law_576 ⟨(by show _ + 1 ≤ 601024; omega), (by show _ + 6 ≤ 7293034; omega)⟩) hc (fun x3 g4 H locs hq hc => ?_)
  replace h := hq
  refine W.widen (k := C + 1) (n := S + 6) (by omega) (by omega) ?_
  refine lv_istore (lv' := [(5, .int x3), (0, .ref b), (1, .ref r1), (2, .ref r2), (3, .ref r3), (4, .int i4)]) hx hb dL_law_579 hl (by decide) rfl (fun ls hl => ?_)
  refine lv_aload_n hx hb dL_law_581 rfl (lv_at hl 3 rfl) ?_
  refine lv_aload_n hx hb dL_law_582 rfl (lv_at hl 1 rfl) ?_
  refine lv_iload hx hb dL_law_583 (lv_at hl 5 rfl) ?_
  refine lv_iconst (v := 1) hx hb dL_law_585 (by decide) ?_
  refine lv_iadd hx hb dL_law_586 ?_
  obtain ⟨hi5, h⟩ := h
  refine va_sld hx hb hX hbl hbA hc.1.2.2.2.2.2 hi5 dL_law_587 ?_
  refine lv_aload_n hx hb dL_law_588 rfl (lv_at hl 1 rfl) ?_
  refine lv_iload hx hb dL_law_589 (lv_at hl 5 rfl) ?_
  refine lv_iconst (v := 2) hx hb dL_law_591 (by decide) ?_
  refine lv_iadd hx hb dL_law_592 ?_
  obtain ⟨hi6, h⟩ := h
  refine va_sld hx hb hX hbl hbA hc.1.2.2.2.2.2 hi6 dL_law_593 ?_
  obtain ⟨hk7, h⟩ := h
  refine l_calli (va_runV (As := [.int (xs (Int32.toNatClampNeg (i4 + 1))), .int (xs (Int32.toNatClampNeg (i4 + 2)))]) (rest := []) CF (c_X11_setAlias h) (cwV 2 hts gL_law_X11_setAlias rfl rfl rfl (by decide +kernel) ⟨Nat.le_of_ble_eq_true rfl, Nat.le_of_ble_eq_true rfl⟩) (hc.swap.1.preV hk7 rfl (by decide)) rfl rfl hl.1 rfl (lv_room (Nat.le_of_ble_eq_true rfl)) dL_law_594 ⟨(by show _ + 0 ≤ 601024; omega), (by show _ + 0 ≤ 7293034; omega)⟩) hc.swap (fun x8 g9 H locs hq hcs => ?_)
  have hc := hcs.swap
  replace h := hq
  refine lv_istore (lv' := [(6, .int x8), (5, .int x3), (0, .ref b), (1, .ref r1), (2, .ref r2), (3, .ref r3), (4, .int i4)]) hx hb dL_law_597 hl (by decide) rfl (fun ls hl => ?_)
  refine lv_aload_n hx hb dL_law_599 rfl (lv_at hl 4 rfl) ?_
  obtain ⟨hk10, h⟩ := h
  refine l_calli (va_runV (As := []) (rest := []) CF (c_X11_thrown h) (cwV 0 hts gL_law_X11_thrown rfl rfl rfl (by decide +kernel) ⟨Nat.le_of_ble_eq_true rfl, Nat.le_of_ble_eq_true rfl⟩) (hc.swap.1.preV hk10 rfl (by decide)) rfl rfl hl.1 rfl (lv_room (Nat.le_of_ble_eq_true rfl)) dL_law_600 ⟨(by show _ + 0 ≤ 601024; omega), (by show _ + 0 ≤ 7293034; omega)⟩) hc.swap (fun x11 g12 H locs hq hcs => ?_)
  have hc := hcs.swap
  obtain ⟨rfl, h⟩ := hq
  refine lv_iload hx hb dL_law_603 (lv_at hl 1 rfl) ?_
  refine lv_icmp_eq (tgt := 610) hx hb dL_law_605 (by decide) (fun c13 => ?_) (fun c13 => ?_)
  · replace h := h.1 c13
    refine lv_iload hx hb dL_law_610 (lv_at hl 1 rfl) ?_
    refine lv_if_ne (tgt := 627) hx hb dL_law_612 (by decide) (fun c14 => ?_) (fun c14 => ?_)
    · replace h := h.2 c14
      refine lv_goto (tgt := 2680) hx hb dL_law_627 (by decide) ?_
      refine lv_iinc (v := (i4 + 5)) (lv' := [(4, .int (i4 + 5)), (6, .int x8), (5, .int x3), (0, .ref b), (1, .ref r1), (2, .ref r2), (3, .ref r3)]) hx hb dL_law_2680 hl (k := 6) rfl rfl (by decide) rfl (fun ls hl => ?_)
      refine lv_goto (tgt := 23) hx hb dL_law_2683 (by decide) ?_
      refine W.widen (k := C + 80) (n := S + 2400) (by omega) (by omega) ?_
      exact hk g4 g9 (i4 + 5) h _ _ _ hc (lv_sub hl [3, 4, 5, 6, 0] rfl)
    · replace h := h.1 c14
      refine lv_aload_n hx hb dL_law_615 rfl (lv_at hl 5 rfl) ?_
      refine lv_iconst (v := 0) hx hb dL_law_616 (by decide) ?_
      obtain ⟨hk15, h⟩ := h
      obtain ⟨hi16, h⟩ := h
      refine g_lald CF hc.1 hk15 hi16 dL_law_617 ?_
      refine lv_iload hx hb dL_law_618 (lv_at hl 0 rfl) ?_
      refine lv_i2l hx hb dL_law_620 rfl ?_
      refine W.lcmp hx hb dL_law_621 ?_
      refine lv_if_eq (tgt := 627) hx hb dL_law_622 (by decide) (fun c17 => ?_) (fun c17 => ?_)
      · replace h := h.1 c17
        refine lv_goto (tgt := 2680) hx hb dL_law_627 (by decide) ?_
        refine lv_iinc (v := (i4 + 5)) (lv' := [(4, .int (i4 + 5)), (6, .int x8), (5, .int x3), (0, .ref b), (1, .ref r1), (2, .ref r2), (3, .ref r3)]) hx hb dL_law_2680 hl (k := 6) rfl rfl (by decide) rfl (fun ls hl => ?_)
        refine lv_goto (tgt := 23) hx hb dL_law_2683 (by decide) ?_
        refine W.widen (k := C + 80) (n := S + 2400) (by omega) (by omega) ?_
        exact hk g4 g9 (i4 + 5) h _ _ _ hc (lv_sub hl [3, 4, 5, 6, 0] rfl)
      · replace h := h.2 c17
        refine lv_iconst (v := 0) hx hb dL_law_625 (by decide) ?_
        exact h.elim
  · replace h := h.2 c13
    refine lv_iconst (v := 0) hx hb dL_law_608 (by decide) ?_
    exact h.elim
set_option maxHeartbeats 4000000 in
set_option maxRecDepth 100000 in
theorem c_L_case_630 {p : Program} {l : Launch} {e : Env} {s : State} {m : MethodId} {below : List Frame} {meth : Method} {c : Code} {b L : Nat} {xs : Nat → Int32} {D : va_G} {cA : Nat → ClassId} (hflags : l.stackTraces = false) (C0 : lw_At p s m meth c b L xs) {C S : Nat} (hC : C + 80 ≤ 601024) (hS : S + 2400 ≤ 7293034) {r1 r2 r3 : Nat} {k : gS → gS → Int32 → Prop} (hk : ∀ (gc gm : gS) (i4 : Int32), k gc gm i4 → ∀ (H : Heap) (locs : List Loc) (ls : Array Slot), gL D cA s gc gm H locs → lv_has ls 9 [(0, .ref b), (1, .ref r1), (2, .ref r2), (3, .ref r3), (4, .int i4)] → W p l e room_1 s m #[Value.ref b] below meth c H locs (C + 80) (S + 2400) (lw_Z below #[Value.ref b] s) (F0 m 23 ls [])) (gc gm : gS) (i4 : Int32) (h : b_L_law_630 xs L r1 r2 r3 gc gm i4 k) (H : Heap) (locs : List Loc) (ls : Array Slot) (hc : gL D cA s gc gm H locs) (hl : lv_has ls 9 [(0, .ref b), (1, .ref r1), (2, .ref r2), (3, .ref r3), (4, .int i4)]) : W p l e room_1 s m #[Value.ref b] below meth c H locs C S (lw_Z below #[Value.ref b] s) (F0 m 630 ls []) := by
  obtain ⟨hx, hb, hr, hml, hown, hts0, hX, hbl, hlk, hgv⟩ := id C0
  have hts : ∀ w ∈ wsL_law, w.before #[Value.ref b] s = true := fun w h => hts0 w (wsL_law_in w h)
  have CF : CallFix p m c cL_law 9 s #[Value.ref b] wsL_law RL := ⟨hx, hb, hml, hown, hts⟩
  have hbA : ¬ (fun q : Nat => s.heap.size ≤ q) b := Nat.not_le.mpr hbl
  unfold b_L_law_630 at h
  refine lv_aload_n hx hb dL_law_630 rfl (lv_at hl 1 rfl) ?_
  refine lv_aload_n hx hb dL_law_631 rfl (lv_at hl 0 rfl) ?_
  refine lv_iload hx hb dL_law_632 (lv_at hl 4 rfl) ?_
  refine lv_iconst (v := 1) hx hb dL_law_634 (by decide) ?_
  refine lv_iadd hx hb dL_law_635 ?_
  obtain ⟨hi1, h⟩ := h
  refine va_sld hx hb hX hbl hbA hc.1.2.2.2.2.2 hi1 dL_law_636 ?_
  refine lv_aload_n hx hb dL_law_637 rfl (lv_at hl 0 rfl) ?_
  refine lv_iload hx hb dL_law_638 (lv_at hl 4 rfl) ?_
  refine lv_iconst (v := 2) hx hb dL_law_640 (by decide) ?_
  refine lv_iadd hx hb dL_law_641 ?_
  obtain ⟨hi2, h⟩ := h
  refine va_sld hx hb hX hbl hbA hc.1.2.2.2.2.2 hi2 dL_law_642 ?_
  refine lv_aload_n hx hb dL_law_643 rfl (lv_at hl 3 rfl) ?_
  refine l_calli (vx_runSW (As := [.ref r1, .int (xs (Int32.toNatClampNeg (i4 + 1))), .int (xs (Int32.toNatClampNeg (i4 + 2))), .ref r3]) (rest := []) CF (c_L_setWeight hflags h) (vx_cwSW (hh := [(0, 10, 13, 13)]) 4 hts gL_law_L_setWeight rfl rfl rfl (by decide +kernel) ⟨Nat.le_of_ble_eq_true rfl, Nat.le_of_ble_eq_true rfl⟩) hc.1.preS rfl rfl hl.1 rfl (lv_room (Nat.le_of_ble_eq_true rfl)) dL_law_644 ⟨(by show _ + 1 ≤ 601024; omega), (by show _ + 6 ≤ 7293034; omega)⟩) hc (fun x3 g4 H locs hq hc => ?_)
  replace h := hq
  refine W.widen (k := C + 1) (n := S + 6) (by omega) (by omega) ?_
  refine lv_istore (lv' := [(5, .int x3), (0, .ref b), (1, .ref r1), (2, .ref r2), (3, .ref r3), (4, .int i4)]) hx hb dL_law_647 hl (by decide) rfl (fun ls hl => ?_)
  refine lv_aload_n hx hb dL_law_649 rfl (lv_at hl 3 rfl) ?_
  refine lv_aload_n hx hb dL_law_650 rfl (lv_at hl 1 rfl) ?_
  refine lv_iload hx hb dL_law_651 (lv_at hl 5 rfl) ?_
  refine lv_iconst (v := 1) hx hb dL_law_653 (by decide) ?_
  refine lv_iadd hx hb dL_law_654 ?_
  obtain ⟨hi5, h⟩ := h
  refine va_sld hx hb hX hbl hbA hc.1.2.2.2.2.2 hi5 dL_law_655 ?_
  refine lv_aload_n hx hb dL_law_656 rfl (lv_at hl 1 rfl) ?_
  refine lv_iload hx hb dL_law_657 (lv_at hl 5 rfl) ?_
  refine lv_iconst (v := 2) hx hb dL_law_659 (by decide) ?_
  refine lv_iadd hx hb dL_law_660 ?_
  obtain ⟨hi6, h⟩ := h
  refine va_sld hx hb hX hbl hbA hc.1.2.2.2.2.2 hi6 dL_law_661 ?_
  obtain ⟨hk7, h⟩ := h
  refine l_calli (va_runV (As := [.int (xs (Int32.toNatClampNeg (i4 + 1))), .int (xs (Int32.toNatClampNeg (i4 + 2)))]) (rest := []) CF (c_X11_setWeight h) (cwV 2 hts gL_law_X11_setWeight rfl rfl rfl (by decide +kernel) ⟨Nat.le_of_ble_eq_true rfl, Nat.le_of_ble_eq_true rfl⟩) (hc.swap.1.preV hk7 rfl (by decide)) rfl rfl hl.1 rfl (lv_room (Nat.le_of_ble_eq_true rfl)) dL_law_662 ⟨(by show _ + 0 ≤ 601024; omega), (by show _ + 0 ≤ 7293034; omega)⟩) hc.swap (fun x8 g9 H locs hq hcs => ?_)
  have hc := hcs.swap
  replace h := hq
  refine lv_istore (lv' := [(6, .int x8), (5, .int x3), (0, .ref b), (1, .ref r1), (2, .ref r2), (3, .ref r3), (4, .int i4)]) hx hb dL_law_665 hl (by decide) rfl (fun ls hl => ?_)
  refine lv_aload_n hx hb dL_law_667 rfl (lv_at hl 4 rfl) ?_
  obtain ⟨hk10, h⟩ := h
  refine l_calli (va_runV (As := []) (rest := []) CF (c_X11_thrown h) (cwV 0 hts gL_law_X11_thrown rfl rfl rfl (by decide +kernel) ⟨Nat.le_of_ble_eq_true rfl, Nat.le_of_ble_eq_true rfl⟩) (hc.swap.1.preV hk10 rfl (by decide)) rfl rfl hl.1 rfl (lv_room (Nat.le_of_ble_eq_true rfl)) dL_law_668 ⟨(by show _ + 0 ≤ 601024; omega), (by show _ + 0 ≤ 7293034; omega)⟩) hc.swap (fun x11 g12 H locs hq hcs => ?_)
  have hc := hcs.swap
  obtain ⟨rfl, h⟩ := hq
  refine lv_iload hx hb dL_law_671 (lv_at hl 1 rfl) ?_
  refine lv_icmp_eq (tgt := 678) hx hb dL_law_673 (by decide) (fun c13 => ?_) (fun c13 => ?_)
  · replace h := h.1 c13
    refine lv_iload hx hb dL_law_678 (lv_at hl 1 rfl) ?_
    refine lv_if_ne (tgt := 695) hx hb dL_law_680 (by decide) (fun c14 => ?_) (fun c14 => ?_)
    · replace h := h.2 c14
      refine lv_goto (tgt := 2680) hx hb dL_law_695 (by decide) ?_
      refine lv_iinc (v := (i4 + 5)) (lv' := [(4, .int (i4 + 5)), (6, .int x8), (5, .int x3), (0, .ref b), (1, .ref r1), (2, .ref r2), (3, .ref r3)]) hx hb dL_law_2680 hl (k := 6) rfl rfl (by decide) rfl (fun ls hl => ?_)
      refine lv_goto (tgt := 23) hx hb dL_law_2683 (by decide) ?_
      refine W.widen (k := C + 80) (n := S + 2400) (by omega) (by omega) ?_
      exact hk g4 g9 (i4 + 5) h _ _ _ hc (lv_sub hl [3, 4, 5, 6, 0] rfl)
    · replace h := h.1 c14
      refine lv_aload_n hx hb dL_law_683 rfl (lv_at hl 5 rfl) ?_
      refine lv_iconst (v := 0) hx hb dL_law_684 (by decide) ?_
      obtain ⟨hk15, h⟩ := h
      obtain ⟨hi16, h⟩ := h
      refine g_lald CF hc.1 hk15 hi16 dL_law_685 ?_
      refine lv_iload hx hb dL_law_686 (lv_at hl 0 rfl) ?_
      refine lv_i2l hx hb dL_law_688 rfl ?_
      refine W.lcmp hx hb dL_law_689 ?_
      refine lv_if_eq (tgt := 695) hx hb dL_law_690 (by decide) (fun c17 => ?_) (fun c17 => ?_)
      · replace h := h.1 c17
        refine lv_goto (tgt := 2680) hx hb dL_law_695 (by decide) ?_
        refine lv_iinc (v := (i4 + 5)) (lv' := [(4, .int (i4 + 5)), (6, .int x8), (5, .int x3), (0, .ref b), (1, .ref r1), (2, .ref r2), (3, .ref r3)]) hx hb dL_law_2680 hl (k := 6) rfl rfl (by decide) rfl (fun ls hl => ?_)
        refine lv_goto (tgt := 23) hx hb dL_law_2683 (by decide) ?_
        refine W.widen (k := C + 80) (n := S + 2400) (by omega) (by omega) ?_
        exact hk g4 g9 (i4 + 5) h _ _ _ hc (lv_sub hl [3, 4, 5, 6, 0] rfl)
      · replace h := h.2 c17
        refine lv_iconst (v := 0) hx hb dL_law_693 (by decide) ?_
        exact h.elim
  · replace h := h.2 c13
    refine lv_iconst (v := 0) hx hb dL_law_676 (by decide) ?_
    exact h.elim
set_option maxHeartbeats 4000000 in
set_option maxRecDepth 100000 in
theorem c_L_case_698 {p : Program} {l : Launch} {e : Env} {s : State} {m : MethodId} {below : List Frame} {meth : Method} {c : Code} {b L : Nat} {xs : Nat → Int32} {D : va_G} {cA : Nat → ClassId} (hflags : l.stackTraces = false) (C0 : lw_At p s m meth c b L xs) {C S : Nat} (hC : C + 80 ≤ 601024) (hS : S + 2400 ≤ 7293034) {r1 r2 r3 : Nat} {k : gS → gS → Int32 → Prop} (hk : ∀ (gc gm : gS) (i4 : Int32), k gc gm i4 → ∀ (H : Heap) (locs : List Loc) (ls : Array Slot), gL D cA s gc gm H locs → lv_has ls 9 [(0, .ref b), (1, .ref r1), (2, .ref r2), (3, .ref r3), (4, .int i4)] → W p l e room_1 s m #[Value.ref b] below meth c H locs (C + 80) (S + 2400) (lw_Z below #[Value.ref b] s) (F0 m 23 ls [])) (gc gm : gS) (i4 : Int32) (h : b_L_law_698 xs L r1 r2 r3 gc gm i4 k) (H : Heap) (locs : List Loc) (ls : Array Slot) (hc : gL D cA s gc gm H locs) (hl : lv_has ls 9 [(0, .ref b), (1, .ref r1), (2, .ref r2), (3, .ref r3), (4, .int i4)]) : W p l e room_1 s m #[Value.ref b] below meth c H locs C S (lw_Z below #[Value.ref b] s) (F0 m 698 ls []) := by
  obtain ⟨hx, hb, hr, hml, hown, hts0, hX, hbl, hlk, hgv⟩ := id C0
  have hts : ∀ w ∈ wsL_law, w.before #[Value.ref b] s = true := fun w h => hts0 w (wsL_law_in w h)
  have CF : CallFix p m c cL_law 9 s #[Value.ref b] wsL_law RL := ⟨hx, hb, hml, hown, hts⟩
  have hbA : ¬ (fun q : Nat => s.heap.size ≤ q) b := Nat.not_le.mpr hbl
  unfold b_L_law_698 at h
  refine lv_aload_n hx hb dL_law_698 rfl (lv_at hl 1 rfl) ?_
  obtain ⟨hk1, h⟩ := h
  refine l_calli (va_runV (As := []) (rest := []) CF (c_X10_documents h) (cwV 0 hts gL_law_X10_documents rfl rfl rfl (by decide +kernel) ⟨Nat.le_of_ble_eq_true rfl, Nat.le_of_ble_eq_true rfl⟩) (hc.1.preV hk1 rfl (by decide)) rfl rfl hl.1 rfl (lv_room (Nat.le_of_ble_eq_true rfl)) dL_law_699 ⟨(by show _ + 0 ≤ 601024; omega), (by show _ + 0 ≤ 7293034; omega)⟩) hc (fun x2 g3 H locs hq hc => ?_)
  obtain ⟨rfl, h⟩ := hq
  refine lv_aload_n hx hb dL_law_702 rfl (lv_at hl 2 rfl) ?_
  obtain ⟨hk4, h⟩ := h
  refine l_calli (va_runV (As := []) (rest := [.int x2]) CF (c_X11_documents h) (cwV 0 hts gL_law_X11_documents rfl rfl rfl (by decide +kernel) ⟨Nat.le_of_ble_eq_true rfl, Nat.le_of_ble_eq_true rfl⟩) (hc.swap.1.preV hk4 rfl (by decide)) rfl rfl hl.1 rfl (lv_room (Nat.le_of_ble_eq_true rfl)) dL_law_703 ⟨(by show _ + 0 ≤ 601024; omega), (by show _ + 0 ≤ 7293034; omega)⟩) hc.swap (fun x5 g6 H locs hq hcs => ?_)
  have hc := hcs.swap
  replace h := hq
  refine lv_icmp_eq (tgt := 2680) hx hb dL_law_706 (by decide) (fun c7 => ?_) (fun c7 => ?_)
  · replace h := h.1 c7
    refine lv_iinc (v := (i4 + 5)) (lv' := [(4, .int (i4 + 5)), (0, .ref b), (1, .ref r1), (2, .ref r2), (3, .ref r3)]) hx hb dL_law_2680 hl (k := 4) rfl rfl (by decide) rfl (fun ls hl => ?_)
    refine lv_goto (tgt := 23) hx hb dL_law_2683 (by decide) ?_
    refine W.widen (k := C + 80) (n := S + 2400) (by omega) (by omega) ?_
    exact hk gc g6 (i4 + 5) h _ _ _ hc (lv_sub hl [1, 2, 3, 4, 0] rfl)
  · replace h := h.2 c7
    refine lv_iconst (v := 0) hx hb dL_law_709 (by decide) ?_
    exact h.elim
set_option maxHeartbeats 4000000 in
set_option maxRecDepth 100000 in
theorem c_L_case_711 {p : Program} {l : Launch} {e : Env} {s : State} {m : MethodId} {below : List Frame} {meth : Method} {c : Code} {b L : Nat} {xs : Nat → Int32} {D : va_G} {cA : Nat → ClassId} (hflags : l.stackTraces = false) (C0 : lw_At p s m meth c b L xs) {C S : Nat} (hC : C + 80 ≤ 601024) (hS : S + 2400 ≤ 7293034) {r1 r2 r3 : Nat} {k : gS → gS → Int32 → Prop} (hk : ∀ (gc gm : gS) (i4 : Int32), k gc gm i4 → ∀ (H : Heap) (locs : List Loc) (ls : Array Slot), gL D cA s gc gm H locs → lv_has ls 9 [(0, .ref b), (1, .ref r1), (2, .ref r2), (3, .ref r3), (4, .int i4)] → W p l e room_1 s m #[Value.ref b] below meth c H locs (C + 80) (S + 2400) (lw_Z below #[Value.ref b] s) (F0 m 23 ls [])) (gc gm : gS) (i4 : Int32) (h : b_L_law_711 xs L r1 r2 r3 gc gm i4 k) (H : Heap) (locs : List Loc) (ls : Array Slot) (hc : gL D cA s gc gm H locs) (hl : lv_has ls 9 [(0, .ref b), (1, .ref r1), (2, .ref r2), (3, .ref r3), (4, .int i4)]) : W p l e room_1 s m #[Value.ref b] below meth c H locs C S (lw_Z below #[Value.ref b] s) (F0 m 711 ls []) := by
  obtain ⟨hx, hb, hr, hml, hown, hts0, hX, hbl, hlk, hgv⟩ := id C0
  have hts : ∀ w ∈ wsL_law, w.before #[Value.ref b] s = true := fun w h => hts0 w (wsL_law_in w h)
  have CF : CallFix p m c cL_law 9 s #[Value.ref b] wsL_law RL := ⟨hx, hb, hml, hown, hts⟩
  have hbA : ¬ (fun q : Nat => s.heap.size ≤ q) b := Nat.not_le.mpr hbl
  unfold b_L_law_711 at h
  refine lv_aload_n hx hb dL_law_711 rfl (lv_at hl 1 rfl) ?_
  refine lv_aload_n hx hb dL_law_712 rfl (lv_at hl 0 rfl) ?_
  refine lv_iload hx hb dL_law_713 (lv_at hl 4 rfl) ?_
  refine lv_iconst (v := 1) hx hb dL_law_715 (by decide) ?_
  refine lv_iadd hx hb dL_law_716 ?_
  obtain ⟨hi1, h⟩ := h
  refine va_sld hx hb hX hbl hbA hc.1.2.2.2.2.2 hi1 dL_law_717 ?_
  refine lv_aload_n hx hb dL_law_718 rfl (lv_at hl 3 rfl) ?_
  refine l_calli (vx_runSW (As := [.ref r1, .int (xs (Int32.toNatClampNeg (i4 + 1))), .ref r3]) (rest := []) CF (c_L_stateOf hflags h) (vx_cwSW (hh := [(0, 9, 12, 28)]) 3 hts gL_law_L_stateOf rfl rfl rfl (by decide +kernel) ⟨Nat.le_of_ble_eq_true rfl, Nat.le_of_ble_eq_true rfl⟩) hc.1.preS rfl rfl hl.1 rfl (lv_room (Nat.le_of_ble_eq_true rfl)) dL_law_719 ⟨(by show _ + 1 ≤ 601024; omega), (by show _ + 6 ≤ 7293034; omega)⟩) hc (fun x2 g3 H locs hq hc => ?_)
  replace h := hq
  refine W.widen (k := C + 1) (n := S + 6) (by omega) (by omega) ?_
  refine lv_istore (lv' := [(5, .int x2), (0, .ref b), (1, .ref r1), (2, .ref r2), (3, .ref r3), (4, .int i4)]) hx hb dL_law_722 hl (by decide) rfl (fun ls hl => ?_)
  refine lv_aload_n hx hb dL_law_724 rfl (lv_at hl 3 rfl) ?_
  refine lv_aload_n hx hb dL_law_725 rfl (lv_at hl 1 rfl) ?_
  refine lv_iload hx hb dL_law_726 (lv_at hl 5 rfl) ?_
  refine lv_iconst (v := 1) hx hb dL_law_728 (by decide) ?_
  refine lv_iadd hx hb dL_law_729 ?_
  obtain ⟨hi4, h⟩ := h
  refine va_sld hx hb hX hbl hbA hc.1.2.2.2.2.2 hi4 dL_law_730 ?_
  obtain ⟨hk5, h⟩ := h
  refine l_calli (va_runV (As := [.int (xs (Int32.toNatClampNeg (i4 + 1)))]) (rest := []) CF (c_X11_stateOf h) (cwV 1 hts gL_law_X11_stateOf rfl rfl rfl (by decide +kernel) ⟨Nat.le_of_ble_eq_true rfl, Nat.le_of_ble_eq_true rfl⟩) (hc.swap.1.preV hk5 rfl (by decide)) rfl rfl hl.1 rfl (lv_room (Nat.le_of_ble_eq_true rfl)) dL_law_731 ⟨(by show _ + 0 ≤ 601024; omega), (by show _ + 0 ≤ 7293034; omega)⟩) hc.swap (fun x6 g7 H locs hq hcs => ?_)
  have hc := hcs.swap
  replace h := hq
  refine lv_istore (lv' := [(6, .int x6), (5, .int x2), (0, .ref b), (1, .ref r1), (2, .ref r2), (3, .ref r3), (4, .int i4)]) hx hb dL_law_734 hl (by decide) rfl (fun ls hl => ?_)
  refine lv_aload_n hx hb dL_law_736 rfl (lv_at hl 4 rfl) ?_
  obtain ⟨hk8, h⟩ := h
  refine l_calli (va_runV (As := []) (rest := []) CF (c_X11_thrown h) (cwV 0 hts gL_law_X11_thrown rfl rfl rfl (by decide +kernel) ⟨Nat.le_of_ble_eq_true rfl, Nat.le_of_ble_eq_true rfl⟩) (hc.swap.1.preV hk8 rfl (by decide)) rfl rfl hl.1 rfl (lv_room (Nat.le_of_ble_eq_true rfl)) dL_law_737 ⟨(by show _ + 0 ≤ 601024; omega), (by show _ + 0 ≤ 7293034; omega)⟩) hc.swap (fun x9 g10 H locs hq hcs => ?_)
  have hc := hcs.swap
  obtain ⟨rfl, h⟩ := hq
  refine lv_iload hx hb dL_law_740 (lv_at hl 1 rfl) ?_
  refine lv_icmp_eq (tgt := 747) hx hb dL_law_742 (by decide) (fun c11 => ?_) (fun c11 => ?_)
  · replace h := h.1 c11
    refine lv_iload hx hb dL_law_747 (lv_at hl 1 rfl) ?_
    refine lv_if_ne (tgt := 764) hx hb dL_law_749 (by decide) (fun c12 => ?_) (fun c12 => ?_)
    · replace h := h.2 c12
      refine lv_goto (tgt := 2680) hx hb dL_law_764 (by decide) ?_
      refine lv_iinc (v := (i4 + 5)) (lv' := [(4, .int (i4 + 5)), (6, .int x6), (5, .int x2), (0, .ref b), (1, .ref r1), (2, .ref r2), (3, .ref r3)]) hx hb dL_law_2680 hl (k := 6) rfl rfl (by decide) rfl (fun ls hl => ?_)
      refine lv_goto (tgt := 23) hx hb dL_law_2683 (by decide) ?_
      refine W.widen (k := C + 80) (n := S + 2400) (by omega) (by omega) ?_
      exact hk g3 g7 (i4 + 5) h _ _ _ hc (lv_sub hl [3, 4, 5, 6, 0] rfl)
    · replace h := h.1 c12
      refine lv_aload_n hx hb dL_law_752 rfl (lv_at hl 5 rfl) ?_
      refine lv_iconst (v := 0) hx hb dL_law_753 (by decide) ?_
      obtain ⟨hk13, h⟩ := h
      obtain ⟨hi14, h⟩ := h
      refine g_lald CF hc.1 hk13 hi14 dL_law_754 ?_
      refine lv_iload hx hb dL_law_755 (lv_at hl 0 rfl) ?_
      refine lv_i2l hx hb dL_law_757 rfl ?_
      refine W.lcmp hx hb dL_law_758 ?_
      refine lv_if_eq (tgt := 764) hx hb dL_law_759 (by decide) (fun c15 => ?_) (fun c15 => ?_)
      · replace h := h.1 c15
        refine lv_goto (tgt := 2680) hx hb dL_law_764 (by decide) ?_
        refine lv_iinc (v := (i4 + 5)) (lv' := [(4, .int (i4 + 5)), (6, .int x6), (5, .int x2), (0, .ref b), (1, .ref r1), (2, .ref r2), (3, .ref r3)]) hx hb dL_law_2680 hl (k := 6) rfl rfl (by decide) rfl (fun ls hl => ?_)
        refine lv_goto (tgt := 23) hx hb dL_law_2683 (by decide) ?_
        refine W.widen (k := C + 80) (n := S + 2400) (by omega) (by omega) ?_
        exact hk g3 g7 (i4 + 5) h _ _ _ hc (lv_sub hl [3, 4, 5, 6, 0] rfl)
      · replace h := h.2 c15
        refine lv_iconst (v := 0) hx hb dL_law_762 (by decide) ?_
        exact h.elim
  · replace h := h.2 c11
    refine lv_iconst (v := 0) hx hb dL_law_745 (by decide) ?_
    exact h.elim
set_option maxHeartbeats 4000000 in
set_option maxRecDepth 100000 in
theorem c_L_case_767 {p : Program} {l : Launch} {e : Env} {s : State} {m : MethodId} {below : List Frame} {meth : Method} {c : Code} {b L : Nat} {xs : Nat → Int32} {D : va_G} {cA : Nat → ClassId} (hflags : l.stackTraces = false) (C0 : lw_At p s m meth c b L xs) {C S : Nat} (hC : C + 80 ≤ 601024) (hS : S + 2400 ≤ 7293034) {r1 r2 r3 : Nat} {k : gS → gS → Int32 → Prop} (hk : ∀ (gc gm : gS) (i4 : Int32), k gc gm i4 → ∀ (H : Heap) (locs : List Loc) (ls : Array Slot), gL D cA s gc gm H locs → lv_has ls 9 [(0, .ref b), (1, .ref r1), (2, .ref r2), (3, .ref r3), (4, .int i4)] → W p l e room_1 s m #[Value.ref b] below meth c H locs (C + 80) (S + 2400) (lw_Z below #[Value.ref b] s) (F0 m 23 ls [])) (gc gm : gS) (i4 : Int32) (h : b_L_law_767 xs L r1 r2 r3 gc gm i4 k) (H : Heap) (locs : List Loc) (ls : Array Slot) (hc : gL D cA s gc gm H locs) (hl : lv_has ls 9 [(0, .ref b), (1, .ref r1), (2, .ref r2), (3, .ref r3), (4, .int i4)]) : W p l e room_1 s m #[Value.ref b] below meth c H locs C S (lw_Z below #[Value.ref b] s) (F0 m 767 ls []) := by
  obtain ⟨hx, hb, hr, hml, hown, hts0, hX, hbl, hlk, hgv⟩ := id C0
  have hts : ∀ w ∈ wsL_law, w.before #[Value.ref b] s = true := fun w h => hts0 w (wsL_law_in w h)
  have CF : CallFix p m c cL_law 9 s #[Value.ref b] wsL_law RL := ⟨hx, hb, hml, hown, hts⟩
  have hbA : ¬ (fun q : Nat => s.heap.size ≤ q) b := Nat.not_le.mpr hbl
  unfold b_L_law_767 at h
  refine lv_aload_n hx hb dL_law_767 rfl (lv_at hl 1 rfl) ?_
  refine lv_aload_n hx hb dL_law_768 rfl (lv_at hl 0 rfl) ?_
  refine lv_iload hx hb dL_law_769 (lv_at hl 4 rfl) ?_
  refine lv_iconst (v := 1) hx hb dL_law_771 (by decide) ?_
  refine lv_iadd hx hb dL_law_772 ?_
  obtain ⟨hi1, h⟩ := h
  refine va_sld hx hb hX hbl hbA hc.1.2.2.2.2.2 hi1 dL_law_773 ?_
  refine lv_aload_n hx hb dL_law_774 rfl (lv_at hl 0 rfl) ?_
  refine lv_iload hx hb dL_law_775 (lv_at hl 4 rfl) ?_
  refine lv_iconst (v := 2) hx hb dL_law_777 (by decide) ?_
  refine lv_iadd hx hb dL_law_778 ?_
  obtain ⟨hi2, h⟩ := h
  refine va_sld hx hb hX hbl hbA hc.1.2.2.2.2.2 hi2 dL_law_779 ?_
  refine lv_aload_n hx hb dL_law_780 rfl (lv_at hl 0 rfl) ?_
  refine lv_iload hx hb dL_law_781 (lv_at hl 4 rfl) ?_
  refine lv_iconst (v := 3) hx hb dL_law_783 (by decide) ?_
  refine lv_iadd hx hb dL_law_784 ?_
  obtain ⟨hi3, h⟩ := h
  refine va_sld hx hb hX hbl hbA hc.1.2.2.2.2.2 hi3 dL_law_785 ?_
  refine lv_aload_n hx hb dL_law_786 rfl (lv_at hl 3 rfl) ?_
  refine l_calli (vx_runSW (As := [.ref r1, .int (xs (Int32.toNatClampNeg (i4 + 1))), .int (xs (Int32.toNatClampNeg (i4 + 2))), .int (xs (Int32.toNatClampNeg (i4 + 3))), .ref r3]) (rest := []) CF (c_L_termAt hflags h) (vx_cwSW (hh := [(0, 12, 15, 28)]) 5 hts gL_law_L_termAt rfl rfl rfl (by decide +kernel) ⟨Nat.le_of_ble_eq_true rfl, Nat.le_of_ble_eq_true rfl⟩) hc.1.preS rfl rfl hl.1 rfl (lv_room (Nat.le_of_ble_eq_true rfl)) dL_law_787 ⟨(by show _ + 1 ≤ 601024; omega), (by show _ + 6 ≤ 7293034; omega)⟩) hc (fun x4 g5 H locs hq hc => ?_)
  replace h := hq
  refine W.widen (k := C + 1) (n := S + 6) (by omega) (by omega) ?_
  refine lv_istore (lv' := [(5, .int x4), (0, .ref b), (1, .ref r1), (2, .ref r2), (3, .ref r3), (4, .int i4)]) hx hb dL_law_790 hl (by decide) rfl (fun ls hl => ?_)
  refine lv_aload_n hx hb dL_law_792 rfl (lv_at hl 3 rfl) ?_
  refine lv_aload_n hx hb dL_law_793 rfl (lv_at hl 1 rfl) ?_
  refine lv_iload hx hb dL_law_794 (lv_at hl 5 rfl) ?_
  refine lv_iconst (v := 1) hx hb dL_law_796 (by decide) ?_
  refine lv_iadd hx hb dL_law_797 ?_
  obtain ⟨hi6, h⟩ := h
  refine va_sld hx hb hX hbl hbA hc.1.2.2.2.2.2 hi6 dL_law_798 ?_
  refine lv_aload_n hx hb dL_law_799 rfl (lv_at hl 1 rfl) ?_
  refine lv_iload hx hb dL_law_800 (lv_at hl 5 rfl) ?_
  refine lv_iconst (v := 2) hx hb dL_law_802 (by decide) ?_
  refine lv_iadd hx hb dL_law_803 ?_
  obtain ⟨hi7, h⟩ := h
  refine va_sld hx hb hX hbl hbA hc.1.2.2.2.2.2 hi7 dL_law_804 ?_
  refine lv_aload_n hx hb dL_law_805 rfl (lv_at hl 1 rfl) ?_
  refine lv_iload hx hb dL_law_806 (lv_at hl 5 rfl) ?_
  refine lv_iconst (v := 3) hx hb dL_law_808 (by decide) ?_
  refine lv_iadd hx hb dL_law_809 ?_
  obtain ⟨hi8, h⟩ := h
  refine va_sld hx hb hX hbl hbA hc.1.2.2.2.2.2 hi8 dL_law_810 ?_
  obtain ⟨hk9, h⟩ := h
  refine l_calli (va_runV (As := [.int (xs (Int32.toNatClampNeg (i4 + 1))), .int (xs (Int32.toNatClampNeg (i4 + 2))), .int (xs (Int32.toNatClampNeg (i4 + 3)))]) (rest := []) CF (c_X11_termAt h) (cwV 3 hts gL_law_X11_termAt rfl rfl rfl (by decide +kernel) ⟨Nat.le_of_ble_eq_true rfl, Nat.le_of_ble_eq_true rfl⟩) (hc.swap.1.preV hk9 rfl (by decide)) rfl rfl hl.1 rfl (lv_room (Nat.le_of_ble_eq_true rfl)) dL_law_811 ⟨(by show _ + 0 ≤ 601024; omega), (by show _ + 0 ≤ 7293034; omega)⟩) hc.swap (fun x10 g11 H locs hq hcs => ?_)
  have hc := hcs.swap
  replace h := hq
  refine lv_istore (lv' := [(6, .int x10), (5, .int x4), (0, .ref b), (1, .ref r1), (2, .ref r2), (3, .ref r3), (4, .int i4)]) hx hb dL_law_814 hl (by decide) rfl (fun ls hl => ?_)
  refine lv_aload_n hx hb dL_law_816 rfl (lv_at hl 4 rfl) ?_
  obtain ⟨hk12, h⟩ := h
  refine l_calli (va_runV (As := []) (rest := []) CF (c_X11_thrown h) (cwV 0 hts gL_law_X11_thrown rfl rfl rfl (by decide +kernel) ⟨Nat.le_of_ble_eq_true rfl, Nat.le_of_ble_eq_true rfl⟩) (hc.swap.1.preV hk12 rfl (by decide)) rfl rfl hl.1 rfl (lv_room (Nat.le_of_ble_eq_true rfl)) dL_law_817 ⟨(by show _ + 0 ≤ 601024; omega), (by show _ + 0 ≤ 7293034; omega)⟩) hc.swap (fun x13 g14 H locs hq hcs => ?_)
  have hc := hcs.swap
  obtain ⟨rfl, h⟩ := hq
  refine lv_iload hx hb dL_law_820 (lv_at hl 1 rfl) ?_
  refine lv_icmp_eq (tgt := 827) hx hb dL_law_822 (by decide) (fun c15 => ?_) (fun c15 => ?_)
  · replace h := h.1 c15
    refine lv_iload hx hb dL_law_827 (lv_at hl 1 rfl) ?_
    refine lv_if_ne (tgt := 844) hx hb dL_law_829 (by decide) (fun c16 => ?_) (fun c16 => ?_)
    · replace h := h.2 c16
      refine lv_goto (tgt := 2680) hx hb dL_law_844 (by decide) ?_
      refine lv_iinc (v := (i4 + 5)) (lv' := [(4, .int (i4 + 5)), (6, .int x10), (5, .int x4), (0, .ref b), (1, .ref r1), (2, .ref r2), (3, .ref r3)]) hx hb dL_law_2680 hl (k := 6) rfl rfl (by decide) rfl (fun ls hl => ?_)
      refine lv_goto (tgt := 23) hx hb dL_law_2683 (by decide) ?_
      refine W.widen (k := C + 80) (n := S + 2400) (by omega) (by omega) ?_
      exact hk g5 g11 (i4 + 5) h _ _ _ hc (lv_sub hl [3, 4, 5, 6, 0] rfl)
    · replace h := h.1 c16
      refine lv_aload_n hx hb dL_law_832 rfl (lv_at hl 5 rfl) ?_
      refine lv_iconst (v := 0) hx hb dL_law_833 (by decide) ?_
      obtain ⟨hk17, h⟩ := h
      obtain ⟨hi18, h⟩ := h
      refine g_lald CF hc.1 hk17 hi18 dL_law_834 ?_
      refine lv_iload hx hb dL_law_835 (lv_at hl 0 rfl) ?_
      refine lv_i2l hx hb dL_law_837 rfl ?_
      refine W.lcmp hx hb dL_law_838 ?_
      refine lv_if_eq (tgt := 844) hx hb dL_law_839 (by decide) (fun c19 => ?_) (fun c19 => ?_)
      · replace h := h.1 c19
        refine lv_goto (tgt := 2680) hx hb dL_law_844 (by decide) ?_
        refine lv_iinc (v := (i4 + 5)) (lv' := [(4, .int (i4 + 5)), (6, .int x10), (5, .int x4), (0, .ref b), (1, .ref r1), (2, .ref r2), (3, .ref r3)]) hx hb dL_law_2680 hl (k := 6) rfl rfl (by decide) rfl (fun ls hl => ?_)
        refine lv_goto (tgt := 23) hx hb dL_law_2683 (by decide) ?_
        refine W.widen (k := C + 80) (n := S + 2400) (by omega) (by omega) ?_
        exact hk g5 g11 (i4 + 5) h _ _ _ hc (lv_sub hl [3, 4, 5, 6, 0] rfl)
      · replace h := h.2 c19
        refine lv_iconst (v := 0) hx hb dL_law_842 (by decide) ?_
        exact h.elim
  · replace h := h.2 c15
    refine lv_iconst (v := 0) hx hb dL_law_825 (by decide) ?_
    exact h.elim
set_option maxHeartbeats 4000000 in
set_option maxRecDepth 100000 in
theorem c_L_case_847 {p : Program} {l : Launch} {e : Env} {s : State} {m : MethodId} {below : List Frame} {meth : Method} {c : Code} {b L : Nat} {xs : Nat → Int32} {D : va_G} {cA : Nat → ClassId} (hflags : l.stackTraces = false) (C0 : lw_At p s m meth c b L xs) {C S : Nat} (hC : C + 80 ≤ 601024) (hS : S + 2400 ≤ 7293034) {r1 r2 r3 : Nat} {k : gS → gS → Int32 → Prop} (hk : ∀ (gc gm : gS) (i4 : Int32), k gc gm i4 → ∀ (H : Heap) (locs : List Loc) (ls : Array Slot), gL D cA s gc gm H locs → lv_has ls 9 [(0, .ref b), (1, .ref r1), (2, .ref r2), (3, .ref r3), (4, .int i4)] → W p l e room_1 s m #[Value.ref b] below meth c H locs (C + 80) (S + 2400) (lw_Z below #[Value.ref b] s) (F0 m 23 ls [])) (gc gm : gS) (i4 : Int32) (h : b_L_law_847 xs L r1 r2 r3 gc gm i4 k) (H : Heap) (locs : List Loc) (ls : Array Slot) (hc : gL D cA s gc gm H locs) (hl : lv_has ls 9 [(0, .ref b), (1, .ref r1), (2, .ref r2), (3, .ref r3), (4, .int i4)]) : W p l e room_1 s m #[Value.ref b] below meth c H locs C S (lw_Z below #[Value.ref b] s) (F0 m 847 ls []) := by
  obtain ⟨hx, hb, hr, hml, hown, hts0, hX, hbl, hlk, hgv⟩ := id C0
  have hts : ∀ w ∈ wsL_law, w.before #[Value.ref b] s = true := fun w h => hts0 w (wsL_law_in w h)
  have CF : CallFix p m c cL_law 9 s #[Value.ref b] wsL_law RL := ⟨hx, hb, hml, hown, hts⟩
  have hbA : ¬ (fun q : Nat => s.heap.size ≤ q) b := Nat.not_le.mpr hbl
  unfold b_L_law_847 at h
  refine lv_aload_n hx hb dL_law_847 rfl (lv_at hl 1 rfl) ?_
  obtain ⟨hk1, h⟩ := h
  refine l_calli (va_runV (As := []) (rest := []) CF (c_X10_flush h) (cwV 0 hts gL_law_X10_flush rfl rfl rfl (by decide +kernel) ⟨Nat.le_of_ble_eq_true rfl, Nat.le_of_ble_eq_true rfl⟩) (hc.1.preV hk1 rfl (by decide)) rfl rfl hl.1 rfl (lv_room (Nat.le_of_ble_eq_true rfl)) dL_law_848 ⟨(by show _ + 0 ≤ 601024; omega), (by show _ + 0 ≤ 7293034; omega)⟩) hc (fun x2 g3 H locs hq hc => ?_)
  replace h := hq
  refine lv_aload_n hx hb dL_law_851 rfl (lv_at hl 2 rfl) ?_
  obtain ⟨hk4, h⟩ := h
  refine l_calli (va_runV (As := []) (rest := [.int x2]) CF (c_X11_flush h) (cwV 0 hts gL_law_X11_flush rfl rfl rfl (by decide +kernel) ⟨Nat.le_of_ble_eq_true rfl, Nat.le_of_ble_eq_true rfl⟩) (hc.swap.1.preV hk4 rfl (by decide)) rfl rfl hl.1 rfl (lv_room (Nat.le_of_ble_eq_true rfl)) dL_law_852 ⟨(by show _ + 0 ≤ 601024; omega), (by show _ + 0 ≤ 7293034; omega)⟩) hc.swap (fun x5 g6 H locs hq hcs => ?_)
  have hc := hcs.swap
  replace h := hq
  refine lv_icmp_eq (tgt := 2680) hx hb dL_law_855 (by decide) (fun c7 => ?_) (fun c7 => ?_)
  · replace h := h.1 c7
    refine lv_iinc (v := (i4 + 5)) (lv' := [(4, .int (i4 + 5)), (0, .ref b), (1, .ref r1), (2, .ref r2), (3, .ref r3)]) hx hb dL_law_2680 hl (k := 4) rfl rfl (by decide) rfl (fun ls hl => ?_)
    refine lv_goto (tgt := 23) hx hb dL_law_2683 (by decide) ?_
    refine W.widen (k := C + 80) (n := S + 2400) (by omega) (by omega) ?_
    exact hk g3 g6 (i4 + 5) h _ _ _ hc (lv_sub hl [1, 2, 3, 4, 0] rfl)
  · replace h := h.2 c7
    refine lv_iconst (v := 0) hx hb dL_law_858 (by decide) ?_
    exact h.elim
set_option maxHeartbeats 4000000 in
set_option maxRecDepth 100000 in
theorem c_L_case_860 {p : Program} {l : Launch} {e : Env} {s : State} {m : MethodId} {below : List Frame} {meth : Method} {c : Code} {b L : Nat} {xs : Nat → Int32} {D : va_G} {cA : Nat → ClassId} (hflags : l.stackTraces = false) (C0 : lw_At p s m meth c b L xs) {C S : Nat} (hC : C + 80 ≤ 601024) (hS : S + 2400 ≤ 7293034) {r1 r2 r3 : Nat} {k : gS → gS → Int32 → Prop} (hk : ∀ (gc gm : gS) (i4 : Int32), k gc gm i4 → ∀ (H : Heap) (locs : List Loc) (ls : Array Slot), gL D cA s gc gm H locs → lv_has ls 9 [(0, .ref b), (1, .ref r1), (2, .ref r2), (3, .ref r3), (4, .int i4)] → W p l e room_1 s m #[Value.ref b] below meth c H locs (C + 80) (S + 2400) (lw_Z below #[Value.ref b] s) (F0 m 23 ls [])) (gc gm : gS) (i4 : Int32) (h : b_L_law_860 xs L r1 r2 r3 gc gm i4 k) (H : Heap) (locs : List Loc) (ls : Array Slot) (hc : gL D cA s gc gm H locs) (hl : lv_has ls 9 [(0, .ref b), (1, .ref r1), (2, .ref r2), (3, .ref r3), (4, .int i4)]) : W p l e room_1 s m #[Value.ref b] below meth c H locs C S (lw_Z below #[Value.ref b] s) (F0 m 860 ls []) := by
  obtain ⟨hx, hb, hr, hml, hown, hts0, hX, hbl, hlk, hgv⟩ := id C0
  have hts : ∀ w ∈ wsL_law, w.before #[Value.ref b] s = true := fun w h => hts0 w (wsL_law_in w h)
  have CF : CallFix p m c cL_law 9 s #[Value.ref b] wsL_law RL := ⟨hx, hb, hml, hown, hts⟩
  have hbA : ¬ (fun q : Nat => s.heap.size ≤ q) b := Nat.not_le.mpr hbl
  unfold b_L_law_860 at h
  refine lv_aload_n hx hb dL_law_860 rfl (lv_at hl 1 rfl) ?_
  obtain ⟨hk1, h⟩ := h
  refine l_calli (va_runV (As := []) (rest := []) CF (c_X10_compact h) (cwV 0 hts gL_law_X10_compact rfl rfl rfl (by decide +kernel) ⟨Nat.le_of_ble_eq_true rfl, Nat.le_of_ble_eq_true rfl⟩) (hc.1.preV hk1 rfl (by decide)) rfl rfl hl.1 rfl (lv_room (Nat.le_of_ble_eq_true rfl)) dL_law_861 ⟨(by show _ + 0 ≤ 601024; omega), (by show _ + 0 ≤ 7293034; omega)⟩) hc (fun x2 g3 H locs hq hc => ?_)
  replace h := hq
  refine lv_aload_n hx hb dL_law_864 rfl (lv_at hl 2 rfl) ?_
  obtain ⟨hk4, h⟩ := h
  refine l_calli (va_runV (As := []) (rest := [.int x2]) CF (c_X11_compact h) (cwV 0 hts gL_law_X11_compact rfl rfl rfl (by decide +kernel) ⟨Nat.le_of_ble_eq_true rfl, Nat.le_of_ble_eq_true rfl⟩) (hc.swap.1.preV hk4 rfl (by decide)) rfl rfl hl.1 rfl (lv_room (Nat.le_of_ble_eq_true rfl)) dL_law_865 ⟨(by show _ + 0 ≤ 601024; omega), (by show _ + 0 ≤ 7293034; omega)⟩) hc.swap (fun x5 g6 H locs hq hcs => ?_)
  have hc := hcs.swap
  replace h := hq
  refine lv_icmp_eq (tgt := 2680) hx hb dL_law_868 (by decide) (fun c7 => ?_) (fun c7 => ?_)
  · replace h := h.1 c7
    refine lv_iinc (v := (i4 + 5)) (lv' := [(4, .int (i4 + 5)), (0, .ref b), (1, .ref r1), (2, .ref r2), (3, .ref r3)]) hx hb dL_law_2680 hl (k := 4) rfl rfl (by decide) rfl (fun ls hl => ?_)
    refine lv_goto (tgt := 23) hx hb dL_law_2683 (by decide) ?_
    refine W.widen (k := C + 80) (n := S + 2400) (by omega) (by omega) ?_
    exact hk g3 g6 (i4 + 5) h _ _ _ hc (lv_sub hl [1, 2, 3, 4, 0] rfl)
  · replace h := h.2 c7
    refine lv_iconst (v := 0) hx hb dL_law_871 (by decide) ?_
    exact h.elim
set_option maxHeartbeats 4000000 in
set_option maxRecDepth 100000 in
theorem c_L_case_873 {p : Program} {l : Launch} {e : Env} {s : State} {m : MethodId} {below : List Frame} {meth : Method} {c : Code} {b L : Nat} {xs : Nat → Int32} {D : va_G} {cA : Nat → ClassId} (hflags : l.stackTraces = false) (C0 : lw_At p s m meth c b L xs) {C S : Nat} (hC : C + 80 ≤ 601024) (hS : S + 2400 ≤ 7293034) {r1 r2 r3 : Nat} {k : gS → gS → Int32 → Prop} (hk : ∀ (gc gm : gS) (i4 : Int32), k gc gm i4 → ∀ (H : Heap) (locs : List Loc) (ls : Array Slot), gL D cA s gc gm H locs → lv_has ls 9 [(0, .ref b), (1, .ref r1), (2, .ref r2), (3, .ref r3), (4, .int i4)] → W p l e room_1 s m #[Value.ref b] below meth c H locs (C + 80) (S + 2400) (lw_Z below #[Value.ref b] s) (F0 m 23 ls [])) (gc gm : gS) (i4 : Int32) (h : b_L_law_873 xs L r1 r2 r3 gc gm i4 k) (H : Heap) (locs : List Loc) (ls : Array Slot) (hc : gL D cA s gc gm H locs) (hl : lv_has ls 9 [(0, .ref b), (1, .ref r1), (2, .ref r2), (3, .ref r3), (4, .int i4)]) : W p l e room_1 s m #[Value.ref b] below meth c H locs C S (lw_Z below #[Value.ref b] s) (F0 m 873 ls []) := by
  obtain ⟨hx, hb, hr, hml, hown, hts0, hX, hbl, hlk, hgv⟩ := id C0
  have hts : ∀ w ∈ wsL_law, w.before #[Value.ref b] s = true := fun w h => hts0 w (wsL_law_in w h)
  have CF : CallFix p m c cL_law 9 s #[Value.ref b] wsL_law RL := ⟨hx, hb, hml, hown, hts⟩
  have hbA : ¬ (fun q : Nat => s.heap.size ≤ q) b := Nat.not_le.mpr hbl
  unfold b_L_law_873 at h
  refine lv_aload_n hx hb dL_law_873 rfl (lv_at hl 1 rfl) ?_
  obtain ⟨hk1, h⟩ := h
  refine l_calli (va_runV (As := []) (rest := []) CF (c_X10_segments h) (cwV 0 hts gL_law_X10_segments rfl rfl rfl (by decide +kernel) ⟨Nat.le_of_ble_eq_true rfl, Nat.le_of_ble_eq_true rfl⟩) (hc.1.preV hk1 rfl (by decide)) rfl rfl hl.1 rfl (lv_room (Nat.le_of_ble_eq_true rfl)) dL_law_874 ⟨(by show _ + 0 ≤ 601024; omega), (by show _ + 0 ≤ 7293034; omega)⟩) hc (fun x2 g3 H locs hq hc => ?_)
  obtain ⟨rfl, h⟩ := hq
  refine lv_aload_n hx hb dL_law_877 rfl (lv_at hl 2 rfl) ?_
  obtain ⟨hk4, h⟩ := h
  refine l_calli (va_runV (As := []) (rest := [.int x2]) CF (c_X11_segments h) (cwV 0 hts gL_law_X11_segments rfl rfl rfl (by decide +kernel) ⟨Nat.le_of_ble_eq_true rfl, Nat.le_of_ble_eq_true rfl⟩) (hc.swap.1.preV hk4 rfl (by decide)) rfl rfl hl.1 rfl (lv_room (Nat.le_of_ble_eq_true rfl)) dL_law_878 ⟨(by show _ + 0 ≤ 601024; omega), (by show _ + 0 ≤ 7293034; omega)⟩) hc.swap (fun x5 g6 H locs hq hcs => ?_)
  have hc := hcs.swap
  replace h := hq
  refine lv_icmp_eq (tgt := 2680) hx hb dL_law_881 (by decide) (fun c7 => ?_) (fun c7 => ?_)
  · replace h := h.1 c7
    refine lv_iinc (v := (i4 + 5)) (lv' := [(4, .int (i4 + 5)), (0, .ref b), (1, .ref r1), (2, .ref r2), (3, .ref r3)]) hx hb dL_law_2680 hl (k := 4) rfl rfl (by decide) rfl (fun ls hl => ?_)
    refine lv_goto (tgt := 23) hx hb dL_law_2683 (by decide) ?_
    refine W.widen (k := C + 80) (n := S + 2400) (by omega) (by omega) ?_
    exact hk gc g6 (i4 + 5) h _ _ _ hc (lv_sub hl [1, 2, 3, 4, 0] rfl)
  · replace h := h.2 c7
    refine lv_iconst (v := 0) hx hb dL_law_884 (by decide) ?_
    exact h.elim
set_option maxHeartbeats 4000000 in
set_option maxRecDepth 100000 in
theorem c_L_case_886 {p : Program} {l : Launch} {e : Env} {s : State} {m : MethodId} {below : List Frame} {meth : Method} {c : Code} {b L : Nat} {xs : Nat → Int32} {D : va_G} {cA : Nat → ClassId} (hflags : l.stackTraces = false) (C0 : lw_At p s m meth c b L xs) {C S : Nat} (hC : C + 80 ≤ 601024) (hS : S + 2400 ≤ 7293034) {r1 r2 r3 : Nat} {k : gS → gS → Int32 → Prop} (hk : ∀ (gc gm : gS) (i4 : Int32), k gc gm i4 → ∀ (H : Heap) (locs : List Loc) (ls : Array Slot), gL D cA s gc gm H locs → lv_has ls 9 [(0, .ref b), (1, .ref r1), (2, .ref r2), (3, .ref r3), (4, .int i4)] → W p l e room_1 s m #[Value.ref b] below meth c H locs (C + 80) (S + 2400) (lw_Z below #[Value.ref b] s) (F0 m 23 ls [])) (gc gm : gS) (i4 : Int32) (h : b_L_law_886 xs L r1 r2 r3 gc gm i4 k) (H : Heap) (locs : List Loc) (ls : Array Slot) (hc : gL D cA s gc gm H locs) (hl : lv_has ls 9 [(0, .ref b), (1, .ref r1), (2, .ref r2), (3, .ref r3), (4, .int i4)]) : W p l e room_1 s m #[Value.ref b] below meth c H locs C S (lw_Z below #[Value.ref b] s) (F0 m 886 ls []) := by
  obtain ⟨hx, hb, hr, hml, hown, hts0, hX, hbl, hlk, hgv⟩ := id C0
  have hts : ∀ w ∈ wsL_law, w.before #[Value.ref b] s = true := fun w h => hts0 w (wsL_law_in w h)
  have CF : CallFix p m c cL_law 9 s #[Value.ref b] wsL_law RL := ⟨hx, hb, hml, hown, hts⟩
  have hbA : ¬ (fun q : Nat => s.heap.size ≤ q) b := Nat.not_le.mpr hbl
  unfold b_L_law_886 at h
  refine lv_aload_n hx hb dL_law_886 rfl (lv_at hl 1 rfl) ?_
  refine lv_aload_n hx hb dL_law_887 rfl (lv_at hl 0 rfl) ?_
  refine lv_iload hx hb dL_law_888 (lv_at hl 4 rfl) ?_
  refine lv_iconst (v := 1) hx hb dL_law_890 (by decide) ?_
  refine lv_iadd hx hb dL_law_891 ?_
  obtain ⟨hi1, h⟩ := h
  refine va_sld hx hb hX hbl hbA hc.1.2.2.2.2.2 hi1 dL_law_892 ?_
  refine lv_aload_n hx hb dL_law_893 rfl (lv_at hl 3 rfl) ?_
  refine l_calli (vx_runSW (As := [.ref r1, .int (xs (Int32.toNatClampNeg (i4 + 1))), .ref r3]) (rest := []) CF (c_L_tierOf hflags h) (vx_cwSW (hh := [(0, 9, 12, 28)]) 3 hts gL_law_L_tierOf rfl rfl rfl (by decide +kernel) ⟨Nat.le_of_ble_eq_true rfl, Nat.le_of_ble_eq_true rfl⟩) hc.1.preS rfl rfl hl.1 rfl (lv_room (Nat.le_of_ble_eq_true rfl)) dL_law_894 ⟨(by show _ + 1 ≤ 601024; omega), (by show _ + 6 ≤ 7293034; omega)⟩) hc (fun x2 g3 H locs hq hc => ?_)
  replace h := hq
  refine W.widen (k := C + 1) (n := S + 6) (by omega) (by omega) ?_
  refine lv_istore (lv' := [(5, .int x2), (0, .ref b), (1, .ref r1), (2, .ref r2), (3, .ref r3), (4, .int i4)]) hx hb dL_law_897 hl (by decide) rfl (fun ls hl => ?_)
  refine lv_aload_n hx hb dL_law_899 rfl (lv_at hl 3 rfl) ?_
  refine lv_aload_n hx hb dL_law_900 rfl (lv_at hl 1 rfl) ?_
  refine lv_iload hx hb dL_law_901 (lv_at hl 5 rfl) ?_
  refine lv_iconst (v := 1) hx hb dL_law_903 (by decide) ?_
  refine lv_iadd hx hb dL_law_904 ?_
  obtain ⟨hi4, h⟩ := h
  refine va_sld hx hb hX hbl hbA hc.1.2.2.2.2.2 hi4 dL_law_905 ?_
  obtain ⟨hk5, h⟩ := h
  refine l_calli (va_runV (As := [.int (xs (Int32.toNatClampNeg (i4 + 1)))]) (rest := []) CF (c_X11_tierOf h) (cwV 1 hts gL_law_X11_tierOf rfl rfl rfl (by decide +kernel) ⟨Nat.le_of_ble_eq_true rfl, Nat.le_of_ble_eq_true rfl⟩) (hc.swap.1.preV hk5 rfl (by decide)) rfl rfl hl.1 rfl (lv_room (Nat.le_of_ble_eq_true rfl)) dL_law_906 ⟨(by show _ + 0 ≤ 601024; omega), (by show _ + 0 ≤ 7293034; omega)⟩) hc.swap (fun x6 g7 H locs hq hcs => ?_)
  have hc := hcs.swap
  replace h := hq
  refine lv_istore (lv' := [(6, .int x6), (5, .int x2), (0, .ref b), (1, .ref r1), (2, .ref r2), (3, .ref r3), (4, .int i4)]) hx hb dL_law_909 hl (by decide) rfl (fun ls hl => ?_)
  refine lv_aload_n hx hb dL_law_911 rfl (lv_at hl 4 rfl) ?_
  obtain ⟨hk8, h⟩ := h
  refine l_calli (va_runV (As := []) (rest := []) CF (c_X11_thrown h) (cwV 0 hts gL_law_X11_thrown rfl rfl rfl (by decide +kernel) ⟨Nat.le_of_ble_eq_true rfl, Nat.le_of_ble_eq_true rfl⟩) (hc.swap.1.preV hk8 rfl (by decide)) rfl rfl hl.1 rfl (lv_room (Nat.le_of_ble_eq_true rfl)) dL_law_912 ⟨(by show _ + 0 ≤ 601024; omega), (by show _ + 0 ≤ 7293034; omega)⟩) hc.swap (fun x9 g10 H locs hq hcs => ?_)
  have hc := hcs.swap
  obtain ⟨rfl, h⟩ := hq
  refine lv_iload hx hb dL_law_915 (lv_at hl 1 rfl) ?_
  refine lv_icmp_eq (tgt := 922) hx hb dL_law_917 (by decide) (fun c11 => ?_) (fun c11 => ?_)
  · replace h := h.1 c11
    refine lv_iload hx hb dL_law_922 (lv_at hl 1 rfl) ?_
    refine lv_if_ne (tgt := 939) hx hb dL_law_924 (by decide) (fun c12 => ?_) (fun c12 => ?_)
    · replace h := h.2 c12
      refine lv_goto (tgt := 2680) hx hb dL_law_939 (by decide) ?_
      refine lv_iinc (v := (i4 + 5)) (lv' := [(4, .int (i4 + 5)), (6, .int x6), (5, .int x2), (0, .ref b), (1, .ref r1), (2, .ref r2), (3, .ref r3)]) hx hb dL_law_2680 hl (k := 6) rfl rfl (by decide) rfl (fun ls hl => ?_)
      refine lv_goto (tgt := 23) hx hb dL_law_2683 (by decide) ?_
      refine W.widen (k := C + 80) (n := S + 2400) (by omega) (by omega) ?_
      exact hk g3 g7 (i4 + 5) h _ _ _ hc (lv_sub hl [3, 4, 5, 6, 0] rfl)
    · replace h := h.1 c12
      refine lv_aload_n hx hb dL_law_927 rfl (lv_at hl 5 rfl) ?_
      refine lv_iconst (v := 0) hx hb dL_law_928 (by decide) ?_
      obtain ⟨hk13, h⟩ := h
      obtain ⟨hi14, h⟩ := h
      refine g_lald CF hc.1 hk13 hi14 dL_law_929 ?_
      refine lv_iload hx hb dL_law_930 (lv_at hl 0 rfl) ?_
      refine lv_i2l hx hb dL_law_932 rfl ?_
      refine W.lcmp hx hb dL_law_933 ?_
      refine lv_if_eq (tgt := 939) hx hb dL_law_934 (by decide) (fun c15 => ?_) (fun c15 => ?_)
      · replace h := h.1 c15
        refine lv_goto (tgt := 2680) hx hb dL_law_939 (by decide) ?_
        refine lv_iinc (v := (i4 + 5)) (lv' := [(4, .int (i4 + 5)), (6, .int x6), (5, .int x2), (0, .ref b), (1, .ref r1), (2, .ref r2), (3, .ref r3)]) hx hb dL_law_2680 hl (k := 6) rfl rfl (by decide) rfl (fun ls hl => ?_)
        refine lv_goto (tgt := 23) hx hb dL_law_2683 (by decide) ?_
        refine W.widen (k := C + 80) (n := S + 2400) (by omega) (by omega) ?_
        exact hk g3 g7 (i4 + 5) h _ _ _ hc (lv_sub hl [3, 4, 5, 6, 0] rfl)
      · replace h := h.2 c15
        refine lv_iconst (v := 0) hx hb dL_law_937 (by decide) ?_
        exact h.elim
  · replace h := h.2 c11
    refine lv_iconst (v := 0) hx hb dL_law_920 (by decide) ?_
    exact h.elim
set_option maxHeartbeats 4000000 in
set_option maxRecDepth 100000 in
theorem c_L_case_942 {p : Program} {l : Launch} {e : Env} {s : State} {m : MethodId} {below : List Frame} {meth : Method} {c : Code} {b L : Nat} {xs : Nat → Int32} {D : va_G} {cA : Nat → ClassId} (hflags : l.stackTraces = false) (C0 : lw_At p s m meth c b L xs) {C S : Nat} (hC : C + 80 ≤ 601024) (hS : S + 2400 ≤ 7293034) {r1 r2 r3 : Nat} {k : gS → gS → Int32 → Prop} (hk : ∀ (gc gm : gS) (i4 : Int32), k gc gm i4 → ∀ (H : Heap) (locs : List Loc) (ls : Array Slot), gL D cA s gc gm H locs → lv_has ls 9 [(0, .ref b), (1, .ref r1), (2, .ref r2), (3, .ref r3), (4, .int i4)] → W p l e room_1 s m #[Value.ref b] below meth c H locs (C + 80) (S + 2400) (lw_Z below #[Value.ref b] s) (F0 m 23 ls [])) (gc gm : gS) (i4 : Int32) (h : b_L_law_942 xs L r1 r2 r3 gc gm i4 k) (H : Heap) (locs : List Loc) (ls : Array Slot) (hc : gL D cA s gc gm H locs) (hl : lv_has ls 9 [(0, .ref b), (1, .ref r1), (2, .ref r2), (3, .ref r3), (4, .int i4)]) : W p l e room_1 s m #[Value.ref b] below meth c H locs C S (lw_Z below #[Value.ref b] s) (F0 m 942 ls []) := by
  obtain ⟨hx, hb, hr, hml, hown, hts0, hX, hbl, hlk, hgv⟩ := id C0
  have hts : ∀ w ∈ wsL_law, w.before #[Value.ref b] s = true := fun w h => hts0 w (wsL_law_in w h)
  have CF : CallFix p m c cL_law 9 s #[Value.ref b] wsL_law RL := ⟨hx, hb, hml, hown, hts⟩
  have hbA : ¬ (fun q : Nat => s.heap.size ≤ q) b := Nat.not_le.mpr hbl
  unfold b_L_law_942 at h
  refine lv_aload_n hx hb dL_law_942 rfl (lv_at hl 1 rfl) ?_
  refine lv_aload_n hx hb dL_law_943 rfl (lv_at hl 0 rfl) ?_
  refine lv_iload hx hb dL_law_944 (lv_at hl 4 rfl) ?_
  refine lv_iconst (v := 1) hx hb dL_law_946 (by decide) ?_
  refine lv_iadd hx hb dL_law_947 ?_
  obtain ⟨hi1, h⟩ := h
  refine va_sld hx hb hX hbl hbA hc.1.2.2.2.2.2 hi1 dL_law_948 ?_
  refine lv_aload_n hx hb dL_law_949 rfl (lv_at hl 3 rfl) ?_
  refine l_calli (vx_runSW (As := [.ref r1, .int (xs (Int32.toNatClampNeg (i4 + 1))), .ref r3]) (rest := []) CF (c_L_sizeOf hflags h) (vx_cwSW (hh := [(0, 9, 12, 28)]) 3 hts gL_law_L_sizeOf rfl rfl rfl (by decide +kernel) ⟨Nat.le_of_ble_eq_true rfl, Nat.le_of_ble_eq_true rfl⟩) hc.1.preS rfl rfl hl.1 rfl (lv_room (Nat.le_of_ble_eq_true rfl)) dL_law_950 ⟨(by show _ + 1 ≤ 601024; omega), (by show _ + 6 ≤ 7293034; omega)⟩) hc (fun x2 g3 H locs hq hc => ?_)
  replace h := hq
  refine W.widen (k := C + 1) (n := S + 6) (by omega) (by omega) ?_
  refine lv_istore (lv' := [(5, .int x2), (0, .ref b), (1, .ref r1), (2, .ref r2), (3, .ref r3), (4, .int i4)]) hx hb dL_law_953 hl (by decide) rfl (fun ls hl => ?_)
  refine lv_aload_n hx hb dL_law_955 rfl (lv_at hl 3 rfl) ?_
  refine lv_aload_n hx hb dL_law_956 rfl (lv_at hl 1 rfl) ?_
  refine lv_iload hx hb dL_law_957 (lv_at hl 5 rfl) ?_
  refine lv_iconst (v := 1) hx hb dL_law_959 (by decide) ?_
  refine lv_iadd hx hb dL_law_960 ?_
  obtain ⟨hi4, h⟩ := h
  refine va_sld hx hb hX hbl hbA hc.1.2.2.2.2.2 hi4 dL_law_961 ?_
  obtain ⟨hk5, h⟩ := h
  refine l_calli (va_runV (As := [.int (xs (Int32.toNatClampNeg (i4 + 1)))]) (rest := []) CF (c_X11_sizeOf h) (cwV 1 hts gL_law_X11_sizeOf rfl rfl rfl (by decide +kernel) ⟨Nat.le_of_ble_eq_true rfl, Nat.le_of_ble_eq_true rfl⟩) (hc.swap.1.preV hk5 rfl (by decide)) rfl rfl hl.1 rfl (lv_room (Nat.le_of_ble_eq_true rfl)) dL_law_962 ⟨(by show _ + 0 ≤ 601024; omega), (by show _ + 0 ≤ 7293034; omega)⟩) hc.swap (fun x6 g7 H locs hq hcs => ?_)
  have hc := hcs.swap
  replace h := hq
  refine lv_istore (lv' := [(6, .int x6), (5, .int x2), (0, .ref b), (1, .ref r1), (2, .ref r2), (3, .ref r3), (4, .int i4)]) hx hb dL_law_965 hl (by decide) rfl (fun ls hl => ?_)
  refine lv_aload_n hx hb dL_law_967 rfl (lv_at hl 4 rfl) ?_
  obtain ⟨hk8, h⟩ := h
  refine l_calli (va_runV (As := []) (rest := []) CF (c_X11_thrown h) (cwV 0 hts gL_law_X11_thrown rfl rfl rfl (by decide +kernel) ⟨Nat.le_of_ble_eq_true rfl, Nat.le_of_ble_eq_true rfl⟩) (hc.swap.1.preV hk8 rfl (by decide)) rfl rfl hl.1 rfl (lv_room (Nat.le_of_ble_eq_true rfl)) dL_law_968 ⟨(by show _ + 0 ≤ 601024; omega), (by show _ + 0 ≤ 7293034; omega)⟩) hc.swap (fun x9 g10 H locs hq hcs => ?_)
  have hc := hcs.swap
  obtain ⟨rfl, h⟩ := hq
  refine lv_iload hx hb dL_law_971 (lv_at hl 1 rfl) ?_
  refine lv_icmp_eq (tgt := 978) hx hb dL_law_973 (by decide) (fun c11 => ?_) (fun c11 => ?_)
  · replace h := h.1 c11
    refine lv_iload hx hb dL_law_978 (lv_at hl 1 rfl) ?_
    refine lv_if_ne (tgt := 995) hx hb dL_law_980 (by decide) (fun c12 => ?_) (fun c12 => ?_)
    · replace h := h.2 c12
      refine lv_goto (tgt := 2680) hx hb dL_law_995 (by decide) ?_
      refine lv_iinc (v := (i4 + 5)) (lv' := [(4, .int (i4 + 5)), (6, .int x6), (5, .int x2), (0, .ref b), (1, .ref r1), (2, .ref r2), (3, .ref r3)]) hx hb dL_law_2680 hl (k := 6) rfl rfl (by decide) rfl (fun ls hl => ?_)
      refine lv_goto (tgt := 23) hx hb dL_law_2683 (by decide) ?_
      refine W.widen (k := C + 80) (n := S + 2400) (by omega) (by omega) ?_
      exact hk g3 g7 (i4 + 5) h _ _ _ hc (lv_sub hl [3, 4, 5, 6, 0] rfl)
    · replace h := h.1 c12
      refine lv_aload_n hx hb dL_law_983 rfl (lv_at hl 5 rfl) ?_
      refine lv_iconst (v := 0) hx hb dL_law_984 (by decide) ?_
      obtain ⟨hk13, h⟩ := h
      obtain ⟨hi14, h⟩ := h
      refine g_lald CF hc.1 hk13 hi14 dL_law_985 ?_
      refine lv_iload hx hb dL_law_986 (lv_at hl 0 rfl) ?_
      refine lv_i2l hx hb dL_law_988 rfl ?_
      refine W.lcmp hx hb dL_law_989 ?_
      refine lv_if_eq (tgt := 995) hx hb dL_law_990 (by decide) (fun c15 => ?_) (fun c15 => ?_)
      · replace h := h.1 c15
        refine lv_goto (tgt := 2680) hx hb dL_law_995 (by decide) ?_
        refine lv_iinc (v := (i4 + 5)) (lv' := [(4, .int (i4 + 5)), (6, .int x6), (5, .int x2), (0, .ref b), (1, .ref r1), (2, .ref r2), (3, .ref r3)]) hx hb dL_law_2680 hl (k := 6) rfl rfl (by decide) rfl (fun ls hl => ?_)
        refine lv_goto (tgt := 23) hx hb dL_law_2683 (by decide) ?_
        refine W.widen (k := C + 80) (n := S + 2400) (by omega) (by omega) ?_
        exact hk g3 g7 (i4 + 5) h _ _ _ hc (lv_sub hl [3, 4, 5, 6, 0] rfl)
      · replace h := h.2 c15
        refine lv_iconst (v := 0) hx hb dL_law_993 (by decide) ?_
        exact h.elim
  · replace h := h.2 c11
    refine lv_iconst (v := 0) hx hb dL_law_976 (by decide) ?_
    exact h.elim
