def l_X11_digest_427 (r0 : Nat) (Q : Int64 → gS → Prop) (g : gS) (j1 : Int64) (i4 : Int32) (k427 : gS → Int64 → Int32 → Prop) : Prop :=
  gK g r0 = 12 ∧ (((gI g r0 1) ≤ i4 → (Q j1 g)) ∧ (¬ (gI g r0 1) ≤ i4 → (w_X11_likeNow g r0 i4 (fun x3 g4 => (k427 g4 ((j1 * 31) + x3.toInt64) (i4 + 1))))))
def l_X11_digest_397 (g : gS) (r0 : Nat) (Q : Int64 → gS → Prop) (j1 : Int64) (i4 : Int32) (k397 : Int64 → Int32 → Prop) : Prop :=
  (8 ≤ i4 → (lpx3 (l_X11_digest_427 r0 Q) g j1 0)) ∧ (¬ 8 ≤ i4 → (gK g r0 = 12 ∧ (w_X11_kindNow g r0 i4 (fun x8 => (k397 ((j1 * 31) + x8.toInt64) (i4 + 1))))))
def l_X11_digest_351 (g : gS) (r0 : Nat) (Q : Int64 → gS → Prop) (j1 : Int64) (i4 : Int32) (k351 : Int64 → Int32 → Prop) : Prop :=
  gK g r0 = 12 ∧ (((gI g r0 22) ≤ i4 → (lpx2 (l_X11_digest_397 g r0 Q) j1 0)) ∧ (¬ (gI g r0 22) ≤ i4 → (∃ y12, gR g r0 23 = some y12 ∧ (gK g y12 = 21 ∧ (vp_in i4 (gN g y12) ∧ (∃ y16, gR g r0 24 = some y16 ∧ (gK g y16 = 21 ∧ (vp_in i4 (gN g y16) ∧ (k351 ((((j1 * 31) + (gI g y12 (Int32.toNatClampNeg i4)).toInt64) * 31) + (gI g y16 (Int32.toNatClampNeg i4)).toInt64) (i4 + 1))))))))))
def l_X11_digest_300 (g : gS) (r0 : Nat) (r3 : Nat) (i4 : Int32) (Q : Int64 → gS → Prop) (k225 : gS → Int64 → Int32 → Prop) (j1 : Int64) (i6 : Int32) (k300 : Int64 → Int32 → Prop) : Prop :=
  gK g r0 = 12 ∧ (((gI g r0 1) ≤ i6 → (k225 g j1 (i4 + 1))) ∧ (¬ (gI g r0 1) ≤ i6 → (gK g r3 = 24 ∧ (vp_in i6 (gN g r3) ∧ (∃ y24, gR g r3 (Int32.toNatClampNeg i6) = some y24 ∧ (gK g y24 = 21 ∧ (vp_in i4 (gN g y24) ∧ (k300 ((j1 * 31) + (gI g y24 (Int32.toNatClampNeg i4)).toInt64) (i6 + 1)))))))))
def b_X11_digest_266 (g : gS) (r0 : Nat) (j1 : Int64) (r3 : Nat) (i4 : Int32) (i6 : Int32) (is0 : Int32) (is1 : Int32) (Q : Int64 → gS → Prop) (k225 : gS → Int64 → Int32 → Prop) (k240 : Int32 → Int32 → Prop) : Prop :=
  k240 (is0 + is1) (i6 + 1)
def l_X11_digest_240 (g : gS) (r0 : Nat) (j1 : Int64) (r3 : Nat) (i4 : Int32) (Q : Int64 → gS → Prop) (k225 : gS → Int64 → Int32 → Prop) (i5 : Int32) (i6 : Int32) (k240 : Int32 → Int32 → Prop) : Prop :=
  gK g r0 = 12 ∧ (((gI g r0 1) ≤ i6 → (w_X11_costNow g r0 i4 (fun x30 g31 => (lpx2 (l_X11_digest_300 g31 r0 r3 i4 Q k225) ((((j1 * 31) + i5.toInt64) * 31) + x30.toInt64) 0)))) ∧ (¬ (gI g r0 1) ≤ i6 → (gK g r3 = 24 ∧ (vp_in i6 (gN g r3) ∧ (∃ y35, gR g r3 (Int32.toNatClampNeg i6) = some y35 ∧ (gK g y35 = 21 ∧ (vp_in i4 (gN g y35) ∧ ((0 ≤ (gI g y35 (Int32.toNatClampNeg i4)) → (b_X11_digest_266 g r0 j1 r3 i4 i6 i5 1 Q k225 k240)) ∧ (¬ 0 ≤ (gI g y35 (Int32.toNatClampNeg i4)) → (b_X11_digest_266 g r0 j1 r3 i4 i6 i5 0 Q k225 k240))))))))))
def l_X11_digest_225 (r0 : Nat) (r3 : Nat) (Q : Int64 → gS → Prop) (g : gS) (j1 : Int64) (i4 : Int32) (k225 : gS → Int64 → Int32 → Prop) : Prop :=
  gK g r0 = 12 ∧ (((gI g r0 16) ≤ i4 → (lpx2 (l_X11_digest_351 g r0 Q) ((j1 * 31) + (gI g r0 22).toInt64) 0)) ∧ (¬ (gI g r0 16) ≤ i4 → (lpx2 (l_X11_digest_240 g r0 j1 r3 i4 Q k225) 0 0)))
def b_X11_digest_209 (g : gS) (r0 : Nat) (j1 : Int64) (r3 : Nat) (i4 : Int32) (i5 : Int32) (i6 : Int32) (rs0 : Nat) (is1 : Int32) (is2 : Int32) (Q : Int64 → gS → Prop) (k125 : gS → Int32 → Prop) (k178 : gS → Int32 → Prop) : Prop :=
  gK g rs0 = 21 ∧ (vp_in is1 (gN g rs0) ∧ (∀ g44, g44 = sU g rs0 (Int32.toNatClampNeg is1) is2 → (k178 g44 (i6 + 1))))
def l_X11_digest_178 (r0 : Nat) (j1 : Int64) (r3 : Nat) (i4 : Int32) (i5 : Int32) (Q : Int64 → gS → Prop) (k125 : gS → Int32 → Prop) (g : gS) (i6 : Int32) (k178 : gS → Int32 → Prop) : Prop :=
  gK g r0 = 12 ∧ (((gI g r0 16) ≤ i6 → (k125 g (i4 + 1))) ∧ (¬ (gI g r0 16) ≤ i6 → (gK g r3 = 24 ∧ (vp_in i4 (gN g r3) ∧ (∃ y50, gR g r3 (Int32.toNatClampNeg i4) = some y50 ∧ ((i5 = 0 → (b_X11_digest_209 g r0 j1 r3 i4 i5 i6 y50 i6 (-1) Q k125 k178)) ∧ (¬ i5 = 0 → (∃ y53, gR g r0 29 = some y53 ∧ (gK g y53 = 21 ∧ (vp_in i6 (gN g y53) ∧ (b_X11_digest_209 g r0 j1 r3 i4 i5 i6 y50 i6 (gI g y53 (Int32.toNatClampNeg i6)) Q k125 k178)))))))))))
def b_X11_digest_175 (g : gS) (r0 : Nat) (j1 : Int64) (r3 : Nat) (i4 : Int32) (i5 : Int32) (Q : Int64 → gS → Prop) (k125 : gS → Int32 → Prop) : Prop :=
  lpx2 (l_X11_digest_178 r0 j1 r3 i4 i5 Q k125) g 0
def b_X11_digest_155 (g : gS) (r0 : Nat) (j1 : Int64) (r3 : Nat) (i4 : Int32) (is0 : Int32) (Q : Int64 → gS → Prop) (k125 : gS → Int32 → Prop) : Prop :=
  (is0 = 0 → (b_X11_digest_175 g r0 j1 r3 i4 is0 Q k125)) ∧ (¬ is0 = 0 → (gK g r0 = 12 ∧ (w_X11_scoreNow g r0 ((gI g r0 16) - 1) i4 (fun x59 g60 => (b_X11_digest_175 g60 r0 j1 r3 i4 is0 Q k125)))))
def b_X11_digest_154 (g : gS) (r0 : Nat) (j1 : Int64) (r3 : Nat) (i4 : Int32) (Q : Int64 → gS → Prop) (k125 : gS → Int32 → Prop) : Prop :=
  b_X11_digest_155 g r0 j1 r3 i4 0 Q k125
def l_X11_digest_125 (r0 : Nat) (j1 : Int64) (r3 : Nat) (Q : Int64 → gS → Prop) (g : gS) (i4 : Int32) (k125 : gS → Int32 → Prop) : Prop :=
  gK g r0 = 12 ∧ (((gI g r0 1) ≤ i4 → (lpx3 (l_X11_digest_225 r0 r3 Q) g j1 0)) ∧ (¬ (gI g r0 1) ≤ i4 → (((gI g r0 16) ≤ 0 → (b_X11_digest_154 g r0 j1 r3 i4 Q k125)) ∧ (¬ (gI g r0 16) ≤ 0 → (w_X11_isThere g r0 i4 (fun x65 => ((x65 = 0 → (b_X11_digest_154 g r0 j1 r3 i4 Q k125)) ∧ (¬ x65 = 0 → (b_X11_digest_155 g r0 j1 r3 i4 1 Q k125)))))))))
def l_X11_digest_58 (g : gS) (r0 : Nat) (Q : Int64 → gS → Prop) (j1 : Int64) (i3 : Int32) (k58 : Int64 → Int32 → Prop) : Prop :=
  gK g r0 = 12 ∧ (((gI g r0 13) ≤ i3 → ((¬ (gI g r0 1) < 0 ∧ ¬ (gI g r0 16) < 0 ∧ (Int32.toNatClampNeg (gI g r0 1)) ≤ 60 ∧ (Int32.toNatClampNeg (gI g r0 16)) ≤ 30) ∧ (∀ q70 rr71, gFresh g q70 rr71 (Int32.toNatClampNeg (gI g r0 1)) → (∀ g74, g74 = sGrid g q70 rr71 (Int32.toNatClampNeg (gI g r0 1)) (Int32.toNatClampNeg (gI g r0 16)) → (lpx2 (l_X11_digest_125 r0 ((j1 * 31) + (gI g r0 16).toInt64) q70 Q) g74 0))))) ∧ (¬ (gI g r0 13) ≤ i3 → (∃ y76, gR g r0 14 = some y76 ∧ (gK g y76 = 21 ∧ (vp_in i3 (gN g y76) ∧ (w_X11_sizeNow g r0 i3 (fun x80 => (k58 ((((j1 * 31) + (gI g y76 (Int32.toNatClampNeg i3)).toInt64) * 31) + x80.toInt64) (i3 + 1)))))))))
def l_X11_digest_17 (g : gS) (r0 : Nat) (Q : Int64 → gS → Prop) (j1 : Int64) (i3 : Int32) (k17 : Int64 → Int32 → Prop) : Prop :=
  gK g r0 = 12 ∧ (((gI g r0 1) ≤ i3 → (lpx2 (l_X11_digest_58 g r0 Q) ((j1 * 31) + (gI g r0 13).toInt64) 0)) ∧ (¬ (gI g r0 1) ≤ i3 → (w_X11_stateNow g r0 i3 (fun x84 => (k17 ((j1 * 31) + x84.toInt64) (i3 + 1))))))
def w_X11_digest (g0 : gS) (p0 : Nat) (Q : Int64 → gS → Prop) : Prop :=
  gK g0 p0 = 12 ∧ (∀ g87, g87 = sU g0 p0 0 0 → (gK g87 p0 = 12 ∧ (lpx2 (l_X11_digest_17 g87 p0 Q) (80879 + (gI g87 p0 1).toInt64) 0)))
abbrev r_X11_digest : Room := { frames := 8, cells := 61, slots := 1860, locals := 190 }
set_option maxHeartbeats 4000000 in
set_option maxRecDepth 100000 in
theorem c_X11_digest {l : Launch} {D : va_G} {cA : Nat → ClassId} {sz : Nat} {g0 : gS} {p0 : Nat} {Q : Int64 → gS → Prop} (h : w_X11_digest g0 p0 Q) : Met l yX11_digest wsX11_digest r_X11_digest (va_Pc [.ref p0] (gPre D cA g0 sz)) (gQl D cA g0 sz (Q)) 61 1860 (gA g0 sz) := by
  refine g_met (cc := cX11_digest) (maxL := 7) (ret := (some .long)) (own := RX11) (by decide) rfl rfl (Nat.le_of_ble_eq_true rfl) ?_
  intro p e s m args below meth c ls CF hr hlk hnm hc hl
  obtain ⟨hx, hb, hml, hown, hts⟩ := id CF
  have hl : lv_has ls 7 [(0, .ref p0)] := hl
  show W p l e r_X11_digest s m args below meth c s.heap [] 0 0 (MQ below (gQl D cA g0 sz (Q)) args s 61 1860 (gA g0 sz)) (F0 m 0 ls [])
  have hb_427 : ∀ (r0 : Nat), ∀ (g : gS) (j1 : Int64) (i4 : Int32), lpx3 (l_X11_digest_427 r0 Q) g j1 i4 → ∀ (H : Heap) (locs : List Loc) (ls : Array Slot), gC D cA (gA g0 sz) s g H locs → lv_has ls 7 [(0, .ref r0), (1, .long j1), (4, .int i4)] → W p l e r_X11_digest s m args below meth c H locs 61 1860 (MQ below (gQl D cA g0 sz (Q)) args s 61 1860 (gA g0 sz)) (F0 m 427 ls []) := by
    intro r0
    refine lpx3_run (P := fun (g : gS) (j1 : Int64) (i4 : Int32) => ∀ (H : Heap) (locs : List Loc) (ls : Array Slot), gC D cA (gA g0 sz) s g H locs → lv_has ls 7 [(0, .ref r0), (1, .long j1), (4, .int i4)] → W p l e r_X11_digest s m args below meth c H locs 61 1860 (MQ below (gQl D cA g0 sz (Q)) args s 61 1860 (gA g0 sz)) (F0 m 427 ls [])) ?_
    intro k427 hk_427 g j1 i4 h H locs ls hc hl
    unfold l_X11_digest_427 at h
    refine lv_iload hx hb dX11_digest_427 (lv_at hl 2 rfl) ?_
    refine lv_aload_n hx hb dX11_digest_429 rfl (lv_at hl 0 rfl) ?_
    obtain ⟨hk1, h⟩ := h
    refine g_get CF hc hk1 rfl (by decide) (fun _ h9 => List.mem_cons_of_mem _ (List.mem_append_right _ (h9))) (k := 1) (by decide) (List.mem_cons_of_mem _ (List.mem_append_left _ (List.mem_append_left _ (List.mem_of_getElem? (i := 2) rfl)))) rfl dX11_digest_430 ?_
    refine lv_icmp_ge (tgt := 456) hx hb dX11_digest_433 (by decide) (fun c2 => ?_) (fun c2 => ?_)
    · have h := h.1 c2
      refine lv_lload_n hx hb dX11_digest_456 rfl (lv_at hl 1 rfl) ?_
      exact g_retl (r := j1) CF hr hlk hc h dX11_digest_457
    · have h := h.2 c2
      refine lv_lload_n hx hb dX11_digest_436 rfl (lv_at hl 1 rfl) ?_
      refine lv_ldc2 (v := 31) hx hb hown (hts _ (List.mem_cons_of_mem _ (List.mem_append_left _ (List.mem_append_left _ (List.mem_of_getElem? (i := 3) rfl))))) dX11_digest_437 ?_
      refine lv_lmul hx hb dX11_digest_440 ?_
      refine lv_aload_n hx hb dX11_digest_441 rfl (lv_at hl 0 rfl) ?_
      refine lv_iload hx hb dX11_digest_442 (lv_at hl 2 rfl) ?_
      refine g_calli (va_runV (As := [.int i4]) (rest := [.long (j1 * 31)]) CF (c_X11_likeNow h) (cwV 1 hts gX11_digest_X11_likeNow rfl rfl rfl (by decide +kernel) ⟨Nat.le_of_ble_eq_true rfl, Nat.le_of_ble_eq_true rfl⟩) (hc.preV hk1 rfl (by decide)) rfl rfl hl.1 rfl (lv_room (Nat.le_of_ble_eq_true rfl)) dX11_digest_444 ⟨Nat.le_of_ble_eq_true rfl, Nat.le_of_ble_eq_true rfl⟩) hc (fun x3 g4 H locs hq hc => ?_)
      replace h := hq
      refine lv_i2l hx hb dX11_digest_447 rfl ?_
      refine lv_ladd hx hb dX11_digest_448 ?_
      refine lv_lstore_n (lv' := [(1, .long ((j1 * 31) + x3.toInt64)), (0, .ref r0), (4, .int i4)]) hx hb dX11_digest_449 rfl hl (by decide) rfl (fun ls hl => ?_)
      refine lv_iinc (v := (i4 + 1)) (lv' := [(4, .int (i4 + 1)), (1, .long ((j1 * 31) + x3.toInt64)), (0, .ref r0)]) hx hb dX11_digest_450 hl (k := 2) rfl rfl (by decide) rfl (fun ls hl => ?_)
      refine lv_goto (tgt := 427) hx hb dX11_digest_453 (by decide) ?_
      exact hk_427 g4 ((j1 * 31) + x3.toInt64) (i4 + 1) h _ _ _ hc (lv_sub hl [2, 1, 0] rfl)
  have hb_397 : ∀ (g : gS) (r0 : Nat), ∀ (j1 : Int64) (i4 : Int32), lpx2 (l_X11_digest_397 g r0 Q) j1 i4 → ∀ (H : Heap) (locs : List Loc) (ls : Array Slot), gC D cA (gA g0 sz) s g H locs → lv_has ls 7 [(0, .ref r0), (1, .long j1), (4, .int i4)] → W p l e r_X11_digest s m args below meth c H locs 61 1860 (MQ below (gQl D cA g0 sz (Q)) args s 61 1860 (gA g0 sz)) (F0 m 397 ls []) := by
    intro g r0
    refine lpx2_run (P := fun (j1 : Int64) (i4 : Int32) => ∀ (H : Heap) (locs : List Loc) (ls : Array Slot), gC D cA (gA g0 sz) s g H locs → lv_has ls 7 [(0, .ref r0), (1, .long j1), (4, .int i4)] → W p l e r_X11_digest s m args below meth c H locs 61 1860 (MQ below (gQl D cA g0 sz (Q)) args s 61 1860 (gA g0 sz)) (F0 m 397 ls [])) ?_
    intro k397 hk_397 j1 i4 h H locs ls hc hl
    unfold l_X11_digest_397 at h
    refine lv_iload hx hb dX11_digest_397 (lv_at hl 2 rfl) ?_
    refine lv_bipush (v := 8) hx hb dX11_digest_399 (by decide) ?_
    refine lv_icmp_ge (tgt := 424) hx hb dX11_digest_401 (by decide) (fun c6 => ?_) (fun c6 => ?_)
    · have h := h.1 c6
      refine lv_iconst (v := 0) hx hb dX11_digest_424 (by decide) ?_
      refine lv_istore (lv' := [(4, .int 0), (0, .ref r0), (1, .long j1)]) hx hb dX11_digest_425 hl (by decide) rfl (fun ls hl => ?_)
      exact hb_427 r0 g j1 0 h _ _ _ hc (lv_sub hl [1, 2, 0] rfl)
    · have h := h.2 c6
      refine lv_lload_n hx hb dX11_digest_404 rfl (lv_at hl 1 rfl) ?_
      refine lv_ldc2 (v := 31) hx hb hown (hts _ (List.mem_cons_of_mem _ (List.mem_append_left _ (List.mem_append_left _ (List.mem_of_getElem? (i := 3) rfl))))) dX11_digest_405 ?_
      refine lv_lmul hx hb dX11_digest_408 ?_
      refine lv_aload_n hx hb dX11_digest_409 rfl (lv_at hl 0 rfl) ?_
      refine lv_iload hx hb dX11_digest_410 (lv_at hl 2 rfl) ?_
      obtain ⟨hk7, h⟩ := h
      refine g_calli (va_runV (As := [.int i4]) (rest := [.long (j1 * 31)]) CF (c_X11_kindNow h) (cwV 1 hts gX11_digest_X11_kindNow rfl rfl rfl (by decide +kernel) ⟨Nat.le_of_ble_eq_true rfl, Nat.le_of_ble_eq_true rfl⟩) (hc.preV hk7 rfl (by decide)) rfl rfl hl.1 rfl (lv_room (Nat.le_of_ble_eq_true rfl)) dX11_digest_412 ⟨Nat.le_of_ble_eq_true rfl, Nat.le_of_ble_eq_true rfl⟩) hc (fun x8 gq9 H locs hq hc => ?_)
      obtain ⟨rfl, h⟩ := hq
      refine lv_i2l hx hb dX11_digest_415 rfl ?_
      refine lv_ladd hx hb dX11_digest_416 ?_
      refine lv_lstore_n (lv' := [(1, .long ((j1 * 31) + x8.toInt64)), (0, .ref r0), (4, .int i4)]) hx hb dX11_digest_417 rfl hl (by decide) rfl (fun ls hl => ?_)
      refine lv_iinc (v := (i4 + 1)) (lv' := [(4, .int (i4 + 1)), (1, .long ((j1 * 31) + x8.toInt64)), (0, .ref r0)]) hx hb dX11_digest_418 hl (k := 2) rfl rfl (by decide) rfl (fun ls hl => ?_)
      refine lv_goto (tgt := 397) hx hb dX11_digest_421 (by decide) ?_
      exact hk_397 ((j1 * 31) + x8.toInt64) (i4 + 1) h _ _ _ hc (lv_sub hl [2, 1, 0] rfl)
  have hb_351 : ∀ (g : gS) (r0 : Nat), ∀ (j1 : Int64) (i4 : Int32), lpx2 (l_X11_digest_351 g r0 Q) j1 i4 → ∀ (H : Heap) (locs : List Loc) (ls : Array Slot), gC D cA (gA g0 sz) s g H locs → lv_has ls 7 [(0, .ref r0), (1, .long j1), (4, .int i4)] → W p l e r_X11_digest s m args below meth c H locs 61 1860 (MQ below (gQl D cA g0 sz (Q)) args s 61 1860 (gA g0 sz)) (F0 m 351 ls []) := by
    intro g r0
    refine lpx2_run (P := fun (j1 : Int64) (i4 : Int32) => ∀ (H : Heap) (locs : List Loc) (ls : Array Slot), gC D cA (gA g0 sz) s g H locs → lv_has ls 7 [(0, .ref r0), (1, .long j1), (4, .int i4)] → W p l e r_X11_digest s m args below meth c H locs 61 1860 (MQ below (gQl D cA g0 sz (Q)) args s 61 1860 (gA g0 sz)) (F0 m 351 ls [])) ?_
    intro k351 hk_351 j1 i4 h H locs ls hc hl
    unfold l_X11_digest_351 at h
    refine lv_iload hx hb dX11_digest_351 (lv_at hl 2 rfl) ?_
    refine lv_aload_n hx hb dX11_digest_353 rfl (lv_at hl 0 rfl) ?_
    obtain ⟨hk10, h⟩ := h
    refine g_get CF hc hk10 rfl (by decide) (fun _ h9 => List.mem_cons_of_mem _ (List.mem_append_right _ (h9))) (k := 22) (by decide) (List.mem_cons_of_mem _ (List.mem_append_left _ (List.mem_append_left _ (List.mem_of_getElem? (i := 10) rfl)))) rfl dX11_digest_354 ?_
    refine lv_icmp_ge (tgt := 394) hx hb dX11_digest_357 (by decide) (fun c11 => ?_) (fun c11 => ?_)
    · have h := h.1 c11
      refine lv_iconst (v := 0) hx hb dX11_digest_394 (by decide) ?_
      refine lv_istore (lv' := [(4, .int 0), (0, .ref r0), (1, .long j1)]) hx hb dX11_digest_395 hl (by decide) rfl (fun ls hl => ?_)
      exact hb_397 g r0 j1 0 h _ _ _ hc (lv_sub hl [1, 2, 0] rfl)
    · have h := h.2 c11
      refine lv_lload_n hx hb dX11_digest_360 rfl (lv_at hl 1 rfl) ?_
      refine lv_ldc2 (v := 31) hx hb hown (hts _ (List.mem_cons_of_mem _ (List.mem_append_left _ (List.mem_append_left _ (List.mem_of_getElem? (i := 3) rfl))))) dX11_digest_361 ?_
      refine lv_lmul hx hb dX11_digest_364 ?_
      refine lv_aload_n hx hb dX11_digest_365 rfl (lv_at hl 0 rfl) ?_
      obtain ⟨y12, e13, h⟩ := h
      refine g_getr CF hc hk10 rfl (by decide) (fun _ h9 => List.mem_cons_of_mem _ (List.mem_append_right _ (h9))) (k := 23) (by decide) (List.mem_cons_of_mem _ (List.mem_append_left _ (List.mem_append_left _ (List.mem_of_getElem? (i := 11) rfl)))) e13 rfl dX11_digest_366 ?_
      refine lv_iload hx hb dX11_digest_369 (lv_at hl 2 rfl) ?_
      obtain ⟨hk14, h⟩ := h
      obtain ⟨hi15, h⟩ := h
      refine g_iald CF hc hk14 hi15 dX11_digest_371 ?_
      refine lv_i2l hx hb dX11_digest_372 rfl ?_
      refine lv_ladd hx hb dX11_digest_373 ?_
      refine lv_ldc2 (v := 31) hx hb hown (hts _ (List.mem_cons_of_mem _ (List.mem_append_left _ (List.mem_append_left _ (List.mem_of_getElem? (i := 3) rfl))))) dX11_digest_374 ?_
      refine lv_lmul hx hb dX11_digest_377 ?_
      refine lv_aload_n hx hb dX11_digest_378 rfl (lv_at hl 0 rfl) ?_
      obtain ⟨y16, e17, h⟩ := h
      refine g_getr CF hc hk10 rfl (by decide) (fun _ h9 => List.mem_cons_of_mem _ (List.mem_append_right _ (h9))) (k := 24) (by decide) (List.mem_cons_of_mem _ (List.mem_append_left _ (List.mem_append_left _ (List.mem_of_getElem? (i := 12) rfl)))) e17 rfl dX11_digest_379 ?_
      refine lv_iload hx hb dX11_digest_382 (lv_at hl 2 rfl) ?_
      obtain ⟨hk18, h⟩ := h
      obtain ⟨hi19, h⟩ := h
      refine g_iald CF hc hk18 hi19 dX11_digest_384 ?_
      refine lv_i2l hx hb dX11_digest_385 rfl ?_
      refine lv_ladd hx hb dX11_digest_386 ?_
      refine lv_lstore_n (lv' := [(1, .long ((((j1 * 31) + (gI g y12 (Int32.toNatClampNeg i4)).toInt64) * 31) + (gI g y16 (Int32.toNatClampNeg i4)).toInt64)), (0, .ref r0), (4, .int i4)]) hx hb dX11_digest_387 rfl hl (by decide) rfl (fun ls hl => ?_)
      refine lv_iinc (v := (i4 + 1)) (lv' := [(4, .int (i4 + 1)), (1, .long ((((j1 * 31) + (gI g y12 (Int32.toNatClampNeg i4)).toInt64) * 31) + (gI g y16 (Int32.toNatClampNeg i4)).toInt64)), (0, .ref r0)]) hx hb dX11_digest_388 hl (k := 2) rfl rfl (by decide) rfl (fun ls hl => ?_)
      refine lv_goto (tgt := 351) hx hb dX11_digest_391 (by decide) ?_
      exact hk_351 ((((j1 * 31) + (gI g y12 (Int32.toNatClampNeg i4)).toInt64) * 31) + (gI g y16 (Int32.toNatClampNeg i4)).toInt64) (i4 + 1) h _ _ _ hc (lv_sub hl [2, 1, 0] rfl)
  have hb_225 : ∀ (r0 : Nat) (r3 : Nat), ∀ (g : gS) (j1 : Int64) (i4 : Int32), lpx3 (l_X11_digest_225 r0 r3 Q) g j1 i4 → ∀ (H : Heap) (locs : List Loc) (ls : Array Slot), gC D cA (gA g0 sz) s g H locs → lv_has ls 7 [(0, .ref r0), (1, .long j1), (3, .ref r3), (4, .int i4)] → W p l e r_X11_digest s m args below meth c H locs 61 1860 (MQ below (gQl D cA g0 sz (Q)) args s 61 1860 (gA g0 sz)) (F0 m 225 ls []) := by
    intro r0 r3
    refine lpx3_run (P := fun (g : gS) (j1 : Int64) (i4 : Int32) => ∀ (H : Heap) (locs : List Loc) (ls : Array Slot), gC D cA (gA g0 sz) s g H locs → lv_has ls 7 [(0, .ref r0), (1, .long j1), (3, .ref r3), (4, .int i4)] → W p l e r_X11_digest s m args below meth c H locs 61 1860 (MQ below (gQl D cA g0 sz (Q)) args s 61 1860 (gA g0 sz)) (F0 m 225 ls [])) ?_
    intro k225 hk_225 g j1 i4 h H locs ls hc hl
    have hb_300 : ∀ (g : gS) (i4 : Int32), ∀ (j1 : Int64) (i6 : Int32), lpx2 (l_X11_digest_300 g r0 r3 i4 Q k225) j1 i6 → ∀ (H : Heap) (locs : List Loc) (ls : Array Slot), gC D cA (gA g0 sz) s g H locs → lv_has ls 7 [(0, .ref r0), (1, .long j1), (3, .ref r3), (4, .int i4), (6, .int i6)] → W p l e r_X11_digest s m args below meth c H locs 61 1860 (MQ below (gQl D cA g0 sz (Q)) args s 61 1860 (gA g0 sz)) (F0 m 300 ls []) := by
      intro g i4
      refine lpx2_run (P := fun (j1 : Int64) (i6 : Int32) => ∀ (H : Heap) (locs : List Loc) (ls : Array Slot), gC D cA (gA g0 sz) s g H locs → lv_has ls 7 [(0, .ref r0), (1, .long j1), (3, .ref r3), (4, .int i4), (6, .int i6)] → W p l e r_X11_digest s m args below meth c H locs 61 1860 (MQ below (gQl D cA g0 sz (Q)) args s 61 1860 (gA g0 sz)) (F0 m 300 ls [])) ?_
      intro k300 hk_300 j1 i6 h H locs ls hc hl
      unfold l_X11_digest_300 at h
      refine lv_iload hx hb dX11_digest_300 (lv_at hl 4 rfl) ?_
      refine lv_aload_n hx hb dX11_digest_302 rfl (lv_at hl 0 rfl) ?_
      obtain ⟨hk20, h⟩ := h
      refine g_get CF hc hk20 rfl (by decide) (fun _ h9 => List.mem_cons_of_mem _ (List.mem_append_right _ (h9))) (k := 1) (by decide) (List.mem_cons_of_mem _ (List.mem_append_left _ (List.mem_append_left _ (List.mem_of_getElem? (i := 2) rfl)))) rfl dX11_digest_303 ?_
      refine lv_icmp_ge (tgt := 330) hx hb dX11_digest_306 (by decide) (fun c21 => ?_) (fun c21 => ?_)
      · have h := h.1 c21
        refine lv_iinc (v := (i4 + 1)) (lv' := [(4, .int (i4 + 1)), (0, .ref r0), (1, .long j1), (3, .ref r3), (6, .int i6)]) hx hb dX11_digest_330 hl (k := 3) rfl rfl (by decide) rfl (fun ls hl => ?_)
        refine lv_goto (tgt := 225) hx hb dX11_digest_333 (by decide) ?_
        exact hk_225 g j1 (i4 + 1) h _ _ _ hc (lv_sub hl [1, 2, 3, 0] rfl)
      · have h := h.2 c21
        refine lv_lload_n hx hb dX11_digest_309 rfl (lv_at hl 1 rfl) ?_
        refine lv_ldc2 (v := 31) hx hb hown (hts _ (List.mem_cons_of_mem _ (List.mem_append_left _ (List.mem_append_left _ (List.mem_of_getElem? (i := 3) rfl))))) dX11_digest_310 ?_
        refine lv_lmul hx hb dX11_digest_313 ?_
        refine lv_aload_n hx hb dX11_digest_314 rfl (lv_at hl 2 rfl) ?_
        refine lv_iload hx hb dX11_digest_315 (lv_at hl 4 rfl) ?_
        obtain ⟨hk22, h⟩ := h
        obtain ⟨hi23, h⟩ := h
        obtain ⟨y24, e25, h⟩ := h
        refine g_aaldr CF hc hk22 hi23 e25 dX11_digest_317 ?_
        refine lv_iload hx hb dX11_digest_318 (lv_at hl 3 rfl) ?_
        obtain ⟨hk26, h⟩ := h
        obtain ⟨hi27, h⟩ := h
        refine g_iald CF hc hk26 hi27 dX11_digest_320 ?_
        refine lv_i2l hx hb dX11_digest_321 rfl ?_
        refine lv_ladd hx hb dX11_digest_322 ?_
        refine lv_lstore_n (lv' := [(1, .long ((j1 * 31) + (gI g y24 (Int32.toNatClampNeg i4)).toInt64)), (0, .ref r0), (3, .ref r3), (4, .int i4), (6, .int i6)]) hx hb dX11_digest_323 rfl hl (by decide) rfl (fun ls hl => ?_)
        refine lv_iinc (v := (i6 + 1)) (lv' := [(6, .int (i6 + 1)), (1, .long ((j1 * 31) + (gI g y24 (Int32.toNatClampNeg i4)).toInt64)), (0, .ref r0), (3, .ref r3), (4, .int i4)]) hx hb dX11_digest_324 hl (k := 4) rfl rfl (by decide) rfl (fun ls hl => ?_)
        refine lv_goto (tgt := 300) hx hb dX11_digest_327 (by decide) ?_
        exact hk_300 ((j1 * 31) + (gI g y24 (Int32.toNatClampNeg i4)).toInt64) (i6 + 1) h _ _ _ hc (lv_sub hl [2, 1, 3, 4, 0] rfl)
    have hb_240 : ∀ (g : gS) (j1 : Int64) (i4 : Int32), ∀ (i5 : Int32) (i6 : Int32), lpx2 (l_X11_digest_240 g r0 j1 r3 i4 Q k225) i5 i6 → ∀ (H : Heap) (locs : List Loc) (ls : Array Slot), gC D cA (gA g0 sz) s g H locs → lv_has ls 7 [(0, .ref r0), (1, .long j1), (3, .ref r3), (4, .int i4), (5, .int i5), (6, .int i6)] → W p l e r_X11_digest s m args below meth c H locs 61 1860 (MQ below (gQl D cA g0 sz (Q)) args s 61 1860 (gA g0 sz)) (F0 m 240 ls []) := by
      intro g j1 i4
      refine lpx2_run (P := fun (i5 : Int32) (i6 : Int32) => ∀ (H : Heap) (locs : List Loc) (ls : Array Slot), gC D cA (gA g0 sz) s g H locs → lv_has ls 7 [(0, .ref r0), (1, .long j1), (3, .ref r3), (4, .int i4), (5, .int i5), (6, .int i6)] → W p l e r_X11_digest s m args below meth c H locs 61 1860 (MQ below (gQl D cA g0 sz (Q)) args s 61 1860 (gA g0 sz)) (F0 m 240 ls [])) ?_
      intro k240 hk_240 i5 i6 h H locs ls hc hl
      have hb_266 : ∀ (i6 : Int32) (is0 : Int32) (is1 : Int32), b_X11_digest_266 g r0 j1 r3 i4 i6 is0 is1 Q k225 k240 → ∀ (H : Heap) (locs : List Loc) (ls : Array Slot), gC D cA (gA g0 sz) s g H locs → lv_has ls 7 [(0, .ref r0), (1, .long j1), (3, .ref r3), (4, .int i4), (6, .int i6)] → W p l e r_X11_digest s m args below meth c H locs 61 1860 (MQ below (gQl D cA g0 sz (Q)) args s 61 1860 (gA g0 sz)) (F0 m 266 ls [.int is1, .int is0]) := by
        intro i6 is0 is1 h H locs ls hc hl
        unfold b_X11_digest_266 at h
        refine lv_iadd hx hb dX11_digest_266 ?_
        refine lv_istore (lv' := [(5, .int (is0 + is1)), (0, .ref r0), (1, .long j1), (3, .ref r3), (4, .int i4), (6, .int i6)]) hx hb dX11_digest_267 hl (by decide) rfl (fun ls hl => ?_)
        refine lv_iinc (v := (i6 + 1)) (lv' := [(6, .int (i6 + 1)), (5, .int (is0 + is1)), (0, .ref r0), (1, .long j1), (3, .ref r3), (4, .int i4)]) hx hb dX11_digest_269 hl (k := 5) rfl rfl (by decide) rfl (fun ls hl => ?_)
        refine lv_goto (tgt := 240) hx hb dX11_digest_272 (by decide) ?_
        exact hk_240 (is0 + is1) (i6 + 1) h _ _ _ hc (lv_sub hl [2, 3, 4, 5, 1, 0] rfl)
      unfold l_X11_digest_240 at h
      refine lv_iload hx hb dX11_digest_240 (lv_at hl 5 rfl) ?_
      refine lv_aload_n hx hb dX11_digest_242 rfl (lv_at hl 0 rfl) ?_
      obtain ⟨hk28, h⟩ := h
      refine g_get CF hc hk28 rfl (by decide) (fun _ h9 => List.mem_cons_of_mem _ (List.mem_append_right _ (h9))) (k := 1) (by decide) (List.mem_cons_of_mem _ (List.mem_append_left _ (List.mem_append_left _ (List.mem_of_getElem? (i := 2) rfl)))) rfl dX11_digest_243 ?_
      refine lv_icmp_ge (tgt := 275) hx hb dX11_digest_246 (by decide) (fun c29 => ?_) (fun c29 => ?_)
      · have h := h.1 c29
        refine lv_lload_n hx hb dX11_digest_275 rfl (lv_at hl 1 rfl) ?_
        refine lv_ldc2 (v := 31) hx hb hown (hts _ (List.mem_cons_of_mem _ (List.mem_append_left _ (List.mem_append_left _ (List.mem_of_getElem? (i := 3) rfl))))) dX11_digest_276 ?_
        refine lv_lmul hx hb dX11_digest_279 ?_
        refine lv_iload hx hb dX11_digest_280 (lv_at hl 4 rfl) ?_
        refine lv_i2l hx hb dX11_digest_282 rfl ?_
        refine lv_ladd hx hb dX11_digest_283 ?_
        refine lv_ldc2 (v := 31) hx hb hown (hts _ (List.mem_cons_of_mem _ (List.mem_append_left _ (List.mem_append_left _ (List.mem_of_getElem? (i := 3) rfl))))) dX11_digest_284 ?_
        refine lv_lmul hx hb dX11_digest_287 ?_
        refine lv_aload_n hx hb dX11_digest_288 rfl (lv_at hl 0 rfl) ?_
        refine lv_iload hx hb dX11_digest_289 (lv_at hl 3 rfl) ?_
        refine g_calli (va_runV (As := [.int i4]) (rest := [.long (((j1 * 31) + i5.toInt64) * 31)]) CF (c_X11_costNow h) (cwV 1 hts gX11_digest_X11_costNow rfl rfl rfl (by decide +kernel) ⟨Nat.le_of_ble_eq_true rfl, Nat.le_of_ble_eq_true rfl⟩) (hc.preV hk28 rfl (by decide)) rfl rfl hl.1 rfl (lv_room (Nat.le_of_ble_eq_true rfl)) dX11_digest_291 ⟨Nat.le_of_ble_eq_true rfl, Nat.le_of_ble_eq_true rfl⟩) hc (fun x30 g31 H locs hq hc => ?_)
        replace h := hq
        refine lv_i2l hx hb dX11_digest_294 rfl ?_
        refine lv_ladd hx hb dX11_digest_295 ?_
        refine lv_lstore_n (lv' := [(1, .long ((((j1 * 31) + i5.toInt64) * 31) + x30.toInt64)), (0, .ref r0), (3, .ref r3), (4, .int i4), (5, .int i5), (6, .int i6)]) hx hb dX11_digest_296 rfl hl (by decide) rfl (fun ls hl => ?_)
        refine lv_iconst (v := 0) hx hb dX11_digest_297 (by decide) ?_
        refine lv_istore (lv' := [(6, .int 0), (1, .long ((((j1 * 31) + i5.toInt64) * 31) + x30.toInt64)), (0, .ref r0), (3, .ref r3), (4, .int i4), (5, .int i5)]) hx hb dX11_digest_298 hl (by decide) rfl (fun ls hl => ?_)
        exact hb_300 g31 i4 ((((j1 * 31) + i5.toInt64) * 31) + x30.toInt64) 0 h _ _ _ hc (lv_sub hl [2, 1, 3, 4, 0] rfl)
      · have h := h.2 c29
        refine lv_iload hx hb dX11_digest_249 (lv_at hl 4 rfl) ?_
        refine lv_aload_n hx hb dX11_digest_251 rfl (lv_at hl 2 rfl) ?_
        refine lv_iload hx hb dX11_digest_252 (lv_at hl 5 rfl) ?_
        obtain ⟨hk33, h⟩ := h
        obtain ⟨hi34, h⟩ := h
        obtain ⟨y35, e36, h⟩ := h
        refine g_aaldr CF hc hk33 hi34 e36 dX11_digest_254 ?_
        refine lv_iload hx hb dX11_digest_255 (lv_at hl 3 rfl) ?_
        obtain ⟨hk37, h⟩ := h
        obtain ⟨hi38, h⟩ := h
        refine g_iald CF hc hk37 hi38 dX11_digest_257 ?_
        refine lv_if_ge (tgt := 265) hx hb dX11_digest_258 (by decide) (fun c39 => ?_) (fun c39 => ?_)
        · have h := h.1 c39
          refine lv_iconst (v := 1) hx hb dX11_digest_265 (by decide) ?_
          exact hb_266 i6 i5 1 h _ _ _ hc (lv_sub hl [0, 1, 2, 3, 5] rfl)
        · have h := h.2 c39
          refine lv_iconst (v := 0) hx hb dX11_digest_261 (by decide) ?_
          refine lv_goto (tgt := 266) hx hb dX11_digest_262 (by decide) ?_
          exact hb_266 i6 i5 0 h _ _ _ hc (lv_sub hl [0, 1, 2, 3, 5] rfl)
    unfold l_X11_digest_225 at h
    refine lv_iload hx hb dX11_digest_225 (lv_at hl 3 rfl) ?_
    refine lv_aload_n hx hb dX11_digest_227 rfl (lv_at hl 0 rfl) ?_
    obtain ⟨hk40, h⟩ := h
    refine g_get CF hc hk40 rfl (by decide) (fun _ h9 => List.mem_cons_of_mem _ (List.mem_append_right _ (h9))) (k := 16) (by decide) (List.mem_cons_of_mem _ (List.mem_append_left _ (List.mem_append_left _ (List.mem_of_getElem? (i := 6) rfl)))) rfl dX11_digest_228 ?_
    refine lv_icmp_ge (tgt := 336) hx hb dX11_digest_231 (by decide) (fun c41 => ?_) (fun c41 => ?_)
    · have h := h.1 c41
      refine lv_lload_n hx hb dX11_digest_336 rfl (lv_at hl 1 rfl) ?_
      refine lv_ldc2 (v := 31) hx hb hown (hts _ (List.mem_cons_of_mem _ (List.mem_append_left _ (List.mem_append_left _ (List.mem_of_getElem? (i := 3) rfl))))) dX11_digest_337 ?_
      refine lv_lmul hx hb dX11_digest_340 ?_
      refine lv_aload_n hx hb dX11_digest_341 rfl (lv_at hl 0 rfl) ?_
      refine g_get CF hc hk40 rfl (by decide) (fun _ h9 => List.mem_cons_of_mem _ (List.mem_append_right _ (h9))) (k := 22) (by decide) (List.mem_cons_of_mem _ (List.mem_append_left _ (List.mem_append_left _ (List.mem_of_getElem? (i := 10) rfl)))) rfl dX11_digest_342 ?_
      refine lv_i2l hx hb dX11_digest_345 rfl ?_
      refine lv_ladd hx hb dX11_digest_346 ?_
      refine lv_lstore_n (lv' := [(1, .long ((j1 * 31) + (gI g r0 22).toInt64)), (0, .ref r0), (3, .ref r3), (4, .int i4)]) hx hb dX11_digest_347 rfl hl (by decide) rfl (fun ls hl => ?_)
      refine lv_iconst (v := 0) hx hb dX11_digest_348 (by decide) ?_
      refine lv_istore (lv' := [(4, .int 0), (1, .long ((j1 * 31) + (gI g r0 22).toInt64)), (0, .ref r0), (3, .ref r3)]) hx hb dX11_digest_349 hl (by decide) rfl (fun ls hl => ?_)
      exact hb_351 g r0 ((j1 * 31) + (gI g r0 22).toInt64) 0 h _ _ _ hc (lv_sub hl [2, 1, 0] rfl)
    · have h := h.2 c41
      refine lv_iconst (v := 0) hx hb dX11_digest_234 (by decide) ?_
      refine lv_istore (lv' := [(5, .int 0), (0, .ref r0), (1, .long j1), (3, .ref r3), (4, .int i4)]) hx hb dX11_digest_235 hl (by decide) rfl (fun ls hl => ?_)
      refine lv_iconst (v := 0) hx hb dX11_digest_237 (by decide) ?_
      refine lv_istore (lv' := [(6, .int 0), (5, .int 0), (0, .ref r0), (1, .long j1), (3, .ref r3), (4, .int i4)]) hx hb dX11_digest_238 hl (by decide) rfl (fun ls hl => ?_)
      exact hb_240 g j1 i4 0 0 h _ _ _ hc (lv_sub hl [2, 3, 4, 5, 1, 0] rfl)
  have hb_125 : ∀ (r0 : Nat) (j1 : Int64) (r3 : Nat), ∀ (g : gS) (i4 : Int32), lpx2 (l_X11_digest_125 r0 j1 r3 Q) g i4 → ∀ (H : Heap) (locs : List Loc) (ls : Array Slot), gC D cA (gA g0 sz) s g H locs → lv_has ls 7 [(0, .ref r0), (1, .long j1), (3, .ref r3), (4, .int i4)] → W p l e r_X11_digest s m args below meth c H locs 61 1860 (MQ below (gQl D cA g0 sz (Q)) args s 61 1860 (gA g0 sz)) (F0 m 125 ls []) := by
    intro r0 j1 r3
    refine lpx2_run (P := fun (g : gS) (i4 : Int32) => ∀ (H : Heap) (locs : List Loc) (ls : Array Slot), gC D cA (gA g0 sz) s g H locs → lv_has ls 7 [(0, .ref r0), (1, .long j1), (3, .ref r3), (4, .int i4)] → W p l e r_X11_digest s m args below meth c H locs 61 1860 (MQ below (gQl D cA g0 sz (Q)) args s 61 1860 (gA g0 sz)) (F0 m 125 ls [])) ?_
    intro k125 hk_125 g i4 h H locs ls hc hl
    have hb_178 : ∀ (i4 : Int32) (i5 : Int32), ∀ (g : gS) (i6 : Int32), lpx2 (l_X11_digest_178 r0 j1 r3 i4 i5 Q k125) g i6 → ∀ (H : Heap) (locs : List Loc) (ls : Array Slot), gC D cA (gA g0 sz) s g H locs → lv_has ls 7 [(0, .ref r0), (1, .long j1), (3, .ref r3), (4, .int i4), (5, .int i5), (6, .int i6)] → W p l e r_X11_digest s m args below meth c H locs 61 1860 (MQ below (gQl D cA g0 sz (Q)) args s 61 1860 (gA g0 sz)) (F0 m 178 ls []) := by
      intro i4 i5
      refine lpx2_run (P := fun (g : gS) (i6 : Int32) => ∀ (H : Heap) (locs : List Loc) (ls : Array Slot), gC D cA (gA g0 sz) s g H locs → lv_has ls 7 [(0, .ref r0), (1, .long j1), (3, .ref r3), (4, .int i4), (5, .int i5), (6, .int i6)] → W p l e r_X11_digest s m args below meth c H locs 61 1860 (MQ below (gQl D cA g0 sz (Q)) args s 61 1860 (gA g0 sz)) (F0 m 178 ls [])) ?_
      intro k178 hk_178 g i6 h H locs ls hc hl
      have hb_209 : ∀ (g : gS) (i6 : Int32) (rs0 : Nat) (is1 : Int32) (is2 : Int32), b_X11_digest_209 g r0 j1 r3 i4 i5 i6 rs0 is1 is2 Q k125 k178 → ∀ (H : Heap) (locs : List Loc) (ls : Array Slot), gC D cA (gA g0 sz) s g H locs → lv_has ls 7 [(0, .ref r0), (1, .long j1), (3, .ref r3), (4, .int i4), (5, .int i5), (6, .int i6)] → W p l e r_X11_digest s m args below meth c H locs 61 1860 (MQ below (gQl D cA g0 sz (Q)) args s 61 1860 (gA g0 sz)) (F0 m 209 ls [.int is2, .int is1, .ref rs0]) := by
        intro g i6 rs0 is1 is2 h H locs ls hc hl
        unfold b_X11_digest_209 at h
        obtain ⟨hk42, h⟩ := h
        obtain ⟨hi43, h⟩ := h
        refine g_iast CF hc hk42 (x := is2) hi43 dX11_digest_209 (fun H locs hc => ?_)
        obtain ⟨g44, eg45⟩ : ∃ z, z = sU g rs0 (Int32.toNatClampNeg is1) is2 := ⟨_, rfl⟩
        have hc : gC D cA (gA g0 sz) s g44 H locs := by rw [eg45]; exact hc
        replace h := h g44 eg45
        refine lv_iinc (v := (i6 + 1)) (lv' := [(6, .int (i6 + 1)), (0, .ref r0), (1, .long j1), (3, .ref r3), (4, .int i4), (5, .int i5)]) hx hb dX11_digest_210 hl (k := 5) rfl rfl (by decide) rfl (fun ls hl => ?_)
        refine lv_goto (tgt := 178) hx hb dX11_digest_213 (by decide) ?_
        exact hk_178 g44 (i6 + 1) h _ _ _ hc (lv_sub hl [1, 2, 3, 4, 5, 0] rfl)
      unfold l_X11_digest_178 at h
      refine lv_iload hx hb dX11_digest_178 (lv_at hl 5 rfl) ?_
      refine lv_aload_n hx hb dX11_digest_180 rfl (lv_at hl 0 rfl) ?_
      obtain ⟨hk46, h⟩ := h
      refine g_get CF hc hk46 rfl (by decide) (fun _ h9 => List.mem_cons_of_mem _ (List.mem_append_right _ (h9))) (k := 16) (by decide) (List.mem_cons_of_mem _ (List.mem_append_left _ (List.mem_append_left _ (List.mem_of_getElem? (i := 6) rfl)))) rfl dX11_digest_181 ?_
      refine lv_icmp_ge (tgt := 216) hx hb dX11_digest_184 (by decide) (fun c47 => ?_) (fun c47 => ?_)
      · have h := h.1 c47
        refine lv_iinc (v := (i4 + 1)) (lv' := [(4, .int (i4 + 1)), (0, .ref r0), (1, .long j1), (3, .ref r3), (5, .int i5), (6, .int i6)]) hx hb dX11_digest_216 hl (k := 3) rfl rfl (by decide) rfl (fun ls hl => ?_)
        refine lv_goto (tgt := 125) hx hb dX11_digest_219 (by decide) ?_
        exact hk_125 g (i4 + 1) h _ _ _ hc (lv_sub hl [1, 2, 3, 0] rfl)
      · have h := h.2 c47
        refine lv_aload_n hx hb dX11_digest_187 rfl (lv_at hl 2 rfl) ?_
        refine lv_iload hx hb dX11_digest_188 (lv_at hl 3 rfl) ?_
        obtain ⟨hk48, h⟩ := h
        obtain ⟨hi49, h⟩ := h
        obtain ⟨y50, e51, h⟩ := h
        refine g_aaldr CF hc hk48 hi49 e51 dX11_digest_190 ?_
        refine lv_iload hx hb dX11_digest_191 (lv_at hl 5 rfl) ?_
        refine lv_iload hx hb dX11_digest_193 (lv_at hl 4 rfl) ?_
        refine lv_if_eq (tgt := 208) hx hb dX11_digest_195 (by decide) (fun c52 => ?_) (fun c52 => ?_)
        · have h := h.1 c52
          refine lv_iconst (v := (-1)) hx hb dX11_digest_208 (by decide) ?_
          exact hb_209 g i6 y50 i6 (-1) h _ _ _ hc (lv_sub hl [0, 1, 2, 3, 4, 5] rfl)
        · have h := h.2 c52
          refine lv_aload_n hx hb dX11_digest_198 rfl (lv_at hl 0 rfl) ?_
          obtain ⟨y53, e54, h⟩ := h
          refine g_getr CF hc hk46 rfl (by decide) (fun _ h9 => List.mem_cons_of_mem _ (List.mem_append_right _ (h9))) (k := 29) (by decide) (List.mem_cons_of_mem _ (List.mem_append_left _ (List.mem_append_left _ (List.mem_of_getElem? (i := 9) rfl)))) e54 rfl dX11_digest_199 ?_
          refine lv_iload hx hb dX11_digest_202 (lv_at hl 5 rfl) ?_
          obtain ⟨hk55, h⟩ := h
          obtain ⟨hi56, h⟩ := h
          refine g_iald CF hc hk55 hi56 dX11_digest_204 ?_
          refine lv_goto (tgt := 209) hx hb dX11_digest_205 (by decide) ?_
          exact hb_209 g i6 y50 i6 (gI g y53 (Int32.toNatClampNeg i6)) h _ _ _ hc (lv_sub hl [0, 1, 2, 3, 4, 5] rfl)
    have hb_175 : ∀ (g : gS) (i4 : Int32) (i5 : Int32), b_X11_digest_175 g r0 j1 r3 i4 i5 Q k125 → ∀ (H : Heap) (locs : List Loc) (ls : Array Slot), gC D cA (gA g0 sz) s g H locs → lv_has ls 7 [(0, .ref r0), (1, .long j1), (3, .ref r3), (4, .int i4), (5, .int i5)] → W p l e r_X11_digest s m args below meth c H locs 61 1860 (MQ below (gQl D cA g0 sz (Q)) args s 61 1860 (gA g0 sz)) (F0 m 175 ls []) := by
      intro g i4 i5 h H locs ls hc hl
      unfold b_X11_digest_175 at h
      refine lv_iconst (v := 0) hx hb dX11_digest_175 (by decide) ?_
      refine lv_istore (lv' := [(6, .int 0), (0, .ref r0), (1, .long j1), (3, .ref r3), (4, .int i4), (5, .int i5)]) hx hb dX11_digest_176 hl (by decide) rfl (fun ls hl => ?_)
      exact hb_178 i4 i5 g 0 h _ _ _ hc (lv_sub hl [1, 2, 3, 4, 5, 0] rfl)
    have hb_155 : ∀ (g : gS) (i4 : Int32) (is0 : Int32), b_X11_digest_155 g r0 j1 r3 i4 is0 Q k125 → ∀ (H : Heap) (locs : List Loc) (ls : Array Slot), gC D cA (gA g0 sz) s g H locs → lv_has ls 7 [(0, .ref r0), (1, .long j1), (3, .ref r3), (4, .int i4)] → W p l e r_X11_digest s m args below meth c H locs 61 1860 (MQ below (gQl D cA g0 sz (Q)) args s 61 1860 (gA g0 sz)) (F0 m 155 ls [.int is0]) := by
      intro g i4 is0 h H locs ls hc hl
      unfold b_X11_digest_155 at h
      refine lv_istore (lv' := [(5, .int is0), (0, .ref r0), (1, .long j1), (3, .ref r3), (4, .int i4)]) hx hb dX11_digest_155 hl (by decide) rfl (fun ls hl => ?_)
      refine lv_iload hx hb dX11_digest_157 (lv_at hl 0 rfl) ?_
      refine lv_if_eq (tgt := 175) hx hb dX11_digest_159 (by decide) (fun c57 => ?_) (fun c57 => ?_)
      · have h := h.1 c57
        exact hb_175 g i4 is0 h _ _ _ hc (lv_sub hl [1, 2, 3, 4, 0] rfl)
      · have h := h.2 c57
        refine lv_aload_n hx hb dX11_digest_162 rfl (lv_at hl 1 rfl) ?_
        refine lv_aload_n hx hb dX11_digest_163 rfl (lv_at hl 1 rfl) ?_
        obtain ⟨hk58, h⟩ := h
        refine g_get CF hc hk58 rfl (by decide) (fun _ h9 => List.mem_cons_of_mem _ (List.mem_append_right _ (h9))) (k := 16) (by decide) (List.mem_cons_of_mem _ (List.mem_append_left _ (List.mem_append_left _ (List.mem_of_getElem? (i := 6) rfl)))) rfl dX11_digest_164 ?_
        refine lv_iconst (v := 1) hx hb dX11_digest_167 (by decide) ?_
        refine lv_isub hx hb dX11_digest_168 ?_
        refine lv_iload hx hb dX11_digest_169 (lv_at hl 4 rfl) ?_
        refine g_calli (va_runV (As := [.int ((gI g r0 16) - 1), .int i4]) (rest := []) CF (c_X11_scoreNow h) (cwV 2 hts gX11_digest_X11_scoreNow rfl rfl rfl (by decide +kernel) ⟨Nat.le_of_ble_eq_true rfl, Nat.le_of_ble_eq_true rfl⟩) (hc.preV hk58 rfl (by decide)) rfl rfl hl.1 rfl (lv_room (Nat.le_of_ble_eq_true rfl)) dX11_digest_171 ⟨Nat.le_of_ble_eq_true rfl, Nat.le_of_ble_eq_true rfl⟩) hc (fun x59 g60 H locs hq hc => ?_)
        replace h := hq
        refine lv_pop hx hb dX11_digest_174 rfl ?_
        exact hb_175 g60 i4 is0 h _ _ _ hc (lv_sub hl [1, 2, 3, 4, 0] rfl)
    have hb_154 : ∀ (g : gS) (i4 : Int32), b_X11_digest_154 g r0 j1 r3 i4 Q k125 → ∀ (H : Heap) (locs : List Loc) (ls : Array Slot), gC D cA (gA g0 sz) s g H locs → lv_has ls 7 [(0, .ref r0), (1, .long j1), (3, .ref r3), (4, .int i4)] → W p l e r_X11_digest s m args below meth c H locs 61 1860 (MQ below (gQl D cA g0 sz (Q)) args s 61 1860 (gA g0 sz)) (F0 m 154 ls []) := by
      intro g i4 h H locs ls hc hl
      unfold b_X11_digest_154 at h
      refine lv_iconst (v := 0) hx hb dX11_digest_154 (by decide) ?_
      exact hb_155 g i4 0 h _ _ _ hc (lv_sub hl [0, 1, 2, 3] rfl)
    unfold l_X11_digest_125 at h
    refine lv_iload hx hb dX11_digest_125 (lv_at hl 3 rfl) ?_
    refine lv_aload_n hx hb dX11_digest_127 rfl (lv_at hl 0 rfl) ?_
    obtain ⟨hk62, h⟩ := h
    refine g_get CF hc hk62 rfl (by decide) (fun _ h9 => List.mem_cons_of_mem _ (List.mem_append_right _ (h9))) (k := 1) (by decide) (List.mem_cons_of_mem _ (List.mem_append_left _ (List.mem_append_left _ (List.mem_of_getElem? (i := 2) rfl)))) rfl dX11_digest_128 ?_
    refine lv_icmp_ge (tgt := 222) hx hb dX11_digest_131 (by decide) (fun c63 => ?_) (fun c63 => ?_)
    · have h := h.1 c63
      refine lv_iconst (v := 0) hx hb dX11_digest_222 (by decide) ?_
      refine lv_istore (lv' := [(4, .int 0), (0, .ref r0), (1, .long j1), (3, .ref r3)]) hx hb dX11_digest_223 hl (by decide) rfl (fun ls hl => ?_)
      exact hb_225 r0 r3 g j1 0 h _ _ _ hc (lv_sub hl [1, 2, 3, 0] rfl)
    · have h := h.2 c63
      refine lv_aload_n hx hb dX11_digest_134 rfl (lv_at hl 0 rfl) ?_
      refine g_get CF hc hk62 rfl (by decide) (fun _ h9 => List.mem_cons_of_mem _ (List.mem_append_right _ (h9))) (k := 16) (by decide) (List.mem_cons_of_mem _ (List.mem_append_left _ (List.mem_append_left _ (List.mem_of_getElem? (i := 6) rfl)))) rfl dX11_digest_135 ?_
      refine lv_if_le (tgt := 154) hx hb dX11_digest_138 (by decide) (fun c64 => ?_) (fun c64 => ?_)
      · have h := h.1 c64
        exact hb_154 g i4 h _ _ _ hc (lv_sub hl [0, 1, 2, 3] rfl)
      · have h := h.2 c64
        refine lv_aload_n hx hb dX11_digest_141 rfl (lv_at hl 0 rfl) ?_
        refine lv_iload hx hb dX11_digest_142 (lv_at hl 3 rfl) ?_
        refine g_calli (va_runV (As := [.int i4]) (rest := []) CF (c_X11_isThere h) (cwV 1 hts gX11_digest_X11_isThere rfl rfl rfl (by decide +kernel) ⟨Nat.le_of_ble_eq_true rfl, Nat.le_of_ble_eq_true rfl⟩) (hc.preV hk62 rfl (by decide)) rfl rfl hl.1 rfl (lv_room (Nat.le_of_ble_eq_true rfl)) dX11_digest_144 ⟨Nat.le_of_ble_eq_true rfl, Nat.le_of_ble_eq_true rfl⟩) hc (fun x65 gq66 H locs hq hc => ?_)
        obtain ⟨rfl, h⟩ := hq
        refine lv_if_eq (tgt := 154) hx hb dX11_digest_147 (by decide) (fun c67 => ?_) (fun c67 => ?_)
        · have h := h.1 c67
          exact hb_154 g i4 h _ _ _ hc (lv_sub hl [0, 1, 2, 3] rfl)
        · have h := h.2 c67
          refine lv_iconst (v := 1) hx hb dX11_digest_150 (by decide) ?_
          refine lv_goto (tgt := 155) hx hb dX11_digest_151 (by decide) ?_
          exact hb_155 g i4 1 h _ _ _ hc (lv_sub hl [0, 1, 2, 3] rfl)
  have hb_58 : ∀ (g : gS) (r0 : Nat), ∀ (j1 : Int64) (i3 : Int32), lpx2 (l_X11_digest_58 g r0 Q) j1 i3 → ∀ (H : Heap) (locs : List Loc) (ls : Array Slot), gC D cA (gA g0 sz) s g H locs → lv_has ls 7 [(0, .ref r0), (1, .long j1), (3, .int i3)] → W p l e r_X11_digest s m args below meth c H locs 0 0 (MQ below (gQl D cA g0 sz (Q)) args s 61 1860 (gA g0 sz)) (F0 m 58 ls []) := by
    intro g r0
    refine lpx2_run (P := fun (j1 : Int64) (i3 : Int32) => ∀ (H : Heap) (locs : List Loc) (ls : Array Slot), gC D cA (gA g0 sz) s g H locs → lv_has ls 7 [(0, .ref r0), (1, .long j1), (3, .int i3)] → W p l e r_X11_digest s m args below meth c H locs 0 0 (MQ below (gQl D cA g0 sz (Q)) args s 61 1860 (gA g0 sz)) (F0 m 58 ls [])) ?_
    intro k58 hk_58 j1 i3 h H locs ls hc hl
    unfold l_X11_digest_58 at h
    refine lv_iload_n hx hb dX11_digest_58 rfl (lv_at hl 2 rfl) ?_
    refine lv_aload_n hx hb dX11_digest_59 rfl (lv_at hl 0 rfl) ?_
    obtain ⟨hk68, h⟩ := h
    refine g_get CF hc hk68 rfl (by decide) (fun _ h9 => List.mem_cons_of_mem _ (List.mem_append_right _ (h9))) (k := 13) (by decide) (List.mem_cons_of_mem _ (List.mem_append_left _ (List.mem_append_left _ (List.mem_of_getElem? (i := 4) rfl)))) rfl dX11_digest_60 ?_
    refine lv_icmp_ge (tgt := 97) hx hb dX11_digest_63 (by decide) (fun c69 => ?_) (fun c69 => ?_)
    · have h := h.1 c69
      refine lv_lload_n hx hb dX11_digest_97 rfl (lv_at hl 1 rfl) ?_
      refine lv_ldc2 (v := 31) hx hb hown (hts _ (List.mem_cons_of_mem _ (List.mem_append_left _ (List.mem_append_left _ (List.mem_of_getElem? (i := 3) rfl))))) dX11_digest_98 ?_
      refine lv_lmul hx hb dX11_digest_101 ?_
      refine lv_aload_n hx hb dX11_digest_102 rfl (lv_at hl 0 rfl) ?_
      refine g_get CF hc hk68 rfl (by decide) (fun _ h9 => List.mem_cons_of_mem _ (List.mem_append_right _ (h9))) (k := 16) (by decide) (List.mem_cons_of_mem _ (List.mem_append_left _ (List.mem_append_left _ (List.mem_of_getElem? (i := 6) rfl)))) rfl dX11_digest_103 ?_
      refine lv_i2l hx hb dX11_digest_106 rfl ?_
      refine lv_ladd hx hb dX11_digest_107 ?_
      refine lv_lstore_n (lv' := [(1, .long ((j1 * 31) + (gI g r0 16).toInt64)), (0, .ref r0), (3, .int i3)]) hx hb dX11_digest_108 rfl hl (by decide) rfl (fun ls hl => ?_)
      refine lv_aload_n hx hb dX11_digest_109 rfl (lv_at hl 1 rfl) ?_
      refine g_get CF hc hk68 rfl (by decide) (fun _ h9 => List.mem_cons_of_mem _ (List.mem_append_right _ (h9))) (k := 1) (by decide) (List.mem_cons_of_mem _ (List.mem_append_left _ (List.mem_append_left _ (List.mem_of_getElem? (i := 2) rfl)))) rfl dX11_digest_110 ?_
      refine lv_aload_n hx hb dX11_digest_113 rfl (lv_at hl 1 rfl) ?_
      refine g_get CF hc hk68 rfl (by decide) (fun _ h9 => List.mem_cons_of_mem _ (List.mem_append_right _ (h9))) (k := 16) (by decide) (List.mem_cons_of_mem _ (List.mem_append_left _ (List.mem_append_left _ (List.mem_of_getElem? (i := 6) rfl)))) rfl dX11_digest_114 ?_
      obtain ⟨hn73, h⟩ := h
      have hroom : (Int32.toNatClampNeg (gI g r0 1)) * (Int32.toNatClampNeg (gI g r0 16)) ≤ 60 * 30 := Nat.mul_le_mul hn73.2.2.1 hn73.2.2.2
      refine g_mna CF hc (List.mem_cons_of_mem _ (List.mem_append_left _ (List.mem_append_left _ (List.mem_of_getElem? (i := 7) rfl)))) (List.mem_cons_of_mem _ (List.mem_append_left _ (List.mem_append_left _ (List.mem_of_getElem? (i := 8) rfl)))) (n := (gI g r0 1)) (k := (gI g r0 16)) (N := (Int32.toNatClampNeg (gI g r0 1))) (M := (Int32.toNatClampNeg (gI g r0 16))) hn73.1 hn73.2.1 rfl rfl (by omega) (by omega) (by have := hn73.2.2.1; show 0 + (1 + _) ≤ 61; omega) (by have := hn73.2.2.1; show 0 + (_ + _) ≤ 1860; omega) dX11_digest_117 (fun q70 rr71 H locs hg72 hc => ?_)
      replace h := h q70 rr71 hg72
      refine W.widen (k := 61) (n := 1860) (by have := hn73.2.2.1; omega) (by have := hn73.2.2.1; omega) ?_
      obtain ⟨g74, eg75⟩ : ∃ z, z = sGrid g q70 rr71 (Int32.toNatClampNeg (gI g r0 1)) (Int32.toNatClampNeg (gI g r0 16)) := ⟨_, rfl⟩
      have hc : gC D cA (gA g0 sz) s g74 H locs := by rw [eg75]; exact hc
      replace h := h g74 eg75
      refine lv_astore_n (lv' := [(3, .ref q70), (1, .long ((j1 * 31) + (gI g r0 16).toInt64)), (0, .ref r0)]) hx hb dX11_digest_121 rfl hl (by decide) rfl (fun ls hl => ?_)
      refine lv_iconst (v := 0) hx hb dX11_digest_122 (by decide) ?_
      refine lv_istore (lv' := [(4, .int 0), (3, .ref q70), (1, .long ((j1 * 31) + (gI g r0 16).toInt64)), (0, .ref r0)]) hx hb dX11_digest_123 hl (by decide) rfl (fun ls hl => ?_)
      exact hb_125 r0 ((j1 * 31) + (gI g r0 16).toInt64) q70 g74 0 h _ _ _ hc (lv_sub hl [3, 2, 1, 0] rfl)
    · have h := h.2 c69
      refine lv_lload_n hx hb dX11_digest_66 rfl (lv_at hl 1 rfl) ?_
      refine lv_ldc2 (v := 31) hx hb hown (hts _ (List.mem_cons_of_mem _ (List.mem_append_left _ (List.mem_append_left _ (List.mem_of_getElem? (i := 3) rfl))))) dX11_digest_67 ?_
      refine lv_lmul hx hb dX11_digest_70 ?_
      refine lv_aload_n hx hb dX11_digest_71 rfl (lv_at hl 0 rfl) ?_
      obtain ⟨y76, e77, h⟩ := h
      refine g_getr CF hc hk68 rfl (by decide) (fun _ h9 => List.mem_cons_of_mem _ (List.mem_append_right _ (h9))) (k := 14) (by decide) (List.mem_cons_of_mem _ (List.mem_append_left _ (List.mem_append_left _ (List.mem_of_getElem? (i := 5) rfl)))) e77 rfl dX11_digest_72 ?_
      refine lv_iload_n hx hb dX11_digest_75 rfl (lv_at hl 2 rfl) ?_
      obtain ⟨hk78, h⟩ := h
      obtain ⟨hi79, h⟩ := h
      refine g_iald CF hc hk78 hi79 dX11_digest_76 ?_
      refine lv_i2l hx hb dX11_digest_77 rfl ?_
      refine lv_ladd hx hb dX11_digest_78 ?_
      refine lv_ldc2 (v := 31) hx hb hown (hts _ (List.mem_cons_of_mem _ (List.mem_append_left _ (List.mem_append_left _ (List.mem_of_getElem? (i := 3) rfl))))) dX11_digest_79 ?_
      refine lv_lmul hx hb dX11_digest_82 ?_
      refine lv_aload_n hx hb dX11_digest_83 rfl (lv_at hl 0 rfl) ?_
      refine lv_iload_n hx hb dX11_digest_84 rfl (lv_at hl 2 rfl) ?_
      refine g_calli (va_runV (As := [.int i3]) (rest := [.long (((j1 * 31) + (gI g y76 (Int32.toNatClampNeg i3)).toInt64) * 31)]) CF (c_X11_sizeNow h) (cwV 1 hts gX11_digest_X11_sizeNow rfl rfl rfl (by decide +kernel) ⟨Nat.le_of_ble_eq_true rfl, Nat.le_of_ble_eq_true rfl⟩) (hc.preV hk68 rfl (by decide)) rfl rfl hl.1 rfl (lv_room (Nat.le_of_ble_eq_true rfl)) dX11_digest_85 ⟨Nat.le_of_ble_eq_true rfl, Nat.le_of_ble_eq_true rfl⟩) hc (fun x80 gq81 H locs hq hc => ?_)
      obtain ⟨rfl, h⟩ := hq
      refine lv_i2l hx hb dX11_digest_88 rfl ?_
      refine lv_ladd hx hb dX11_digest_89 ?_
      refine lv_lstore_n (lv' := [(1, .long ((((j1 * 31) + (gI g y76 (Int32.toNatClampNeg i3)).toInt64) * 31) + x80.toInt64)), (0, .ref r0), (3, .int i3)]) hx hb dX11_digest_90 rfl hl (by decide) rfl (fun ls hl => ?_)
      refine lv_iinc (v := (i3 + 1)) (lv' := [(3, .int (i3 + 1)), (1, .long ((((j1 * 31) + (gI g y76 (Int32.toNatClampNeg i3)).toInt64) * 31) + x80.toInt64)), (0, .ref r0)]) hx hb dX11_digest_91 hl (k := 2) rfl rfl (by decide) rfl (fun ls hl => ?_)
      refine lv_goto (tgt := 58) hx hb dX11_digest_94 (by decide) ?_
      exact hk_58 ((((j1 * 31) + (gI g y76 (Int32.toNatClampNeg i3)).toInt64) * 31) + x80.toInt64) (i3 + 1) h _ _ _ hc (lv_sub hl [2, 1, 0] rfl)
  have hb_17 : ∀ (g : gS) (r0 : Nat), ∀ (j1 : Int64) (i3 : Int32), lpx2 (l_X11_digest_17 g r0 Q) j1 i3 → ∀ (H : Heap) (locs : List Loc) (ls : Array Slot), gC D cA (gA g0 sz) s g H locs → lv_has ls 7 [(0, .ref r0), (1, .long j1), (3, .int i3)] → W p l e r_X11_digest s m args below meth c H locs 0 0 (MQ below (gQl D cA g0 sz (Q)) args s 61 1860 (gA g0 sz)) (F0 m 17 ls []) := by
    intro g r0
    refine lpx2_run (P := fun (j1 : Int64) (i3 : Int32) => ∀ (H : Heap) (locs : List Loc) (ls : Array Slot), gC D cA (gA g0 sz) s g H locs → lv_has ls 7 [(0, .ref r0), (1, .long j1), (3, .int i3)] → W p l e r_X11_digest s m args below meth c H locs 0 0 (MQ below (gQl D cA g0 sz (Q)) args s 61 1860 (gA g0 sz)) (F0 m 17 ls [])) ?_
    intro k17 hk_17 j1 i3 h H locs ls hc hl
    unfold l_X11_digest_17 at h
    refine lv_iload_n hx hb dX11_digest_17 rfl (lv_at hl 2 rfl) ?_
    refine lv_aload_n hx hb dX11_digest_18 rfl (lv_at hl 0 rfl) ?_
    obtain ⟨hk82, h⟩ := h
    refine g_get CF hc hk82 rfl (by decide) (fun _ h9 => List.mem_cons_of_mem _ (List.mem_append_right _ (h9))) (k := 1) (by decide) (List.mem_cons_of_mem _ (List.mem_append_left _ (List.mem_append_left _ (List.mem_of_getElem? (i := 2) rfl)))) rfl dX11_digest_19 ?_
    refine lv_icmp_ge (tgt := 44) hx hb dX11_digest_22 (by decide) (fun c83 => ?_) (fun c83 => ?_)
    · have h := h.1 c83
      refine lv_lload_n hx hb dX11_digest_44 rfl (lv_at hl 1 rfl) ?_
      refine lv_ldc2 (v := 31) hx hb hown (hts _ (List.mem_cons_of_mem _ (List.mem_append_left _ (List.mem_append_left _ (List.mem_of_getElem? (i := 3) rfl))))) dX11_digest_45 ?_
      refine lv_lmul hx hb dX11_digest_48 ?_
      refine lv_aload_n hx hb dX11_digest_49 rfl (lv_at hl 0 rfl) ?_
      refine g_get CF hc hk82 rfl (by decide) (fun _ h9 => List.mem_cons_of_mem _ (List.mem_append_right _ (h9))) (k := 13) (by decide) (List.mem_cons_of_mem _ (List.mem_append_left _ (List.mem_append_left _ (List.mem_of_getElem? (i := 4) rfl)))) rfl dX11_digest_50 ?_
      refine lv_i2l hx hb dX11_digest_53 rfl ?_
      refine lv_ladd hx hb dX11_digest_54 ?_
      refine lv_lstore_n (lv' := [(1, .long ((j1 * 31) + (gI g r0 13).toInt64)), (0, .ref r0), (3, .int i3)]) hx hb dX11_digest_55 rfl hl (by decide) rfl (fun ls hl => ?_)
      refine lv_iconst (v := 0) hx hb dX11_digest_56 (by decide) ?_
      refine lv_istore_n (lv' := [(3, .int 0), (1, .long ((j1 * 31) + (gI g r0 13).toInt64)), (0, .ref r0)]) hx hb dX11_digest_57 rfl hl (by decide) rfl (fun ls hl => ?_)
      exact hb_58 g r0 ((j1 * 31) + (gI g r0 13).toInt64) 0 h _ _ _ hc (lv_sub hl [2, 1, 0] rfl)
    · have h := h.2 c83
      refine lv_lload_n hx hb dX11_digest_25 rfl (lv_at hl 1 rfl) ?_
      refine lv_ldc2 (v := 31) hx hb hown (hts _ (List.mem_cons_of_mem _ (List.mem_append_left _ (List.mem_append_left _ (List.mem_of_getElem? (i := 3) rfl))))) dX11_digest_26 ?_
      refine lv_lmul hx hb dX11_digest_29 ?_
      refine lv_aload_n hx hb dX11_digest_30 rfl (lv_at hl 0 rfl) ?_
      refine lv_iload_n hx hb dX11_digest_31 rfl (lv_at hl 2 rfl) ?_
      refine g_calli (va_runV (As := [.int i3]) (rest := [.long (j1 * 31)]) CF (c_X11_stateNow h) (cwV 1 hts gX11_digest_X11_stateNow rfl rfl rfl (by decide +kernel) ⟨Nat.le_of_ble_eq_true rfl, Nat.le_of_ble_eq_true rfl⟩) (hc.preV hk82 rfl (by decide)) rfl rfl hl.1 rfl (lv_room (Nat.le_of_ble_eq_true rfl)) dX11_digest_32 ⟨Nat.le_of_ble_eq_true rfl, Nat.le_of_ble_eq_true rfl⟩) hc (fun x84 gq85 H locs hq hc => ?_)
      obtain ⟨rfl, h⟩ := hq
      refine lv_i2l hx hb dX11_digest_35 rfl ?_
      refine lv_ladd hx hb dX11_digest_36 ?_
      refine lv_lstore_n (lv' := [(1, .long ((j1 * 31) + x84.toInt64)), (0, .ref r0), (3, .int i3)]) hx hb dX11_digest_37 rfl hl (by decide) rfl (fun ls hl => ?_)
      refine lv_iinc (v := (i3 + 1)) (lv' := [(3, .int (i3 + 1)), (1, .long ((j1 * 31) + x84.toInt64)), (0, .ref r0)]) hx hb dX11_digest_38 hl (k := 2) rfl rfl (by decide) rfl (fun ls hl => ?_)
      refine lv_goto (tgt := 17) hx hb dX11_digest_41 (by decide) ?_
      exact hk_17 ((j1 * 31) + x84.toInt64) (i3 + 1) h _ _ _ hc (lv_sub hl [2, 1, 0] rfl)
  unfold w_X11_digest at h
  obtain ⟨H, hH0⟩ : ∃ z, z = s.heap := ⟨_, rfl⟩
  rw [← hH0] at hc ⊢
  obtain ⟨locs, hlc0⟩ : ∃ z : List Loc, z = [] := ⟨_, rfl⟩
  rw [← hlc0] at hc ⊢
  refine lv_aload_n hx hb dX11_digest_0 rfl (lv_at hl 0 rfl) ?_
  refine lv_iconst (v := 0) hx hb dX11_digest_1 (by decide) ?_
  obtain ⟨hk86, h⟩ := h
  refine g_puti CF hc hk86 rfl (by decide) (fun _ h9 => List.mem_cons_of_mem _ (List.mem_append_right _ (h9))) tyX11 tyX11_ok nmX11 (k := 0) (by decide) (List.mem_cons_of_mem _ (List.mem_append_left _ (List.mem_append_left _ (List.mem_of_getElem? (i := 0) rfl)))) rfl (v := 0) rfl rfl rfl dX11_digest_2 (fun H locs hc => ?_)
  obtain ⟨g87, eg88⟩ : ∃ z, z = sU g0 p0 0 0 := ⟨_, rfl⟩
  have hc : gC D cA (gA g0 sz) s g87 H locs := by rw [eg88]; exact hc
  replace h := h g87 eg88
  refine lv_ldc2 (v := 80879) hx hb hown (hts _ (List.mem_cons_of_mem _ (List.mem_append_left _ (List.mem_append_left _ (List.mem_of_getElem? (i := 1) rfl))))) dX11_digest_5 ?_
  refine lv_aload_n hx hb dX11_digest_8 rfl (lv_at hl 0 rfl) ?_
  obtain ⟨hk89, h⟩ := h
  refine g_get CF hc hk89 rfl (by decide) (fun _ h9 => List.mem_cons_of_mem _ (List.mem_append_right _ (h9))) (k := 1) (by decide) (List.mem_cons_of_mem _ (List.mem_append_left _ (List.mem_append_left _ (List.mem_of_getElem? (i := 2) rfl)))) rfl dX11_digest_9 ?_
  refine lv_i2l hx hb dX11_digest_12 rfl ?_
  refine lv_ladd hx hb dX11_digest_13 ?_
  refine lv_lstore_n (lv' := [(1, .long (80879 + (gI g87 p0 1).toInt64)), (0, .ref p0)]) hx hb dX11_digest_14 rfl hl (by decide) rfl (fun ls hl => ?_)
  refine lv_iconst (v := 0) hx hb dX11_digest_15 (by decide) ?_
  refine lv_istore_n (lv' := [(3, .int 0), (1, .long (80879 + (gI g87 p0 1).toInt64)), (0, .ref p0)]) hx hb dX11_digest_16 rfl hl (by decide) rfl (fun ls hl => ?_)
  exact hb_17 g87 p0 (80879 + (gI g87 p0 1).toInt64) 0 h _ _ _ hc (lv_sub hl [2, 1, 0] rfl)
