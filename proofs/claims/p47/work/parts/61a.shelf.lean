def w_L_below (p0 : Int32) (p1 : Int32) (Q : Int32 → Prop) : Prop :=
  ¬ p1 = 0 ∧ (Q ((p0 &&& 2147483647) - (p0 &&& 2147483647) / p1 * p1))
abbrev r_L_below : Room := { frames := 0, cells := 0, slots := 0, locals := 0 }
set_option maxHeartbeats 8000000 in
set_option maxRecDepth 100000 in
theorem c_L_below {l : Launch} {D : va_G} {cA : Nat → ClassId} {sz b L : Nat} {xs : Nat → Int32} {g0 m0 : gS} {p0 : Int32} {p1 : Int32} {Q : Int32 → Prop} (h : w_L_below p0 p1 Q) : Met l yL_below wsL_below r_L_below (va_Pc [.int p0, .int p1] (hPre D cA b L xs g0 m0 sz)) (hQi D cA g0 m0 sz (fun r g2 m2 => g0 = g2 ∧ m0 = m2 ∧ Q r)) 0 0 (hA g0 m0 sz) := by
  refine h_met (cc := cL_below) (maxL := 2) (ret := (some .int)) (own := RL) (by decide) rfl rfl (Nat.le_of_ble_eq_true rfl) ?_
  intro p e s m args below meth c ls CF hr hlk hnm hc hl
  obtain ⟨hx, hb, hml, hown, hts⟩ := id CF
  have hl : lv_has ls 2 [(0, .int p0), (1, .int p1)] := hl
  have hroom : 0 ≤ 0 ∧ 0 ≤ 0 := ⟨Nat.zero_le _, Nat.zero_le _⟩
  show W p l e r_L_below s m args below meth c s.heap [] 0 0 (MQ below (hQi D cA g0 m0 sz (fun r g2 m2 => g0 = g2 ∧ m0 = m2 ∧ Q r)) args s 0 0 (hA g0 m0 sz)) (F0 m 0 ls [])
  unfold w_L_below at h
  obtain ⟨H, hH0⟩ : ∃ z, z = s.heap := ⟨_, rfl⟩
  rw [← hH0] at hc ⊢
  obtain ⟨locs, hlc0⟩ : ∃ z : List Loc, z = [] := ⟨_, rfl⟩
  rw [← hlc0] at hc ⊢
  refine lv_iload_n hx hb dL_below_0 rfl (lv_at hl 0 rfl) ?_
  refine lv_ldc (v := 2147483647) hx hb hown (hts _ (List.mem_cons_of_mem _ (List.mem_of_getElem? (i := 0) rfl))) dL_below_1 ?_
  refine lv_iand hx hb dL_below_3 ?_
  refine lv_iload_n hx hb dL_below_4 rfl (lv_at hl 1 rfl) ?_
  obtain ⟨hz1, h⟩ := h
  refine lv_irem hx hb dL_below_5 hz1 ?_
  exact h_reti (r := ((p0 &&& 2147483647) - (p0 &&& 2147483647) / p1 * p1)) CF hr hlk hc rfl ⟨rfl, rfl, h⟩ dL_below_6
def b_L_cell_18 (is0 : Int32) (b L : Nat) (xs : Nat → Int32) (Q : Int32 → Prop) : Prop :=
  Q is0
def w_L_cell (p1 : Int32) (b L : Nat) (xs : Nat → Int32) (Q : Int32 → Prop) : Prop :=
  ((nI L) ≤ p1 → (b_L_cell_18 (790386105 * (p1 + 3)) b L xs Q)) ∧ (¬ (nI L) ≤ p1 → (vp_in p1 L ∧ (b_L_cell_18 (xs (Int32.toNatClampNeg p1)) b L xs Q)))
abbrev r_L_cell : Room := { frames := 0, cells := 0, slots := 0, locals := 0 }
set_option maxHeartbeats 8000000 in
set_option maxRecDepth 100000 in
theorem c_L_cell {l : Launch} {D : va_G} {cA : Nat → ClassId} {sz b L : Nat} {xs : Nat → Int32} {g0 m0 : gS} {p1 : Int32} {Q : Int32 → Prop} (h : w_L_cell p1 b L xs Q) : Met l yL_cell wsL_cell r_L_cell (va_Pc [.ref b, .int p1] (hPre D cA b L xs g0 m0 sz)) (hQi D cA g0 m0 sz (fun r g2 m2 => g0 = g2 ∧ m0 = m2 ∧ Q r)) 0 0 (hA g0 m0 sz) := by
  refine h_met (cc := cL_cell) (maxL := 2) (ret := (some .int)) (own := RL) (by decide) rfl rfl (Nat.le_of_ble_eq_true rfl) ?_
  intro p e s m args below meth c ls CF hr hlk hnm hc hl
  obtain ⟨hx, hb, hml, hown, hts⟩ := id CF
  have hl : lv_has ls 2 [(0, .ref b), (1, .int p1)] := hl
  have hroom : 0 ≤ 0 ∧ 0 ≤ 0 := ⟨Nat.zero_le _, Nat.zero_le _⟩
  show W p l e r_L_cell s m args below meth c s.heap [] 0 0 (MQ below (hQi D cA g0 m0 sz (fun r g2 m2 => g0 = g2 ∧ m0 = m2 ∧ Q r)) args s 0 0 (hA g0 m0 sz)) (F0 m 0 ls [])
  have hb_18 : ∀ (is0 : Int32), b_L_cell_18 is0 b L xs Q → (0 ≤ 0 ∧ 0 ≤ 0) → ∀ (H : Heap) (locs : List Loc) (ls : Array Slot), hC D cA (hA g0 m0 sz) s b L xs g0 m0 H locs → lv_has ls 2 [] → W p l e r_L_cell s m args below meth c H locs 0 0 (MQ below (hQi D cA g0 m0 sz (fun r g2 m2 => g0 = g2 ∧ m0 = m2 ∧ Q r)) args s 0 0 (hA g0 m0 sz)) (F0 m 18 ls [.int is0]) := by
    intro is0 h hroom H locs ls hc hl
    unfold b_L_cell_18 at h
    exact h_reti (r := is0) CF hr hlk hc rfl ⟨rfl, rfl, h⟩ dL_cell_18
  unfold w_L_cell at h
  obtain ⟨H, hH0⟩ : ∃ z, z = s.heap := ⟨_, rfl⟩
  rw [← hH0] at hc ⊢
  obtain ⟨locs, hlc0⟩ : ∃ z : List Loc, z = [] := ⟨_, rfl⟩
  rw [← hlc0] at hc ⊢
  refine lv_iload_n hx hb dL_cell_0 rfl (lv_at hl 1 rfl) ?_
  refine lv_aload_n hx hb dL_cell_1 rfl (lv_at hl 0 rfl) ?_
  refine va_slen hx hb hc.2.2.2.2.1 hc.2.2.2.2.2.1 hc.2.2.2.2.2.2 hc.1.2.2.2.2.2 dL_cell_2 ?_
  refine lv_icmp_ge (tgt := 12) hx hb dL_cell_3 (by decide) (fun c1 => ?_) (fun c1 => ?_)
  · have h := h.1 c1
    refine lv_ldc (v := 790386105) hx hb hown (hts _ (List.mem_cons_of_mem _ (List.mem_of_getElem? (i := 0) rfl))) dL_cell_12 ?_
    refine lv_iload_n hx hb dL_cell_14 rfl (lv_at hl 1 rfl) ?_
    refine lv_iconst (v := 3) hx hb dL_cell_15 (by decide) ?_
    refine lv_iadd hx hb dL_cell_16 ?_
    refine lv_imul hx hb dL_cell_17 ?_
    exact hb_18 (790386105 * (p1 + 3)) h hroom _ _ _ hc (lv_sub hl [] rfl)
  · have h := h.2 c1
    refine lv_aload_n hx hb dL_cell_6 rfl (lv_at hl 0 rfl) ?_
    refine lv_iload_n hx hb dL_cell_7 rfl (lv_at hl 1 rfl) ?_
    obtain ⟨hi2, h⟩ := h
    refine va_sld hx hb hc.2.2.2.2.1 hc.2.2.2.2.2.1 hc.2.2.2.2.2.2 hc.1.2.2.2.2.2 hi2 dL_cell_8 ?_
    refine lv_goto (tgt := 18) hx hb dL_cell_9 (by decide) ?_
    exact hb_18 (xs (Int32.toNatClampNeg p1)) h hroom _ _ _ hc (lv_sub hl [] rfl)
def w_X11_draw (g0 m0 : gS) (p0 : Nat) (p1 : Int32) (b L : Nat) (xs : Nat → Int32) (Q : Int32 → gS → gS → Prop) : Prop :=
  gK g0 p0 = 12 ∧ (∃ y2, gR g0 p0 1 = some y2 ∧ (y2 = b ∧ (w_L_cell ((gI g0 p0 2) - (gI g0 p0 2) / 24 * 24) b L xs (fun x5 => (w_L_below ((x5 >>> ((((gI g0 p0 2) / 24) - ((gI g0 p0 2) / 24) / 8 * 8) &&& 31)) + (79 * (gI g0 p0 2))) p1 (fun x8 => (∀ g11, g11 = sU g0 p0 2 ((gI g0 p0 2) + 1) → (Q x8 g11 m0))))))))
abbrev r_X11_draw : Room := { frames := 1, cells := 0, slots := 0, locals := 21 }
set_option maxHeartbeats 8000000 in
set_option maxRecDepth 100000 in
theorem c_X11_draw {l : Launch} {D : va_G} {cA : Nat → ClassId} {sz b L : Nat} {xs : Nat → Int32} {g0 m0 : gS} {p0 : Nat} {p1 : Int32} {Q : Int32 → gS → gS → Prop} (h : w_X11_draw g0 m0 p0 p1 b L xs Q) : Met l yX11_draw wsX11_draw r_X11_draw (va_Pc [.ref p0, .int p1] (hPre D cA b L xs g0 m0 sz)) (hQi D cA g0 m0 sz Q) 0 0 (hA g0 m0 sz) := by
  refine h_met (cc := cX11_draw) (maxL := 3) (ret := (some .int)) (own := RX11) (by decide) rfl rfl (Nat.le_of_ble_eq_true rfl) ?_
  intro p e s m args below meth c ls CF hr hlk hnm hc hl
  obtain ⟨hx, hb, hml, hown, hts⟩ := id CF
  have hl : lv_has ls 3 [(0, .ref p0), (1, .int p1)] := hl
  have hroom : 0 ≤ 0 ∧ 0 ≤ 0 := ⟨Nat.zero_le _, Nat.zero_le _⟩
  show W p l e r_X11_draw s m args below meth c s.heap [] 0 0 (MQ below (hQi D cA g0 m0 sz Q) args s 0 0 (hA g0 m0 sz)) (F0 m 0 ls [])
  unfold w_X11_draw at h
  obtain ⟨H, hH0⟩ : ∃ z, z = s.heap := ⟨_, rfl⟩
  rw [← hH0] at hc ⊢
  obtain ⟨locs, hlc0⟩ : ∃ z : List Loc, z = [] := ⟨_, rfl⟩
  rw [← hlc0] at hc ⊢
  refine lv_aload_n hx hb dX11_draw_0 rfl (lv_at hl 0 rfl) ?_
  obtain ⟨hk1, h⟩ := h
  obtain ⟨y2, e3, h⟩ := h
  refine g_getr CF hc.1 hk1 rfl (by decide) (fun _ h9 => List.mem_cons_of_mem _ (List.mem_append_right _ (h9))) (k := 1) (by decide) (List.mem_cons_of_mem _ (List.mem_append_left _ (List.mem_of_getElem? (i := 0) rfl))) e3 rfl dX11_draw_1 ?_
  refine lv_aload_n hx hb dX11_draw_4 rfl (lv_at hl 0 rfl) ?_
  refine g_get CF hc.1 hk1 rfl (by decide) (fun _ h9 => List.mem_cons_of_mem _ (List.mem_append_right _ (h9))) (k := 2) (by decide) (List.mem_cons_of_mem _ (List.mem_append_left _ (List.mem_of_getElem? (i := 1) rfl))) rfl dX11_draw_5 ?_
  refine lv_bipush (v := 24) hx hb dX11_draw_8 (by decide) ?_
  refine lv_irem hx hb dX11_draw_10 (by decide) ?_
  obtain ⟨es4, h⟩ := h
  rw [es4]
  refine hh_calli (va_runSN (As := [.ref b, .int ((gI g0 p0 2) - (gI g0 p0 2) / 24 * 24)]) (rest := []) CF (c_L_cell h) ⟨va_cnB 2 hts gX11_draw_L_cell_n59 rfl rfl rfl (hc.1.1.2.1 (.methodLinkNest RX11 59 yL_cell "QuarryIndexLaw") (by decide +kernel)) (hts _ (List.mem_cons_of_mem _ (List.mem_append_left _ (List.mem_of_getElem? (i := 3) rfl)))) (by decide +kernel) ⟨Nat.le_of_ble_eq_true rfl, Nat.le_of_ble_eq_true rfl⟩, hts _ (List.mem_cons_of_mem _ (List.mem_append_left _ (List.mem_of_getElem? (i := 2) rfl))), trivial⟩ hc.preS rfl rfl hl.1 rfl (lv_room (Nat.le_of_ble_eq_true rfl)) dX11_draw_11 hroom) hc (fun x5 g6 m7 H locs hq hc => ?_)
  obtain ⟨rfl, rfl, h⟩ := hq
  refine lv_aload_n hx hb dX11_draw_14 rfl (lv_at hl 0 rfl) ?_
  refine g_get CF hc.1 hk1 rfl (by decide) (fun _ h9 => List.mem_cons_of_mem _ (List.mem_append_right _ (h9))) (k := 2) (by decide) (List.mem_cons_of_mem _ (List.mem_append_left _ (List.mem_of_getElem? (i := 1) rfl))) rfl dX11_draw_15 ?_
  refine lv_bipush (v := 24) hx hb dX11_draw_18 (by decide) ?_
  refine lv_idiv hx hb dX11_draw_20 (by decide) ?_
  refine lv_bipush (v := 8) hx hb dX11_draw_21 (by decide) ?_
  refine lv_irem hx hb dX11_draw_23 (by decide) ?_
  refine lv_ishr hx hb dX11_draw_24 ?_
  refine lv_bipush (v := 79) hx hb dX11_draw_25 (by decide) ?_
  refine lv_aload_n hx hb dX11_draw_27 rfl (lv_at hl 0 rfl) ?_
  refine g_get CF hc.1 hk1 rfl (by decide) (fun _ h9 => List.mem_cons_of_mem _ (List.mem_append_right _ (h9))) (k := 2) (by decide) (List.mem_cons_of_mem _ (List.mem_append_left _ (List.mem_of_getElem? (i := 1) rfl))) rfl dX11_draw_28 ?_
  refine lv_imul hx hb dX11_draw_31 ?_
  refine lv_iadd hx hb dX11_draw_32 ?_
  refine lv_iload_n hx hb dX11_draw_33 rfl (lv_at hl 1 rfl) ?_
  refine hh_calli (va_runSN (As := [.int ((x5 >>> ((((gI g0 p0 2) / 24) - ((gI g0 p0 2) / 24) / 8 * 8) &&& 31)) + (79 * (gI g0 p0 2))), .int p1]) (rest := []) CF (c_L_below h) ⟨va_cnB 2 hts gX11_draw_L_below_n65 rfl rfl rfl (hc.1.1.2.1 (.methodLinkNest RX11 65 yL_below "QuarryIndexLaw") (by decide +kernel)) (hts _ (List.mem_cons_of_mem _ (List.mem_append_left _ (List.mem_of_getElem? (i := 3) rfl)))) (by decide +kernel) ⟨Nat.le_of_ble_eq_true rfl, Nat.le_of_ble_eq_true rfl⟩, hts _ (List.mem_cons_of_mem _ (List.mem_append_left _ (List.mem_of_getElem? (i := 6) rfl))), trivial⟩ hc.preS rfl rfl hl.1 rfl (lv_room (Nat.le_of_ble_eq_true rfl)) dX11_draw_34 hroom) hc (fun x8 g9 m10 H locs hq hc => ?_)
  obtain ⟨rfl, rfl, h⟩ := hq
  refine lv_istore_n (lv' := [(2, .int x8), (0, .ref p0), (1, .int p1)]) hx hb dX11_draw_37 rfl hl (by decide) rfl (fun ls hl => ?_)
  refine lv_aload_n hx hb dX11_draw_38 rfl (lv_at hl 1 rfl) ?_
  refine lv_dup hx hb dX11_draw_39 rfl ?_
  refine g_get CF hc.1 hk1 rfl (by decide) (fun _ h9 => List.mem_cons_of_mem _ (List.mem_append_right _ (h9))) (k := 2) (by decide) (List.mem_cons_of_mem _ (List.mem_append_left _ (List.mem_of_getElem? (i := 1) rfl))) rfl dX11_draw_40 ?_
  refine lv_iconst (v := 1) hx hb dX11_draw_43 (by decide) ?_
  refine lv_iadd hx hb dX11_draw_44 ?_
  refine g_puti CF hc.join (hc.jk hk1 (by decide)) rfl (by decide) (fun _ h9 => List.mem_cons_of_mem _ (List.mem_append_right _ (h9))) tyX11 tyX11_ok nmX11 (k := 2) (by decide) (List.mem_cons_of_mem _ (List.mem_append_left _ (List.mem_of_getElem? (i := 1) rfl))) rfl (v := ((gI g0 p0 2) + 1)) rfl rfl rfl dX11_draw_45 (fun H locs hc1 => ?_)
  have hc := hc.putU (by rw [hk1]; decide) hc1
  obtain ⟨g11, eg12⟩ : ∃ z, z = sU g0 p0 2 ((gI g0 p0 2) + 1) := ⟨_, rfl⟩
  have hc : hC D cA (hA g0 m0 sz) s b L xs g11 m0 H locs := by rw [eg12]; exact hc
  replace h := h g11 eg12
  refine lv_iload_n hx hb dX11_draw_48 rfl (lv_at hl 0 rfl) ?_
  exact h_reti (r := x8) CF hr hlk hc rfl h dX11_draw_49
theorem wm_X11_draw {g m : gS} {p0 b L : Nat} {p1 : Int32} {xs : Nat → Int32} {Q : Int32 → gS → gS → Prop} (h : w_X11_draw g m p0 p1 b L xs Q) : w_X11_draw g m p0 p1 b L xs (fun x g' m' => m = m' ∧ Q x g' m') := by
  have e : w_X11_draw g m p0 p1 b L xs (fun x g' m' => m = m' ∧ Q x g' m') = w_X11_draw g m p0 p1 b L xs Q := by
    delta w_X11_draw
    simp only [true_and, eq_self]
  rw [e]; exact h
def w_X11_with (g0 m0 : gS) (p0 : Nat) (p1 : Int32) (mc ms : Nat) (Q : Option Nat → gS → gS → Prop) : Prop :=
  gK g0 p0 = 21 ∧ ((¬ ((nI (gN g0 p0)) + 1) < 0 ∧ (Int32.toNatClampNeg ((nI (gN g0 p0)) + 1)) ≤ 100000) ∧ ((0 + 1 ≤ mc ∧ 0 + (Int32.toNatClampNeg ((nI (gN g0 p0)) + 1)) ≤ ms) ∧ (∀ q2, gK g0 q2 = 0 → (∀ g7, g7 = sNew g0 q2 21 (Int32.toNatClampNeg ((nI (gN g0 p0)) + 1)) → (gK g7 p0 = 21 ∧ (gK g7 q2 = 21 ∧ ((¬ (nI (gN g7 p0)) < 0 ∧ (Int32.toNatClampNeg 0) + (Int32.toNatClampNeg (nI (gN g7 p0))) ≤ gN g7 p0 ∧ (Int32.toNatClampNeg 0) + (Int32.toNatClampNeg (nI (gN g7 p0))) ≤ gN g7 q2) ∧ (∀ g12, g12 = sI g7 q2 (va_cpy (gI g7 p0) (gI g7 q2) (Int32.toNatClampNeg 0) (Int32.toNatClampNeg 0) (Int32.toNatClampNeg (nI (gN g7 p0)))) → (gK g12 p0 = 21 ∧ (gK g12 q2 = 21 ∧ (vp_in (nI (gN g12 p0)) (gN g12 q2) ∧ (∀ g17, g17 = sU g12 q2 (Int32.toNatClampNeg (nI (gN g12 p0))) p1 → (Q (some q2) g17 m0)))))))))))))
abbrev r_X11_with (mc ms : Nat) : Room := { frames := 1, cells := mc, slots := ms, locals := 40 }
set_option maxHeartbeats 8000000 in
set_option maxRecDepth 100000 in
theorem c_X11_with {l : Launch} {D : va_G} {cA : Nat → ClassId} {sz b L : Nat} {xs : Nat → Int32} {g0 m0 : gS} {p0 : Nat} {p1 : Int32} {mc ms : Nat} {Q : Option Nat → gS → gS → Prop} (h : w_X11_with g0 m0 p0 p1 mc ms Q) : Met l yX11_with wsX11_with (r_X11_with mc ms) (va_Pc [.ref p0, .int p1] (hPre D cA b L xs g0 m0 sz)) (hQq D cA g0 m0 sz Q) mc ms (hA g0 m0 sz) := by
  refine h_met (cc := cX11_with) (maxL := 3) (ret := (some (.array .int))) (own := RX11) (by decide) rfl rfl (Nat.le_of_ble_eq_true rfl) ?_
  intro p e s m args below meth c ls CF hr hlk hnm hc hl
  obtain ⟨hx, hb, hml, hown, hts⟩ := id CF
  have hl : lv_has ls 3 [(0, .ref p0), (1, .int p1)] := hl
  have hroom : 0 ≤ mc ∧ 0 ≤ ms := ⟨Nat.zero_le _, Nat.zero_le _⟩
  show W p l e (r_X11_with mc ms) s m args below meth c s.heap [] 0 0 (MQ below (hQq D cA g0 m0 sz Q) args s mc ms (hA g0 m0 sz)) (F0 m 0 ls [])
  unfold w_X11_with at h
  obtain ⟨H, hH0⟩ : ∃ z, z = s.heap := ⟨_, rfl⟩
  rw [← hH0] at hc ⊢
  obtain ⟨locs, hlc0⟩ : ∃ z : List Loc, z = [] := ⟨_, rfl⟩
  rw [← hlc0] at hc ⊢
  refine lv_aload_n hx hb dX11_with_0 rfl (lv_at hl 0 rfl) ?_
  obtain ⟨hk1, h⟩ := h
  refine g_alen CF hc.1 (j := 0) hk1 (by decide) dX11_with_1 ?_
  refine lv_iconst (v := 1) hx hb dX11_with_2 (by decide) ?_
  refine lv_iadd hx hb dX11_with_3 ?_
  obtain ⟨hn4, h⟩ := h
  obtain ⟨hroom5, h⟩ := h
  refine g_newi CF hc.join (List.mem_cons_of_mem _ (List.mem_of_getElem? (i := 0) rfl)) (n := ((nI (gN g0 p0)) + 1)) (N := (Int32.toNatClampNeg ((nI (gN g0 p0)) + 1))) hn4.1 rfl (by have := hn4.2; omega) hroom5.1 hroom5.2 dX11_with_4 (fun q2 H locs hq3 hc1 => ?_)
  obtain ⟨hf6, hf6m, hc⟩ := hc.made hq3 (by decide) hc1
  replace h := h q2 hf6
  have hroom := hroom5
  have hc := hc
  obtain ⟨g7, eg8⟩ : ∃ z, z = sNew g0 q2 21 (Int32.toNatClampNeg ((nI (gN g0 p0)) + 1)) := ⟨_, rfl⟩
  have hc : hC D cA (hA g0 m0 sz) s b L xs g7 m0 H locs := by rw [eg8]; exact hc
  replace h := h g7 eg8
  refine lv_astore_n (lv' := [(2, .ref q2), (0, .ref p0), (1, .int p1)]) hx hb dX11_with_6 rfl hl (by decide) rfl (fun ls hl => ?_)
  refine lv_aload_n hx hb dX11_with_7 rfl (lv_at hl 1 rfl) ?_
  refine lv_iconst (v := 0) hx hb dX11_with_8 (by decide) ?_
  refine lv_aload_n hx hb dX11_with_9 rfl (lv_at hl 0 rfl) ?_
  refine lv_iconst (v := 0) hx hb dX11_with_10 (by decide) ?_
  refine lv_aload_n hx hb dX11_with_11 rfl (lv_at hl 1 rfl) ?_
  obtain ⟨hk9, h⟩ := h
  refine g_alen CF hc.1 (j := 0) hk9 (by decide) dX11_with_12 ?_
  obtain ⟨hk10, h⟩ := h
  obtain ⟨hn11, h⟩ := h
  refine g_copyi CF hc.join hl.1 (List.mem_cons_of_mem _ (List.mem_of_getElem? (i := 1) rfl)) (List.mem_cons_of_mem _ (List.mem_of_getElem? (i := 2) rfl)) (List.mem_cons_of_mem _ (List.mem_of_getElem? (i := 3) rfl)) (List.mem_cons_of_mem _ (List.mem_of_getElem? (i := 4) rfl)) (hc.jk hk9 (by decide)) (hc.jk hk10 (by decide)) (sp := 0) (dp := 0) (n := (nI (gN g7 p0))) (by decide) (by decide) hn11.1 (by rw [hc.jn (by rw [hk9]; decide)]; exact hn11.2.1) (by rw [hc.jn (by rw [hk10]; decide)]; exact hn11.2.2) (Nat.le_of_ble_eq_true rfl) (by show (List.map (fun v : Value => v.category) []).sum + (nativeFrameWords "java/lang/System" "arraycopy" 5 + 11) ≤ 40; decide +kernel) dX11_with_13 (fun H locs hc1 => ?_)
  rw [gI_jl (hc.ap (by rw [hk9]; decide)), gI_jl (hc.ap (by rw [hk10]; decide))] at hc1
  have hc := hc.putI (by rw [hk10]; decide) hc1
  obtain ⟨g12, eg13⟩ : ∃ z, z = sI g7 q2 (va_cpy (gI g7 p0) (gI g7 q2) (Int32.toNatClampNeg 0) (Int32.toNatClampNeg 0) (Int32.toNatClampNeg (nI (gN g7 p0)))) := ⟨_, rfl⟩
  have hc : hC D cA (hA g0 m0 sz) s b L xs g12 m0 H locs := by rw [eg13]; exact hc
  replace h := h g12 eg13
  refine lv_aload_n hx hb dX11_with_16 rfl (lv_at hl 0 rfl) ?_
  refine lv_aload_n hx hb dX11_with_17 rfl (lv_at hl 1 rfl) ?_
  obtain ⟨hk14, h⟩ := h
  refine g_alen CF hc.1 (j := 0) hk14 (by decide) dX11_with_18 ?_
  refine lv_iload_n hx hb dX11_with_19 rfl (lv_at hl 2 rfl) ?_
  obtain ⟨hk15, h⟩ := h
  obtain ⟨hi16, h⟩ := h
  refine g_iast CF hc.join (hc.jk hk15 (by decide)) (x := p1) (by rw [hc.jn (by rw [hk15]; decide)]; exact hi16) dX11_with_20 (fun H locs hc1 => ?_)
  have hc := hc.putU (by rw [hk15]; decide) hc1
  obtain ⟨g17, eg18⟩ : ∃ z, z = sU g12 q2 (Int32.toNatClampNeg (nI (gN g12 p0))) p1 := ⟨_, rfl⟩
  have hc : hC D cA (hA g0 m0 sz) s b L xs g17 m0 H locs := by rw [eg18]; exact hc
  replace h := h g17 eg18
  refine lv_aload_n hx hb dX11_with_21 rfl (lv_at hl 0 rfl) ?_
  refine W.widen (k := mc) (n := ms) hroom.1 hroom.2 ?_
  exact h_retq (r := (some q2)) CF hr hlk hc h dX11_with_22
theorem wm_X11_with {g m : gS} {p0 mc ms : Nat} {p1 : Int32} {Q : Option Nat → gS → gS → Prop} (h : w_X11_with g m p0 p1 mc ms Q) : w_X11_with g m p0 p1 mc ms (fun x g' m' => m = m' ∧ Q x g' m') := by
  have e : w_X11_with g m p0 p1 mc ms (fun x g' m' => m = m' ∧ Q x g' m') = w_X11_with g m p0 p1 mc ms Q := by
    delta w_X11_with
    simp only [true_and, eq_self]
  rw [e]; exact h
def b_X11_remove_40 (g : gS) (gm : gS) (C : Nat) (S : Nat) (is0 : Int32) (b L : Nat) (xs : Nat → Int32) (mc ms : Nat) (Q : Int32 → gS → gS → Prop) : Prop :=
  (is0 = 0 ∨ is0 = 1) ∧ (Q is0 g gm)
def w_X11_remove (g0 m0 : gS) (p0 : Nat) (b L : Nat) (xs : Nat → Int32) (mc ms : Nat) (Q : Int32 → gS → gS → Prop) : Prop :=
  gK g0 p0 = 12 ∧ (w_X11_draw g0 m0 p0 (gI g0 p0 3) b L xs (fun x3 g4 m5 => (gK g4 p0 = 12 ∧ (∃ y7, gR g4 p0 7 = some y7 ∧ (gK g4 y7 = 22 ∧ (vp_in x3 (gN g4 y7) ∧ (∃ y11, gR g4 p0 7 = some y11 ∧ (gK g4 y11 = 22 ∧ (vp_in x3 (gN g4 y11) ∧ (∀ g15, g15 = sU g4 y11 (Int32.toNatClampNeg x3) 1 → (gK g15 p0 = 12 ∧ (∃ y18, gR g15 p0 0 = some y18 ∧ (gK m0 y18 = 11 ∧ ((0 + 1 ≤ mc ∧ 0 + 6 ≤ ms) ∧ (w_X10_remove m0 y18 x3 (fun x22 m24 => ((x22 = (gI g4 y7 (Int32.toNatClampNeg x3)) → (b_X11_remove_40 g15 m24 (0 + 1) (0 + 6) 0 b L xs mc ms Q)) ∧ (¬ x22 = (gI g4 y7 (Int32.toNatClampNeg x3)) → (b_X11_remove_40 g15 m24 (0 + 1) (0 + 6) 1 b L xs mc ms Q)))) (fun _ _ => False))))))))))))))))
abbrev r_X11_remove (mc ms : Nat) : Room := { frames := 7, cells := mc, slots := ms, locals := 105 }
set_option maxHeartbeats 8000000 in
set_option maxRecDepth 100000 in
theorem c_X11_remove {l : Launch} {D : va_G} {cA : Nat → ClassId} {sz b L : Nat} {xs : Nat → Int32} {g0 m0 : gS} {p0 : Nat} {mc ms : Nat} {Q : Int32 → gS → gS → Prop} (hflags : l.stackTraces = false) (h : w_X11_remove g0 m0 p0 b L xs mc ms Q) : Met l yX11_remove wsX11_remove (r_X11_remove mc ms) (va_Pc [.ref p0] (hPre D cA b L xs g0 m0 sz)) (hQi D cA g0 m0 sz Q) mc ms (hA g0 m0 sz) := by
  refine h_met (cc := cX11_remove) (maxL := 3) (ret := (some .boolean)) (own := RX11) (by decide) rfl rfl (Nat.le_of_ble_eq_true rfl) ?_
  intro p e s m args below meth c ls CF hr hlk hnm hc hl
  obtain ⟨hx, hb, hml, hown, hts⟩ := id CF
  have hl : lv_has ls 3 [(0, .ref p0)] := hl
  have hroom : 0 ≤ mc ∧ 0 ≤ ms := ⟨Nat.zero_le _, Nat.zero_le _⟩
  show W p l e (r_X11_remove mc ms) s m args below meth c s.heap [] 0 0 (MQ below (hQi D cA g0 m0 sz Q) args s mc ms (hA g0 m0 sz)) (F0 m 0 ls [])
  have hb_40 : ∀ (g : gS) (gm : gS) (C : Nat) (S : Nat) (is0 : Int32), b_X11_remove_40 g gm C S is0 b L xs mc ms Q → (C ≤ mc ∧ S ≤ ms) → ∀ (H : Heap) (locs : List Loc) (ls : Array Slot), hC D cA (hA g0 m0 sz) s b L xs g gm H locs → lv_has ls 3 [] → W p l e (r_X11_remove mc ms) s m args below meth c H locs C S (MQ below (hQi D cA g0 m0 sz Q) args s mc ms (hA g0 m0 sz)) (F0 m 40 ls [.int is0]) := by
    intro g gm C S is0 h hroom H locs ls hc hl
    unfold b_X11_remove_40 at h
    refine W.widen (k := mc) (n := ms) hroom.1 hroom.2 ?_
    obtain ⟨hz1, h⟩ := h
    exact h_reti (r := is0) CF hr hlk hc (narrow_01 hz1) h dX11_remove_40
  unfold w_X11_remove at h
  obtain ⟨H, hH0⟩ : ∃ z, z = s.heap := ⟨_, rfl⟩
  rw [← hH0] at hc ⊢
  obtain ⟨locs, hlc0⟩ : ∃ z : List Loc, z = [] := ⟨_, rfl⟩
  rw [← hlc0] at hc ⊢
  refine lv_aload_n hx hb dX11_remove_0 rfl (lv_at hl 0 rfl) ?_
  refine lv_aload_n hx hb dX11_remove_1 rfl (lv_at hl 0 rfl) ?_
  obtain ⟨hk2, h⟩ := h
  refine g_get CF hc.1 hk2 rfl (by decide) (fun _ h9 => List.mem_cons_of_mem _ (List.mem_append_left _ (List.mem_append_left _ (List.mem_append_left _ (List.mem_append_left _ (List.mem_append_right _ (h9))))))) (k := 3) (by decide) (List.mem_cons_of_mem _ (List.mem_append_left _ (List.mem_append_left _ (List.mem_append_left _ (List.mem_append_left _ (List.mem_append_left _ (List.mem_append_left _ (List.mem_of_getElem? (i := 0) rfl)))))))) rfl dX11_remove_2 ?_
  replace h := wm_X11_draw h
  refine hh_calli (va_runV (As := [.int (gI g0 p0 3)]) (rest := []) CF (c_X11_draw h) (cwV 1 hts gX11_remove_X11_draw rfl rfl rfl (by decide +kernel) ⟨Nat.le_of_ble_eq_true rfl, Nat.le_of_ble_eq_true rfl⟩) (hc.preV hk2 rfl (by decide)) rfl rfl hl.1 rfl (lv_room (Nat.le_of_ble_eq_true rfl)) dX11_remove_5 hroom) hc (fun x3 g4 m5 H locs hq hc => ?_)
  obtain ⟨rfl, h⟩ := hq
  refine lv_istore_n (lv' := [(1, .int x3), (0, .ref p0)]) hx hb dX11_remove_8 rfl hl (by decide) rfl (fun ls hl => ?_)
  refine lv_aload_n hx hb dX11_remove_9 rfl (lv_at hl 1 rfl) ?_
  obtain ⟨hk6, h⟩ := h
  obtain ⟨y7, e8, h⟩ := h
  refine g_getr CF hc.1 hk6 rfl (by decide) (fun _ h9 => List.mem_cons_of_mem _ (List.mem_append_left _ (List.mem_append_left _ (List.mem_append_left _ (List.mem_append_left _ (List.mem_append_right _ (h9))))))) (k := 7) (by decide) (List.mem_cons_of_mem _ (List.mem_append_left _ (List.mem_append_left _ (List.mem_append_left _ (List.mem_append_left _ (List.mem_append_left _ (List.mem_append_left _ (List.mem_of_getElem? (i := 1) rfl)))))))) e8 rfl dX11_remove_10 ?_
  refine lv_iload_n hx hb dX11_remove_13 rfl (lv_at hl 0 rfl) ?_
  obtain ⟨hk10, h⟩ := h
  obtain ⟨hi9, h⟩ := h
  refine g_zald CF hc.1 hk10 hi9 dX11_remove_14 ?_
  refine lv_istore_n (lv' := [(2, .int (gI g4 y7 (Int32.toNatClampNeg x3))), (1, .int x3), (0, .ref p0)]) hx hb dX11_remove_15 rfl hl (by decide) rfl (fun ls hl => ?_)
  refine lv_aload_n hx hb dX11_remove_16 rfl (lv_at hl 2 rfl) ?_
  obtain ⟨y11, e12, h⟩ := h
  refine g_getr CF hc.1 hk6 rfl (by decide) (fun _ h9 => List.mem_cons_of_mem _ (List.mem_append_left _ (List.mem_append_left _ (List.mem_append_left _ (List.mem_append_left _ (List.mem_append_right _ (h9))))))) (k := 7) (by decide) (List.mem_cons_of_mem _ (List.mem_append_left _ (List.mem_append_left _ (List.mem_append_left _ (List.mem_append_left _ (List.mem_append_left _ (List.mem_append_left _ (List.mem_of_getElem? (i := 1) rfl)))))))) e12 rfl dX11_remove_17 ?_
  refine lv_iload_n hx hb dX11_remove_20 rfl (lv_at hl 1 rfl) ?_
  refine lv_iconst (v := 1) hx hb dX11_remove_21 (by decide) ?_
  obtain ⟨hk13, h⟩ := h
  obtain ⟨hi14, h⟩ := h
  refine g_zast CF hc.join (hc.jk hk13 (by decide)) (x := 1) (by decide : (1 : Int32) = 0 ∨ (1 : Int32) = 1) (by rw [hc.jn (by rw [hk13]; decide)]; exact hi14) dX11_remove_22 (fun H locs hc1 => ?_)
  have hc := hc.putU (by rw [hk13]; decide) hc1
  obtain ⟨g15, eg16⟩ : ∃ z, z = sU g4 y11 (Int32.toNatClampNeg x3) 1 := ⟨_, rfl⟩
  have hc : hC D cA (hA g0 m0 sz) s b L xs g15 m0 H locs := by rw [eg16]; exact hc
  replace h := h g15 eg16
  refine lv_aload_n hx hb dX11_remove_23 rfl (lv_at hl 2 rfl) ?_
  obtain ⟨hk17, h⟩ := h
  obtain ⟨y18, e19, h⟩ := h
  refine g_getr CF hc.1 hk17 rfl (by decide) (fun _ h9 => List.mem_cons_of_mem _ (List.mem_append_left _ (List.mem_append_left _ (List.mem_append_left _ (List.mem_append_left _ (List.mem_append_right _ (h9))))))) (k := 0) (by decide) (List.mem_cons_of_mem _ (List.mem_append_left _ (List.mem_append_left _ (List.mem_append_left _ (List.mem_append_left _ (List.mem_append_left _ (List.mem_append_left _ (List.mem_of_getElem? (i := 2) rfl)))))))) e19 rfl dX11_remove_24 ?_
  refine lv_iload_n hx hb dX11_remove_27 rfl (lv_at hl 1 rfl) ?_
  obtain ⟨hk20, h⟩ := h
  obtain ⟨hroom21, h⟩ := h
  refine h_xcalli (vx_runV (As := [.int x3]) (rest := []) CF (c_X10_remove hflags h) (cwV 1 hts gX11_remove_X10_remove rfl rfl rfl (by decide +kernel) ⟨Nat.le_of_ble_eq_true rfl, Nat.le_of_ble_eq_true rfl⟩) (hc.swap.1.preV hk20 rfl (by decide)) rfl rfl hl.1 rfl (lv_room (Nat.le_of_ble_eq_true rfl)) dX11_remove_28 hroom21) (fun _ _ z => z) hc (fun x22 m24 H locs hq hc => ?_)
  replace h := hq
  have hroom := hroom21
  refine lv_iload_n hx hb dX11_remove_31 rfl (lv_at hl 0 rfl) ?_
  refine lv_icmp_eq (tgt := 39) hx hb dX11_remove_32 (by decide) (fun c25 => ?_) (fun c25 => ?_)
  · have h := h.1 c25
    refine lv_iconst (v := 0) hx hb dX11_remove_39 (by decide) ?_
    exact hb_40 g15 m24 (0 + 1) (0 + 6) 0 h hroom _ _ _ hc (lv_sub hl [] rfl)
  · have h := h.2 c25
    refine lv_iconst (v := 1) hx hb dX11_remove_35 (by decide) ?_
    refine lv_goto (tgt := 40) hx hb dX11_remove_36 (by decide) ?_
    exact hb_40 g15 m24 (0 + 1) (0 + 6) 1 h hroom _ _ _ hc (lv_sub hl [] rfl)
def b_X11_merge_181 (g : gS) (gm : gS) (C : Nat) (S : Nat) (r0 : Nat) (r4 : Nat) (mc ms : Nat) (Q : gS → gS → Prop) : Prop :=
  gK g r0 = 12 ∧ (∀ g2, g2 = sV g r0 12 (some r4) → (Q g2 gm))
def b_X11_merge_153 (g : gS) (gm : gS) (C : Nat) (S : Nat) (r0 : Nat) (i1 : Int32) (o3 : Option Nat) (is0 : Int32) (mc ms : Nat) (Q : gS → gS → Prop) : Prop :=
  (¬ is0 < 0 ∧ (Int32.toNatClampNeg is0) ≤ 100000) ∧ ((C + 1 ≤ mc ∧ S + (Int32.toNatClampNeg is0) ≤ ms) ∧ (∀ q4, gK g q4 = 0 → (∀ g9, g9 = sNew g q4 24 (Int32.toNatClampNeg is0) → (gK g9 r0 = 12 ∧ (∃ y12, gR g9 r0 12 = some y12 ∧ (gK g9 y12 = 24 ∧ (gK g9 q4 = 24 ∧ ((¬ i1 < 0 ∧ (Int32.toNatClampNeg 0) + (Int32.toNatClampNeg i1) ≤ gN g9 y12 ∧ (Int32.toNatClampNeg 0) + (Int32.toNatClampNeg i1) ≤ gN g9 q4 ∧ ∀ i : Nat, i < (Int32.toNatClampNeg i1) → ∀ y : Nat, gR g9 y12 ((Int32.toNatClampNeg 0) + i) = some y → gK g9 y = 21) ∧ (∀ g17, g17 = sR g9 q4 (va_cpy (gR g9 y12) (gR g9 q4) (Int32.toNatClampNeg 0) (Int32.toNatClampNeg 0) (Int32.toNatClampNeg i1)) → (∃ y19, o3 = some y19 ∧ (gK g17 y19 = 21 ∧ (((nI (gN g17 y19)) ≤ 1 → (b_X11_merge_181 g17 gm (C + 1) (S + (Int32.toNatClampNeg is0)) r0 q4 mc ms Q)) ∧ (¬ (nI (gN g17 y19)) ≤ 1 → (gK g17 q4 = 24 ∧ (vp_in i1 (gN g17 q4) ∧ (∀ g26, g26 = sV g17 q4 (Int32.toNatClampNeg i1) (some y19) → (b_X11_merge_181 g26 gm (C + 1) (S + (Int32.toNatClampNeg is0)) r0 q4 mc ms Q)))))))))))))))))
def b_X11_merge_134 (g : gS) (gm : gS) (C : Nat) (S : Nat) (r0 : Nat) (i1 : Int32) (o3 : Option Nat) (i4 : Int32) (mc ms : Nat) (Q : gS → gS → Prop) (k11 : gS → Nat → Nat → Option Nat → Int32 → Prop) : Prop :=
  k11 g C S o3 (i4 + 1)
def b_X11_merge_112 (g : gS) (gm : gS) (C : Nat) (S : Nat) (r0 : Nat) (i1 : Int32) (o3 : Option Nat) (i4 : Int32) (i5 : Int32) (mc ms : Nat) (Q : gS → gS → Prop) (k11 : gS → Nat → Nat → Option Nat → Int32 → Prop) : Prop :=
  (i5 = 0 → (b_X11_merge_134 g gm C S r0 i1 o3 i4 mc ms Q k11)) ∧ (¬ i5 = 0 → (gK g r0 = 12 ∧ (∃ y30, gR g r0 7 = some y30 ∧ (gK g y30 = 22 ∧ (vp_in i4 (gN g y30) ∧ (((gI g y30 (Int32.toNatClampNeg i4)) = 0 → (∃ y35, o3 = some y35 ∧ ((C + 1 ≤ mc ∧ S + 64 ≤ ms) ∧ (w_X11_with g gm y35 i4 1 64 (fun o39 g40 m41 => (b_X11_merge_134 g40 gm (C + 1) (S + 64) r0 i1 o39 i4 mc ms Q k11)))))) ∧ (¬ (gI g y30 (Int32.toNatClampNeg i4)) = 0 → (b_X11_merge_134 g gm C S r0 i1 o3 i4 mc ms Q k11))))))))
def b_X11_merge_74 (g : gS) (gm : gS) (C : Nat) (S : Nat) (r0 : Nat) (i1 : Int32) (o3 : Option Nat) (i4 : Int32) (i6 : Int32) (i7 : Int32) (is0 : Int32) (is1 : Int32) (mc ms : Nat) (Q : gS → gS → Prop) (k11 : gS → Nat → Nat → Option Nat → Int32 → Prop) (k26 : Int32 → Int32 → Prop) (k39 : Int32 → Int32 → Prop) : Prop :=
  k39 (is0 ||| is1) (i7 + 1)
def l_X11_merge_39 (g : gS) (gm : gS) (C : Nat) (S : Nat) (r0 : Nat) (i1 : Int32) (o3 : Option Nat) (i4 : Int32) (i6 : Int32) (mc ms : Nat) (Q : gS → gS → Prop) (k11 : gS → Nat → Nat → Option Nat → Int32 → Prop) (k26 : Int32 → Int32 → Prop) (i5 : Int32) (i7 : Int32) (k39 : Int32 → Int32 → Prop) : Prop :=
  gK g r0 = 12 ∧ (∃ y43, gR g r0 12 = some y43 ∧ (gK g y43 = 24 ∧ (vp_in i6 (gN g y43) ∧ (∃ y47, gR g y43 (Int32.toNatClampNeg i6) = some y47 ∧ (gK g y47 = 21 ∧ (((nI (gN g y47)) ≤ i7 → (k26 i5 (i6 + 1))) ∧ (¬ (nI (gN g y47)) ≤ i7 → (∃ y51, gR g r0 12 = some y51 ∧ (gK g y51 = 24 ∧ (vp_in i6 (gN g y51) ∧ (∃ y55, gR g y51 (Int32.toNatClampNeg i6) = some y55 ∧ (gK g y55 = 21 ∧ (vp_in i7 (gN g y55) ∧ (((gI g y55 (Int32.toNatClampNeg i7)) = i4 → (b_X11_merge_74 g gm C S r0 i1 o3 i4 i6 i7 i5 1 mc ms Q k11 k26 k39)) ∧ (¬ (gI g y55 (Int32.toNatClampNeg i7)) = i4 → (b_X11_merge_74 g gm C S r0 i1 o3 i4 i6 i7 i5 0 mc ms Q k11 k26 k39))))))))))))))))
def l_X11_merge_26 (g : gS) (gm : gS) (C : Nat) (S : Nat) (r0 : Nat) (i1 : Int32) (o3 : Option Nat) (i4 : Int32) (mc ms : Nat) (Q : gS → gS → Prop) (k11 : gS → Nat → Nat → Option Nat → Int32 → Prop) (i5 : Int32) (i6 : Int32) (k26 : Int32 → Int32 → Prop) : Prop :=
  gK g r0 = 12 ∧ (∃ y61, gR g r0 12 = some y61 ∧ (gK g y61 = 24 ∧ (((nI (gN g y61)) ≤ i6 → ((i5 = 0 → (b_X11_merge_112 g gm C S r0 i1 o3 i4 i5 mc ms Q k11)) ∧ (¬ i5 = 0 → (∃ y66, gR g r0 7 = some y66 ∧ (gK g y66 = 22 ∧ (vp_in i4 (gN g y66) ∧ (((gI g y66 (Int32.toNatClampNeg i4)) = 0 → (b_X11_merge_112 g gm C S r0 i1 o3 i4 i5 mc ms Q k11)) ∧ (¬ (gI g y66 (Int32.toNatClampNeg i4)) = 0 → (∃ y71, gR g r0 8 = some y71 ∧ (gK g y71 = 21 ∧ (vp_in i4 (gN g y71) ∧ (∀ g75, g75 = sU g y71 (Int32.toNatClampNeg i4) 2 → (b_X11_merge_112 g75 gm C S r0 i1 o3 i4 i5 mc ms Q k11))))))))))))) ∧ (¬ (nI (gN g y61)) ≤ i6 → (lpx2 (l_X11_merge_39 g gm C S r0 i1 o3 i4 i6 mc ms Q k11 k26) i5 1)))))
def l_X11_merge_11 (gm : gS) (r0 : Nat) (i1 : Int32) (mc ms : Nat) (Q : gS → gS → Prop) (g : gS) (C : Nat) (S : Nat) (o3 : Option Nat) (i4 : Int32) (k11 : gS → Nat → Nat → Option Nat → Int32 → Prop) : Prop :=
  gK g r0 = 12 ∧ (((gI g r0 3) ≤ i4 → (∃ y79, o3 = some y79 ∧ (gK g y79 = 21 ∧ (((nI (gN g y79)) = 1 → (b_X11_merge_153 g gm C S r0 i1 (some y79) i1 mc ms Q)) ∧ (¬ (nI (gN g y79)) = 1 → (b_X11_merge_153 g gm C S r0 i1 (some y79) (i1 + 1) mc ms Q)))))) ∧ (¬ (gI g r0 3) ≤ i4 → (lpx2 (l_X11_merge_26 g gm C S r0 i1 o3 i4 mc ms Q k11) 0 i1)))
def w_X11_merge (g0 m0 : gS) (p0 : Nat) (p1 : Int32) (p2 : Int32) (mc ms : Nat) (Q : gS → gS → Prop) : Prop :=
  (0 + 1 ≤ mc ∧ 0 + 1 ≤ ms) ∧ (∀ q84, gK g0 q84 = 0 → (∀ g88, g88 = sNew g0 q84 21 1 → (gK g88 q84 = 21 ∧ (vp_in 0 (gN g88 q84) ∧ (∀ g92, g92 = sU g88 q84 (Int32.toNatClampNeg 0) p2 → (lpx5 (l_X11_merge_11 m0 p0 p1 mc ms Q) g92 (0 + 1) (0 + 1) (some q84) 0))))))
abbrev r_X11_merge (mc ms : Nat) : Room := { frames := 2, cells := mc, slots := ms, locals := 62 }
set_option maxHeartbeats 8000000 in
set_option maxRecDepth 100000 in
theorem c_X11_merge {l : Launch} {D : va_G} {cA : Nat → ClassId} {sz b L : Nat} {xs : Nat → Int32} {g0 m0 : gS} {p0 : Nat} {p1 : Int32} {p2 : Int32} {mc ms : Nat} {Q : gS → gS → Prop} (h : w_X11_merge g0 m0 p0 p1 p2 mc ms Q) : Met l yX11_merge wsX11_merge (r_X11_merge mc ms) (va_Pc [.ref p0, .int p1, .int p2] (hPre D cA b L xs g0 m0 sz)) (hQv D cA g0 m0 sz Q) mc ms (hA g0 m0 sz) := by
  refine h_met (cc := cX11_merge) (maxL := 8) (ret := none) (own := RX11) (by decide) rfl rfl (Nat.le_of_ble_eq_true rfl) ?_
  intro p e s m args below meth c ls CF hr hlk hnm hc hl
  obtain ⟨hx, hb, hml, hown, hts⟩ := id CF
  have hl : lv_has ls 8 [(0, .ref p0), (1, .int p1), (2, .int p2)] := hl
  have hroom : 0 ≤ mc ∧ 0 ≤ ms := ⟨Nat.zero_le _, Nat.zero_le _⟩
  show W p l e (r_X11_merge mc ms) s m args below meth c s.heap [] 0 0 (MQ below (hQv D cA g0 m0 sz Q) args s mc ms (hA g0 m0 sz)) (F0 m 0 ls [])
  have hb_181 : ∀ (g : gS) (gm : gS) (C : Nat) (S : Nat) (r0 : Nat) (r4 : Nat), b_X11_merge_181 g gm C S r0 r4 mc ms Q → (C ≤ mc ∧ S ≤ ms) → ∀ (H : Heap) (locs : List Loc) (ls : Array Slot), hC D cA (hA g0 m0 sz) s b L xs g gm H locs → lv_has ls 8 [(0, .ref r0), (4, .ref r4)] → W p l e (r_X11_merge mc ms) s m args below meth c H locs C S (MQ below (hQv D cA g0 m0 sz Q) args s mc ms (hA g0 m0 sz)) (F0 m 181 ls []) := by
    intro g gm C S r0 r4 h hroom H locs ls hc hl
    unfold b_X11_merge_181 at h
    refine lv_aload_n hx hb dX11_merge_181 rfl (lv_at hl 0 rfl) ?_
    refine lv_aload hx hb dX11_merge_182 (lv_at hl 1 rfl) ?_
    obtain ⟨hk1, h⟩ := h
    refine g_putr CF hc.join (hc.jk hk1 (by decide)) rfl (by decide) (fun _ h9 => List.mem_cons_of_mem _ (List.mem_append_right _ (h9))) tyX11 tyX11_ok nmX11 (k := 12) (by decide) (List.mem_cons_of_mem _ (List.mem_append_left _ (List.mem_of_getElem? (i := 2) rfl))) rfl (some r4) narrow_ra fits_ra rfl dX11_merge_184 (fun H locs hc1 => ?_)
    have hc := hc.putV (by rw [hk1]; decide) hc1
    obtain ⟨g2, eg3⟩ : ∃ z, z = sV g r0 12 (some r4) := ⟨_, rfl⟩
    have hc : hC D cA (hA g0 m0 sz) s b L xs g2 gm H locs := by rw [eg3]; exact hc
    replace h := h g2 eg3
    refine W.widen (k := mc) (n := ms) hroom.1 hroom.2 ?_
    exact h_retv CF hr hlk hc h dX11_merge_187
  have hb_153 : ∀ (g : gS) (gm : gS) (C : Nat) (S : Nat) (r0 : Nat) (i1 : Int32) (o3 : Option Nat) (is0 : Int32), b_X11_merge_153 g gm C S r0 i1 o3 is0 mc ms Q → (C ≤ mc ∧ S ≤ ms) → ∀ (H : Heap) (locs : List Loc) (ls : Array Slot), hC D cA (hA g0 m0 sz) s b L xs g gm H locs → lv_has ls 8 [(0, .ref r0), (1, .int i1), (3, va_rf o3)] → W p l e (r_X11_merge mc ms) s m args below meth c H locs C S (MQ below (hQv D cA g0 m0 sz Q) args s mc ms (hA g0 m0 sz)) (F0 m 153 ls [.int is0]) := by
    intro g gm C S r0 i1 o3 is0 h hroom H locs ls hc hl
    unfold b_X11_merge_153 at h
    obtain ⟨hn6, h⟩ := h
    obtain ⟨hroom7, h⟩ := h
    refine g_newr CF hc.join (List.mem_cons_of_mem _ (List.mem_append_left _ (List.mem_of_getElem? (i := 5) rfl))) (n := is0) (N := (Int32.toNatClampNeg is0)) hn6.1 rfl (by have := hn6.2; omega) hroom7.1 hroom7.2 dX11_merge_153 (fun q4 H locs hq5 hc1 => ?_)
    obtain ⟨hf8, hf8m, hc⟩ := hc.made hq5 (by decide) hc1
    replace h := h q4 hf8
    have hroom := hroom7
    have hc := hc
    obtain ⟨g9, eg10⟩ : ∃ z, z = sNew g q4 24 (Int32.toNatClampNeg is0) := ⟨_, rfl⟩
    have hc : hC D cA (hA g0 m0 sz) s b L xs g9 gm H locs := by rw [eg10]; exact hc
    replace h := h g9 eg10
    refine lv_astore (lv' := [(4, .ref q4), (0, .ref r0), (1, .int i1), (3, va_rf o3)]) hx hb dX11_merge_156 hl (by decide) (by cases o3 <;> rfl) (fun ls hl => ?_)
    refine lv_aload_n hx hb dX11_merge_158 rfl (lv_at hl 1 rfl) ?_
    obtain ⟨hk11, h⟩ := h
    obtain ⟨y12, e13, h⟩ := h
    refine g_getr CF hc.1 hk11 rfl (by decide) (fun _ h9 => List.mem_cons_of_mem _ (List.mem_append_right _ (h9))) (k := 12) (by decide) (List.mem_cons_of_mem _ (List.mem_append_left _ (List.mem_of_getElem? (i := 2) rfl))) e13 rfl dX11_merge_159 ?_
    refine lv_iconst (v := 0) hx hb dX11_merge_162 (by decide) ?_
    refine lv_aload hx hb dX11_merge_163 (lv_at hl 0 rfl) ?_
    refine lv_iconst (v := 0) hx hb dX11_merge_165 (by decide) ?_
    refine lv_iload_n hx hb dX11_merge_166 rfl (lv_at hl 2 rfl) ?_
    obtain ⟨hk14, h⟩ := h
    obtain ⟨hk15, h⟩ := h
    obtain ⟨hn16, h⟩ := h
    refine g_copyr CF hc.join hl.1 (List.mem_cons_of_mem _ (List.mem_append_left _ (List.mem_of_getElem? (i := 6) rfl))) (List.mem_cons_of_mem _ (List.mem_append_left _ (List.mem_of_getElem? (i := 7) rfl))) (List.mem_cons_of_mem _ (List.mem_append_left _ (List.mem_of_getElem? (i := 8) rfl))) (List.mem_cons_of_mem _ (List.mem_append_left _ (List.mem_of_getElem? (i := 9) rfl))) (hc.jk hk14 (by decide)) (hc.jk hk15 (by decide)) (sp := 0) (dp := 0) (n := i1) (by decide) (by decide) hn16.1 (by rw [hc.jn (by rw [hk14]; decide)]; exact hn16.2.1) (by rw [hc.jn (by rw [hk15]; decide)]; exact hn16.2.2.1) (fun i hi y hy => by rw [gR_jl (hc.ap (by rw [hk14]; decide))] at hy; exact hc.jk (hn16.2.2.2 i hi y hy) (by decide)) (Nat.le_of_ble_eq_true rfl) (by show (List.map (fun v : Value => v.category) []).sum + (nativeFrameWords "java/lang/System" "arraycopy" 5 + 11) ≤ 62; decide +kernel) dX11_merge_167 (fun H locs hc1 => ?_)
    rw [gR_jl (hc.ap (by rw [hk14]; decide)), gR_jl (hc.ap (by rw [hk15]; decide))] at hc1
    have hc := hc.putR (by rw [hk15]; decide) hc1
    obtain ⟨g17, eg18⟩ : ∃ z, z = sR g9 q4 (va_cpy (gR g9 y12) (gR g9 q4) (Int32.toNatClampNeg 0) (Int32.toNatClampNeg 0) (Int32.toNatClampNeg i1)) := ⟨_, rfl⟩
    have hc : hC D cA (hA g0 m0 sz) s b L xs g17 gm H locs := by rw [eg18]; exact hc
    replace h := h g17 eg18
    refine g_aload_nq CF dX11_merge_170 rfl (lv_at hl 3 rfl) ?_
    obtain ⟨y19, e20, hu21⟩ := h
    subst e20
    have h := hu21
    obtain ⟨hk22, h⟩ := h
    refine g_alen CF hc.1 (j := 0) hk22 (by decide) dX11_merge_171 ?_
    refine lv_iconst (v := 1) hx hb dX11_merge_172 (by decide) ?_
    refine lv_icmp_le (tgt := 181) hx hb dX11_merge_173 (by decide) (fun c23 => ?_) (fun c23 => ?_)
    · have h := h.1 c23
      exact hb_181 g17 gm (C + 1) (S + (Int32.toNatClampNeg is0)) r0 q4 h hroom _ _ _ hc (lv_sub hl [1, 0] rfl)
    · have h := h.2 c23
      refine lv_aload hx hb dX11_merge_176 (lv_at hl 0 rfl) ?_
      refine lv_iload_n hx hb dX11_merge_178 rfl (lv_at hl 2 rfl) ?_
      refine lv_aload_n hx hb dX11_merge_179 rfl (lv_at hl 3 rfl) ?_
      obtain ⟨hk24, h⟩ := h
      obtain ⟨hi25, h⟩ := h
      refine g_aastr CF hc.join (hc.jk hk24 (by decide)) (hc.jk hk22 (by decide)) (by rw [hc.jn (by rw [hk24]; decide)]; exact hi25) dX11_merge_180 (fun H locs hc1 => ?_)
      have hc := hc.putV (by rw [hk24]; decide) hc1
      obtain ⟨g26, eg27⟩ : ∃ z, z = sV g17 q4 (Int32.toNatClampNeg i1) (some y19) := ⟨_, rfl⟩
      have hc : hC D cA (hA g0 m0 sz) s b L xs g26 gm H locs := by rw [eg27]; exact hc
      replace h := h g26 eg27
      exact hb_181 g26 gm (C + 1) (S + (Int32.toNatClampNeg is0)) r0 q4 h hroom _ _ _ hc (lv_sub hl [1, 0] rfl)
  have hb_11 : ∀ (gm : gS) (r0 : Nat) (i1 : Int32), ∀ (g : gS) (C : Nat) (S : Nat) (o3 : Option Nat) (i4 : Int32), lpx5 (l_X11_merge_11 gm r0 i1 mc ms Q) g C S o3 i4 → (C ≤ mc ∧ S ≤ ms) → ∀ (H : Heap) (locs : List Loc) (ls : Array Slot), hC D cA (hA g0 m0 sz) s b L xs g gm H locs → lv_has ls 8 [(0, .ref r0), (1, .int i1), (3, va_rf o3), (4, .int i4)] → W p l e (r_X11_merge mc ms) s m args below meth c H locs C S (MQ below (hQv D cA g0 m0 sz Q) args s mc ms (hA g0 m0 sz)) (F0 m 11 ls []) := by
    intro gm r0 i1
    refine lpx5_run (P := fun (g : gS) (C : Nat) (S : Nat) (o3 : Option Nat) (i4 : Int32) => (C ≤ mc ∧ S ≤ ms) → ∀ (H : Heap) (locs : List Loc) (ls : Array Slot), hC D cA (hA g0 m0 sz) s b L xs g gm H locs → lv_has ls 8 [(0, .ref r0), (1, .int i1), (3, va_rf o3), (4, .int i4)] → W p l e (r_X11_merge mc ms) s m args below meth c H locs C S (MQ below (hQv D cA g0 m0 sz Q) args s mc ms (hA g0 m0 sz)) (F0 m 11 ls [])) ?_
    intro k11 hk_11 g C S o3 i4 h hroom H locs ls hc hl
    have hb_134 : ∀ (g : gS) (C : Nat) (S : Nat) (o3 : Option Nat) (i4 : Int32), b_X11_merge_134 g gm C S r0 i1 o3 i4 mc ms Q k11 → (C ≤ mc ∧ S ≤ ms) → ∀ (H : Heap) (locs : List Loc) (ls : Array Slot), hC D cA (hA g0 m0 sz) s b L xs g gm H locs → lv_has ls 8 [(0, .ref r0), (1, .int i1), (3, va_rf o3), (4, .int i4)] → W p l e (r_X11_merge mc ms) s m args below meth c H locs C S (MQ below (hQv D cA g0 m0 sz Q) args s mc ms (hA g0 m0 sz)) (F0 m 134 ls []) := by
      intro g C S o3 i4 h hroom H locs ls hc hl
      unfold b_X11_merge_134 at h
      refine lv_iinc (v := (i4 + 1)) (lv' := [(4, .int (i4 + 1)), (0, .ref r0), (1, .int i1), (3, va_rf o3)]) hx hb dX11_merge_134 hl (k := 3) rfl rfl (by decide) (by cases o3 <;> rfl) (fun ls hl => ?_)
      refine lv_goto (tgt := 11) hx hb dX11_merge_137 (by decide) ?_
      exact hk_11 g C S o3 (i4 + 1) h hroom _ _ _ hc (lv_sub hl [1, 2, 3, 0] rfl)
    have hb_112 : ∀ (g : gS) (C : Nat) (S : Nat) (o3 : Option Nat) (i4 : Int32) (i5 : Int32), b_X11_merge_112 g gm C S r0 i1 o3 i4 i5 mc ms Q k11 → (C ≤ mc ∧ S ≤ ms) → ∀ (H : Heap) (locs : List Loc) (ls : Array Slot), hC D cA (hA g0 m0 sz) s b L xs g gm H locs → lv_has ls 8 [(0, .ref r0), (1, .int i1), (3, va_rf o3), (4, .int i4), (5, .int i5)] → W p l e (r_X11_merge mc ms) s m args below meth c H locs C S (MQ below (hQv D cA g0 m0 sz Q) args s mc ms (hA g0 m0 sz)) (F0 m 112 ls []) := by
      intro g C S o3 i4 i5 h hroom H locs ls hc hl
      unfold b_X11_merge_112 at h
      refine lv_iload hx hb dX11_merge_112 (lv_at hl 4 rfl) ?_
      refine lv_if_eq (tgt := 134) hx hb dX11_merge_114 (by decide) (fun c28 => ?_) (fun c28 => ?_)
      · have h := h.1 c28
        exact hb_134 g C S o3 i4 h hroom _ _ _ hc (lv_sub hl [0, 1, 2, 3] rfl)
      · have h := h.2 c28
        refine lv_aload_n hx hb dX11_merge_117 rfl (lv_at hl 0 rfl) ?_
        obtain ⟨hk29, h⟩ := h
        obtain ⟨y30, e31, h⟩ := h
        refine g_getr CF hc.1 hk29 rfl (by decide) (fun _ h9 => List.mem_cons_of_mem _ (List.mem_append_right _ (h9))) (k := 7) (by decide) (List.mem_cons_of_mem _ (List.mem_append_left _ (List.mem_of_getElem? (i := 3) rfl))) e31 rfl dX11_merge_118 ?_
        refine lv_iload hx hb dX11_merge_121 (lv_at hl 3 rfl) ?_
        obtain ⟨hk33, h⟩ := h
        obtain ⟨hi32, h⟩ := h
        refine g_zald CF hc.1 hk33 hi32 dX11_merge_123 ?_
        refine lv_if_ne (tgt := 134) hx hb dX11_merge_124 (by decide) (fun c34 => ?_) (fun c34 => ?_)
        · have h := h.2 c34
          exact hb_134 g C S o3 i4 h hroom _ _ _ hc (lv_sub hl [0, 1, 2, 3] rfl)
        · have h := h.1 c34
          refine g_aload_nq CF dX11_merge_127 rfl (lv_at hl 2 rfl) ?_
          refine lv_iload hx hb dX11_merge_128 (lv_at hl 3 rfl) ?_
          obtain ⟨y35, e36, hu37⟩ := h
          subst e36
          have h := hu37
          obtain ⟨hroom38, h⟩ := h
          replace h := wm_X11_with h
          refine hh_callq (va_runS (As := [.ref y35, .int i4]) (rest := []) CF (c_X11_with (mc := 1) (ms := 64) h) (va_cwS 2 hts gX11_merge_X11_with rfl rfl rfl (by decide +kernel) ⟨Nat.le_of_ble_eq_true rfl, Nat.le_of_ble_eq_true rfl⟩) hc.preS rfl rfl hl.1 rfl (lv_room (Nat.le_of_ble_eq_true rfl)) dX11_merge_130 hroom38) hc (fun o39 g40 m41 H locs hq hc => ?_)
          obtain ⟨rfl, h⟩ := hq
          have hroom := hroom38
          refine g_astore_nq (lv' := [(3, va_rf o39), (0, .ref r0), (1, .int i1), (4, .int i4), (5, .int i5)]) CF dX11_merge_133 rfl hl (by decide) rfl (fun ls hl => ?_)
          exact hb_134 g40 (C + 1) (S + 64) o39 i4 h hroom _ _ _ hc (lv_sub hl [1, 2, 0, 3] rfl)
    have hb_26 : ∀ (g : gS) (C : Nat) (S : Nat) (o3 : Option Nat) (i4 : Int32), ∀ (i5 : Int32) (i6 : Int32), lpx2 (l_X11_merge_26 g gm C S r0 i1 o3 i4 mc ms Q k11) i5 i6 → (C ≤ mc ∧ S ≤ ms) → ∀ (H : Heap) (locs : List Loc) (ls : Array Slot), hC D cA (hA g0 m0 sz) s b L xs g gm H locs → lv_has ls 8 [(0, .ref r0), (1, .int i1), (3, va_rf o3), (4, .int i4), (5, .int i5), (6, .int i6)] → W p l e (r_X11_merge mc ms) s m args below meth c H locs C S (MQ below (hQv D cA g0 m0 sz Q) args s mc ms (hA g0 m0 sz)) (F0 m 26 ls []) := by
      intro g C S o3 i4
      refine lpx2_run (P := fun (i5 : Int32) (i6 : Int32) => (C ≤ mc ∧ S ≤ ms) → ∀ (H : Heap) (locs : List Loc) (ls : Array Slot), hC D cA (hA g0 m0 sz) s b L xs g gm H locs → lv_has ls 8 [(0, .ref r0), (1, .int i1), (3, va_rf o3), (4, .int i4), (5, .int i5), (6, .int i6)] → W p l e (r_X11_merge mc ms) s m args below meth c H locs C S (MQ below (hQv D cA g0 m0 sz Q) args s mc ms (hA g0 m0 sz)) (F0 m 26 ls [])) ?_
      intro k26 hk_26 i5 i6 h hroom H locs ls hc hl
      have hb_39 : ∀ (i6 : Int32), ∀ (i5 : Int32) (i7 : Int32), lpx2 (l_X11_merge_39 g gm C S r0 i1 o3 i4 i6 mc ms Q k11 k26) i5 i7 → (C ≤ mc ∧ S ≤ ms) → ∀ (H : Heap) (locs : List Loc) (ls : Array Slot), hC D cA (hA g0 m0 sz) s b L xs g gm H locs → lv_has ls 8 [(0, .ref r0), (1, .int i1), (3, va_rf o3), (4, .int i4), (5, .int i5), (6, .int i6), (7, .int i7)] → W p l e (r_X11_merge mc ms) s m args below meth c H locs C S (MQ below (hQv D cA g0 m0 sz Q) args s mc ms (hA g0 m0 sz)) (F0 m 39 ls []) := by
        intro i6
        refine lpx2_run (P := fun (i5 : Int32) (i7 : Int32) => (C ≤ mc ∧ S ≤ ms) → ∀ (H : Heap) (locs : List Loc) (ls : Array Slot), hC D cA (hA g0 m0 sz) s b L xs g gm H locs → lv_has ls 8 [(0, .ref r0), (1, .int i1), (3, va_rf o3), (4, .int i4), (5, .int i5), (6, .int i6), (7, .int i7)] → W p l e (r_X11_merge mc ms) s m args below meth c H locs C S (MQ below (hQv D cA g0 m0 sz Q) args s mc ms (hA g0 m0 sz)) (F0 m 39 ls [])) ?_
        intro k39 hk_39 i5 i7 h hroom H locs ls hc hl
        have hb_74 : ∀ (i7 : Int32) (is0 : Int32) (is1 : Int32), b_X11_merge_74 g gm C S r0 i1 o3 i4 i6 i7 is0 is1 mc ms Q k11 k26 k39 → (C ≤ mc ∧ S ≤ ms) → ∀ (H : Heap) (locs : List Loc) (ls : Array Slot), hC D cA (hA g0 m0 sz) s b L xs g gm H locs → lv_has ls 8 [(0, .ref r0), (1, .int i1), (3, va_rf o3), (4, .int i4), (6, .int i6), (7, .int i7)] → W p l e (r_X11_merge mc ms) s m args below meth c H locs C S (MQ below (hQv D cA g0 m0 sz Q) args s mc ms (hA g0 m0 sz)) (F0 m 74 ls [.int is1, .int is0]) := by
          intro i7 is0 is1 h hroom H locs ls hc hl
          unfold b_X11_merge_74 at h
          refine lv_ior hx hb dX11_merge_74 ?_
          refine lv_istore (lv' := [(5, .int (is0 ||| is1)), (0, .ref r0), (1, .int i1), (3, va_rf o3), (4, .int i4), (6, .int i6), (7, .int i7)]) hx hb dX11_merge_75 hl (by decide) rfl (fun ls hl => ?_)
          refine lv_iinc (v := (i7 + 1)) (lv' := [(7, .int (i7 + 1)), (5, .int (is0 ||| is1)), (0, .ref r0), (1, .int i1), (3, va_rf o3), (4, .int i4), (6, .int i6)]) hx hb dX11_merge_77 hl (k := 6) rfl rfl (by decide) rfl (fun ls hl => ?_)
          refine lv_goto (tgt := 39) hx hb dX11_merge_80 (by decide) ?_
          exact hk_39 (is0 ||| is1) (i7 + 1) h hroom _ _ _ hc (lv_sub hl [2, 3, 4, 5, 1, 6, 0] rfl)
        unfold l_X11_merge_39 at h
        refine lv_iload hx hb dX11_merge_39 (lv_at hl 6 rfl) ?_
        refine lv_aload_n hx hb dX11_merge_41 rfl (lv_at hl 0 rfl) ?_
        obtain ⟨hk42, h⟩ := h
        obtain ⟨y43, e44, h⟩ := h
        refine g_getr CF hc.1 hk42 rfl (by decide) (fun _ h9 => List.mem_cons_of_mem _ (List.mem_append_right _ (h9))) (k := 12) (by decide) (List.mem_cons_of_mem _ (List.mem_append_left _ (List.mem_of_getElem? (i := 2) rfl))) e44 rfl dX11_merge_42 ?_
        refine lv_iload hx hb dX11_merge_45 (lv_at hl 5 rfl) ?_
        obtain ⟨hk46, h⟩ := h
        obtain ⟨hi45, h⟩ := h
        obtain ⟨y47, e48, h⟩ := h
        refine h_aald CF hc hk46 (by decide) hi45 e48 dX11_merge_47 ?_
        obtain ⟨hk49, h⟩ := h
        refine g_alen CF hc.1 (j := 0) hk49 (by decide) dX11_merge_48 ?_
        refine lv_icmp_ge (tgt := 83) hx hb dX11_merge_49 (by decide) (fun c50 => ?_) (fun c50 => ?_)
        · have h := h.1 c50
          refine lv_iinc (v := (i6 + 1)) (lv' := [(6, .int (i6 + 1)), (0, .ref r0), (1, .int i1), (3, va_rf o3), (4, .int i4), (5, .int i5), (7, .int i7)]) hx hb dX11_merge_83 hl (k := 5) rfl rfl (by decide) rfl (fun ls hl => ?_)
          refine lv_goto (tgt := 26) hx hb dX11_merge_86 (by decide) ?_
          exact hk_26 i5 (i6 + 1) h hroom _ _ _ hc (lv_sub hl [1, 2, 3, 4, 5, 0] rfl)
        · have h := h.2 c50
          refine lv_iload hx hb dX11_merge_52 (lv_at hl 4 rfl) ?_
          refine lv_aload_n hx hb dX11_merge_54 rfl (lv_at hl 0 rfl) ?_
          obtain ⟨y51, e52, h⟩ := h
          refine g_getr CF hc.1 hk42 rfl (by decide) (fun _ h9 => List.mem_cons_of_mem _ (List.mem_append_right _ (h9))) (k := 12) (by decide) (List.mem_cons_of_mem _ (List.mem_append_left _ (List.mem_of_getElem? (i := 2) rfl))) e52 rfl dX11_merge_55 ?_
          refine lv_iload hx hb dX11_merge_58 (lv_at hl 5 rfl) ?_
          obtain ⟨hk54, h⟩ := h
          obtain ⟨hi53, h⟩ := h
          obtain ⟨y55, e56, h⟩ := h
          refine h_aald CF hc hk54 (by decide) hi53 e56 dX11_merge_60 ?_
          refine lv_iload hx hb dX11_merge_61 (lv_at hl 6 rfl) ?_
          obtain ⟨hk58, h⟩ := h
          obtain ⟨hi57, h⟩ := h
          refine g_iald CF hc.1 hk58 hi57 dX11_merge_63 ?_
          refine lv_iload hx hb dX11_merge_64 (lv_at hl 3 rfl) ?_
          refine lv_icmp_ne (tgt := 73) hx hb dX11_merge_66 (by decide) (fun c59 => ?_) (fun c59 => ?_)
          · have h := h.2 c59
            refine lv_iconst (v := 0) hx hb dX11_merge_73 (by decide) ?_
            exact hb_74 i7 i5 0 h hroom _ _ _ hc (lv_sub hl [0, 1, 2, 3, 5, 6] rfl)
          · have h := h.1 c59
            refine lv_iconst (v := 1) hx hb dX11_merge_69 (by decide) ?_
            refine lv_goto (tgt := 74) hx hb dX11_merge_70 (by decide) ?_
            exact hb_74 i7 i5 1 h hroom _ _ _ hc (lv_sub hl [0, 1, 2, 3, 5, 6] rfl)
      unfold l_X11_merge_26 at h
      refine lv_iload hx hb dX11_merge_26 (lv_at hl 5 rfl) ?_
      refine lv_aload_n hx hb dX11_merge_28 rfl (lv_at hl 0 rfl) ?_
      obtain ⟨hk60, h⟩ := h
      obtain ⟨y61, e62, h⟩ := h
      refine g_getr CF hc.1 hk60 rfl (by decide) (fun _ h9 => List.mem_cons_of_mem _ (List.mem_append_right _ (h9))) (k := 12) (by decide) (List.mem_cons_of_mem _ (List.mem_append_left _ (List.mem_of_getElem? (i := 2) rfl))) e62 rfl dX11_merge_29 ?_
      obtain ⟨hk63, h⟩ := h
      refine g_alen CF hc.1 (j := 3) hk63 (by decide) dX11_merge_32 ?_
      refine lv_icmp_ge (tgt := 89) hx hb dX11_merge_33 (by decide) (fun c64 => ?_) (fun c64 => ?_)
      · have h := h.1 c64
        refine lv_iload hx hb dX11_merge_89 (lv_at hl 4 rfl) ?_
        refine lv_if_eq (tgt := 112) hx hb dX11_merge_91 (by decide) (fun c65 => ?_) (fun c65 => ?_)
        · have h := h.1 c65
          exact hb_112 g C S o3 i4 i5 h hroom _ _ _ hc (lv_sub hl [0, 1, 2, 3, 4] rfl)
        · have h := h.2 c65
          refine lv_aload_n hx hb dX11_merge_94 rfl (lv_at hl 0 rfl) ?_
          obtain ⟨y66, e67, h⟩ := h
          refine g_getr CF hc.1 hk60 rfl (by decide) (fun _ h9 => List.mem_cons_of_mem _ (List.mem_append_right _ (h9))) (k := 7) (by decide) (List.mem_cons_of_mem _ (List.mem_append_left _ (List.mem_of_getElem? (i := 3) rfl))) e67 rfl dX11_merge_95 ?_
          refine lv_iload hx hb dX11_merge_98 (lv_at hl 3 rfl) ?_
          obtain ⟨hk69, h⟩ := h
          obtain ⟨hi68, h⟩ := h
          refine g_zald CF hc.1 hk69 hi68 dX11_merge_100 ?_
          refine lv_if_eq (tgt := 112) hx hb dX11_merge_101 (by decide) (fun c70 => ?_) (fun c70 => ?_)
          · have h := h.1 c70
            exact hb_112 g C S o3 i4 i5 h hroom _ _ _ hc (lv_sub hl [0, 1, 2, 3, 4] rfl)
          · have h := h.2 c70
            refine lv_aload_n hx hb dX11_merge_104 rfl (lv_at hl 0 rfl) ?_
            obtain ⟨y71, e72, h⟩ := h
            refine g_getr CF hc.1 hk60 rfl (by decide) (fun _ h9 => List.mem_cons_of_mem _ (List.mem_append_right _ (h9))) (k := 8) (by decide) (List.mem_cons_of_mem _ (List.mem_append_left _ (List.mem_of_getElem? (i := 4) rfl))) e72 rfl dX11_merge_105 ?_
            refine lv_iload hx hb dX11_merge_108 (lv_at hl 3 rfl) ?_
            refine lv_iconst (v := 2) hx hb dX11_merge_110 (by decide) ?_
            obtain ⟨hk73, h⟩ := h
            obtain ⟨hi74, h⟩ := h
            refine g_iast CF hc.join (hc.jk hk73 (by decide)) (x := 2) (by rw [hc.jn (by rw [hk73]; decide)]; exact hi74) dX11_merge_111 (fun H locs hc1 => ?_)
            have hc := hc.putU (by rw [hk73]; decide) hc1
            obtain ⟨g75, eg76⟩ : ∃ z, z = sU g y71 (Int32.toNatClampNeg i4) 2 := ⟨_, rfl⟩
            have hc : hC D cA (hA g0 m0 sz) s b L xs g75 gm H locs := by rw [eg76]; exact hc
            replace h := h g75 eg76
            exact hb_112 g75 C S o3 i4 i5 h hroom _ _ _ hc (lv_sub hl [0, 1, 2, 3, 4] rfl)
      · have h := h.2 c64
        refine lv_iconst (v := 1) hx hb dX11_merge_36 (by decide) ?_
        refine lv_istore (lv' := [(7, .int 1), (0, .ref r0), (1, .int i1), (3, va_rf o3), (4, .int i4), (5, .int i5), (6, .int i6)]) hx hb dX11_merge_37 hl (by decide) rfl (fun ls hl => ?_)
        exact hb_39 i6 i5 1 h hroom _ _ _ hc (lv_sub hl [1, 2, 3, 4, 5, 6, 0] rfl)
    unfold l_X11_merge_11 at h
    refine lv_iload hx hb dX11_merge_11 (lv_at hl 3 rfl) ?_
    refine lv_aload_n hx hb dX11_merge_13 rfl (lv_at hl 0 rfl) ?_
    obtain ⟨hk77, h⟩ := h
    refine g_get CF hc.1 hk77 rfl (by decide) (fun _ h9 => List.mem_cons_of_mem _ (List.mem_append_right _ (h9))) (k := 3) (by decide) (List.mem_cons_of_mem _ (List.mem_append_left _ (List.mem_of_getElem? (i := 1) rfl))) rfl dX11_merge_14 ?_
    refine lv_icmp_ge (tgt := 140) hx hb dX11_merge_17 (by decide) (fun c78 => ?_) (fun c78 => ?_)
    · have h := h.1 c78
      refine g_aload_nq CF dX11_merge_140 rfl (lv_at hl 2 rfl) ?_
      obtain ⟨y79, e80, hu81⟩ := h
      subst e80
      have h := hu81
      obtain ⟨hk82, h⟩ := h
      refine g_alen CF hc.1 (j := 0) hk82 (by decide) dX11_merge_141 ?_
      refine lv_iconst (v := 1) hx hb dX11_merge_142 (by decide) ?_
      refine lv_icmp_ne (tgt := 150) hx hb dX11_merge_143 (by decide) (fun c83 => ?_) (fun c83 => ?_)
      · have h := h.2 c83
        refine lv_iload_n hx hb dX11_merge_150 rfl (lv_at hl 1 rfl) ?_
        refine lv_iconst (v := 1) hx hb dX11_merge_151 (by decide) ?_
        refine lv_iadd hx hb dX11_merge_152 ?_
        exact hb_153 g gm C S r0 i1 (some y79) (i1 + 1) h hroom _ _ _ hc (lv_sub hl [0, 1, 2] rfl)
      · have h := h.1 c83
        refine lv_iload_n hx hb dX11_merge_146 rfl (lv_at hl 1 rfl) ?_
        refine lv_goto (tgt := 153) hx hb dX11_merge_147 (by decide) ?_
        exact hb_153 g gm C S r0 i1 (some y79) i1 h hroom _ _ _ hc (lv_sub hl [0, 1, 2] rfl)
    · have h := h.2 c78
      refine lv_iconst (v := 0) hx hb dX11_merge_20 (by decide) ?_
      refine lv_istore (lv' := [(5, .int 0), (0, .ref r0), (1, .int i1), (3, va_rf o3), (4, .int i4)]) hx hb dX11_merge_21 hl (by decide) rfl (fun ls hl => ?_)
      refine lv_iload_n hx hb dX11_merge_23 rfl (lv_at hl 2 rfl) ?_
      refine lv_istore (lv' := [(6, .int i1), (5, .int 0), (0, .ref r0), (1, .int i1), (3, va_rf o3), (4, .int i4)]) hx hb dX11_merge_24 hl (by decide) rfl (fun ls hl => ?_)
      exact hb_26 g C S o3 i4 0 i1 h hroom _ _ _ hc (lv_sub hl [2, 3, 4, 5, 1, 0] rfl)
  unfold w_X11_merge at h
  obtain ⟨H, hH0⟩ : ∃ z, z = s.heap := ⟨_, rfl⟩
  rw [← hH0] at hc ⊢
  obtain ⟨locs, hlc0⟩ : ∃ z : List Loc, z = [] := ⟨_, rfl⟩
  rw [← hlc0] at hc ⊢
  refine lv_iconst (v := 1) hx hb dX11_merge_0 (by decide) ?_
  obtain ⟨hroom86, h⟩ := h
  refine g_newi CF hc.join (List.mem_cons_of_mem _ (List.mem_append_left _ (List.mem_of_getElem? (i := 0) rfl))) (n := 1) (N := 1) (by decide) (by decide) (by decide) hroom86.1 hroom86.2 dX11_merge_1 (fun q84 H locs hq85 hc1 => ?_)
  obtain ⟨hf87, hf87m, hc⟩ := hc.made hq85 (by decide) hc1
  replace h := h q84 hf87
  have hroom := hroom86
  have hc := hc
  obtain ⟨g88, eg89⟩ : ∃ z, z = sNew g0 q84 21 1 := ⟨_, rfl⟩
  have hc : hC D cA (hA g0 m0 sz) s b L xs g88 m0 H locs := by rw [eg89]; exact hc
  replace h := h g88 eg89
  refine lv_dup hx hb dX11_merge_3 rfl ?_
  refine lv_iconst (v := 0) hx hb dX11_merge_4 (by decide) ?_
  refine lv_iload_n hx hb dX11_merge_5 rfl (lv_at hl 2 rfl) ?_
  obtain ⟨hk90, h⟩ := h
  obtain ⟨hi91, h⟩ := h
  refine g_iast CF hc.join (hc.jk hk90 (by decide)) (x := p2) (by rw [hc.jn (by rw [hk90]; decide)]; exact hi91) dX11_merge_6 (fun H locs hc1 => ?_)
  have hc := hc.putU (by rw [hk90]; decide) hc1
  obtain ⟨g92, eg93⟩ : ∃ z, z = sU g88 q84 (Int32.toNatClampNeg 0) p2 := ⟨_, rfl⟩
  have hc : hC D cA (hA g0 m0 sz) s b L xs g92 m0 H locs := by rw [eg93]; exact hc
  replace h := h g92 eg93
  refine lv_astore_n (lv' := [(3, .ref q84), (0, .ref p0), (1, .int p1), (2, .int p2)]) hx hb dX11_merge_7 rfl hl (by decide) rfl (fun ls hl => ?_)
  refine lv_iconst (v := 0) hx hb dX11_merge_8 (by decide) ?_
  refine lv_istore (lv' := [(4, .int 0), (3, .ref q84), (0, .ref p0), (1, .int p1), (2, .int p2)]) hx hb dX11_merge_9 hl (by decide) rfl (fun ls hl => ?_)
  exact hb_11 m0 p0 p1 g92 (0 + 1) (0 + 1) (some q84) 0 h hroom _ _ _ hc (lv_sub hl [2, 3, 1, 0] rfl)
theorem wm_X11_merge {g m : gS} {p0 mc ms : Nat} {p1 p2 : Int32} {Q : gS → gS → Prop} (h : w_X11_merge g m p0 p1 p2 mc ms Q) : w_X11_merge g m p0 p1 p2 mc ms (fun g' m' => m = m' ∧ Q g' m') := by
  have e : w_X11_merge g m p0 p1 p2 mc ms (fun g' m' => m = m' ∧ Q g' m') = w_X11_merge g m p0 p1 p2 mc ms Q := by
    delta w_X11_merge l_X11_merge_11 l_X11_merge_26 l_X11_merge_39 b_X11_merge_74 b_X11_merge_112 b_X11_merge_134 b_X11_merge_153 b_X11_merge_181
    simp only [true_and, eq_self]
  rw [e]; exact h
def l_X11_init_123 (gm : gS) (C : Nat) (S : Nat) (r0 : Nat) (b L : Nat) (xs : Nat → Int32) (mc ms : Nat) (Q : gS → gS → Prop) (g : gS) (i3 : Int32) (k123 : gS → Int32 → Prop) : Prop :=
  (12 ≤ i3 → (Q g gm)) ∧ (¬ 12 ≤ i3 → (gK g r0 = 12 ∧ (∃ y3, gR g r0 10 = some y3 ∧ (gK g y3 = 21 ∧ (vp_in i3 (gN g y3) ∧ (∀ g7, g7 = sU g y3 (Int32.toNatClampNeg i3) (-1) → (k123 g7 (i3 + 1))))))))
def w_X11_init (g0 m0 : gS) (p0 : Nat) (p2 : Int32) (b L : Nat) (xs : Nat → Int32) (mc ms : Nat) (Q : gS → gS → Prop) : Prop :=
  (0 + 1 ≤ mc ∧ 0 + 10 ≤ ms) ∧ (∀ q9, gK m0 q9 = 0 → gK g0 q9 = 0 → ∀ m13, m13 = sNew m0 q9 11 0 → (((0 + 1) + 72 ≤ mc ∧ (0 + 10) + 5155 ≤ ms) ∧ (w_X10_init m13 q9 (fun m18 => (gK g0 p0 = 12 ∧ (∀ g20, g20 = sV g0 p0 0 (some q9) → ((((0 + 1) + 72) + 161 ≤ mc ∧ ((0 + 10) + 5155) + 160 ≤ ms) ∧ (∀ q22, (∀ a, q22 ≤ a → gK g20 a = 0 ∧ gK m18 a = 0) → (∀ g25, g25 = sCube g20 q22 40 3 0 → (gK g25 p0 = 12 ∧ (∀ g28, g28 = sV g25 p0 4 (some q22) → (((((0 + 1) + 72) + 161) + 1 ≤ mc ∧ (((0 + 10) + 5155) + 160) + 40 ≤ ms) ∧ (∀ q30, gK g28 q30 = 0 → (∀ g34, g34 = sNew g28 q30 21 40 → (gK g34 p0 = 12 ∧ (∀ g37, g37 = sV g34 p0 5 (some q30) → ((((((0 + 1) + 72) + 161) + 1) + 1 ≤ mc ∧ ((((0 + 10) + 5155) + 160) + 40) + 40 ≤ ms) ∧ (∀ q39, gK g37 q39 = 0 → (∀ g43, g43 = sNew g37 q39 21 40 → (gK g43 p0 = 12 ∧ (∀ g46, g46 = sV g43 p0 6 (some q39) → (((((((0 + 1) + 72) + 161) + 1) + 1) + 1 ≤ mc ∧ (((((0 + 10) + 5155) + 160) + 40) + 40) + 40 ≤ ms) ∧ (∀ q48, gK g46 q48 = 0 → (∀ g52, g52 = sNew g46 q48 22 40 → (gK g52 p0 = 12 ∧ (∀ g55, g55 = sV g52 p0 7 (some q48) → ((((((((0 + 1) + 72) + 161) + 1) + 1) + 1) + 1 ≤ mc ∧ ((((((0 + 10) + 5155) + 160) + 40) + 40) + 40) + 40 ≤ ms) ∧ (∀ q57, gK g55 q57 = 0 → (∀ g61, g61 = sNew g55 q57 21 40 → (gK g61 p0 = 12 ∧ (∀ g64, g64 = sV g61 p0 8 (some q57) → (((((((((0 + 1) + 72) + 161) + 1) + 1) + 1) + 1) + 1 ≤ mc ∧ (((((((0 + 10) + 5155) + 160) + 40) + 40) + 40) + 40) + 12 ≤ ms) ∧ (∀ q66, gK g64 q66 = 0 → (∀ g70, g70 = sNew g64 q66 22 12 → (gK g70 p0 = 12 ∧ (∀ g73, g73 = sV g70 p0 9 (some q66) → ((((((((((0 + 1) + 72) + 161) + 1) + 1) + 1) + 1) + 1) + 1 ≤ mc ∧ ((((((((0 + 10) + 5155) + 160) + 40) + 40) + 40) + 40) + 12) + 12 ≤ ms) ∧ (∀ q75, gK g73 q75 = 0 → (∀ g79, g79 = sNew g73 q75 21 12 → (gK g79 p0 = 12 ∧ (∀ g82, g82 = sV g79 p0 10 (some q75) → (((((((((((0 + 1) + 72) + 161) + 1) + 1) + 1) + 1) + 1) + 1) + 1 ≤ mc ∧ (((((((((0 + 10) + 5155) + 160) + 40) + 40) + 40) + 40) + 12) + 12) + 3 ≤ ms) ∧ (∀ q84, gK g82 q84 = 0 → (∀ g88, g88 = sNew g82 q84 21 3 → (gK g88 q84 = 21 ∧ (vp_in 0 (gN g88 q84) ∧ (∀ g92, g92 = sU g88 q84 (Int32.toNatClampNeg 0) 1 → (gK g92 q84 = 21 ∧ (vp_in 1 (gN g92 q84) ∧ (∀ g96, g96 = sU g92 q84 (Int32.toNatClampNeg 1) 1 → (gK g96 q84 = 21 ∧ (vp_in 2 (gN g96 q84) ∧ (∀ g100, g100 = sU g96 q84 (Int32.toNatClampNeg 2) 1 → (gK g100 p0 = 12 ∧ (∀ g103, g103 = sV g100 p0 11 (some q84) → ((((((((((((0 + 1) + 72) + 161) + 1) + 1) + 1) + 1) + 1) + 1) + 1) + 1 ≤ mc ∧ ((((((((((0 + 10) + 5155) + 160) + 40) + 40) + 40) + 40) + 12) + 12) + 3) + 0 ≤ ms) ∧ (∀ q105, gK g103 q105 = 0 → (∀ g109, g109 = sNew g103 q105 24 0 → (gK g109 p0 = 12 ∧ (∀ g112, g112 = sV g109 p0 12 (some q105) → (((((((((((((0 + 1) + 72) + 161) + 1) + 1) + 1) + 1) + 1) + 1) + 1) + 1) + 1 ≤ mc ∧ (((((((((((0 + 10) + 5155) + 160) + 40) + 40) + 40) + 40) + 12) + 12) + 3) + 0) + 30 ≤ ms) ∧ (∀ q114, gK g112 q114 = 0 → (∀ g118, g118 = sNew g112 q114 24 30 → (gK g118 p0 = 12 ∧ (∀ g121, g121 = sV g118 p0 14 (some q114) → (gK g121 p0 = 12 ∧ (∀ g124, g124 = sV g121 p0 1 (some b) → (gK g124 p0 = 12 ∧ (∀ g127, g127 = sU g124 p0 2 p2 → (lpx2 (l_X11_init_123 m18 ((((((((((((0 + 1) + 72) + 161) + 1) + 1) + 1) + 1) + 1) + 1) + 1) + 1) + 1) ((((((((((((0 + 10) + 5155) + 160) + 40) + 40) + 40) + 40) + 12) + 12) + 3) + 0) + 30) p0 b L xs mc ms Q) g127 0))))))))))))))))))))))))))))))))))))))))))))))))))))))))))))))))))))))
abbrev r_X11_init (mc ms : Nat) : Room := { frames := 4, cells := mc, slots := ms, locals := 72 }
set_option maxHeartbeats 8000000 in
set_option maxRecDepth 100000 in
theorem c_X11_init {l : Launch} {D : va_G} {cA : Nat → ClassId} {sz b L : Nat} {xs : Nat → Int32} {g0 m0 : gS} {p0 : Nat} {p2 : Int32} {mc ms : Nat} {Q : gS → gS → Prop} (h : w_X11_init g0 m0 p0 p2 b L xs mc ms Q) : Met l yX11_init wsX11_init2 (r_X11_init mc ms) (va_Pc [.ref p0, .ref b, .int p2] (hPre D cA b L xs g0 m0 sz)) (hQv D cA g0 m0 sz Q) mc ms (hA g0 m0 sz) := by
  refine h_met (cc := cX11_init) (maxL := 4) (ret := none) (own := RX11) (by decide) rfl rfl (Nat.le_of_ble_eq_true rfl) ?_
  intro p e s m args below meth c ls CF hr hlk hnm hc hl
  obtain ⟨hx, hb, hml, hown, hts⟩ := id CF
  have hl : lv_has ls 4 [(0, .ref p0), (1, .ref b), (2, .int p2)] := hl
  have hroom : 0 ≤ mc ∧ 0 ≤ ms := ⟨Nat.zero_le _, Nat.zero_le _⟩
  show W p l e (r_X11_init mc ms) s m args below meth c s.heap [] 0 0 (MQ below (hQv D cA g0 m0 sz Q) args s mc ms (hA g0 m0 sz)) (F0 m 0 ls [])
  have hb_123 : ∀ (gm : gS) (C : Nat) (S : Nat) (r0 : Nat), ∀ (g : gS) (i3 : Int32), lpx2 (l_X11_init_123 gm C S r0 b L xs mc ms Q) g i3 → (C ≤ mc ∧ S ≤ ms) → ∀ (H : Heap) (locs : List Loc) (ls : Array Slot), hC D cA (hA g0 m0 sz) s b L xs g gm H locs → lv_has ls 4 [(0, .ref r0), (3, .int i3)] → W p l e (r_X11_init mc ms) s m args below meth c H locs C S (MQ below (hQv D cA g0 m0 sz Q) args s mc ms (hA g0 m0 sz)) (F0 m 123 ls []) := by
    intro gm C S r0
    refine lpx2_run (P := fun (g : gS) (i3 : Int32) => (C ≤ mc ∧ S ≤ ms) → ∀ (H : Heap) (locs : List Loc) (ls : Array Slot), hC D cA (hA g0 m0 sz) s b L xs g gm H locs → lv_has ls 4 [(0, .ref r0), (3, .int i3)] → W p l e (r_X11_init mc ms) s m args below meth c H locs C S (MQ below (hQv D cA g0 m0 sz Q) args s mc ms (hA g0 m0 sz)) (F0 m 123 ls [])) ?_
    intro k123 hk_123 g i3 h hroom H locs ls hc hl
    unfold l_X11_init_123 at h
    refine lv_iload_n hx hb dX11_init_123 rfl (lv_at hl 1 rfl) ?_
    refine lv_bipush (v := 12) hx hb dX11_init_124 (by decide) ?_
    refine lv_icmp_ge (tgt := 142) hx hb dX11_init_126 (by decide) (fun c1 => ?_) (fun c1 => ?_)
    · have h := h.1 c1
      refine W.widen (k := mc) (n := ms) hroom.1 hroom.2 ?_
      exact h_retv CF hr hlk hc h dX11_init_142
    · have h := h.2 c1
      refine lv_aload_n hx hb dX11_init_129 rfl (lv_at hl 0 rfl) ?_
      obtain ⟨hk2, h⟩ := h
      obtain ⟨y3, e4, h⟩ := h
      refine g_getr CF hc.1 hk2 rfl (by decide) (fun q9 z9 => List.mem_append_left _ ((fun _ h9 => List.mem_cons_of_mem _ (List.mem_append_left _ (List.mem_append_left _ (List.mem_append_left _ (List.mem_append_left _ (List.mem_append_left _ (List.mem_append_left _ (List.mem_append_left _ (List.mem_append_right _ (h9)))))))))) q9 z9)) (k := 10) (by decide) (List.mem_append_left _ (List.mem_cons_of_mem _ (List.mem_append_left _ (List.mem_append_left _ (List.mem_append_left _ (List.mem_append_left _ (List.mem_append_left _ (List.mem_append_left _ (List.mem_append_left _ (List.mem_append_left _ (List.mem_append_left _ (List.mem_append_left _ (List.mem_of_getElem? (i := 15) rfl))))))))))))) e4 rfl dX11_init_130 ?_
      refine lv_iload_n hx hb dX11_init_133 rfl (lv_at hl 1 rfl) ?_
      refine lv_iconst (v := (-1)) hx hb dX11_init_134 (by decide) ?_
      obtain ⟨hk5, h⟩ := h
      obtain ⟨hi6, h⟩ := h
      refine g_iast CF hc.join (hc.jk hk5 (by decide)) (x := (-1)) (by rw [hc.jn (by rw [hk5]; decide)]; exact hi6) dX11_init_135 (fun H locs hc1 => ?_)
      have hc := hc.putU (by rw [hk5]; decide) hc1
      obtain ⟨g7, eg8⟩ : ∃ z, z = sU g y3 (Int32.toNatClampNeg i3) (-1) := ⟨_, rfl⟩
      have hc : hC D cA (hA g0 m0 sz) s b L xs g7 gm H locs := by rw [eg8]; exact hc
      replace h := h g7 eg8
      refine lv_iinc (v := (i3 + 1)) (lv' := [(3, .int (i3 + 1)), (0, .ref r0)]) hx hb dX11_init_136 hl (k := 1) rfl rfl (by decide) rfl (fun ls hl => ?_)
      refine lv_goto (tgt := 123) hx hb dX11_init_139 (by decide) ?_
      exact hk_123 g7 (i3 + 1) h hroom _ _ _ hc (lv_sub hl [1, 0] rfl)
  unfold w_X11_init at h
  obtain ⟨H, hH0⟩ : ∃ z, z = s.heap := ⟨_, rfl⟩
  rw [← hH0] at hc ⊢
  obtain ⟨locs, hlc0⟩ : ∃ z : List Loc, z = [] := ⟨_, rfl⟩
  rw [← hlc0] at hc ⊢
  refine lv_aload_n hx hb dX11_init_0 rfl (lv_at hl 0 rfl) ?_
  refine W.objInit hx hb hown (hts _ (List.mem_append_left _ (List.mem_cons_of_mem _ (List.mem_append_left _ (List.mem_append_left _ (List.mem_append_left _ (List.mem_append_left _ (List.mem_append_left _ (List.mem_append_left _ (List.mem_append_left _ (List.mem_append_left _ (List.mem_append_left _ (List.mem_append_left _ (List.mem_of_getElem? (i := 0) rfl)))))))))))))) (hts _ (List.mem_append_left _ (List.mem_cons_of_mem _ (List.mem_append_left _ (List.mem_append_left _ (List.mem_append_left _ (List.mem_append_left _ (List.mem_append_left _ (List.mem_append_left _ (List.mem_append_left _ (List.mem_append_left _ (List.mem_append_left _ (List.mem_append_left _ (List.mem_of_getElem? (i := 1) rfl)))))))))))))) (hts _ (List.mem_append_left _ (List.mem_cons_of_mem _ (List.mem_append_left _ (List.mem_append_left _ (List.mem_append_left _ (List.mem_append_left _ (List.mem_append_left _ (List.mem_append_left _ (List.mem_append_left _ (List.mem_append_left _ (List.mem_append_left _ (List.mem_append_left _ (List.mem_of_getElem? (i := 2) rfl)))))))))))))) rfl (by rw [hml]; exact hl.1) rfl dX11_init_1 (Nat.le_of_ble_eq_true rfl) (Nat.le_of_ble_eq_true rfl) ?_
  refine W.eq (g2 := F0 m 4 ls []) rfl ?_
  refine lv_aload_n hx hb dX11_init_4 rfl (lv_at hl 0 rfl) ?_
  obtain ⟨hroom12, h⟩ := h
  refine g_new CF hc.swap.join (ci := 10) rfl (by decide) (fun q9 z9 => List.mem_append_left _ ((fun _ h9 => List.mem_cons_of_mem _ (List.mem_append_left _ (List.mem_append_left _ (List.mem_append_left _ (List.mem_append_left _ (List.mem_append_left _ (List.mem_append_left _ (List.mem_append_left _ (List.mem_append_left _ (List.mem_append_right _ (h9))))))))))) q9 z9)) tyX10 tyX10_ok dfX10 (List.mem_append_left _ (List.mem_cons_of_mem _ (List.mem_append_left _ (List.mem_append_left _ (List.mem_append_left _ (List.mem_append_left _ (List.mem_append_left _ (List.mem_append_left _ (List.mem_append_left _ (List.mem_append_left _ (List.mem_append_left _ (List.mem_append_left _ (List.mem_of_getElem? (i := 3) rfl))))))))))))) (List.mem_append_left _ (List.mem_cons_of_mem _ (List.mem_append_left _ (List.mem_append_left _ (List.mem_append_left _ (List.mem_append_left _ (List.mem_append_left _ (List.mem_append_left _ (List.mem_append_left _ (List.mem_append_left _ (List.mem_append_left _ (List.mem_append_left _ (List.mem_of_getElem? (i := 4) rfl))))))))))))) (List.mem_append_left _ (List.mem_cons_of_mem _ (List.mem_append_left _ (List.mem_append_left _ (List.mem_append_left _ (List.mem_append_left _ (List.mem_append_left _ (List.mem_append_left _ (List.mem_append_left _ (List.mem_append_left _ (List.mem_append_left _ (List.mem_append_left _ (List.mem_of_getElem? (i := 5) rfl))))))))))))) hroom12.1 hroom12.2 dX11_init_5 (fun q9 H locs hq10 hc1 => ?_)
  obtain ⟨hf11, hf11m, hc⟩ := hc.swap.made hq10 (by decide) hc1
  have hc := hc.swap
  obtain ⟨m13, eg14⟩ : ∃ z, z = sNew m0 q9 11 0 := ⟨_, rfl⟩
  have hc : hC D cA (hA g0 m0 sz) s b L xs g0 m13 H locs := by rw [eg14]; exact hc
  replace h := h q9 hf11 hf11m m13 eg14
  have hroom := hroom12
  refine lv_dup hx hb dX11_init_8 rfl ?_
  obtain ⟨hroom15, h⟩ := h
  refine h_callv (va_runI (b := q9) (As := []) (rest := [.ref q9, .ref p0]) CF (c_X10_init h) (cwI 0 hts gX11_init2_X10_init rfl rfl rfl (hts _ (List.mem_append_left _ (List.mem_cons_of_mem _ (List.mem_append_left _ (List.mem_append_left _ (List.mem_append_left _ (List.mem_append_left _ (List.mem_append_left _ (List.mem_append_left _ (List.mem_append_left _ (List.mem_append_left _ (List.mem_append_left _ (List.mem_append_left _ (List.mem_of_getElem? (i := 5) rfl)))))))))))))) (hts _ (List.mem_append_left _ (List.mem_cons_of_mem _ (List.mem_append_left _ (List.mem_append_left _ (List.mem_append_left _ (List.mem_append_left _ (List.mem_append_left _ (List.mem_append_left _ (List.mem_append_left _ (List.mem_append_left _ (List.mem_append_left _ (List.mem_append_left _ (List.mem_of_getElem? (i := 22) rfl)))))))))))))) (hts _ (List.mem_append_left _ (List.mem_cons_of_mem _ (List.mem_append_left _ (List.mem_append_left _ (List.mem_append_left _ (List.mem_append_left _ (List.mem_append_left _ (List.mem_append_left _ (List.mem_append_left _ (List.mem_append_left _ (List.mem_append_left _ (List.mem_append_left _ (List.mem_of_getElem? (i := 23) rfl)))))))))))))) rfl (by decide +kernel) ⟨Nat.le_of_ble_eq_true rfl, Nat.le_of_ble_eq_true rfl⟩) (hc.swap.1.preS (As := .ref q9 :: [])) rfl rfl hl.1 rfl (lv_room (Nat.le_of_ble_eq_true rfl)) dX11_init_9 hroom15) hc (fun m18 H locs hq hc => ?_)
  replace h := hq
  have hroom := hroom15
  obtain ⟨hk19, h⟩ := h
  refine g_putrF CF hc.join (hc.jk hk19 (by decide)) rfl (by decide) (fun q9 z9 => List.mem_append_left _ ((fun _ h9 => List.mem_cons_of_mem _ (List.mem_append_left _ (List.mem_append_left _ (List.mem_append_left _ (List.mem_append_left _ (List.mem_append_left _ (List.mem_append_left _ (List.mem_append_left _ (List.mem_append_right _ (h9)))))))))) q9 z9)) tyX11 tyX11_ok nmX11 (k := 0) (by decide) (List.mem_append_left _ (List.mem_cons_of_mem _ (List.mem_append_left _ (List.mem_append_left _ (List.mem_append_left _ (List.mem_append_left _ (List.mem_append_left _ (List.mem_append_left _ (List.mem_append_left _ (List.mem_append_left _ (List.mem_append_left _ (List.mem_append_left _ (List.mem_of_getElem? (i := 6) rfl))))))))))))) rfl hnm rfl (some q9) narrow_rf fits_rf rfl dX11_init_12 (fun H locs hc1 => ?_)
  have hc := hc.putV (by rw [hk19]; decide) hc1
  obtain ⟨g20, eg21⟩ : ∃ z, z = sV g0 p0 0 (some q9) := ⟨_, rfl⟩
  have hc : hC D cA (hA g0 m0 sz) s b L xs g20 m18 H locs := by rw [eg21]; exact hc
  replace h := h g20 eg21
  refine lv_aload_n hx hb dX11_init_15 rfl (lv_at hl 0 rfl) ?_
  refine lv_bipush (v := 40) hx hb dX11_init_16 (by decide) ?_
  refine lv_iconst (v := 3) hx hb dX11_init_18 (by decide) ?_
  refine lv_iconst (v := 0) hx hb dX11_init_19 (by decide) ?_
  obtain ⟨hroom24, h⟩ := h
  refine h_mna3 CF hc (List.mem_append_right _ List.mem_cons_self) (List.mem_append_left _ (List.mem_cons_of_mem _ (List.mem_append_left _ (List.mem_append_left _ (List.mem_append_left _ (List.mem_append_left _ (List.mem_append_left _ (List.mem_append_left _ (List.mem_append_left _ (List.mem_append_left _ (List.mem_append_left _ (List.mem_append_left _ (List.mem_of_getElem? (i := 8) rfl))))))))))))) (n := 40) (m1 := 3) (k := 0) (N := 40) (M := 3) (K := 0) (by decide) (by decide) (by decide) (by decide) (by decide) (by decide) (by decide) (by decide) (by decide) hroom24.1 hroom24.2 dX11_init_20 (fun q22 H hq23 hc => ?_)
  show W _ _ _ _ _ _ _ _ _ _ _ _ (((0 + 1) + 72) + 161) (((0 + 10) + 5155) + 160) _ _
  replace h := h q22 hq23
  have hroom := hroom24
  have hc := hc
  obtain ⟨g25, eg26⟩ : ∃ z, z = sCube g20 q22 40 3 0 := ⟨_, rfl⟩
  have hc : hC D cA (hA g0 m0 sz) s b L xs g25 m18 H locs := by rw [eg26]; exact hc
  replace h := h g25 eg26
  obtain ⟨hk27, h⟩ := h
  refine g_putrF CF hc.join (hc.jk hk27 (by decide)) rfl (by decide) (fun q9 z9 => List.mem_append_left _ ((fun _ h9 => List.mem_cons_of_mem _ (List.mem_append_left _ (List.mem_append_left _ (List.mem_append_left _ (List.mem_append_left _ (List.mem_append_left _ (List.mem_append_left _ (List.mem_append_left _ (List.mem_append_right _ (h9)))))))))) q9 z9)) tyX11 tyX11_ok nmX11 (k := 4) (by decide) (List.mem_append_left _ (List.mem_cons_of_mem _ (List.mem_append_left _ (List.mem_append_left _ (List.mem_append_left _ (List.mem_append_left _ (List.mem_append_left _ (List.mem_append_left _ (List.mem_append_left _ (List.mem_append_left _ (List.mem_append_left _ (List.mem_append_left _ (List.mem_of_getElem? (i := 7) rfl))))))))))))) rfl hnm rfl (some q22) narrow_ra fits_ra rfl dX11_init_24 (fun H locs hc1 => ?_)
  have hc := hc.putV (by rw [hk27]; decide) hc1
  obtain ⟨g28, eg29⟩ : ∃ z, z = sV g25 p0 4 (some q22) := ⟨_, rfl⟩
  have hc : hC D cA (hA g0 m0 sz) s b L xs g28 m18 H locs := by rw [eg29]; exact hc
  replace h := h g28 eg29
  refine lv_aload_n hx hb dX11_init_27 rfl (lv_at hl 0 rfl) ?_
  refine lv_bipush (v := 40) hx hb dX11_init_28 (by decide) ?_
  obtain ⟨hroom32, h⟩ := h
  refine g_newi CF hc.join (List.mem_append_left _ (List.mem_cons_of_mem _ (List.mem_append_left _ (List.mem_append_left _ (List.mem_append_left _ (List.mem_append_left _ (List.mem_append_left _ (List.mem_append_left _ (List.mem_append_left _ (List.mem_append_left _ (List.mem_append_left _ (List.mem_append_left _ (List.mem_of_getElem? (i := 8) rfl))))))))))))) (n := 40) (N := 40) (by decide) (by decide) (by decide) hroom32.1 hroom32.2 dX11_init_30 (fun q30 H locs hq31 hc1 => ?_)
  obtain ⟨hf33, hf33m, hc⟩ := hc.made hq31 (by decide) hc1
  replace h := h q30 hf33
  have hroom := hroom32
  have hc := hc
  obtain ⟨g34, eg35⟩ : ∃ z, z = sNew g28 q30 21 40 := ⟨_, rfl⟩
  have hc : hC D cA (hA g0 m0 sz) s b L xs g34 m18 H locs := by rw [eg35]; exact hc
  replace h := h g34 eg35
  obtain ⟨hk36, h⟩ := h
  refine g_putrF CF hc.join (hc.jk hk36 (by decide)) rfl (by decide) (fun q9 z9 => List.mem_append_left _ ((fun _ h9 => List.mem_cons_of_mem _ (List.mem_append_left _ (List.mem_append_left _ (List.mem_append_left _ (List.mem_append_left _ (List.mem_append_left _ (List.mem_append_left _ (List.mem_append_left _ (List.mem_append_right _ (h9)))))))))) q9 z9)) tyX11 tyX11_ok nmX11 (k := 5) (by decide) (List.mem_append_left _ (List.mem_cons_of_mem _ (List.mem_append_left _ (List.mem_append_left _ (List.mem_append_left _ (List.mem_append_left _ (List.mem_append_left _ (List.mem_append_left _ (List.mem_append_left _ (List.mem_append_left _ (List.mem_append_left _ (List.mem_append_left _ (List.mem_of_getElem? (i := 9) rfl))))))))))))) rfl hnm rfl (some q30) narrow_ra fits_ra rfl dX11_init_32 (fun H locs hc1 => ?_)
  have hc := hc.putV (by rw [hk36]; decide) hc1
  obtain ⟨g37, eg38⟩ : ∃ z, z = sV g34 p0 5 (some q30) := ⟨_, rfl⟩
  have hc : hC D cA (hA g0 m0 sz) s b L xs g37 m18 H locs := by rw [eg38]; exact hc
  replace h := h g37 eg38
  refine lv_aload_n hx hb dX11_init_35 rfl (lv_at hl 0 rfl) ?_
  refine lv_bipush (v := 40) hx hb dX11_init_36 (by decide) ?_
  obtain ⟨hroom41, h⟩ := h
  refine g_newi CF hc.join (List.mem_append_left _ (List.mem_cons_of_mem _ (List.mem_append_left _ (List.mem_append_left _ (List.mem_append_left _ (List.mem_append_left _ (List.mem_append_left _ (List.mem_append_left _ (List.mem_append_left _ (List.mem_append_left _ (List.mem_append_left _ (List.mem_append_left _ (List.mem_of_getElem? (i := 8) rfl))))))))))))) (n := 40) (N := 40) (by decide) (by decide) (by decide) hroom41.1 hroom41.2 dX11_init_38 (fun q39 H locs hq40 hc1 => ?_)
  obtain ⟨hf42, hf42m, hc⟩ := hc.made hq40 (by decide) hc1
  replace h := h q39 hf42
  have hroom := hroom41
  have hc := hc
  obtain ⟨g43, eg44⟩ : ∃ z, z = sNew g37 q39 21 40 := ⟨_, rfl⟩
  have hc : hC D cA (hA g0 m0 sz) s b L xs g43 m18 H locs := by rw [eg44]; exact hc
  replace h := h g43 eg44
  obtain ⟨hk45, h⟩ := h
  refine g_putrF CF hc.join (hc.jk hk45 (by decide)) rfl (by decide) (fun q9 z9 => List.mem_append_left _ ((fun _ h9 => List.mem_cons_of_mem _ (List.mem_append_left _ (List.mem_append_left _ (List.mem_append_left _ (List.mem_append_left _ (List.mem_append_left _ (List.mem_append_left _ (List.mem_append_left _ (List.mem_append_right _ (h9)))))))))) q9 z9)) tyX11 tyX11_ok nmX11 (k := 6) (by decide) (List.mem_append_left _ (List.mem_cons_of_mem _ (List.mem_append_left _ (List.mem_append_left _ (List.mem_append_left _ (List.mem_append_left _ (List.mem_append_left _ (List.mem_append_left _ (List.mem_append_left _ (List.mem_append_left _ (List.mem_append_left _ (List.mem_append_left _ (List.mem_of_getElem? (i := 10) rfl))))))))))))) rfl hnm rfl (some q39) narrow_ra fits_ra rfl dX11_init_40 (fun H locs hc1 => ?_)
  have hc := hc.putV (by rw [hk45]; decide) hc1
  obtain ⟨g46, eg47⟩ : ∃ z, z = sV g43 p0 6 (some q39) := ⟨_, rfl⟩
  have hc : hC D cA (hA g0 m0 sz) s b L xs g46 m18 H locs := by rw [eg47]; exact hc
  replace h := h g46 eg47
  refine lv_aload_n hx hb dX11_init_43 rfl (lv_at hl 0 rfl) ?_
  refine lv_bipush (v := 40) hx hb dX11_init_44 (by decide) ?_
  obtain ⟨hroom50, h⟩ := h
  refine g_newz CF hc.join (List.mem_append_left _ (List.mem_cons_of_mem _ (List.mem_append_left _ (List.mem_append_left _ (List.mem_append_left _ (List.mem_append_left _ (List.mem_append_left _ (List.mem_append_left _ (List.mem_append_left _ (List.mem_append_left _ (List.mem_append_left _ (List.mem_append_left _ (List.mem_of_getElem? (i := 11) rfl))))))))))))) (n := 40) (N := 40) (by decide) (by decide) (by decide) hroom50.1 hroom50.2 dX11_init_46 (fun q48 H locs hq49 hc1 => ?_)
  obtain ⟨hf51, hf51m, hc⟩ := hc.made hq49 (by decide) hc1
  replace h := h q48 hf51
  have hroom := hroom50
  have hc := hc
  obtain ⟨g52, eg53⟩ : ∃ z, z = sNew g46 q48 22 40 := ⟨_, rfl⟩
  have hc : hC D cA (hA g0 m0 sz) s b L xs g52 m18 H locs := by rw [eg53]; exact hc
  replace h := h g52 eg53
  obtain ⟨hk54, h⟩ := h
  refine g_putrF CF hc.join (hc.jk hk54 (by decide)) rfl (by decide) (fun q9 z9 => List.mem_append_left _ ((fun _ h9 => List.mem_cons_of_mem _ (List.mem_append_left _ (List.mem_append_left _ (List.mem_append_left _ (List.mem_append_left _ (List.mem_append_left _ (List.mem_append_left _ (List.mem_append_left _ (List.mem_append_right _ (h9)))))))))) q9 z9)) tyX11 tyX11_ok nmX11 (k := 7) (by decide) (List.mem_append_left _ (List.mem_cons_of_mem _ (List.mem_append_left _ (List.mem_append_left _ (List.mem_append_left _ (List.mem_append_left _ (List.mem_append_left _ (List.mem_append_left _ (List.mem_append_left _ (List.mem_append_left _ (List.mem_append_left _ (List.mem_append_left _ (List.mem_of_getElem? (i := 12) rfl))))))))))))) rfl hnm rfl (some q48) narrow_ra fits_ra rfl dX11_init_48 (fun H locs hc1 => ?_)
  have hc := hc.putV (by rw [hk54]; decide) hc1
  obtain ⟨g55, eg56⟩ : ∃ z, z = sV g52 p0 7 (some q48) := ⟨_, rfl⟩
  have hc : hC D cA (hA g0 m0 sz) s b L xs g55 m18 H locs := by rw [eg56]; exact hc
  replace h := h g55 eg56
  refine lv_aload_n hx hb dX11_init_51 rfl (lv_at hl 0 rfl) ?_
  refine lv_bipush (v := 40) hx hb dX11_init_52 (by decide) ?_
  obtain ⟨hroom59, h⟩ := h
  refine g_newi CF hc.join (List.mem_append_left _ (List.mem_cons_of_mem _ (List.mem_append_left _ (List.mem_append_left _ (List.mem_append_left _ (List.mem_append_left _ (List.mem_append_left _ (List.mem_append_left _ (List.mem_append_left _ (List.mem_append_left _ (List.mem_append_left _ (List.mem_append_left _ (List.mem_of_getElem? (i := 8) rfl))))))))))))) (n := 40) (N := 40) (by decide) (by decide) (by decide) hroom59.1 hroom59.2 dX11_init_54 (fun q57 H locs hq58 hc1 => ?_)
  obtain ⟨hf60, hf60m, hc⟩ := hc.made hq58 (by decide) hc1
  replace h := h q57 hf60
  have hroom := hroom59
  have hc := hc
  obtain ⟨g61, eg62⟩ : ∃ z, z = sNew g55 q57 21 40 := ⟨_, rfl⟩
  have hc : hC D cA (hA g0 m0 sz) s b L xs g61 m18 H locs := by rw [eg62]; exact hc
  replace h := h g61 eg62
  obtain ⟨hk63, h⟩ := h
  refine g_putrF CF hc.join (hc.jk hk63 (by decide)) rfl (by decide) (fun q9 z9 => List.mem_append_left _ ((fun _ h9 => List.mem_cons_of_mem _ (List.mem_append_left _ (List.mem_append_left _ (List.mem_append_left _ (List.mem_append_left _ (List.mem_append_left _ (List.mem_append_left _ (List.mem_append_left _ (List.mem_append_right _ (h9)))))))))) q9 z9)) tyX11 tyX11_ok nmX11 (k := 8) (by decide) (List.mem_append_left _ (List.mem_cons_of_mem _ (List.mem_append_left _ (List.mem_append_left _ (List.mem_append_left _ (List.mem_append_left _ (List.mem_append_left _ (List.mem_append_left _ (List.mem_append_left _ (List.mem_append_left _ (List.mem_append_left _ (List.mem_append_left _ (List.mem_of_getElem? (i := 13) rfl))))))))))))) rfl hnm rfl (some q57) narrow_ra fits_ra rfl dX11_init_56 (fun H locs hc1 => ?_)
  have hc := hc.putV (by rw [hk63]; decide) hc1
  obtain ⟨g64, eg65⟩ : ∃ z, z = sV g61 p0 8 (some q57) := ⟨_, rfl⟩
  have hc : hC D cA (hA g0 m0 sz) s b L xs g64 m18 H locs := by rw [eg65]; exact hc
  replace h := h g64 eg65
  refine lv_aload_n hx hb dX11_init_59 rfl (lv_at hl 0 rfl) ?_
  refine lv_bipush (v := 12) hx hb dX11_init_60 (by decide) ?_
  obtain ⟨hroom68, h⟩ := h
  refine g_newz CF hc.join (List.mem_append_left _ (List.mem_cons_of_mem _ (List.mem_append_left _ (List.mem_append_left _ (List.mem_append_left _ (List.mem_append_left _ (List.mem_append_left _ (List.mem_append_left _ (List.mem_append_left _ (List.mem_append_left _ (List.mem_append_left _ (List.mem_append_left _ (List.mem_of_getElem? (i := 11) rfl))))))))))))) (n := 12) (N := 12) (by decide) (by decide) (by decide) hroom68.1 hroom68.2 dX11_init_62 (fun q66 H locs hq67 hc1 => ?_)
  obtain ⟨hf69, hf69m, hc⟩ := hc.made hq67 (by decide) hc1
  replace h := h q66 hf69
  have hroom := hroom68
  have hc := hc
  obtain ⟨g70, eg71⟩ : ∃ z, z = sNew g64 q66 22 12 := ⟨_, rfl⟩
  have hc : hC D cA (hA g0 m0 sz) s b L xs g70 m18 H locs := by rw [eg71]; exact hc
  replace h := h g70 eg71
  obtain ⟨hk72, h⟩ := h
  refine g_putrF CF hc.join (hc.jk hk72 (by decide)) rfl (by decide) (fun q9 z9 => List.mem_append_left _ ((fun _ h9 => List.mem_cons_of_mem _ (List.mem_append_left _ (List.mem_append_left _ (List.mem_append_left _ (List.mem_append_left _ (List.mem_append_left _ (List.mem_append_left _ (List.mem_append_left _ (List.mem_append_right _ (h9)))))))))) q9 z9)) tyX11 tyX11_ok nmX11 (k := 9) (by decide) (List.mem_append_left _ (List.mem_cons_of_mem _ (List.mem_append_left _ (List.mem_append_left _ (List.mem_append_left _ (List.mem_append_left _ (List.mem_append_left _ (List.mem_append_left _ (List.mem_append_left _ (List.mem_append_left _ (List.mem_append_left _ (List.mem_append_left _ (List.mem_of_getElem? (i := 14) rfl))))))))))))) rfl hnm rfl (some q66) narrow_ra fits_ra rfl dX11_init_64 (fun H locs hc1 => ?_)
  have hc := hc.putV (by rw [hk72]; decide) hc1
  obtain ⟨g73, eg74⟩ : ∃ z, z = sV g70 p0 9 (some q66) := ⟨_, rfl⟩
  have hc : hC D cA (hA g0 m0 sz) s b L xs g73 m18 H locs := by rw [eg74]; exact hc
  replace h := h g73 eg74
  refine lv_aload_n hx hb dX11_init_67 rfl (lv_at hl 0 rfl) ?_
  refine lv_bipush (v := 12) hx hb dX11_init_68 (by decide) ?_
  obtain ⟨hroom77, h⟩ := h
  refine g_newi CF hc.join (List.mem_append_left _ (List.mem_cons_of_mem _ (List.mem_append_left _ (List.mem_append_left _ (List.mem_append_left _ (List.mem_append_left _ (List.mem_append_left _ (List.mem_append_left _ (List.mem_append_left _ (List.mem_append_left _ (List.mem_append_left _ (List.mem_append_left _ (List.mem_of_getElem? (i := 8) rfl))))))))))))) (n := 12) (N := 12) (by decide) (by decide) (by decide) hroom77.1 hroom77.2 dX11_init_70 (fun q75 H locs hq76 hc1 => ?_)
  obtain ⟨hf78, hf78m, hc⟩ := hc.made hq76 (by decide) hc1
  replace h := h q75 hf78
  have hroom := hroom77
  have hc := hc
  obtain ⟨g79, eg80⟩ : ∃ z, z = sNew g73 q75 21 12 := ⟨_, rfl⟩
  have hc : hC D cA (hA g0 m0 sz) s b L xs g79 m18 H locs := by rw [eg80]; exact hc
  replace h := h g79 eg80
  obtain ⟨hk81, h⟩ := h
  refine g_putr CF hc.join (hc.jk hk81 (by decide)) rfl (by decide) (fun q9 z9 => List.mem_append_left _ ((fun _ h9 => List.mem_cons_of_mem _ (List.mem_append_left _ (List.mem_append_left _ (List.mem_append_left _ (List.mem_append_left _ (List.mem_append_left _ (List.mem_append_left _ (List.mem_append_left _ (List.mem_append_right _ (h9)))))))))) q9 z9)) tyX11 tyX11_ok nmX11 (k := 10) (by decide) (List.mem_append_left _ (List.mem_cons_of_mem _ (List.mem_append_left _ (List.mem_append_left _ (List.mem_append_left _ (List.mem_append_left _ (List.mem_append_left _ (List.mem_append_left _ (List.mem_append_left _ (List.mem_append_left _ (List.mem_append_left _ (List.mem_append_left _ (List.mem_of_getElem? (i := 15) rfl))))))))))))) rfl (some q75) narrow_ra fits_ra rfl dX11_init_72 (fun H locs hc1 => ?_)
  have hc := hc.putV (by rw [hk81]; decide) hc1
  obtain ⟨g82, eg83⟩ : ∃ z, z = sV g79 p0 10 (some q75) := ⟨_, rfl⟩
  have hc : hC D cA (hA g0 m0 sz) s b L xs g82 m18 H locs := by rw [eg83]; exact hc
  replace h := h g82 eg83
  refine lv_aload_n hx hb dX11_init_75 rfl (lv_at hl 0 rfl) ?_
  refine lv_iconst (v := 3) hx hb dX11_init_76 (by decide) ?_
  obtain ⟨hroom86, h⟩ := h
  refine g_newi CF hc.join (List.mem_append_left _ (List.mem_cons_of_mem _ (List.mem_append_left _ (List.mem_append_left _ (List.mem_append_left _ (List.mem_append_left _ (List.mem_append_left _ (List.mem_append_left _ (List.mem_append_left _ (List.mem_append_left _ (List.mem_append_left _ (List.mem_append_left _ (List.mem_of_getElem? (i := 8) rfl))))))))))))) (n := 3) (N := 3) (by decide) (by decide) (by decide) hroom86.1 hroom86.2 dX11_init_77 (fun q84 H locs hq85 hc1 => ?_)
  obtain ⟨hf87, hf87m, hc⟩ := hc.made hq85 (by decide) hc1
  replace h := h q84 hf87
  have hroom := hroom86
  have hc := hc
  obtain ⟨g88, eg89⟩ : ∃ z, z = sNew g82 q84 21 3 := ⟨_, rfl⟩
  have hc : hC D cA (hA g0 m0 sz) s b L xs g88 m18 H locs := by rw [eg89]; exact hc
  replace h := h g88 eg89
  refine lv_dup hx hb dX11_init_79 rfl ?_
  refine lv_iconst (v := 0) hx hb dX11_init_80 (by decide) ?_
  refine lv_iconst (v := 1) hx hb dX11_init_81 (by decide) ?_
  obtain ⟨hk90, h⟩ := h
  obtain ⟨hi91, h⟩ := h
  refine g_iast CF hc.join (hc.jk hk90 (by decide)) (x := 1) (by rw [hc.jn (by rw [hk90]; decide)]; exact hi91) dX11_init_82 (fun H locs hc1 => ?_)
  have hc := hc.putU (by rw [hk90]; decide) hc1
  obtain ⟨g92, eg93⟩ : ∃ z, z = sU g88 q84 (Int32.toNatClampNeg 0) 1 := ⟨_, rfl⟩
  have hc : hC D cA (hA g0 m0 sz) s b L xs g92 m18 H locs := by rw [eg93]; exact hc
  replace h := h g92 eg93
  refine lv_dup hx hb dX11_init_83 rfl ?_
  refine lv_iconst (v := 1) hx hb dX11_init_84 (by decide) ?_
  refine lv_iconst (v := 1) hx hb dX11_init_85 (by decide) ?_
  obtain ⟨hk94, h⟩ := h
  obtain ⟨hi95, h⟩ := h
  refine g_iast CF hc.join (hc.jk hk94 (by decide)) (x := 1) (by rw [hc.jn (by rw [hk94]; decide)]; exact hi95) dX11_init_86 (fun H locs hc1 => ?_)
  have hc := hc.putU (by rw [hk94]; decide) hc1
  obtain ⟨g96, eg97⟩ : ∃ z, z = sU g92 q84 (Int32.toNatClampNeg 1) 1 := ⟨_, rfl⟩
  have hc : hC D cA (hA g0 m0 sz) s b L xs g96 m18 H locs := by rw [eg97]; exact hc
  replace h := h g96 eg97
  refine lv_dup hx hb dX11_init_87 rfl ?_
  refine lv_iconst (v := 2) hx hb dX11_init_88 (by decide) ?_
  refine lv_iconst (v := 1) hx hb dX11_init_89 (by decide) ?_
  obtain ⟨hk98, h⟩ := h
  obtain ⟨hi99, h⟩ := h
  refine g_iast CF hc.join (hc.jk hk98 (by decide)) (x := 1) (by rw [hc.jn (by rw [hk98]; decide)]; exact hi99) dX11_init_90 (fun H locs hc1 => ?_)
  have hc := hc.putU (by rw [hk98]; decide) hc1
  obtain ⟨g100, eg101⟩ : ∃ z, z = sU g96 q84 (Int32.toNatClampNeg 2) 1 := ⟨_, rfl⟩
  have hc : hC D cA (hA g0 m0 sz) s b L xs g100 m18 H locs := by rw [eg101]; exact hc
  replace h := h g100 eg101
  obtain ⟨hk102, h⟩ := h
  refine g_putrF CF hc.join (hc.jk hk102 (by decide)) rfl (by decide) (fun q9 z9 => List.mem_append_left _ ((fun _ h9 => List.mem_cons_of_mem _ (List.mem_append_left _ (List.mem_append_left _ (List.mem_append_left _ (List.mem_append_left _ (List.mem_append_left _ (List.mem_append_left _ (List.mem_append_left _ (List.mem_append_right _ (h9)))))))))) q9 z9)) tyX11 tyX11_ok nmX11 (k := 11) (by decide) (List.mem_append_left _ (List.mem_cons_of_mem _ (List.mem_append_left _ (List.mem_append_left _ (List.mem_append_left _ (List.mem_append_left _ (List.mem_append_left _ (List.mem_append_left _ (List.mem_append_left _ (List.mem_append_left _ (List.mem_append_left _ (List.mem_append_left _ (List.mem_of_getElem? (i := 16) rfl))))))))))))) rfl hnm rfl (some q84) narrow_ra fits_ra rfl dX11_init_91 (fun H locs hc1 => ?_)
  have hc := hc.putV (by rw [hk102]; decide) hc1
  obtain ⟨g103, eg104⟩ : ∃ z, z = sV g100 p0 11 (some q84) := ⟨_, rfl⟩
  have hc : hC D cA (hA g0 m0 sz) s b L xs g103 m18 H locs := by rw [eg104]; exact hc
  replace h := h g103 eg104
  refine lv_aload_n hx hb dX11_init_94 rfl (lv_at hl 0 rfl) ?_
  refine lv_iconst (v := 0) hx hb dX11_init_95 (by decide) ?_
  obtain ⟨hroom107, h⟩ := h
  refine g_newr CF hc.join (List.mem_append_left _ (List.mem_cons_of_mem _ (List.mem_append_left _ (List.mem_append_left _ (List.mem_append_left _ (List.mem_append_left _ (List.mem_append_left _ (List.mem_append_left _ (List.mem_append_left _ (List.mem_append_left _ (List.mem_append_left _ (List.mem_append_left _ (List.mem_of_getElem? (i := 17) rfl))))))))))))) (n := 0) (N := 0) (by decide) (by decide) (by decide) hroom107.1 hroom107.2 dX11_init_96 (fun q105 H locs hq106 hc1 => ?_)
  obtain ⟨hf108, hf108m, hc⟩ := hc.made hq106 (by decide) hc1
  replace h := h q105 hf108
  have hroom := hroom107
  have hc := hc
  obtain ⟨g109, eg110⟩ : ∃ z, z = sNew g103 q105 24 0 := ⟨_, rfl⟩
  have hc : hC D cA (hA g0 m0 sz) s b L xs g109 m18 H locs := by rw [eg110]; exact hc
  replace h := h g109 eg110
  obtain ⟨hk111, h⟩ := h
  refine g_putr CF hc.join (hc.jk hk111 (by decide)) rfl (by decide) (fun q9 z9 => List.mem_append_left _ ((fun _ h9 => List.mem_cons_of_mem _ (List.mem_append_left _ (List.mem_append_left _ (List.mem_append_left _ (List.mem_append_left _ (List.mem_append_left _ (List.mem_append_left _ (List.mem_append_left _ (List.mem_append_right _ (h9)))))))))) q9 z9)) tyX11 tyX11_ok nmX11 (k := 12) (by decide) (List.mem_append_left _ (List.mem_cons_of_mem _ (List.mem_append_left _ (List.mem_append_left _ (List.mem_append_left _ (List.mem_append_left _ (List.mem_append_left _ (List.mem_append_left _ (List.mem_append_left _ (List.mem_append_left _ (List.mem_append_left _ (List.mem_append_left _ (List.mem_of_getElem? (i := 18) rfl))))))))))))) rfl (some q105) narrow_ra fits_ra rfl dX11_init_99 (fun H locs hc1 => ?_)
  have hc := hc.putV (by rw [hk111]; decide) hc1
  obtain ⟨g112, eg113⟩ : ∃ z, z = sV g109 p0 12 (some q105) := ⟨_, rfl⟩
  have hc : hC D cA (hA g0 m0 sz) s b L xs g112 m18 H locs := by rw [eg113]; exact hc
  replace h := h g112 eg113
  refine lv_aload_n hx hb dX11_init_102 rfl (lv_at hl 0 rfl) ?_
  refine lv_bipush (v := 30) hx hb dX11_init_103 (by decide) ?_
  obtain ⟨hroom116, h⟩ := h
  refine g_newr CF hc.join (List.mem_append_left _ (List.mem_cons_of_mem _ (List.mem_append_left _ (List.mem_append_left _ (List.mem_append_left _ (List.mem_append_left _ (List.mem_append_left _ (List.mem_append_left _ (List.mem_append_left _ (List.mem_append_left _ (List.mem_append_left _ (List.mem_append_left _ (List.mem_of_getElem? (i := 17) rfl))))))))))))) (n := 30) (N := 30) (by decide) (by decide) (by decide) hroom116.1 hroom116.2 dX11_init_105 (fun q114 H locs hq115 hc1 => ?_)
  obtain ⟨hf117, hf117m, hc⟩ := hc.made hq115 (by decide) hc1
  replace h := h q114 hf117
  have hroom := hroom116
  have hc := hc
  obtain ⟨g118, eg119⟩ : ∃ z, z = sNew g112 q114 24 30 := ⟨_, rfl⟩
  have hc : hC D cA (hA g0 m0 sz) s b L xs g118 m18 H locs := by rw [eg119]; exact hc
  replace h := h g118 eg119
  obtain ⟨hk120, h⟩ := h
  refine g_putrF CF hc.join (hc.jk hk120 (by decide)) rfl (by decide) (fun q9 z9 => List.mem_append_left _ ((fun _ h9 => List.mem_cons_of_mem _ (List.mem_append_left _ (List.mem_append_left _ (List.mem_append_left _ (List.mem_append_left _ (List.mem_append_left _ (List.mem_append_left _ (List.mem_append_left _ (List.mem_append_right _ (h9)))))))))) q9 z9)) tyX11 tyX11_ok nmX11 (k := 14) (by decide) (List.mem_append_left _ (List.mem_cons_of_mem _ (List.mem_append_left _ (List.mem_append_left _ (List.mem_append_left _ (List.mem_append_left _ (List.mem_append_left _ (List.mem_append_left _ (List.mem_append_left _ (List.mem_append_left _ (List.mem_append_left _ (List.mem_append_left _ (List.mem_of_getElem? (i := 19) rfl))))))))))))) rfl hnm rfl (some q114) narrow_ra fits_ra rfl dX11_init_108 (fun H locs hc1 => ?_)
  have hc := hc.putV (by rw [hk120]; decide) hc1
  obtain ⟨g121, eg122⟩ : ∃ z, z = sV g118 p0 14 (some q114) := ⟨_, rfl⟩
  have hc : hC D cA (hA g0 m0 sz) s b L xs g121 m18 H locs := by rw [eg122]; exact hc
  replace h := h g121 eg122
  refine lv_aload_n hx hb dX11_init_111 rfl (lv_at hl 0 rfl) ?_
  refine lv_aload_n hx hb dX11_init_112 rfl (lv_at hl 1 rfl) ?_
  obtain ⟨hk123, h⟩ := h
  refine g_putrF CF hc.join (hc.jk hk123 (by decide)) rfl (by decide) (fun q9 z9 => List.mem_append_left _ ((fun _ h9 => List.mem_cons_of_mem _ (List.mem_append_left _ (List.mem_append_left _ (List.mem_append_left _ (List.mem_append_left _ (List.mem_append_left _ (List.mem_append_left _ (List.mem_append_left _ (List.mem_append_right _ (h9)))))))))) q9 z9)) tyX11 tyX11_ok nmX11 (k := 1) (by decide) (List.mem_append_left _ (List.mem_cons_of_mem _ (List.mem_append_left _ (List.mem_append_left _ (List.mem_append_left _ (List.mem_append_left _ (List.mem_append_left _ (List.mem_append_left _ (List.mem_append_left _ (List.mem_append_left _ (List.mem_append_left _ (List.mem_append_left _ (List.mem_of_getElem? (i := 20) rfl))))))))))))) rfl hnm rfl (some b) narrow_ra fits_ra rfl dX11_init_113 (fun H locs hc1 => ?_)
  have hc := hc.putV (by rw [hk123]; decide) hc1
  obtain ⟨g124, eg125⟩ : ∃ z, z = sV g121 p0 1 (some b) := ⟨_, rfl⟩
  have hc : hC D cA (hA g0 m0 sz) s b L xs g124 m18 H locs := by rw [eg125]; exact hc
  replace h := h g124 eg125
  refine lv_aload_n hx hb dX11_init_116 rfl (lv_at hl 0 rfl) ?_
  refine lv_iload_n hx hb dX11_init_117 rfl (lv_at hl 2 rfl) ?_
  obtain ⟨hk126, h⟩ := h
  refine g_puti CF hc.join (hc.jk hk126 (by decide)) rfl (by decide) (fun q9 z9 => List.mem_append_left _ ((fun _ h9 => List.mem_cons_of_mem _ (List.mem_append_left _ (List.mem_append_left _ (List.mem_append_left _ (List.mem_append_left _ (List.mem_append_left _ (List.mem_append_left _ (List.mem_append_left _ (List.mem_append_right _ (h9)))))))))) q9 z9)) tyX11 tyX11_ok nmX11 (k := 2) (by decide) (List.mem_append_left _ (List.mem_cons_of_mem _ (List.mem_append_left _ (List.mem_append_left _ (List.mem_append_left _ (List.mem_append_left _ (List.mem_append_left _ (List.mem_append_left _ (List.mem_append_left _ (List.mem_append_left _ (List.mem_append_left _ (List.mem_append_left _ (List.mem_of_getElem? (i := 21) rfl))))))))))))) rfl (v := p2) rfl rfl rfl dX11_init_118 (fun H locs hc1 => ?_)
  have hc := hc.putU (by rw [hk126]; decide) hc1
  obtain ⟨g127, eg128⟩ : ∃ z, z = sU g124 p0 2 p2 := ⟨_, rfl⟩
  have hc : hC D cA (hA g0 m0 sz) s b L xs g127 m18 H locs := by rw [eg128]; exact hc
  replace h := h g127 eg128
  refine lv_iconst (v := 0) hx hb dX11_init_121 (by decide) ?_
  refine lv_istore_n (lv' := [(3, .int 0), (0, .ref p0), (1, .ref b), (2, .int p2)]) hx hb dX11_init_122 rfl hl (by decide) rfl (fun ls hl => ?_)
  exact hb_123 m18 ((((((((((((0 + 1) + 72) + 161) + 1) + 1) + 1) + 1) + 1) + 1) + 1) + 1) + 1) ((((((((((((0 + 10) + 5155) + 160) + 40) + 40) + 40) + 40) + 12) + 12) + 3) + 0) + 30) p0 g127 0 h hroom _ _ _ hc (lv_sub hl [1, 0] rfl)
