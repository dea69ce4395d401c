def b_X11_setAlias_28 (g : gS) (r0 : Nat) (Q : Int32 → gS → Prop) : Prop :=
  gK g r0 = 12 ∧ (w_X11_no g r0 1 (fun x2 g3 => (Q x2 g3)))
def w_X11_setAlias (g0 : gS) (p0 : Nat) (p1 : Int32) (p2 : Int32) (Q : Int32 → gS → Prop) : Prop :=
  gK g0 p0 = 12 ∧ (∀ g6, g6 = sU g0 p0 0 0 → (w_X11_isTerm g6 p1 (fun x8 => ((x8 = 0 → (b_X11_setAlias_28 g6 p0 Q)) ∧ (¬ x8 = 0 → (w_X11_isIn g6 p2 (-1) 199 (fun x11 => ((x11 = 0 → (b_X11_setAlias_28 g6 p0 Q)) ∧ (¬ x11 = 0 → ((p2 = p1 → (b_X11_setAlias_28 g6 p0 Q)) ∧ (¬ p2 = p1 → (gK g6 p0 = 12 ∧ (∃ y16, gR g6 p0 11 = some y16 ∧ (gK g6 y16 = 21 ∧ (vp_in p1 (gN g6 y16) ∧ (∃ y20, gR g6 p0 11 = some y20 ∧ (gK g6 y20 = 21 ∧ (vp_in p1 (gN g6 y20) ∧ (∀ g24, g24 = sU g6 y20 (Int32.toNatClampNeg p1) p2 → (Q (gI g6 y16 (Int32.toNatClampNeg p1)) g24))))))))))))))))))))
abbrev r_X11_setAlias : Room := { frames := 2, cells := 0, slots := 0, locals := 42 }
set_option maxHeartbeats 4000000 in
set_option maxRecDepth 100000 in
theorem c_X11_setAlias {l : Launch} {D : va_G} {cA : Nat → ClassId} {sz : Nat} {g0 : gS} {p0 : Nat} {p1 : Int32} {p2 : Int32} {Q : Int32 → gS → Prop} (h : w_X11_setAlias g0 p0 p1 p2 Q) : Met l yX11_setAlias wsX11_setAlias r_X11_setAlias (va_Pc [.ref p0, .int p1, .int p2] (gPre D cA g0 sz)) (gQi D cA g0 sz (Q)) 0 0 (gA g0 sz) := by
  refine g_met (cc := cX11_setAlias) (maxL := 4) (ret := (some .int)) (own := RX11) (by decide) rfl rfl (Nat.le_of_ble_eq_true rfl) ?_
  intro p e s m args below meth c ls CF hr hlk hnm hc hl
  obtain ⟨hx, hb, hml, hown, hts⟩ := id CF
  have hl : lv_has ls 4 [(0, .ref p0), (1, .int p1), (2, .int p2)] := hl
  show W p l e r_X11_setAlias s m args below meth c s.heap [] 0 0 (MQ below (gQi D cA g0 sz (Q)) args s 0 0 (gA g0 sz)) (F0 m 0 ls [])
  have hb_28 : ∀ (g : gS) (r0 : Nat), b_X11_setAlias_28 g r0 Q → ∀ (H : Heap) (locs : List Loc) (ls : Array Slot), gC D cA (gA g0 sz) s g H locs → lv_has ls 4 [(0, .ref r0)] → W p l e r_X11_setAlias s m args below meth c H locs 0 0 (MQ below (gQi D cA g0 sz (Q)) args s 0 0 (gA g0 sz)) (F0 m 28 ls []) := by
    intro g r0 h H locs ls hc hl
    unfold b_X11_setAlias_28 at h
    refine lv_aload_n hx hb dX11_setAlias_28 rfl (lv_at hl 0 rfl) ?_
    refine lv_iconst (v := 1) hx hb dX11_setAlias_29 (by decide) ?_
    obtain ⟨hk1, h⟩ := h
    refine g_calli (va_runV (As := [.int 1]) (rest := []) CF (c_X11_no h) (cwV 1 hts gX11_setAlias_X11_no rfl rfl rfl (by decide +kernel) ⟨Nat.le_of_ble_eq_true rfl, Nat.le_of_ble_eq_true rfl⟩) (hc.preV hk1 rfl (by decide)) rfl rfl hl.1 rfl (lv_room (Nat.le_of_ble_eq_true rfl)) dX11_setAlias_30 ⟨Nat.le_of_ble_eq_true rfl, Nat.le_of_ble_eq_true rfl⟩) hc (fun x2 g3 H locs hq hc => ?_)
    replace h := hq
    exact g_reti (r := x2) CF hr hlk hc rfl h dX11_setAlias_33
  unfold w_X11_setAlias at h
  obtain ⟨H, hH0⟩ : ∃ z, z = s.heap := ⟨_, rfl⟩
  rw [← hH0] at hc ⊢
  obtain ⟨locs, hlc0⟩ : ∃ z : List Loc, z = [] := ⟨_, rfl⟩
  rw [← hlc0] at hc ⊢
  refine lv_aload_n hx hb dX11_setAlias_0 rfl (lv_at hl 0 rfl) ?_
  refine lv_iconst (v := 0) hx hb dX11_setAlias_1 (by decide) ?_
  obtain ⟨hk5, h⟩ := h
  refine g_puti CF hc hk5 rfl (by decide) (fun _ h9 => List.mem_cons_of_mem _ (List.mem_append_right _ (h9))) tyX11 tyX11_ok nmX11 (k := 0) (by decide) (List.mem_cons_of_mem _ (List.mem_append_left _ (List.mem_of_getElem? (i := 0) rfl))) rfl (v := 0) rfl rfl rfl dX11_setAlias_2 (fun H locs hc => ?_)
  obtain ⟨g6, eg7⟩ : ∃ z, z = sU g0 p0 0 0 := ⟨_, rfl⟩
  have hc : gC D cA (gA g0 sz) s g6 H locs := by rw [eg7]; exact hc
  replace h := h g6 eg7
  refine lv_iload_n hx hb dX11_setAlias_5 rfl (lv_at hl 1 rfl) ?_
  refine g_calli (va_runS (As := [.int p1]) (rest := []) CF (c_X11_isTerm h) (va_cwS 1 hts gX11_setAlias_X11_isTerm rfl rfl rfl (by decide +kernel) ⟨Nat.le_of_ble_eq_true rfl, Nat.le_of_ble_eq_true rfl⟩) hc.preS rfl rfl hl.1 rfl (lv_room (Nat.le_of_ble_eq_true rfl)) dX11_setAlias_6 ⟨Nat.le_of_ble_eq_true rfl, Nat.le_of_ble_eq_true rfl⟩) hc (fun x8 gq9 H locs hq hc => ?_)
  obtain ⟨rfl, h⟩ := hq
  refine lv_if_eq (tgt := 28) hx hb dX11_setAlias_9 (by decide) (fun c10 => ?_) (fun c10 => ?_)
  · have h := h.1 c10
    exact hb_28 g6 p0 h _ _ _ hc (lv_sub hl [0] rfl)
  · have h := h.2 c10
    refine lv_iload_n hx hb dX11_setAlias_12 rfl (lv_at hl 2 rfl) ?_
    refine lv_iconst (v := (-1)) hx hb dX11_setAlias_13 (by decide) ?_
    refine lv_sipush (v := 199) hx hb dX11_setAlias_14 (by decide) ?_
    refine g_calli (va_runS (As := [.int p2, .int (-1), .int 199]) (rest := []) CF (c_X11_isIn h) (va_cwS 3 hts gX11_setAlias_X11_isIn rfl rfl rfl (by decide +kernel) ⟨Nat.le_of_ble_eq_true rfl, Nat.le_of_ble_eq_true rfl⟩) hc.preS rfl rfl hl.1 rfl (lv_room (Nat.le_of_ble_eq_true rfl)) dX11_setAlias_17 ⟨Nat.le_of_ble_eq_true rfl, Nat.le_of_ble_eq_true rfl⟩) hc (fun x11 gq12 H locs hq hc => ?_)
    obtain ⟨rfl, h⟩ := hq
    refine lv_if_eq (tgt := 28) hx hb dX11_setAlias_20 (by decide) (fun c13 => ?_) (fun c13 => ?_)
    · have h := h.1 c13
      exact hb_28 g6 p0 h _ _ _ hc (lv_sub hl [0] rfl)
    · have h := h.2 c13
      refine lv_iload_n hx hb dX11_setAlias_23 rfl (lv_at hl 2 rfl) ?_
      refine lv_iload_n hx hb dX11_setAlias_24 rfl (lv_at hl 1 rfl) ?_
      refine lv_icmp_ne (tgt := 34) hx hb dX11_setAlias_25 (by decide) (fun c14 => ?_) (fun c14 => ?_)
      · have h := h.2 c14
        refine lv_aload_n hx hb dX11_setAlias_34 rfl (lv_at hl 0 rfl) ?_
        obtain ⟨hk15, h⟩ := h
        obtain ⟨y16, e17, h⟩ := h
        refine g_getr CF hc hk15 rfl (by decide) (fun _ h9 => List.mem_cons_of_mem _ (List.mem_append_right _ (h9))) (k := 11) (by decide) (List.mem_cons_of_mem _ (List.mem_append_left _ (List.mem_of_getElem? (i := 1) rfl))) e17 rfl dX11_setAlias_35 ?_
        refine lv_iload_n hx hb dX11_setAlias_38 rfl (lv_at hl 1 rfl) ?_
        obtain ⟨hk18, h⟩ := h
        obtain ⟨hi19, h⟩ := h
        refine g_iald CF hc hk18 hi19 dX11_setAlias_39 ?_
        refine lv_istore_n (lv' := [(3, .int (gI g6 y16 (Int32.toNatClampNeg p1))), (0, .ref p0), (1, .int p1), (2, .int p2)]) hx hb dX11_setAlias_40 rfl hl (by decide) rfl (fun ls hl => ?_)
        refine lv_aload_n hx hb dX11_setAlias_41 rfl (lv_at hl 1 rfl) ?_
        obtain ⟨y20, e21, h⟩ := h
        refine g_getr CF hc hk15 rfl (by decide) (fun _ h9 => List.mem_cons_of_mem _ (List.mem_append_right _ (h9))) (k := 11) (by decide) (List.mem_cons_of_mem _ (List.mem_append_left _ (List.mem_of_getElem? (i := 1) rfl))) e21 rfl dX11_setAlias_42 ?_
        refine lv_iload_n hx hb dX11_setAlias_45 rfl (lv_at hl 2 rfl) ?_
        refine lv_iload_n hx hb dX11_setAlias_46 rfl (lv_at hl 3 rfl) ?_
        obtain ⟨hk22, h⟩ := h
        obtain ⟨hi23, h⟩ := h
        refine g_iast CF hc hk22 (x := p2) hi23 dX11_setAlias_47 (fun H locs hc => ?_)
        obtain ⟨g24, eg25⟩ : ∃ z, z = sU g6 y20 (Int32.toNatClampNeg p1) p2 := ⟨_, rfl⟩
        have hc : gC D cA (gA g0 sz) s g24 H locs := by rw [eg25]; exact hc
        replace h := h g24 eg25
        refine lv_iload_n hx hb dX11_setAlias_48 rfl (lv_at hl 0 rfl) ?_
        exact g_reti (r := (gI g6 y16 (Int32.toNatClampNeg p1))) CF hr hlk hc rfl h dX11_setAlias_49
      · have h := h.1 c14
        exact hb_28 g6 p0 h _ _ _ hc (lv_sub hl [0] rfl)
def b_X11_setWeight_22 (g : gS) (r0 : Nat) (Q : Int32 → gS → Prop) : Prop :=
  gK g r0 = 12 ∧ (w_X11_no g r0 1 (fun x2 g3 => (Q x2 g3)))
def w_X11_setWeight (g0 : gS) (p0 : Nat) (p1 : Int32) (p2 : Int32) (Q : Int32 → gS → Prop) : Prop :=
  gK g0 p0 = 12 ∧ (∀ g6, g6 = sU g0 p0 0 0 → (w_X11_isField g6 p1 (fun x8 => ((x8 = 0 → (b_X11_setWeight_22 g6 p0 Q)) ∧ (¬ x8 = 0 → (w_X11_isIn g6 p2 1 9 (fun x11 => ((x11 = 0 → (b_X11_setWeight_22 g6 p0 Q)) ∧ (¬ x11 = 0 → (gK g6 p0 = 12 ∧ (∃ y15, gR g6 p0 12 = some y15 ∧ (gK g6 y15 = 21 ∧ (vp_in p1 (gN g6 y15) ∧ (∃ y19, gR g6 p0 12 = some y19 ∧ (gK g6 y19 = 21 ∧ (vp_in p1 (gN g6 y19) ∧ (∀ g23, g23 = sU g6 y19 (Int32.toNatClampNeg p1) p2 → (Q (gI g6 y15 (Int32.toNatClampNeg p1)) g23))))))))))))))))))
abbrev r_X11_setWeight : Room := { frames := 2, cells := 0, slots := 0, locals := 42 }
set_option maxHeartbeats 4000000 in
set_option maxRecDepth 100000 in
theorem c_X11_setWeight {l : Launch} {D : va_G} {cA : Nat → ClassId} {sz : Nat} {g0 : gS} {p0 : Nat} {p1 : Int32} {p2 : Int32} {Q : Int32 → gS → Prop} (h : w_X11_setWeight g0 p0 p1 p2 Q) : Met l yX11_setWeight wsX11_setWeight r_X11_setWeight (va_Pc [.ref p0, .int p1, .int p2] (gPre D cA g0 sz)) (gQi D cA g0 sz (Q)) 0 0 (gA g0 sz) := by
  refine g_met (cc := cX11_setWeight) (maxL := 4) (ret := (some .int)) (own := RX11) (by decide) rfl rfl (Nat.le_of_ble_eq_true rfl) ?_
  intro p e s m args below meth c ls CF hr hlk hnm hc hl
  obtain ⟨hx, hb, hml, hown, hts⟩ := id CF
  have hl : lv_has ls 4 [(0, .ref p0), (1, .int p1), (2, .int p2)] := hl
  show W p l e r_X11_setWeight s m args below meth c s.heap [] 0 0 (MQ below (gQi D cA g0 sz (Q)) args s 0 0 (gA g0 sz)) (F0 m 0 ls [])
  have hb_22 : ∀ (g : gS) (r0 : Nat), b_X11_setWeight_22 g r0 Q → ∀ (H : Heap) (locs : List Loc) (ls : Array Slot), gC D cA (gA g0 sz) s g H locs → lv_has ls 4 [(0, .ref r0)] → W p l e r_X11_setWeight s m args below meth c H locs 0 0 (MQ below (gQi D cA g0 sz (Q)) args s 0 0 (gA g0 sz)) (F0 m 22 ls []) := by
    intro g r0 h H locs ls hc hl
    unfold b_X11_setWeight_22 at h
    refine lv_aload_n hx hb dX11_setWeight_22 rfl (lv_at hl 0 rfl) ?_
    refine lv_iconst (v := 1) hx hb dX11_setWeight_23 (by decide) ?_
    obtain ⟨hk1, h⟩ := h
    refine g_calli (va_runV (As := [.int 1]) (rest := []) CF (c_X11_no h) (cwV 1 hts gX11_setWeight_X11_no rfl rfl rfl (by decide +kernel) ⟨Nat.le_of_ble_eq_true rfl, Nat.le_of_ble_eq_true rfl⟩) (hc.preV hk1 rfl (by decide)) rfl rfl hl.1 rfl (lv_room (Nat.le_of_ble_eq_true rfl)) dX11_setWeight_24 ⟨Nat.le_of_ble_eq_true rfl, Nat.le_of_ble_eq_true rfl⟩) hc (fun x2 g3 H locs hq hc => ?_)
    replace h := hq
    exact g_reti (r := x2) CF hr hlk hc rfl h dX11_setWeight_27
  unfold w_X11_setWeight at h
  obtain ⟨H, hH0⟩ : ∃ z, z = s.heap := ⟨_, rfl⟩
  rw [← hH0] at hc ⊢
  obtain ⟨locs, hlc0⟩ : ∃ z : List Loc, z = [] := ⟨_, rfl⟩
  rw [← hlc0] at hc ⊢
  refine lv_aload_n hx hb dX11_setWeight_0 rfl (lv_at hl 0 rfl) ?_
  refine lv_iconst (v := 0) hx hb dX11_setWeight_1 (by decide) ?_
  obtain ⟨hk5, h⟩ := h
  refine g_puti CF hc hk5 rfl (by decide) (fun _ h9 => List.mem_cons_of_mem _ (List.mem_append_right _ (h9))) tyX11 tyX11_ok nmX11 (k := 0) (by decide) (List.mem_cons_of_mem _ (List.mem_append_left _ (List.mem_of_getElem? (i := 0) rfl))) rfl (v := 0) rfl rfl rfl dX11_setWeight_2 (fun H locs hc => ?_)
  obtain ⟨g6, eg7⟩ : ∃ z, z = sU g0 p0 0 0 := ⟨_, rfl⟩
  have hc : gC D cA (gA g0 sz) s g6 H locs := by rw [eg7]; exact hc
  replace h := h g6 eg7
  refine lv_iload_n hx hb dX11_setWeight_5 rfl (lv_at hl 1 rfl) ?_
  refine g_calli (va_runS (As := [.int p1]) (rest := []) CF (c_X11_isField h) (va_cwS 1 hts gX11_setWeight_X11_isField rfl rfl rfl (by decide +kernel) ⟨Nat.le_of_ble_eq_true rfl, Nat.le_of_ble_eq_true rfl⟩) hc.preS rfl rfl hl.1 rfl (lv_room (Nat.le_of_ble_eq_true rfl)) dX11_setWeight_6 ⟨Nat.le_of_ble_eq_true rfl, Nat.le_of_ble_eq_true rfl⟩) hc (fun x8 gq9 H locs hq hc => ?_)
  obtain ⟨rfl, h⟩ := hq
  refine lv_if_eq (tgt := 22) hx hb dX11_setWeight_9 (by decide) (fun c10 => ?_) (fun c10 => ?_)
  · have h := h.1 c10
    exact hb_22 g6 p0 h _ _ _ hc (lv_sub hl [0] rfl)
  · have h := h.2 c10
    refine lv_iload_n hx hb dX11_setWeight_12 rfl (lv_at hl 2 rfl) ?_
    refine lv_iconst (v := 1) hx hb dX11_setWeight_13 (by decide) ?_
    refine lv_bipush (v := 9) hx hb dX11_setWeight_14 (by decide) ?_
    refine g_calli (va_runS (As := [.int p2, .int 1, .int 9]) (rest := []) CF (c_X11_isIn h) (va_cwS 3 hts gX11_setWeight_X11_isIn rfl rfl rfl (by decide +kernel) ⟨Nat.le_of_ble_eq_true rfl, Nat.le_of_ble_eq_true rfl⟩) hc.preS rfl rfl hl.1 rfl (lv_room (Nat.le_of_ble_eq_true rfl)) dX11_setWeight_16 ⟨Nat.le_of_ble_eq_true rfl, Nat.le_of_ble_eq_true rfl⟩) hc (fun x11 gq12 H locs hq hc => ?_)
    obtain ⟨rfl, h⟩ := hq
    refine lv_if_ne (tgt := 28) hx hb dX11_setWeight_19 (by decide) (fun c13 => ?_) (fun c13 => ?_)
    · have h := h.2 c13
      refine lv_aload_n hx hb dX11_setWeight_28 rfl (lv_at hl 0 rfl) ?_
      obtain ⟨hk14, h⟩ := h
      obtain ⟨y15, e16, h⟩ := h
      refine g_getr CF hc hk14 rfl (by decide) (fun _ h9 => List.mem_cons_of_mem _ (List.mem_append_right _ (h9))) (k := 12) (by decide) (List.mem_cons_of_mem _ (List.mem_append_left _ (List.mem_of_getElem? (i := 1) rfl))) e16 rfl dX11_setWeight_29 ?_
      refine lv_iload_n hx hb dX11_setWeight_32 rfl (lv_at hl 1 rfl) ?_
      obtain ⟨hk17, h⟩ := h
      obtain ⟨hi18, h⟩ := h
      refine g_iald CF hc hk17 hi18 dX11_setWeight_33 ?_
      refine lv_istore_n (lv' := [(3, .int (gI g6 y15 (Int32.toNatClampNeg p1))), (0, .ref p0), (1, .int p1), (2, .int p2)]) hx hb dX11_setWeight_34 rfl hl (by decide) rfl (fun ls hl => ?_)
      refine lv_aload_n hx hb dX11_setWeight_35 rfl (lv_at hl 1 rfl) ?_
      obtain ⟨y19, e20, h⟩ := h
      refine g_getr CF hc hk14 rfl (by decide) (fun _ h9 => List.mem_cons_of_mem _ (List.mem_append_right _ (h9))) (k := 12) (by decide) (List.mem_cons_of_mem _ (List.mem_append_left _ (List.mem_of_getElem? (i := 1) rfl))) e20 rfl dX11_setWeight_36 ?_
      refine lv_iload_n hx hb dX11_setWeight_39 rfl (lv_at hl 2 rfl) ?_
      refine lv_iload_n hx hb dX11_setWeight_40 rfl (lv_at hl 3 rfl) ?_
      obtain ⟨hk21, h⟩ := h
      obtain ⟨hi22, h⟩ := h
      refine g_iast CF hc hk21 (x := p2) hi22 dX11_setWeight_41 (fun H locs hc => ?_)
      obtain ⟨g23, eg24⟩ : ∃ z, z = sU g6 y19 (Int32.toNatClampNeg p1) p2 := ⟨_, rfl⟩
      have hc : gC D cA (gA g0 sz) s g23 H locs := by rw [eg24]; exact hc
      replace h := h g23 eg24
      refine lv_iload_n hx hb dX11_setWeight_42 rfl (lv_at hl 0 rfl) ?_
      exact g_reti (r := (gI g6 y15 (Int32.toNatClampNeg p1))) CF hr hlk hc rfl h dX11_setWeight_43
    · have h := h.1 c13
      exact hb_22 g6 p0 h _ _ _ hc (lv_sub hl [0] rfl)
def w_X11_documents (g0 : gS) (p0 : Nat) (Q : Int32 → gS → Prop) : Prop :=
  gK g0 p0 = 12 ∧ (w_X11_ok g0 p0 (gI g0 p0 1) (fun x2 g3 => (Q x2 g3)))
abbrev r_X11_documents : Room := { frames := 1, cells := 0, slots := 0, locals := 21 }
set_option maxHeartbeats 4000000 in
set_option maxRecDepth 100000 in
theorem c_X11_documents {l : Launch} {D : va_G} {cA : Nat → ClassId} {sz : Nat} {g0 : gS} {p0 : Nat} {Q : Int32 → gS → Prop} (h : w_X11_documents g0 p0 Q) : Met l yX11_documents wsX11_documents r_X11_documents (va_Pc [.ref p0] (gPre D cA g0 sz)) (gQi D cA g0 sz (Q)) 0 0 (gA g0 sz) := by
  refine g_met (cc := cX11_documents) (maxL := 1) (ret := (some .int)) (own := RX11) (by decide) rfl rfl (Nat.le_of_ble_eq_true rfl) ?_
  intro p e s m args below meth c ls CF hr hlk hnm hc hl
  obtain ⟨hx, hb, hml, hown, hts⟩ := id CF
  have hl : lv_has ls 1 [(0, .ref p0)] := hl
  show W p l e r_X11_documents s m args below meth c s.heap [] 0 0 (MQ below (gQi D cA g0 sz (Q)) args s 0 0 (gA g0 sz)) (F0 m 0 ls [])
  unfold w_X11_documents at h
  obtain ⟨H, hH0⟩ : ∃ z, z = s.heap := ⟨_, rfl⟩
  rw [← hH0] at hc ⊢
  obtain ⟨locs, hlc0⟩ : ∃ z : List Loc, z = [] := ⟨_, rfl⟩
  rw [← hlc0] at hc ⊢
  refine lv_aload_n hx hb dX11_documents_0 rfl (lv_at hl 0 rfl) ?_
  refine lv_aload_n hx hb dX11_documents_1 rfl (lv_at hl 0 rfl) ?_
  obtain ⟨hk1, h⟩ := h
  refine g_get CF hc hk1 rfl (by decide) (fun _ h9 => List.mem_cons_of_mem _ (List.mem_append_right _ (h9))) (k := 1) (by decide) (List.mem_cons_of_mem _ (List.mem_append_left _ (List.mem_of_getElem? (i := 0) rfl))) rfl dX11_documents_2 ?_
  refine g_calli (va_runV (As := [.int (gI g0 p0 1)]) (rest := []) CF (c_X11_ok h) (cwV 1 hts gX11_documents_X11_ok rfl rfl rfl (by decide +kernel) ⟨Nat.le_of_ble_eq_true rfl, Nat.le_of_ble_eq_true rfl⟩) (hc.preV hk1 rfl (by decide)) rfl rfl hl.1 rfl (lv_room (Nat.le_of_ble_eq_true rfl)) dX11_documents_5 ⟨Nat.le_of_ble_eq_true rfl, Nat.le_of_ble_eq_true rfl⟩) hc (fun x2 g3 H locs hq hc => ?_)
  replace h := hq
  exact g_reti (r := x2) CF hr hlk hc rfl h dX11_documents_8
def b_X11_stateNow_26 (g : gS) (is0 : Int32) (Q : Int32 → Prop) : Prop :=
  Q is0
def w_X11_stateNow (g : gS) (p0 : Nat) (p1 : Int32) (Q : Int32 → Prop) : Prop :=
  gK g p0 = 12 ∧ (∃ y2, gR g p0 5 = some y2 ∧ (gK g y2 = 22 ∧ (vp_in p1 (gN g y2) ∧ (((gI g y2 (Int32.toNatClampNeg p1)) = 0 → ((p1 < (gI g p0 9) → (b_X11_stateNow_26 g 2 Q)) ∧ (¬ p1 < (gI g p0 9) → (b_X11_stateNow_26 g 1 Q)))) ∧ (¬ (gI g y2 (Int32.toNatClampNeg p1)) = 0 → (b_X11_stateNow_26 g 0 Q))))))
abbrev r_X11_stateNow : Room := { frames := 0, cells := 0, slots := 0, locals := 0 }
set_option maxHeartbeats 4000000 in
set_option maxRecDepth 100000 in
theorem c_X11_stateNow {l : Launch} {D : va_G} {cA : Nat → ClassId} {sz : Nat} {g : gS} {p0 : Nat} {p1 : Int32} {Q : Int32 → Prop} (h : w_X11_stateNow g p0 p1 Q) : Met l yX11_stateNow wsX11_stateNow r_X11_stateNow (va_Pc [.ref p0, .int p1] (gPre D cA g sz)) (gQi D cA g sz (fun r g2 => g = g2 ∧ Q r)) 0 0 (gA g sz) := by
  refine g_met (cc := cX11_stateNow) (maxL := 2) (ret := (some .int)) (own := RX11) (by decide) rfl rfl (Nat.le_of_ble_eq_true rfl) ?_
  intro p e s m args below meth c ls CF hr hlk hnm hc hl
  obtain ⟨hx, hb, hml, hown, hts⟩ := id CF
  have hl : lv_has ls 2 [(0, .ref p0), (1, .int p1)] := hl
  show W p l e r_X11_stateNow s m args below meth c s.heap [] 0 0 (MQ below (gQi D cA g sz (fun r g2 => g = g2 ∧ Q r)) args s 0 0 (gA g sz)) (F0 m 0 ls [])
  have hb_26 : ∀ (is0 : Int32), b_X11_stateNow_26 g is0 Q → ∀ (H : Heap) (locs : List Loc) (ls : Array Slot), gC D cA (gA g sz) s g H locs → lv_has ls 2 [] → W p l e r_X11_stateNow s m args below meth c H locs 0 0 (MQ below (gQi D cA g sz (fun r g2 => g = g2 ∧ Q r)) args s 0 0 (gA g sz)) (F0 m 26 ls [.int is0]) := by
    intro is0 h H locs ls hc hl
    unfold b_X11_stateNow_26 at h
    exact g_reti (r := is0) CF hr hlk hc rfl ⟨rfl, h⟩ dX11_stateNow_26
  unfold w_X11_stateNow at h
  obtain ⟨H, hH0⟩ : ∃ z, z = s.heap := ⟨_, rfl⟩
  rw [← hH0] at hc ⊢
  obtain ⟨locs, hlc0⟩ : ∃ z : List Loc, z = [] := ⟨_, rfl⟩
  rw [← hlc0] at hc ⊢
  refine lv_aload_n hx hb dX11_stateNow_0 rfl (lv_at hl 0 rfl) ?_
  obtain ⟨hk1, h⟩ := h
  obtain ⟨y2, e3, h⟩ := h
  refine g_getr CF hc hk1 rfl (by decide) (fun _ h9 => List.mem_cons_of_mem _ (List.mem_append_right _ (h9))) (k := 5) (by decide) (List.mem_cons_of_mem _ (List.mem_append_left _ (List.mem_of_getElem? (i := 0) rfl))) e3 rfl dX11_stateNow_1 ?_
  refine lv_iload_n hx hb dX11_stateNow_4 rfl (lv_at hl 1 rfl) ?_
  obtain ⟨hk4, h⟩ := h
  obtain ⟨hi5, h⟩ := h
  refine g_zald CF hc hk4 hi5 dX11_stateNow_5 ?_
  refine lv_if_eq (tgt := 13) hx hb dX11_stateNow_6 (by decide) (fun c6 => ?_) (fun c6 => ?_)
  · have h := h.1 c6
    refine lv_iload_n hx hb dX11_stateNow_13 rfl (lv_at hl 1 rfl) ?_
    refine lv_aload_n hx hb dX11_stateNow_14 rfl (lv_at hl 0 rfl) ?_
    refine g_get CF hc hk1 rfl (by decide) (fun _ h9 => List.mem_cons_of_mem _ (List.mem_append_right _ (h9))) (k := 9) (by decide) (List.mem_cons_of_mem _ (List.mem_append_left _ (List.mem_of_getElem? (i := 1) rfl))) rfl dX11_stateNow_15 ?_
    refine lv_icmp_lt (tgt := 25) hx hb dX11_stateNow_18 (by decide) (fun c7 => ?_) (fun c7 => ?_)
    · have h := h.1 c7
      refine lv_iconst (v := 2) hx hb dX11_stateNow_25 (by decide) ?_
      exact hb_26 2 h _ _ _ hc (lv_sub hl [] rfl)
    · have h := h.2 c7
      refine lv_iconst (v := 1) hx hb dX11_stateNow_21 (by decide) ?_
      refine lv_goto (tgt := 26) hx hb dX11_stateNow_22 (by decide) ?_
      exact hb_26 1 h _ _ _ hc (lv_sub hl [] rfl)
  · have h := h.2 c6
    refine lv_iconst (v := 0) hx hb dX11_stateNow_9 (by decide) ?_
    refine lv_goto (tgt := 26) hx hb dX11_stateNow_10 (by decide) ?_
    exact hb_26 0 h _ _ _ hc (lv_sub hl [] rfl)
def b_X11_stateOf_26 (g : gS) (is0 : Int32) (Q : Int32 → gS → Prop) : Prop :=
  Q is0 g
def w_X11_stateOf (g0 : gS) (p0 : Nat) (p1 : Int32) (Q : Int32 → gS → Prop) : Prop :=
  gK g0 p0 = 12 ∧ (∀ g2, g2 = sU g0 p0 0 0 → (gK g2 p0 = 12 ∧ (w_X11_isDocument g2 p0 p1 (fun x5 => ((x5 = 0 → (w_X11_no g2 p0 1 (fun x8 g9 => (b_X11_stateOf_26 g9 x8 Q)))) ∧ (¬ x5 = 0 → (w_X11_stateNow g2 p0 p1 (fun x11 => (b_X11_stateOf_26 g2 x11 Q)))))))))
abbrev r_X11_stateOf : Room := { frames := 2, cells := 0, slots := 0, locals := 43 }
set_option maxHeartbeats 4000000 in
set_option maxRecDepth 100000 in
theorem c_X11_stateOf {l : Launch} {D : va_G} {cA : Nat → ClassId} {sz : Nat} {g0 : gS} {p0 : Nat} {p1 : Int32} {Q : Int32 → gS → Prop} (h : w_X11_stateOf g0 p0 p1 Q) : Met l yX11_stateOf wsX11_stateOf r_X11_stateOf (va_Pc [.ref p0, .int p1] (gPre D cA g0 sz)) (gQi D cA g0 sz (Q)) 0 0 (gA g0 sz) := by
  refine g_met (cc := cX11_stateOf) (maxL := 2) (ret := (some .int)) (own := RX11) (by decide) rfl rfl (Nat.le_of_ble_eq_true rfl) ?_
  intro p e s m args below meth c ls CF hr hlk hnm hc hl
  obtain ⟨hx, hb, hml, hown, hts⟩ := id CF
  have hl : lv_has ls 2 [(0, .ref p0), (1, .int p1)] := hl
  show W p l e r_X11_stateOf s m args below meth c s.heap [] 0 0 (MQ below (gQi D cA g0 sz (Q)) args s 0 0 (gA g0 sz)) (F0 m 0 ls [])
  have hb_26 : ∀ (g : gS) (is0 : Int32), b_X11_stateOf_26 g is0 Q → ∀ (H : Heap) (locs : List Loc) (ls : Array Slot), gC D cA (gA g0 sz) s g H locs → lv_has ls 2 [] → W p l e r_X11_stateOf s m args below meth c H locs 0 0 (MQ below (gQi D cA g0 sz (Q)) args s 0 0 (gA g0 sz)) (F0 m 26 ls [.int is0]) := by
    intro g is0 h H locs ls hc hl
    unfold b_X11_stateOf_26 at h
    exact g_reti (r := is0) CF hr hlk hc rfl h dX11_stateOf_26
  unfold w_X11_stateOf at h
  obtain ⟨H, hH0⟩ : ∃ z, z = s.heap := ⟨_, rfl⟩
  rw [← hH0] at hc ⊢
  obtain ⟨locs, hlc0⟩ : ∃ z : List Loc, z = [] := ⟨_, rfl⟩
  rw [← hlc0] at hc ⊢
  refine lv_aload_n hx hb dX11_stateOf_0 rfl (lv_at hl 0 rfl) ?_
  refine lv_iconst (v := 0) hx hb dX11_stateOf_1 (by decide) ?_
  obtain ⟨hk1, h⟩ := h
  refine g_puti CF hc hk1 rfl (by decide) (fun _ h9 => List.mem_cons_of_mem _ (List.mem_append_right _ (h9))) tyX11 tyX11_ok nmX11 (k := 0) (by decide) (List.mem_cons_of_mem _ (List.mem_append_left _ (List.mem_of_getElem? (i := 0) rfl))) rfl (v := 0) rfl rfl rfl dX11_stateOf_2 (fun H locs hc => ?_)
  obtain ⟨g2, eg3⟩ : ∃ z, z = sU g0 p0 0 0 := ⟨_, rfl⟩
  have hc : gC D cA (gA g0 sz) s g2 H locs := by rw [eg3]; exact hc
  replace h := h g2 eg3
  refine lv_aload_n hx hb dX11_stateOf_5 rfl (lv_at hl 0 rfl) ?_
  refine lv_iload_n hx hb dX11_stateOf_6 rfl (lv_at hl 1 rfl) ?_
  obtain ⟨hk4, h⟩ := h
  refine g_calli (va_runV (As := [.int p1]) (rest := []) CF (c_X11_isDocument h) (cwV 1 hts gX11_stateOf_X11_isDocument rfl rfl rfl (by decide +kernel) ⟨Nat.le_of_ble_eq_true rfl, Nat.le_of_ble_eq_true rfl⟩) (hc.preV hk4 rfl (by decide)) rfl rfl hl.1 rfl (lv_room (Nat.le_of_ble_eq_true rfl)) dX11_stateOf_7 ⟨Nat.le_of_ble_eq_true rfl, Nat.le_of_ble_eq_true rfl⟩) hc (fun x5 gq6 H locs hq hc => ?_)
  obtain ⟨rfl, h⟩ := hq
  refine lv_if_eq (tgt := 21) hx hb dX11_stateOf_10 (by decide) (fun c7 => ?_) (fun c7 => ?_)
  · have h := h.1 c7
    refine lv_aload_n hx hb dX11_stateOf_21 rfl (lv_at hl 0 rfl) ?_
    refine lv_iconst (v := 1) hx hb dX11_stateOf_22 (by decide) ?_
    refine g_calli (va_runV (As := [.int 1]) (rest := []) CF (c_X11_no h) (cwV 1 hts gX11_stateOf_X11_no rfl rfl rfl (by decide +kernel) ⟨Nat.le_of_ble_eq_true rfl, Nat.le_of_ble_eq_true rfl⟩) (hc.preV hk4 rfl (by decide)) rfl rfl hl.1 rfl (lv_room (Nat.le_of_ble_eq_true rfl)) dX11_stateOf_23 ⟨Nat.le_of_ble_eq_true rfl, Nat.le_of_ble_eq_true rfl⟩) hc (fun x8 g9 H locs hq hc => ?_)
    replace h := hq
    exact hb_26 g9 x8 h _ _ _ hc (lv_sub hl [] rfl)
  · have h := h.2 c7
    refine lv_aload_n hx hb dX11_stateOf_13 rfl (lv_at hl 0 rfl) ?_
    refine lv_iload_n hx hb dX11_stateOf_14 rfl (lv_at hl 1 rfl) ?_
    refine g_calli (va_runV (As := [.int p1]) (rest := []) CF (c_X11_stateNow h) (cwV 1 hts gX11_stateOf_X11_stateNow rfl rfl rfl (by decide +kernel) ⟨Nat.le_of_ble_eq_true rfl, Nat.le_of_ble_eq_true rfl⟩) (hc.preV hk4 rfl (by decide)) rfl rfl hl.1 rfl (lv_room (Nat.le_of_ble_eq_true rfl)) dX11_stateOf_15 ⟨Nat.le_of_ble_eq_true rfl, Nat.le_of_ble_eq_true rfl⟩) hc (fun x11 gq12 H locs hq hc => ?_)
    obtain ⟨rfl, h⟩ := hq
    refine lv_goto (tgt := 26) hx hb dX11_stateOf_18 (by decide) ?_
    exact hb_26 g2 x11 h _ _ _ hc (lv_sub hl [] rfl)
def w_X11_at (g : gS) (p0 : Nat) (p1 : Int32) (p2 : Int32) (p3 : Int32) (Q : Int32 → Prop) : Prop :=
  gK g p0 = 12 ∧ (∃ y2, gR g p0 8 = some y2 ∧ (gK g y2 = 21 ∧ (vp_in ((((p1 * 3) + p2) * 12) + p3) (gN g y2) ∧ (Q (gI g y2 (Int32.toNatClampNeg ((((p1 * 3) + p2) * 12) + p3)))))))
abbrev r_X11_at : Room := { frames := 0, cells := 0, slots := 0, locals := 0 }
set_option maxHeartbeats 4000000 in
set_option maxRecDepth 100000 in
theorem c_X11_at {l : Launch} {D : va_G} {cA : Nat → ClassId} {sz : Nat} {g : gS} {p0 : Nat} {p1 : Int32} {p2 : Int32} {p3 : Int32} {Q : Int32 → Prop} (h : w_X11_at g p0 p1 p2 p3 Q) : Met l yX11_at wsX11_at r_X11_at (va_Pc [.ref p0, .int p1, .int p2, .int p3] (gPre D cA g sz)) (gQi D cA g sz (fun r g2 => g = g2 ∧ Q r)) 0 0 (gA g sz) := by
  refine g_met (cc := cX11_at) (maxL := 4) (ret := (some .int)) (own := RX11) (by decide) rfl rfl (Nat.le_of_ble_eq_true rfl) ?_
  intro p e s m args below meth c ls CF hr hlk hnm hc hl
  obtain ⟨hx, hb, hml, hown, hts⟩ := id CF
  have hl : lv_has ls 4 [(0, .ref p0), (1, .int p1), (2, .int p2), (3, .int p3)] := hl
  show W p l e r_X11_at s m args below meth c s.heap [] 0 0 (MQ below (gQi D cA g sz (fun r g2 => g = g2 ∧ Q r)) args s 0 0 (gA g sz)) (F0 m 0 ls [])
  unfold w_X11_at at h
  obtain ⟨H, hH0⟩ : ∃ z, z = s.heap := ⟨_, rfl⟩
  rw [← hH0] at hc ⊢
  obtain ⟨locs, hlc0⟩ : ∃ z : List Loc, z = [] := ⟨_, rfl⟩
  rw [← hlc0] at hc ⊢
  refine lv_aload_n hx hb dX11_at_0 rfl (lv_at hl 0 rfl) ?_
  obtain ⟨hk1, h⟩ := h
  obtain ⟨y2, e3, h⟩ := h
  refine g_getr CF hc hk1 rfl (by decide) (fun _ h9 => List.mem_cons_of_mem _ (List.mem_append_right _ (h9))) (k := 8) (by decide) (List.mem_cons_of_mem _ (List.mem_append_left _ (List.mem_of_getElem? (i := 0) rfl))) e3 rfl dX11_at_1 ?_
  refine lv_iload_n hx hb dX11_at_4 rfl (lv_at hl 1 rfl) ?_
  refine lv_iconst (v := 3) hx hb dX11_at_5 (by decide) ?_
  refine lv_imul hx hb dX11_at_6 ?_
  refine lv_iload_n hx hb dX11_at_7 rfl (lv_at hl 2 rfl) ?_
  refine lv_iadd hx hb dX11_at_8 ?_
  refine lv_bipush (v := 12) hx hb dX11_at_9 (by decide) ?_
  refine lv_imul hx hb dX11_at_11 ?_
  refine lv_iload_n hx hb dX11_at_12 rfl (lv_at hl 3 rfl) ?_
  refine lv_iadd hx hb dX11_at_13 ?_
  obtain ⟨hk4, h⟩ := h
  obtain ⟨hi5, h⟩ := h
  refine g_iald CF hc hk4 hi5 dX11_at_14 ?_
  exact g_reti (r := (gI g y2 (Int32.toNatClampNeg ((((p1 * 3) + p2) * 12) + p3)))) CF hr hlk hc rfl ⟨rfl, h⟩ dX11_at_15
def w_X11_many (g : gS) (p0 : Nat) (p1 : Int32) (p2 : Int32) (Q : Int32 → Prop) : Prop :=
  gK g p0 = 12 ∧ (∃ y2, gR g p0 7 = some y2 ∧ (gK g y2 = 21 ∧ (vp_in ((p1 * 3) + p2) (gN g y2) ∧ (Q (gI g y2 (Int32.toNatClampNeg ((p1 * 3) + p2)))))))
abbrev r_X11_many : Room := { frames := 0, cells := 0, slots := 0, locals := 0 }
set_option maxHeartbeats 4000000 in
set_option maxRecDepth 100000 in
theorem c_X11_many {l : Launch} {D : va_G} {cA : Nat → ClassId} {sz : Nat} {g : gS} {p0 : Nat} {p1 : Int32} {p2 : Int32} {Q : Int32 → Prop} (h : w_X11_many g p0 p1 p2 Q) : Met l yX11_many wsX11_many r_X11_many (va_Pc [.ref p0, .int p1, .int p2] (gPre D cA g sz)) (gQi D cA g sz (fun r g2 => g = g2 ∧ Q r)) 0 0 (gA g sz) := by
  refine g_met (cc := cX11_many) (maxL := 3) (ret := (some .int)) (own := RX11) (by decide) rfl rfl (Nat.le_of_ble_eq_true rfl) ?_
  intro p e s m args below meth c ls CF hr hlk hnm hc hl
  obtain ⟨hx, hb, hml, hown, hts⟩ := id CF
  have hl : lv_has ls 3 [(0, .ref p0), (1, .int p1), (2, .int p2)] := hl
  show W p l e r_X11_many s m args below meth c s.heap [] 0 0 (MQ below (gQi D cA g sz (fun r g2 => g = g2 ∧ Q r)) args s 0 0 (gA g sz)) (F0 m 0 ls [])
  unfold w_X11_many at h
  obtain ⟨H, hH0⟩ : ∃ z, z = s.heap := ⟨_, rfl⟩
  rw [← hH0] at hc ⊢
  obtain ⟨locs, hlc0⟩ : ∃ z : List Loc, z = [] := ⟨_, rfl⟩
  rw [← hlc0] at hc ⊢
  refine lv_aload_n hx hb dX11_many_0 rfl (lv_at hl 0 rfl) ?_
  obtain ⟨hk1, h⟩ := h
  obtain ⟨y2, e3, h⟩ := h
  refine g_getr CF hc hk1 rfl (by decide) (fun _ h9 => List.mem_cons_of_mem _ (List.mem_append_right _ (h9))) (k := 7) (by decide) (List.mem_cons_of_mem _ (List.mem_append_left _ (List.mem_of_getElem? (i := 0) rfl))) e3 rfl dX11_many_1 ?_
  refine lv_iload_n hx hb dX11_many_4 rfl (lv_at hl 1 rfl) ?_
  refine lv_iconst (v := 3) hx hb dX11_many_5 (by decide) ?_
  refine lv_imul hx hb dX11_many_6 ?_
  refine lv_iload_n hx hb dX11_many_7 rfl (lv_at hl 2 rfl) ?_
  refine lv_iadd hx hb dX11_many_8 ?_
  obtain ⟨hk4, h⟩ := h
  obtain ⟨hi5, h⟩ := h
  refine g_iald CF hc hk4 hi5 dX11_many_9 ?_
  exact g_reti (r := (gI g y2 (Int32.toNatClampNeg ((p1 * 3) + p2)))) CF hr hlk hc rfl ⟨rfl, h⟩ dX11_many_10
def b_X11_termAt_51 (g : gS) (is0 : Int32) (Q : Int32 → gS → Prop) : Prop :=
  Q is0 g
def b_X11_termAt_46 (g : gS) (r0 : Nat) (Q : Int32 → gS → Prop) : Prop :=
  gK g r0 = 12 ∧ (w_X11_no g r0 1 (fun x2 g3 => (b_X11_termAt_51 g3 x2 Q)))
def w_X11_termAt (g0 : gS) (p0 : Nat) (p1 : Int32) (p2 : Int32) (p3 : Int32) (Q : Int32 → gS → Prop) : Prop :=
  gK g0 p0 = 12 ∧ (∀ g6, g6 = sU g0 p0 0 0 → (gK g6 p0 = 12 ∧ (w_X11_isDocument g6 p0 p1 (fun x9 => ((x9 = 0 → (b_X11_termAt_46 g6 p0 Q)) ∧ (¬ x9 = 0 → (w_X11_isField g6 p2 (fun x12 => ((x12 = 0 → (b_X11_termAt_46 g6 p0 Q)) ∧ (¬ x12 = 0 → (w_X11_many g6 p0 p1 p2 (fun x15 => (w_X11_isIn g6 p3 0 (x15 - 1) (fun x17 => ((x17 = 0 → (b_X11_termAt_46 g6 p0 Q)) ∧ (¬ x17 = 0 → (w_X11_at g6 p0 p1 p2 p3 (fun x20 => (b_X11_termAt_51 g6 x20 Q)))))))))))))))))))
abbrev r_X11_termAt : Room := { frames := 2, cells := 0, slots := 0, locals := 43 }
set_option maxHeartbeats 4000000 in
set_option maxRecDepth 100000 in
theorem c_X11_termAt {l : Launch} {D : va_G} {cA : Nat → ClassId} {sz : Nat} {g0 : gS} {p0 : Nat} {p1 : Int32} {p2 : Int32} {p3 : Int32} {Q : Int32 → gS → Prop} (h : w_X11_termAt g0 p0 p1 p2 p3 Q) : Met l yX11_termAt wsX11_termAt r_X11_termAt (va_Pc [.ref p0, .int p1, .int p2, .int p3] (gPre D cA g0 sz)) (gQi D cA g0 sz (Q)) 0 0 (gA g0 sz) := by
  refine g_met (cc := cX11_termAt) (maxL := 4) (ret := (some .int)) (own := RX11) (by decide) rfl rfl (Nat.le_of_ble_eq_true rfl) ?_
  intro p e s m args below meth c ls CF hr hlk hnm hc hl
  obtain ⟨hx, hb, hml, hown, hts⟩ := id CF
  have hl : lv_has ls 4 [(0, .ref p0), (1, .int p1), (2, .int p2), (3, .int p3)] := hl
  show W p l e r_X11_termAt s m args below meth c s.heap [] 0 0 (MQ below (gQi D cA g0 sz (Q)) args s 0 0 (gA g0 sz)) (F0 m 0 ls [])
  have hb_51 : ∀ (g : gS) (is0 : Int32), b_X11_termAt_51 g is0 Q → ∀ (H : Heap) (locs : List Loc) (ls : Array Slot), gC D cA (gA g0 sz) s g H locs → lv_has ls 4 [] → W p l e r_X11_termAt s m args below meth c H locs 0 0 (MQ below (gQi D cA g0 sz (Q)) args s 0 0 (gA g0 sz)) (F0 m 51 ls [.int is0]) := by
    intro g is0 h H locs ls hc hl
    unfold b_X11_termAt_51 at h
    exact g_reti (r := is0) CF hr hlk hc rfl h dX11_termAt_51
  have hb_46 : ∀ (g : gS) (r0 : Nat), b_X11_termAt_46 g r0 Q → ∀ (H : Heap) (locs : List Loc) (ls : Array Slot), gC D cA (gA g0 sz) s g H locs → lv_has ls 4 [(0, .ref r0)] → W p l e r_X11_termAt s m args below meth c H locs 0 0 (MQ below (gQi D cA g0 sz (Q)) args s 0 0 (gA g0 sz)) (F0 m 46 ls []) := by
    intro g r0 h H locs ls hc hl
    unfold b_X11_termAt_46 at h
    refine lv_aload_n hx hb dX11_termAt_46 rfl (lv_at hl 0 rfl) ?_
    refine lv_iconst (v := 1) hx hb dX11_termAt_47 (by decide) ?_
    obtain ⟨hk1, h⟩ := h
    refine g_calli (va_runV (As := [.int 1]) (rest := []) CF (c_X11_no h) (cwV 1 hts gX11_termAt_X11_no rfl rfl rfl (by decide +kernel) ⟨Nat.le_of_ble_eq_true rfl, Nat.le_of_ble_eq_true rfl⟩) (hc.preV hk1 rfl (by decide)) rfl rfl hl.1 rfl (lv_room (Nat.le_of_ble_eq_true rfl)) dX11_termAt_48 ⟨Nat.le_of_ble_eq_true rfl, Nat.le_of_ble_eq_true rfl⟩) hc (fun x2 g3 H locs hq hc => ?_)
    replace h := hq
    exact hb_51 g3 x2 h _ _ _ hc (lv_sub hl [] rfl)
  unfold w_X11_termAt at h
  obtain ⟨H, hH0⟩ : ∃ z, z = s.heap := ⟨_, rfl⟩
  rw [← hH0] at hc ⊢
  obtain ⟨locs, hlc0⟩ : ∃ z : List Loc, z = [] := ⟨_, rfl⟩
  rw [← hlc0] at hc ⊢
  refine lv_aload_n hx hb dX11_termAt_0 rfl (lv_at hl 0 rfl) ?_
  refine lv_iconst (v := 0) hx hb dX11_termAt_1 (by decide) ?_
  obtain ⟨hk5, h⟩ := h
  refine g_puti CF hc hk5 rfl (by decide) (fun _ h9 => List.mem_cons_of_mem _ (List.mem_append_right _ (h9))) tyX11 tyX11_ok nmX11 (k := 0) (by decide) (List.mem_cons_of_mem _ (List.mem_append_left _ (List.mem_append_left _ (List.mem_of_getElem? (i := 0) rfl)))) rfl (v := 0) rfl rfl rfl dX11_termAt_2 (fun H locs hc => ?_)
  obtain ⟨g6, eg7⟩ : ∃ z, z = sU g0 p0 0 0 := ⟨_, rfl⟩
  have hc : gC D cA (gA g0 sz) s g6 H locs := by rw [eg7]; exact hc
  replace h := h g6 eg7
  refine lv_aload_n hx hb dX11_termAt_5 rfl (lv_at hl 0 rfl) ?_
  refine lv_iload_n hx hb dX11_termAt_6 rfl (lv_at hl 1 rfl) ?_
  obtain ⟨hk8, h⟩ := h
  refine g_calli (va_runV (As := [.int p1]) (rest := []) CF (c_X11_isDocument h) (cwV 1 hts gX11_termAt_X11_isDocument rfl rfl rfl (by decide +kernel) ⟨Nat.le_of_ble_eq_true rfl, Nat.le_of_ble_eq_true rfl⟩) (hc.preV hk8 rfl (by decide)) rfl rfl hl.1 rfl (lv_room (Nat.le_of_ble_eq_true rfl)) dX11_termAt_7 ⟨Nat.le_of_ble_eq_true rfl, Nat.le_of_ble_eq_true rfl⟩) hc (fun x9 gq10 H locs hq hc => ?_)
  obtain ⟨rfl, h⟩ := hq
  refine lv_if_eq (tgt := 46) hx hb dX11_termAt_10 (by decide) (fun c11 => ?_) (fun c11 => ?_)
  · have h := h.1 c11
    exact hb_46 g6 p0 h _ _ _ hc (lv_sub hl [0] rfl)
  · have h := h.2 c11
    refine lv_iload_n hx hb dX11_termAt_13 rfl (lv_at hl 2 rfl) ?_
    refine g_calli (va_runS (As := [.int p2]) (rest := []) CF (c_X11_isField h) (va_cwS 1 hts gX11_termAt_X11_isField rfl rfl rfl (by decide +kernel) ⟨Nat.le_of_ble_eq_true rfl, Nat.le_of_ble_eq_true rfl⟩) hc.preS rfl rfl hl.1 rfl (lv_room (Nat.le_of_ble_eq_true rfl)) dX11_termAt_14 ⟨Nat.le_of_ble_eq_true rfl, Nat.le_of_ble_eq_true rfl⟩) hc (fun x12 gq13 H locs hq hc => ?_)
    obtain ⟨rfl, h⟩ := hq
    refine lv_if_eq (tgt := 46) hx hb dX11_termAt_17 (by decide) (fun c14 => ?_) (fun c14 => ?_)
    · have h := h.1 c14
      exact hb_46 g6 p0 h _ _ _ hc (lv_sub hl [0] rfl)
    · have h := h.2 c14
      refine lv_iload_n hx hb dX11_termAt_20 rfl (lv_at hl 3 rfl) ?_
      refine lv_iconst (v := 0) hx hb dX11_termAt_21 (by decide) ?_
      refine lv_aload_n hx hb dX11_termAt_22 rfl (lv_at hl 0 rfl) ?_
      refine lv_iload_n hx hb dX11_termAt_23 rfl (lv_at hl 1 rfl) ?_
      refine lv_iload_n hx hb dX11_termAt_24 rfl (lv_at hl 2 rfl) ?_
      refine g_calli (va_runV (As := [.int p1, .int p2]) (rest := [.int 0, .int p3]) CF (c_X11_many h) (cwV 2 hts gX11_termAt_X11_many rfl rfl rfl (by decide +kernel) ⟨Nat.le_of_ble_eq_true rfl, Nat.le_of_ble_eq_true rfl⟩) (hc.preV hk8 rfl (by decide)) rfl rfl hl.1 rfl (lv_room (Nat.le_of_ble_eq_true rfl)) dX11_termAt_25 ⟨Nat.le_of_ble_eq_true rfl, Nat.le_of_ble_eq_true rfl⟩) hc (fun x15 gq16 H locs hq hc => ?_)
      obtain ⟨rfl, h⟩ := hq
      refine lv_iconst (v := 1) hx hb dX11_termAt_28 (by decide) ?_
      refine lv_isub hx hb dX11_termAt_29 ?_
      refine g_calli (va_runS (As := [.int p3, .int 0, .int (x15 - 1)]) (rest := []) CF (c_X11_isIn h) (va_cwS 3 hts gX11_termAt_X11_isIn rfl rfl rfl (by decide +kernel) ⟨Nat.le_of_ble_eq_true rfl, Nat.le_of_ble_eq_true rfl⟩) hc.preS rfl rfl hl.1 rfl (lv_room (Nat.le_of_ble_eq_true rfl)) dX11_termAt_30 ⟨Nat.le_of_ble_eq_true rfl, Nat.le_of_ble_eq_true rfl⟩) hc (fun x17 gq18 H locs hq hc => ?_)
      obtain ⟨rfl, h⟩ := hq
      refine lv_if_eq (tgt := 46) hx hb dX11_termAt_33 (by decide) (fun c19 => ?_) (fun c19 => ?_)
      · have h := h.1 c19
        exact hb_46 g6 p0 h _ _ _ hc (lv_sub hl [0] rfl)
      · have h := h.2 c19
        refine lv_aload_n hx hb dX11_termAt_36 rfl (lv_at hl 0 rfl) ?_
        refine lv_iload_n hx hb dX11_termAt_37 rfl (lv_at hl 1 rfl) ?_
        refine lv_iload_n hx hb dX11_termAt_38 rfl (lv_at hl 2 rfl) ?_
        refine lv_iload_n hx hb dX11_termAt_39 rfl (lv_at hl 3 rfl) ?_
        refine g_calli (va_runV (As := [.int p1, .int p2, .int p3]) (rest := []) CF (c_X11_at h) (cwV 3 hts gX11_termAt_X11_at rfl rfl rfl (by decide +kernel) ⟨Nat.le_of_ble_eq_true rfl, Nat.le_of_ble_eq_true rfl⟩) (hc.preV hk8 rfl (by decide)) rfl rfl hl.1 rfl (lv_room (Nat.le_of_ble_eq_true rfl)) dX11_termAt_40 ⟨Nat.le_of_ble_eq_true rfl, Nat.le_of_ble_eq_true rfl⟩) hc (fun x20 gq21 H locs hq hc => ?_)
        obtain ⟨rfl, h⟩ := hq
        refine lv_goto (tgt := 51) hx hb dX11_termAt_43 (by decide) ?_
        exact hb_51 g6 x20 h _ _ _ hc (lv_sub hl [] rfl)
def b_X11_sizeNow_28 (g : gS) (r0 : Nat) (i1 : Int32) (i3 : Int32) (is0 : Int32) (is1 : Int32) (Q : Int32 → Prop) (k4 : Int32 → Int32 → Prop) : Prop :=
  k4 (is0 + is1) (i3 + 1)
def l_X11_sizeNow_4 (g : gS) (r0 : Nat) (i1 : Int32) (Q : Int32 → Prop) (i2 : Int32) (i3 : Int32) (k4 : Int32 → Int32 → Prop) : Prop :=
  gK g r0 = 12 ∧ (((gI g r0 1) ≤ i3 → (Q i2)) ∧ (¬ (gI g r0 1) ≤ i3 → (∃ y3, gR g r0 15 = some y3 ∧ (gK g y3 = 21 ∧ (vp_in i3 (gN g y3) ∧ (((gI g y3 (Int32.toNatClampNeg i3)) = i1 → (b_X11_sizeNow_28 g r0 i1 i3 i2 1 Q k4)) ∧ (¬ (gI g y3 (Int32.toNatClampNeg i3)) = i1 → (b_X11_sizeNow_28 g r0 i1 i3 i2 0 Q k4))))))))
def w_X11_sizeNow (g : gS) (p0 : Nat) (p1 : Int32) (Q : Int32 → Prop) : Prop :=
  lpx2 (l_X11_sizeNow_4 g p0 p1 Q) 0 0
abbrev r_X11_sizeNow : Room := { frames := 0, cells := 0, slots := 0, locals := 0 }
set_option maxHeartbeats 4000000 in
set_option maxRecDepth 100000 in
theorem c_X11_sizeNow {l : Launch} {D : va_G} {cA : Nat → ClassId} {sz : Nat} {g : gS} {p0 : Nat} {p1 : Int32} {Q : Int32 → Prop} (h : w_X11_sizeNow g p0 p1 Q) : Met l yX11_sizeNow wsX11_sizeNow r_X11_sizeNow (va_Pc [.ref p0, .int p1] (gPre D cA g sz)) (gQi D cA g sz (fun r g2 => g = g2 ∧ Q r)) 0 0 (gA g sz) := by
  refine g_met (cc := cX11_sizeNow) (maxL := 4) (ret := (some .int)) (own := RX11) (by decide) rfl rfl (Nat.le_of_ble_eq_true rfl) ?_
  intro p e s m args below meth c ls CF hr hlk hnm hc hl
  obtain ⟨hx, hb, hml, hown, hts⟩ := id CF
  have hl : lv_has ls 4 [(0, .ref p0), (1, .int p1)] := hl
  show W p l e r_X11_sizeNow s m args below meth c s.heap [] 0 0 (MQ below (gQi D cA g sz (fun r g2 => g = g2 ∧ Q r)) args s 0 0 (gA g sz)) (F0 m 0 ls [])
  have hb_4 : ∀ (r0 : Nat) (i1 : Int32), ∀ (i2 : Int32) (i3 : Int32), lpx2 (l_X11_sizeNow_4 g r0 i1 Q) i2 i3 → ∀ (H : Heap) (locs : List Loc) (ls : Array Slot), gC D cA (gA g sz) s g H locs → lv_has ls 4 [(0, .ref r0), (1, .int i1), (2, .int i2), (3, .int i3)] → W p l e r_X11_sizeNow s m args below meth c H locs 0 0 (MQ below (gQi D cA g sz (fun r g2 => g = g2 ∧ Q r)) args s 0 0 (gA g sz)) (F0 m 4 ls []) := by
    intro r0 i1
    refine lpx2_run (P := fun (i2 : Int32) (i3 : Int32) => ∀ (H : Heap) (locs : List Loc) (ls : Array Slot), gC D cA (gA g sz) s g H locs → lv_has ls 4 [(0, .ref r0), (1, .int i1), (2, .int i2), (3, .int i3)] → W p l e r_X11_sizeNow s m args below meth c H locs 0 0 (MQ below (gQi D cA g sz (fun r g2 => g = g2 ∧ Q r)) args s 0 0 (gA g sz)) (F0 m 4 ls [])) ?_
    intro k4 hk_4 i2 i3 h H locs ls hc hl
    have hb_28 : ∀ (i3 : Int32) (is0 : Int32) (is1 : Int32), b_X11_sizeNow_28 g r0 i1 i3 is0 is1 Q k4 → ∀ (H : Heap) (locs : List Loc) (ls : Array Slot), gC D cA (gA g sz) s g H locs → lv_has ls 4 [(0, .ref r0), (1, .int i1), (3, .int i3)] → W p l e r_X11_sizeNow s m args below meth c H locs 0 0 (MQ below (gQi D cA g sz (fun r g2 => g = g2 ∧ Q r)) args s 0 0 (gA g sz)) (F0 m 28 ls [.int is1, .int is0]) := by
      intro i3 is0 is1 h H locs ls hc hl
      unfold b_X11_sizeNow_28 at h
      refine lv_iadd hx hb dX11_sizeNow_28 ?_
      refine lv_istore_n (lv' := [(2, .int (is0 + is1)), (0, .ref r0), (1, .int i1), (3, .int i3)]) hx hb dX11_sizeNow_29 rfl hl (by decide) rfl (fun ls hl => ?_)
      refine lv_iinc (v := (i3 + 1)) (lv' := [(3, .int (i3 + 1)), (2, .int (is0 + is1)), (0, .ref r0), (1, .int i1)]) hx hb dX11_sizeNow_30 hl (k := 3) rfl rfl (by decide) rfl (fun ls hl => ?_)
      refine lv_goto (tgt := 4) hx hb dX11_sizeNow_33 (by decide) ?_
      exact hk_4 (is0 + is1) (i3 + 1) h _ _ _ hc (lv_sub hl [2, 3, 1, 0] rfl)
    unfold l_X11_sizeNow_4 at h
    refine lv_iload_n hx hb dX11_sizeNow_4 rfl (lv_at hl 3 rfl) ?_
    refine lv_aload_n hx hb dX11_sizeNow_5 rfl (lv_at hl 0 rfl) ?_
    obtain ⟨hk1, h⟩ := h
    refine g_get CF hc hk1 rfl (by decide) (fun _ h9 => List.mem_cons_of_mem _ (List.mem_append_right _ (h9))) (k := 1) (by decide) (List.mem_cons_of_mem _ (List.mem_append_left _ (List.mem_of_getElem? (i := 0) rfl))) rfl dX11_sizeNow_6 ?_
    refine lv_icmp_ge (tgt := 36) hx hb dX11_sizeNow_9 (by decide) (fun c2 => ?_) (fun c2 => ?_)
    · have h := h.1 c2
      refine lv_iload_n hx hb dX11_sizeNow_36 rfl (lv_at hl 2 rfl) ?_
      exact g_reti (r := i2) CF hr hlk hc rfl ⟨rfl, h⟩ dX11_sizeNow_37
    · have h := h.2 c2
      refine lv_iload_n hx hb dX11_sizeNow_12 rfl (lv_at hl 2 rfl) ?_
      refine lv_aload_n hx hb dX11_sizeNow_13 rfl (lv_at hl 0 rfl) ?_
      obtain ⟨y3, e4, h⟩ := h
      refine g_getr CF hc hk1 rfl (by decide) (fun _ h9 => List.mem_cons_of_mem _ (List.mem_append_right _ (h9))) (k := 15) (by decide) (List.mem_cons_of_mem _ (List.mem_append_left _ (List.mem_of_getElem? (i := 1) rfl))) e4 rfl dX11_sizeNow_14 ?_
      refine lv_iload_n hx hb dX11_sizeNow_17 rfl (lv_at hl 3 rfl) ?_
      obtain ⟨hk5, h⟩ := h
      obtain ⟨hi6, h⟩ := h
      refine g_iald CF hc hk5 hi6 dX11_sizeNow_18 ?_
      refine lv_iload_n hx hb dX11_sizeNow_19 rfl (lv_at hl 1 rfl) ?_
      refine lv_icmp_ne (tgt := 27) hx hb dX11_sizeNow_20 (by decide) (fun c7 => ?_) (fun c7 => ?_)
      · have h := h.2 c7
        refine lv_iconst (v := 0) hx hb dX11_sizeNow_27 (by decide) ?_
        exact hb_28 i3 i2 0 h _ _ _ hc (lv_sub hl [0, 1, 3] rfl)
      · have h := h.1 c7
        refine lv_iconst (v := 1) hx hb dX11_sizeNow_23 (by decide) ?_
        refine lv_goto (tgt := 28) hx hb dX11_sizeNow_24 (by decide) ?_
        exact hb_28 i3 i2 1 h _ _ _ hc (lv_sub hl [0, 1, 3] rfl)
  unfold w_X11_sizeNow at h
  obtain ⟨H, hH0⟩ : ∃ z, z = s.heap := ⟨_, rfl⟩
  rw [← hH0] at hc ⊢
  obtain ⟨locs, hlc0⟩ : ∃ z : List Loc, z = [] := ⟨_, rfl⟩
  rw [← hlc0] at hc ⊢
  refine lv_iconst (v := 0) hx hb dX11_sizeNow_0 (by decide) ?_
  refine lv_istore_n (lv' := [(2, .int 0), (0, .ref p0), (1, .int p1)]) hx hb dX11_sizeNow_1 rfl hl (by decide) rfl (fun ls hl => ?_)
  refine lv_iconst (v := 0) hx hb dX11_sizeNow_2 (by decide) ?_
  refine lv_istore_n (lv' := [(3, .int 0), (2, .int 0), (0, .ref p0), (1, .int p1)]) hx hb dX11_sizeNow_3 rfl hl (by decide) rfl (fun ls hl => ?_)
  exact hb_4 p0 p1 0 0 h _ _ _ hc (lv_sub hl [2, 3, 1, 0] rfl)
def b_X11_merge_98 (g : gS) (r0 : Nat) (i1 : Int32) (i2 : Int32) (i3 : Int32) (rs0 : Nat) (is1 : Int32) (Q : Int32 → gS → Prop) : Prop :=
  gK g rs0 = 12 ∧ (∀ g2, g2 = sU g rs0 13 is1 → (gK g2 r0 = 12 ∧ (∃ y5, gR g2 r0 14 = some y5 ∧ (gK g2 y5 = 21 ∧ (vp_in i1 (gN g2 y5) ∧ (∀ g9, g9 = sU g2 y5 (Int32.toNatClampNeg i1) i2 → (Q i3 g9)))))))
def b_X11_merge_79 (g : gS) (r0 : Nat) (i1 : Int32) (i2 : Int32) (i3 : Int32) (i4 : Int32) (i5 : Int32) (Q : Int32 → gS → Prop) (k13 : gS → Int32 → Int32 → Int32 → Prop) : Prop :=
  k13 g i3 i4 (i5 + 1)
def l_X11_merge_13 (r0 : Nat) (i1 : Int32) (i2 : Int32) (Q : Int32 → gS → Prop) (g : gS) (i3 : Int32) (i4 : Int32) (i5 : Int32) (k13 : gS → Int32 → Int32 → Int32 → Prop) : Prop :=
  gK g r0 = 12 ∧ (((gI g r0 1) ≤ i5 → ((i4 = 0 → (b_X11_merge_98 g r0 i1 i2 i3 r0 i1 Q)) ∧ (¬ i4 = 0 → (b_X11_merge_98 g r0 i1 i2 i3 r0 (i1 + 1) Q)))) ∧ (¬ (gI g r0 1) ≤ i5 → (∃ y14, gR g r0 15 = some y14 ∧ (gK g y14 = 21 ∧ (vp_in i5 (gN g y14) ∧ ((i1 ≤ (gI g y14 (Int32.toNatClampNeg i5)) → (∃ y19, gR g r0 5 = some y19 ∧ (gK g y19 = 22 ∧ (vp_in i5 (gN g y19) ∧ (((gI g y19 (Int32.toNatClampNeg i5)) = 0 → (∃ y24, gR g r0 15 = some y24 ∧ (gK g y24 = 21 ∧ (vp_in i5 (gN g y24) ∧ (∀ g28, g28 = sU g y24 (Int32.toNatClampNeg i5) i1 → (b_X11_merge_79 g28 r0 i1 i2 i3 (i4 + 1) i5 Q k13)))))) ∧ (¬ (gI g y19 (Int32.toNatClampNeg i5)) = 0 → (∃ y30, gR g r0 15 = some y30 ∧ (gK g y30 = 21 ∧ (vp_in i5 (gN g y30) ∧ (∀ g34, g34 = sU g y30 (Int32.toNatClampNeg i5) (-1) → (gK g34 r0 = 12 ∧ (∃ y37, gR g34 r0 6 = some y37 ∧ (gK g34 y37 = 22 ∧ (vp_in i5 (gN g34 y37) ∧ (∀ g41, g41 = sU g34 y37 (Int32.toNatClampNeg i5) 0 → (b_X11_merge_79 g41 r0 i1 i2 (i3 + 1) i4 i5 Q k13)))))))))))))))) ∧ (¬ i1 ≤ (gI g y14 (Int32.toNatClampNeg i5)) → (b_X11_merge_79 g r0 i1 i2 i3 i4 i5 Q k13))))))))
def w_X11_merge (g0 : gS) (p0 : Nat) (p1 : Int32) (p2 : Int32) (Q : Int32 → gS → Prop) : Prop :=
  gK g0 p0 = 12 ∧ (∀ g44, g44 = sU g0 p0 25 0 → (lpx4 (l_X11_merge_13 p0 p1 p2 Q) g44 0 0 0))
abbrev r_X11_merge : Room := { frames := 0, cells := 0, slots := 0, locals := 0 }
set_option maxHeartbeats 4000000 in
set_option maxRecDepth 100000 in
theorem c_X11_merge {l : Launch} {D : va_G} {cA : Nat → ClassId} {sz : Nat} {g0 : gS} {p0 : Nat} {p1 : Int32} {p2 : Int32} {Q : Int32 → gS → Prop} (h : w_X11_merge g0 p0 p1 p2 Q) : Met l yX11_merge wsX11_merge r_X11_merge (va_Pc [.ref p0, .int p1, .int p2] (gPre D cA g0 sz)) (gQi D cA g0 sz (Q)) 0 0 (gA g0 sz) := by
  refine g_met (cc := cX11_merge) (maxL := 6) (ret := (some .int)) (own := RX11) (by decide) rfl rfl (Nat.le_of_ble_eq_true rfl) ?_
  intro p e s m args below meth c ls CF hr hlk hnm hc hl
  obtain ⟨hx, hb, hml, hown, hts⟩ := id CF
  have hl : lv_has ls 6 [(0, .ref p0), (1, .int p1), (2, .int p2)] := hl
  show W p l e r_X11_merge s m args below meth c s.heap [] 0 0 (MQ below (gQi D cA g0 sz (Q)) args s 0 0 (gA g0 sz)) (F0 m 0 ls [])
  have hb_98 : ∀ (g : gS) (r0 : Nat) (i1 : Int32) (i2 : Int32) (i3 : Int32) (rs0 : Nat) (is1 : Int32), b_X11_merge_98 g r0 i1 i2 i3 rs0 is1 Q → ∀ (H : Heap) (locs : List Loc) (ls : Array Slot), gC D cA (gA g0 sz) s g H locs → lv_has ls 6 [(0, .ref r0), (1, .int i1), (2, .int i2), (3, .int i3)] → W p l e r_X11_merge s m args below meth c H locs 0 0 (MQ below (gQi D cA g0 sz (Q)) args s 0 0 (gA g0 sz)) (F0 m 98 ls [.int is1, .ref rs0]) := by
    intro g r0 i1 i2 i3 rs0 is1 h H locs ls hc hl
    unfold b_X11_merge_98 at h
    obtain ⟨hk1, h⟩ := h
    refine g_puti CF hc hk1 rfl (by decide) (fun _ h9 => List.mem_cons_of_mem _ (List.mem_append_right _ (h9))) tyX11 tyX11_ok nmX11 (k := 13) (by decide) (List.mem_cons_of_mem _ (List.mem_append_left _ (List.mem_of_getElem? (i := 5) rfl))) rfl (v := is1) rfl rfl rfl dX11_merge_98 (fun H locs hc => ?_)
    obtain ⟨g2, eg3⟩ : ∃ z, z = sU g rs0 13 is1 := ⟨_, rfl⟩
    have hc : gC D cA (gA g0 sz) s g2 H locs := by rw [eg3]; exact hc
    replace h := h g2 eg3
    refine lv_aload_n hx hb dX11_merge_101 rfl (lv_at hl 0 rfl) ?_
    obtain ⟨hk4, h⟩ := h
    obtain ⟨y5, e6, h⟩ := h
    refine g_getr CF hc hk4 rfl (by decide) (fun _ h9 => List.mem_cons_of_mem _ (List.mem_append_right _ (h9))) (k := 14) (by decide) (List.mem_cons_of_mem _ (List.mem_append_left _ (List.mem_of_getElem? (i := 6) rfl))) e6 rfl dX11_merge_102 ?_
    refine lv_iload_n hx hb dX11_merge_105 rfl (lv_at hl 1 rfl) ?_
    refine lv_iload_n hx hb dX11_merge_106 rfl (lv_at hl 2 rfl) ?_
    obtain ⟨hk7, h⟩ := h
    obtain ⟨hi8, h⟩ := h
    refine g_iast CF hc hk7 (x := i2) hi8 dX11_merge_107 (fun H locs hc => ?_)
    obtain ⟨g9, eg10⟩ : ∃ z, z = sU g2 y5 (Int32.toNatClampNeg i1) i2 := ⟨_, rfl⟩
    have hc : gC D cA (gA g0 sz) s g9 H locs := by rw [eg10]; exact hc
    replace h := h g9 eg10
    refine lv_iload_n hx hb dX11_merge_108 rfl (lv_at hl 3 rfl) ?_
    exact g_reti (r := i3) CF hr hlk hc rfl h dX11_merge_109
  have hb_13 : ∀ (r0 : Nat) (i1 : Int32) (i2 : Int32), ∀ (g : gS) (i3 : Int32) (i4 : Int32) (i5 : Int32), lpx4 (l_X11_merge_13 r0 i1 i2 Q) g i3 i4 i5 → ∀ (H : Heap) (locs : List Loc) (ls : Array Slot), gC D cA (gA g0 sz) s g H locs → lv_has ls 6 [(0, .ref r0), (1, .int i1), (2, .int i2), (3, .int i3), (4, .int i4), (5, .int i5)] → W p l e r_X11_merge s m args below meth c H locs 0 0 (MQ below (gQi D cA g0 sz (Q)) args s 0 0 (gA g0 sz)) (F0 m 13 ls []) := by
    intro r0 i1 i2
    refine lpx4_run (P := fun (g : gS) (i3 : Int32) (i4 : Int32) (i5 : Int32) => ∀ (H : Heap) (locs : List Loc) (ls : Array Slot), gC D cA (gA g0 sz) s g H locs → lv_has ls 6 [(0, .ref r0), (1, .int i1), (2, .int i2), (3, .int i3), (4, .int i4), (5, .int i5)] → W p l e r_X11_merge s m args below meth c H locs 0 0 (MQ below (gQi D cA g0 sz (Q)) args s 0 0 (gA g0 sz)) (F0 m 13 ls [])) ?_
    intro k13 hk_13 g i3 i4 i5 h H locs ls hc hl
    have hb_79 : ∀ (g : gS) (i3 : Int32) (i4 : Int32) (i5 : Int32), b_X11_merge_79 g r0 i1 i2 i3 i4 i5 Q k13 → ∀ (H : Heap) (locs : List Loc) (ls : Array Slot), gC D cA (gA g0 sz) s g H locs → lv_has ls 6 [(0, .ref r0), (1, .int i1), (2, .int i2), (3, .int i3), (4, .int i4), (5, .int i5)] → W p l e r_X11_merge s m args below meth c H locs 0 0 (MQ below (gQi D cA g0 sz (Q)) args s 0 0 (gA g0 sz)) (F0 m 79 ls []) := by
      intro g i3 i4 i5 h H locs ls hc hl
      unfold b_X11_merge_79 at h
      refine lv_iinc (v := (i5 + 1)) (lv' := [(5, .int (i5 + 1)), (0, .ref r0), (1, .int i1), (2, .int i2), (3, .int i3), (4, .int i4)]) hx hb dX11_merge_79 hl (k := 5) rfl rfl (by decide) rfl (fun ls hl => ?_)
      refine lv_goto (tgt := 13) hx hb dX11_merge_82 (by decide) ?_
      exact hk_13 g i3 i4 (i5 + 1) h _ _ _ hc (lv_sub hl [1, 2, 3, 4, 5, 0] rfl)
    unfold l_X11_merge_13 at h
    refine lv_iload hx hb dX11_merge_13 (lv_at hl 5 rfl) ?_
    refine lv_aload_n hx hb dX11_merge_15 rfl (lv_at hl 0 rfl) ?_
    obtain ⟨hk11, h⟩ := h
    refine g_get CF hc hk11 rfl (by decide) (fun _ h9 => List.mem_cons_of_mem _ (List.mem_append_right _ (h9))) (k := 1) (by decide) (List.mem_cons_of_mem _ (List.mem_append_left _ (List.mem_of_getElem? (i := 1) rfl))) rfl dX11_merge_16 ?_
    refine lv_icmp_ge (tgt := 85) hx hb dX11_merge_19 (by decide) (fun c12 => ?_) (fun c12 => ?_)
    · have h := h.1 c12
      refine lv_aload_n hx hb dX11_merge_85 rfl (lv_at hl 0 rfl) ?_
      refine lv_iload hx hb dX11_merge_86 (lv_at hl 4 rfl) ?_
      refine lv_if_ne (tgt := 95) hx hb dX11_merge_88 (by decide) (fun c13 => ?_) (fun c13 => ?_)
      · have h := h.2 c13
        refine lv_iload_n hx hb dX11_merge_95 rfl (lv_at hl 1 rfl) ?_
        refine lv_iconst (v := 1) hx hb dX11_merge_96 (by decide) ?_
        refine lv_iadd hx hb dX11_merge_97 ?_
        exact hb_98 g r0 i1 i2 i3 r0 (i1 + 1) h _ _ _ hc (lv_sub hl [0, 1, 2, 3] rfl)
      · have h := h.1 c13
        refine lv_iload_n hx hb dX11_merge_91 rfl (lv_at hl 1 rfl) ?_
        refine lv_goto (tgt := 98) hx hb dX11_merge_92 (by decide) ?_
        exact hb_98 g r0 i1 i2 i3 r0 i1 h _ _ _ hc (lv_sub hl [0, 1, 2, 3] rfl)
    · have h := h.2 c12
      refine lv_aload_n hx hb dX11_merge_22 rfl (lv_at hl 0 rfl) ?_
      obtain ⟨y14, e15, h⟩ := h
      refine g_getr CF hc hk11 rfl (by decide) (fun _ h9 => List.mem_cons_of_mem _ (List.mem_append_right _ (h9))) (k := 15) (by decide) (List.mem_cons_of_mem _ (List.mem_append_left _ (List.mem_of_getElem? (i := 2) rfl))) e15 rfl dX11_merge_23 ?_
      refine lv_iload hx hb dX11_merge_26 (lv_at hl 5 rfl) ?_
      obtain ⟨hk16, h⟩ := h
      obtain ⟨hi17, h⟩ := h
      refine g_iald CF hc hk16 hi17 dX11_merge_28 ?_
      refine lv_iload_n hx hb dX11_merge_29 rfl (lv_at hl 1 rfl) ?_
      refine lv_icmp_ge (tgt := 36) hx hb dX11_merge_30 (by decide) (fun c18 => ?_) (fun c18 => ?_)
      · have h := h.1 c18
        refine lv_aload_n hx hb dX11_merge_36 rfl (lv_at hl 0 rfl) ?_
        obtain ⟨y19, e20, h⟩ := h
        refine g_getr CF hc hk11 rfl (by decide) (fun _ h9 => List.mem_cons_of_mem _ (List.mem_append_right _ (h9))) (k := 5) (by decide) (List.mem_cons_of_mem _ (List.mem_append_left _ (List.mem_of_getElem? (i := 3) rfl))) e20 rfl dX11_merge_37 ?_
        refine lv_iload hx hb dX11_merge_40 (lv_at hl 5 rfl) ?_
        obtain ⟨hk21, h⟩ := h
        obtain ⟨hi22, h⟩ := h
        refine g_zald CF hc hk21 hi22 dX11_merge_42 ?_
        refine lv_if_eq (tgt := 68) hx hb dX11_merge_43 (by decide) (fun c23 => ?_) (fun c23 => ?_)
        · have h := h.1 c23
          refine lv_aload_n hx hb dX11_merge_68 rfl (lv_at hl 0 rfl) ?_
          obtain ⟨y24, e25, h⟩ := h
          refine g_getr CF hc hk11 rfl (by decide) (fun _ h9 => List.mem_cons_of_mem _ (List.mem_append_right _ (h9))) (k := 15) (by decide) (List.mem_cons_of_mem _ (List.mem_append_left _ (List.mem_of_getElem? (i := 2) rfl))) e25 rfl dX11_merge_69 ?_
          refine lv_iload hx hb dX11_merge_72 (lv_at hl 5 rfl) ?_
          refine lv_iload_n hx hb dX11_merge_74 rfl (lv_at hl 1 rfl) ?_
          obtain ⟨hk26, h⟩ := h
          obtain ⟨hi27, h⟩ := h
          refine g_iast CF hc hk26 (x := i1) hi27 dX11_merge_75 (fun H locs hc => ?_)
          obtain ⟨g28, eg29⟩ : ∃ z, z = sU g y24 (Int32.toNatClampNeg i5) i1 := ⟨_, rfl⟩
          have hc : gC D cA (gA g0 sz) s g28 H locs := by rw [eg29]; exact hc
          replace h := h g28 eg29
          refine lv_iinc (v := (i4 + 1)) (lv' := [(4, .int (i4 + 1)), (0, .ref r0), (1, .int i1), (2, .int i2), (3, .int i3), (5, .int i5)]) hx hb dX11_merge_76 hl (k := 4) rfl rfl (by decide) rfl (fun ls hl => ?_)
          exact hb_79 g28 i3 (i4 + 1) i5 h _ _ _ hc (lv_sub hl [1, 2, 3, 4, 0, 5] rfl)
        · have h := h.2 c23
          refine lv_aload_n hx hb dX11_merge_46 rfl (lv_at hl 0 rfl) ?_
          obtain ⟨y30, e31, h⟩ := h
          refine g_getr CF hc hk11 rfl (by decide) (fun _ h9 => List.mem_cons_of_mem _ (List.mem_append_right _ (h9))) (k := 15) (by decide) (List.mem_cons_of_mem _ (List.mem_append_left _ (List.mem_of_getElem? (i := 2) rfl))) e31 rfl dX11_merge_47 ?_
          refine lv_iload hx hb dX11_merge_50 (lv_at hl 5 rfl) ?_
          refine lv_iconst (v := (-1)) hx hb dX11_merge_52 (by decide) ?_
          obtain ⟨hk32, h⟩ := h
          obtain ⟨hi33, h⟩ := h
          refine g_iast CF hc hk32 (x := (-1)) hi33 dX11_merge_53 (fun H locs hc => ?_)
          obtain ⟨g34, eg35⟩ : ∃ z, z = sU g y30 (Int32.toNatClampNeg i5) (-1) := ⟨_, rfl⟩
          have hc : gC D cA (gA g0 sz) s g34 H locs := by rw [eg35]; exact hc
          replace h := h g34 eg35
          refine lv_aload_n hx hb dX11_merge_54 rfl (lv_at hl 0 rfl) ?_
          obtain ⟨hk36, h⟩ := h
          obtain ⟨y37, e38, h⟩ := h
          refine g_getr CF hc hk36 rfl (by decide) (fun _ h9 => List.mem_cons_of_mem _ (List.mem_append_right _ (h9))) (k := 6) (by decide) (List.mem_cons_of_mem _ (List.mem_append_left _ (List.mem_of_getElem? (i := 4) rfl))) e38 rfl dX11_merge_55 ?_
          refine lv_iload hx hb dX11_merge_58 (lv_at hl 5 rfl) ?_
          refine lv_iconst (v := 0) hx hb dX11_merge_60 (by decide) ?_
          obtain ⟨hk39, h⟩ := h
          obtain ⟨hi40, h⟩ := h
          refine g_zast CF hc hk39 (x := 0) (by decide : (0 : Int32) = 0 ∨ (0 : Int32) = 1) hi40 dX11_merge_61 (fun H locs hc => ?_)
          obtain ⟨g41, eg42⟩ : ∃ z, z = sU g34 y37 (Int32.toNatClampNeg i5) 0 := ⟨_, rfl⟩
          have hc : gC D cA (gA g0 sz) s g41 H locs := by rw [eg42]; exact hc
          replace h := h g41 eg42
          refine lv_iinc (v := (i3 + 1)) (lv' := [(3, .int (i3 + 1)), (0, .ref r0), (1, .int i1), (2, .int i2), (4, .int i4), (5, .int i5)]) hx hb dX11_merge_62 hl (k := 3) rfl rfl (by decide) rfl (fun ls hl => ?_)
          refine lv_goto (tgt := 79) hx hb dX11_merge_65 (by decide) ?_
          exact hb_79 g41 (i3 + 1) i4 i5 h _ _ _ hc (lv_sub hl [1, 2, 3, 0, 4, 5] rfl)
      · have h := h.2 c18
        refine lv_goto (tgt := 79) hx hb dX11_merge_33 (by decide) ?_
        exact hb_79 g i3 i4 i5 h _ _ _ hc (lv_sub hl [0, 1, 2, 3, 4, 5] rfl)
  unfold w_X11_merge at h
  obtain ⟨H, hH0⟩ : ∃ z, z = s.heap := ⟨_, rfl⟩
  rw [← hH0] at hc ⊢
  obtain ⟨locs, hlc0⟩ : ∃ z : List Loc, z = [] := ⟨_, rfl⟩
  rw [← hlc0] at hc ⊢
  refine lv_aload_n hx hb dX11_merge_0 rfl (lv_at hl 0 rfl) ?_
  refine lv_iconst (v := 0) hx hb dX11_merge_1 (by decide) ?_
  obtain ⟨hk43, h⟩ := h
  refine g_puti CF hc hk43 rfl (by decide) (fun _ h9 => List.mem_cons_of_mem _ (List.mem_append_right _ (h9))) tyX11 tyX11_ok nmX11 (k := 25) (by decide) (List.mem_cons_of_mem _ (List.mem_append_left _ (List.mem_of_getElem? (i := 0) rfl))) rfl (v := 0) (narrow_01 (by decide : (0 : Int32) = 0 ∨ (0 : Int32) = 1)) (fits_01 (by decide : (0 : Int32) = 0 ∨ (0 : Int32) = 1)) rfl dX11_merge_2 (fun H locs hc => ?_)
  obtain ⟨g44, eg45⟩ : ∃ z, z = sU g0 p0 25 0 := ⟨_, rfl⟩
  have hc : gC D cA (gA g0 sz) s g44 H locs := by rw [eg45]; exact hc
  replace h := h g44 eg45
  refine lv_iconst (v := 0) hx hb dX11_merge_5 (by decide) ?_
  refine lv_istore_n (lv' := [(3, .int 0), (0, .ref p0), (1, .int p1), (2, .int p2)]) hx hb dX11_merge_6 rfl hl (by decide) rfl (fun ls hl => ?_)
  refine lv_iconst (v := 0) hx hb dX11_merge_7 (by decide) ?_
  refine lv_istore (lv' := [(4, .int 0), (3, .int 0), (0, .ref p0), (1, .int p1), (2, .int p2)]) hx hb dX11_merge_8 hl (by decide) rfl (fun ls hl => ?_)
  refine lv_iconst (v := 0) hx hb dX11_merge_10 (by decide) ?_
  refine lv_istore (lv' := [(5, .int 0), (4, .int 0), (3, .int 0), (0, .ref p0), (1, .int p1), (2, .int p2)]) hx hb dX11_merge_11 hl (by decide) rfl (fun ls hl => ?_)
  exact hb_13 p0 p1 p2 g44 0 0 0 h _ _ _ hc (lv_sub hl [3, 4, 5, 2, 1, 0] rfl)
def b_X11_flush_170 (g : gS) (i1 : Int32) (Q : Int32 → gS → Prop) : Prop :=
  Q i1 g
def l_X11_flush_85 (r0 : Nat) (i1 : Int32) (Q : Int32 → gS → Prop) (g : gS) (k85 : gS → Prop) : Prop :=
  gK g r0 = 12 ∧ (((gI g r0 13) ≤ 2 → (b_X11_flush_170 g i1 Q)) ∧ (¬ (gI g r0 13) ≤ 2 → (∃ y3, gR g r0 14 = some y3 ∧ (gK g y3 = 21 ∧ (vp_in ((gI g r0 13) - 1) (gN g y3) ∧ (∃ y7, gR g r0 14 = some y7 ∧ (gK g y7 = 21 ∧ (vp_in ((gI g r0 13) - 2) (gN g y7) ∧ (((gI g y3 (Int32.toNatClampNeg ((gI g r0 13) - 1))) = (gI g y7 (Int32.toNatClampNeg ((gI g r0 13) - 2))) → (∃ y12, gR g r0 14 = some y12 ∧ (gK g y12 = 21 ∧ (vp_in ((gI g r0 13) - 2) (gN g y12) ∧ (∃ y16, gR g r0 14 = some y16 ∧ (gK g y16 = 21 ∧ (vp_in ((gI g r0 13) - 3) (gN g y16) ∧ (((gI g y12 (Int32.toNatClampNeg ((gI g r0 13) - 2))) = (gI g y16 (Int32.toNatClampNeg ((gI g r0 13) - 3))) → (∃ y21, gR g r0 14 = some y21 ∧ (gK g y21 = 21 ∧ (vp_in ((gI g r0 13) - 1) (gN g y21) ∧ (w_X11_merge g r0 ((gI g r0 13) - 3) ((gI g y21 (Int32.toNatClampNeg ((gI g r0 13) - 1))) + 1) (fun x25 g26 => (k85 g26))))))) ∧ (¬ (gI g y12 (Int32.toNatClampNeg ((gI g r0 13) - 2))) = (gI g y16 (Int32.toNatClampNeg ((gI g r0 13) - 3))) → (b_X11_flush_170 g i1 Q)))))))))) ∧ (¬ (gI g y3 (Int32.toNatClampNeg ((gI g r0 13) - 1))) = (gI g y7 (Int32.toNatClampNeg ((gI g r0 13) - 2))) → (b_X11_flush_170 g i1 Q)))))))))))
def b_X11_flush_77 (g : gS) (r0 : Nat) (i1 : Int32) (Q : Int32 → gS → Prop) : Prop :=
  gK g r0 = 12 ∧ (∀ g29, g29 = sU g r0 9 (gI g r0 1) → (lpx1 (l_X11_flush_85 r0 i1 Q) g29))
def l_X11_flush_29 (r0 : Nat) (i1 : Int32) (Q : Int32 → gS → Prop) (g : gS) (i2 : Int32) (k29 : gS → Int32 → Prop) : Prop :=
  gK g r0 = 12 ∧ (((gI g r0 1) ≤ i2 → (∃ y33, gR g r0 14 = some y33 ∧ (∀ g35, g35 = sU g r0 13 ((gI g r0 13) + 1) → (gK g35 y33 = 21 ∧ (vp_in (gI g r0 13) (gN g35 y33) ∧ (∀ g39, g39 = sU g35 y33 (Int32.toNatClampNeg (gI g r0 13)) 0 → (b_X11_flush_77 g39 r0 i1 Q))))))) ∧ (¬ (gI g r0 1) ≤ i2 → (∃ y41, gR g r0 15 = some y41 ∧ (gK g y41 = 21 ∧ (vp_in i2 (gN g y41) ∧ (∀ g45, g45 = sU g y41 (Int32.toNatClampNeg i2) (gI g r0 13) → (gK g45 r0 = 12 ∧ (∃ y48, gR g45 r0 6 = some y48 ∧ (gK g45 y48 = 22 ∧ (vp_in i2 (gN g45 y48) ∧ (∀ g52, g52 = sU g45 y48 (Int32.toNatClampNeg i2) 1 → (k29 g52 (i2 + 1)))))))))))))
def w_X11_flush (g0 : gS) (p0 : Nat) (Q : Int32 → gS → Prop) : Prop :=
  gK g0 p0 = 12 ∧ (∀ g55, g55 = sU g0 p0 0 0 → (gK g55 p0 = 12 ∧ (∀ g58, g58 = sU g55 p0 25 0 → ((((gI g55 p0 1) - (gI g55 p0 9)) ≤ 0 → (b_X11_flush_77 g58 p0 ((gI g55 p0 1) - (gI g55 p0 9)) Q)) ∧ (¬ ((gI g55 p0 1) - (gI g55 p0 9)) ≤ 0 → (gK g58 p0 = 12 ∧ (lpx2 (l_X11_flush_29 p0 ((gI g55 p0 1) - (gI g55 p0 9)) Q) g58 (gI g58 p0 9))))))))
abbrev r_X11_flush : Room := { frames := 1, cells := 0, slots := 0, locals := 25 }
set_option maxHeartbeats 4000000 in
set_option maxRecDepth 100000 in
theorem c_X11_flush {l : Launch} {D : va_G} {cA : Nat → ClassId} {sz : Nat} {g0 : gS} {p0 : Nat} {Q : Int32 → gS → Prop} (h : w_X11_flush g0 p0 Q) : Met l yX11_flush wsX11_flush r_X11_flush (va_Pc [.ref p0] (gPre D cA g0 sz)) (gQi D cA g0 sz (Q)) 0 0 (gA g0 sz) := by
  refine g_met (cc := cX11_flush) (maxL := 3) (ret := (some .int)) (own := RX11) (by decide) rfl rfl (Nat.le_of_ble_eq_true rfl) ?_
  intro p e s m args below meth c ls CF hr hlk hnm hc hl
  obtain ⟨hx, hb, hml, hown, hts⟩ := id CF
  have hl : lv_has ls 3 [(0, .ref p0)] := hl
  show W p l e r_X11_flush s m args below meth c s.heap [] 0 0 (MQ below (gQi D cA g0 sz (Q)) args s 0 0 (gA g0 sz)) (F0 m 0 ls [])
  have hb_170 : ∀ (g : gS) (i1 : Int32), b_X11_flush_170 g i1 Q → ∀ (H : Heap) (locs : List Loc) (ls : Array Slot), gC D cA (gA g0 sz) s g H locs → lv_has ls 3 [(1, .int i1)] → W p l e r_X11_flush s m args below meth c H locs 0 0 (MQ below (gQi D cA g0 sz (Q)) args s 0 0 (gA g0 sz)) (F0 m 170 ls []) := by
    intro g i1 h H locs ls hc hl
    unfold b_X11_flush_170 at h
    refine lv_iload_n hx hb dX11_flush_170 rfl (lv_at hl 0 rfl) ?_
    exact g_reti (r := i1) CF hr hlk hc rfl h dX11_flush_171
  have hb_85 : ∀ (r0 : Nat) (i1 : Int32), ∀ (g : gS), lpx1 (l_X11_flush_85 r0 i1 Q) g → ∀ (H : Heap) (locs : List Loc) (ls : Array Slot), gC D cA (gA g0 sz) s g H locs → lv_has ls 3 [(0, .ref r0), (1, .int i1)] → W p l e r_X11_flush s m args below meth c H locs 0 0 (MQ below (gQi D cA g0 sz (Q)) args s 0 0 (gA g0 sz)) (F0 m 85 ls []) := by
    intro r0 i1
    refine lpx1_run (P := fun (g : gS) => ∀ (H : Heap) (locs : List Loc) (ls : Array Slot), gC D cA (gA g0 sz) s g H locs → lv_has ls 3 [(0, .ref r0), (1, .int i1)] → W p l e r_X11_flush s m args below meth c H locs 0 0 (MQ below (gQi D cA g0 sz (Q)) args s 0 0 (gA g0 sz)) (F0 m 85 ls [])) ?_
    intro k85 hk_85 g h H locs ls hc hl
    unfold l_X11_flush_85 at h
    refine lv_aload_n hx hb dX11_flush_85 rfl (lv_at hl 0 rfl) ?_
    obtain ⟨hk1, h⟩ := h
    refine g_get CF hc hk1 rfl (by decide) (fun _ h9 => List.mem_cons_of_mem _ (List.mem_append_right _ (h9))) (k := 13) (by decide) (List.mem_cons_of_mem _ (List.mem_append_left _ (List.mem_of_getElem? (i := 5) rfl))) rfl dX11_flush_86 ?_
    refine lv_iconst (v := 2) hx hb dX11_flush_89 (by decide) ?_
    refine lv_icmp_le (tgt := 170) hx hb dX11_flush_90 (by decide) (fun c2 => ?_) (fun c2 => ?_)
    · have h := h.1 c2
      exact hb_170 g i1 h _ _ _ hc (lv_sub hl [1] rfl)
    · have h := h.2 c2
      refine lv_aload_n hx hb dX11_flush_93 rfl (lv_at hl 0 rfl) ?_
      obtain ⟨y3, e4, h⟩ := h
      refine g_getr CF hc hk1 rfl (by decide) (fun _ h9 => List.mem_cons_of_mem _ (List.mem_append_right _ (h9))) (k := 14) (by decide) (List.mem_cons_of_mem _ (List.mem_append_left _ (List.mem_of_getElem? (i := 7) rfl))) e4 rfl dX11_flush_94 ?_
      refine lv_aload_n hx hb dX11_flush_97 rfl (lv_at hl 0 rfl) ?_
      refine g_get CF hc hk1 rfl (by decide) (fun _ h9 => List.mem_cons_of_mem _ (List.mem_append_right _ (h9))) (k := 13) (by decide) (List.mem_cons_of_mem _ (List.mem_append_left _ (List.mem_of_getElem? (i := 5) rfl))) rfl dX11_flush_98 ?_
      refine lv_iconst (v := 1) hx hb dX11_flush_101 (by decide) ?_
      refine lv_isub hx hb dX11_flush_102 ?_
      obtain ⟨hk5, h⟩ := h
      obtain ⟨hi6, h⟩ := h
      refine g_iald CF hc hk5 hi6 dX11_flush_103 ?_
      refine lv_aload_n hx hb dX11_flush_104 rfl (lv_at hl 0 rfl) ?_
      obtain ⟨y7, e8, h⟩ := h
      refine g_getr CF hc hk1 rfl (by decide) (fun _ h9 => List.mem_cons_of_mem _ (List.mem_append_right _ (h9))) (k := 14) (by decide) (List.mem_cons_of_mem _ (List.mem_append_left _ (List.mem_of_getElem? (i := 7) rfl))) e8 rfl dX11_flush_105 ?_
      refine lv_aload_n hx hb dX11_flush_108 rfl (lv_at hl 0 rfl) ?_
      refine g_get CF hc hk1 rfl (by decide) (fun _ h9 => List.mem_cons_of_mem _ (List.mem_append_right _ (h9))) (k := 13) (by decide) (List.mem_cons_of_mem _ (List.mem_append_left _ (List.mem_of_getElem? (i := 5) rfl))) rfl dX11_flush_109 ?_
      refine lv_iconst (v := 2) hx hb dX11_flush_112 (by decide) ?_
      refine lv_isub hx hb dX11_flush_113 ?_
      obtain ⟨hk9, h⟩ := h
      obtain ⟨hi10, h⟩ := h
      refine g_iald CF hc hk9 hi10 dX11_flush_114 ?_
      refine lv_icmp_ne (tgt := 170) hx hb dX11_flush_115 (by decide) (fun c11 => ?_) (fun c11 => ?_)
      · have h := h.2 c11
        exact hb_170 g i1 h _ _ _ hc (lv_sub hl [1] rfl)
      · have h := h.1 c11
        refine lv_aload_n hx hb dX11_flush_118 rfl (lv_at hl 0 rfl) ?_
        obtain ⟨y12, e13, h⟩ := h
        refine g_getr CF hc hk1 rfl (by decide) (fun _ h9 => List.mem_cons_of_mem _ (List.mem_append_right _ (h9))) (k := 14) (by decide) (List.mem_cons_of_mem _ (List.mem_append_left _ (List.mem_of_getElem? (i := 7) rfl))) e13 rfl dX11_flush_119 ?_
        refine lv_aload_n hx hb dX11_flush_122 rfl (lv_at hl 0 rfl) ?_
        refine g_get CF hc hk1 rfl (by decide) (fun _ h9 => List.mem_cons_of_mem _ (List.mem_append_right _ (h9))) (k := 13) (by decide) (List.mem_cons_of_mem _ (List.mem_append_left _ (List.mem_of_getElem? (i := 5) rfl))) rfl dX11_flush_123 ?_
        refine lv_iconst (v := 2) hx hb dX11_flush_126 (by decide) ?_
        refine lv_isub hx hb dX11_flush_127 ?_
        obtain ⟨hk14, h⟩ := h
        obtain ⟨hi15, h⟩ := h
        refine g_iald CF hc hk14 hi15 dX11_flush_128 ?_
        refine lv_aload_n hx hb dX11_flush_129 rfl (lv_at hl 0 rfl) ?_
        obtain ⟨y16, e17, h⟩ := h
        refine g_getr CF hc hk1 rfl (by decide) (fun _ h9 => List.mem_cons_of_mem _ (List.mem_append_right _ (h9))) (k := 14) (by decide) (List.mem_cons_of_mem _ (List.mem_append_left _ (List.mem_of_getElem? (i := 7) rfl))) e17 rfl dX11_flush_130 ?_
        refine lv_aload_n hx hb dX11_flush_133 rfl (lv_at hl 0 rfl) ?_
        refine g_get CF hc hk1 rfl (by decide) (fun _ h9 => List.mem_cons_of_mem _ (List.mem_append_right _ (h9))) (k := 13) (by decide) (List.mem_cons_of_mem _ (List.mem_append_left _ (List.mem_of_getElem? (i := 5) rfl))) rfl dX11_flush_134 ?_
        refine lv_iconst (v := 3) hx hb dX11_flush_137 (by decide) ?_
        refine lv_isub hx hb dX11_flush_138 ?_
        obtain ⟨hk18, h⟩ := h
        obtain ⟨hi19, h⟩ := h
        refine g_iald CF hc hk18 hi19 dX11_flush_139 ?_
        refine lv_icmp_ne (tgt := 170) hx hb dX11_flush_140 (by decide) (fun c20 => ?_) (fun c20 => ?_)
        · have h := h.2 c20
          exact hb_170 g i1 h _ _ _ hc (lv_sub hl [1] rfl)
        · have h := h.1 c20
          refine lv_aload_n hx hb dX11_flush_143 rfl (lv_at hl 0 rfl) ?_
          refine lv_aload_n hx hb dX11_flush_144 rfl (lv_at hl 0 rfl) ?_
          refine g_get CF hc hk1 rfl (by decide) (fun _ h9 => List.mem_cons_of_mem _ (List.mem_append_right _ (h9))) (k := 13) (by decide) (List.mem_cons_of_mem _ (List.mem_append_left _ (List.mem_of_getElem? (i := 5) rfl))) rfl dX11_flush_145 ?_
          refine lv_iconst (v := 3) hx hb dX11_flush_148 (by decide) ?_
          refine lv_isub hx hb dX11_flush_149 ?_
          refine lv_aload_n hx hb dX11_flush_150 rfl (lv_at hl 0 rfl) ?_
          obtain ⟨y21, e22, h⟩ := h
          refine g_getr CF hc hk1 rfl (by decide) (fun _ h9 => List.mem_cons_of_mem _ (List.mem_append_right _ (h9))) (k := 14) (by decide) (List.mem_cons_of_mem _ (List.mem_append_left _ (List.mem_of_getElem? (i := 7) rfl))) e22 rfl dX11_flush_151 ?_
          refine lv_aload_n hx hb dX11_flush_154 rfl (lv_at hl 0 rfl) ?_
          refine g_get CF hc hk1 rfl (by decide) (fun _ h9 => List.mem_cons_of_mem _ (List.mem_append_right _ (h9))) (k := 13) (by decide) (List.mem_cons_of_mem _ (List.mem_append_left _ (List.mem_of_getElem? (i := 5) rfl))) rfl dX11_flush_155 ?_
          refine lv_iconst (v := 1) hx hb dX11_flush_158 (by decide) ?_
          refine lv_isub hx hb dX11_flush_159 ?_
          obtain ⟨hk23, h⟩ := h
          obtain ⟨hi24, h⟩ := h
          refine g_iald CF hc hk23 hi24 dX11_flush_160 ?_
          refine lv_iconst (v := 1) hx hb dX11_flush_161 (by decide) ?_
          refine lv_iadd hx hb dX11_flush_162 ?_
          refine g_calli (va_runV (As := [.int ((gI g r0 13) - 3), .int ((gI g y21 (Int32.toNatClampNeg ((gI g r0 13) - 1))) + 1)]) (rest := []) CF (c_X11_merge h) (cwV 2 hts gX11_flush_X11_merge rfl rfl rfl (by decide +kernel) ⟨Nat.le_of_ble_eq_true rfl, Nat.le_of_ble_eq_true rfl⟩) (hc.preV hk1 rfl (by decide)) rfl rfl hl.1 rfl (lv_room (Nat.le_of_ble_eq_true rfl)) dX11_flush_163 ⟨Nat.le_of_ble_eq_true rfl, Nat.le_of_ble_eq_true rfl⟩) hc (fun x25 g26 H locs hq hc => ?_)
          replace h := hq
          refine lv_pop hx hb dX11_flush_166 rfl ?_
          refine lv_goto (tgt := 85) hx hb dX11_flush_167 (by decide) ?_
          exact hk_85 g26 h _ _ _ hc (lv_sub hl [0, 1] rfl)
  have hb_77 : ∀ (g : gS) (r0 : Nat) (i1 : Int32), b_X11_flush_77 g r0 i1 Q → ∀ (H : Heap) (locs : List Loc) (ls : Array Slot), gC D cA (gA g0 sz) s g H locs → lv_has ls 3 [(0, .ref r0), (1, .int i1)] → W p l e r_X11_flush s m args below meth c H locs 0 0 (MQ below (gQi D cA g0 sz (Q)) args s 0 0 (gA g0 sz)) (F0 m 77 ls []) := by
    intro g r0 i1 h H locs ls hc hl
    unfold b_X11_flush_77 at h
    refine lv_aload_n hx hb dX11_flush_77 rfl (lv_at hl 0 rfl) ?_
    refine lv_aload_n hx hb dX11_flush_78 rfl (lv_at hl 0 rfl) ?_
    obtain ⟨hk28, h⟩ := h
    refine g_get CF hc hk28 rfl (by decide) (fun _ h9 => List.mem_cons_of_mem _ (List.mem_append_right _ (h9))) (k := 1) (by decide) (List.mem_cons_of_mem _ (List.mem_append_left _ (List.mem_of_getElem? (i := 1) rfl))) rfl dX11_flush_79 ?_
    refine g_puti CF hc hk28 rfl (by decide) (fun _ h9 => List.mem_cons_of_mem _ (List.mem_append_right _ (h9))) tyX11 tyX11_ok nmX11 (k := 9) (by decide) (List.mem_cons_of_mem _ (List.mem_append_left _ (List.mem_of_getElem? (i := 2) rfl))) rfl (v := (gI g r0 1)) rfl rfl rfl dX11_flush_82 (fun H locs hc => ?_)
    obtain ⟨g29, eg30⟩ : ∃ z, z = sU g r0 9 (gI g r0 1) := ⟨_, rfl⟩
    have hc : gC D cA (gA g0 sz) s g29 H locs := by rw [eg30]; exact hc
    replace h := h g29 eg30
    exact hb_85 r0 i1 g29 h _ _ _ hc (lv_sub hl [0, 1] rfl)
  have hb_29 : ∀ (r0 : Nat) (i1 : Int32), ∀ (g : gS) (i2 : Int32), lpx2 (l_X11_flush_29 r0 i1 Q) g i2 → ∀ (H : Heap) (locs : List Loc) (ls : Array Slot), gC D cA (gA g0 sz) s g H locs → lv_has ls 3 [(0, .ref r0), (1, .int i1), (2, .int i2)] → W p l e r_X11_flush s m args below meth c H locs 0 0 (MQ below (gQi D cA g0 sz (Q)) args s 0 0 (gA g0 sz)) (F0 m 29 ls []) := by
    intro r0 i1
    refine lpx2_run (P := fun (g : gS) (i2 : Int32) => ∀ (H : Heap) (locs : List Loc) (ls : Array Slot), gC D cA (gA g0 sz) s g H locs → lv_has ls 3 [(0, .ref r0), (1, .int i1), (2, .int i2)] → W p l e r_X11_flush s m args below meth c H locs 0 0 (MQ below (gQi D cA g0 sz (Q)) args s 0 0 (gA g0 sz)) (F0 m 29 ls [])) ?_
    intro k29 hk_29 g i2 h H locs ls hc hl
    unfold l_X11_flush_29 at h
    refine lv_iload_n hx hb dX11_flush_29 rfl (lv_at hl 2 rfl) ?_
    refine lv_aload_n hx hb dX11_flush_30 rfl (lv_at hl 0 rfl) ?_
    obtain ⟨hk31, h⟩ := h
    refine g_get CF hc hk31 rfl (by decide) (fun _ h9 => List.mem_cons_of_mem _ (List.mem_append_right _ (h9))) (k := 1) (by decide) (List.mem_cons_of_mem _ (List.mem_append_left _ (List.mem_of_getElem? (i := 1) rfl))) rfl dX11_flush_31 ?_
    refine lv_icmp_ge (tgt := 60) hx hb dX11_flush_34 (by decide) (fun c32 => ?_) (fun c32 => ?_)
    · have h := h.1 c32
      refine lv_aload_n hx hb dX11_flush_60 rfl (lv_at hl 0 rfl) ?_
      obtain ⟨y33, e34, h⟩ := h
      refine g_getr CF hc hk31 rfl (by decide) (fun _ h9 => List.mem_cons_of_mem _ (List.mem_append_right _ (h9))) (k := 14) (by decide) (List.mem_cons_of_mem _ (List.mem_append_left _ (List.mem_of_getElem? (i := 7) rfl))) e34 rfl dX11_flush_61 ?_
      refine lv_aload_n hx hb dX11_flush_64 rfl (lv_at hl 0 rfl) ?_
      refine lv_dup hx hb dX11_flush_65 rfl ?_
      refine g_get CF hc hk31 rfl (by decide) (fun _ h9 => List.mem_cons_of_mem _ (List.mem_append_right _ (h9))) (k := 13) (by decide) (List.mem_cons_of_mem _ (List.mem_append_left _ (List.mem_of_getElem? (i := 5) rfl))) rfl dX11_flush_66 ?_
      refine lv_dup_x1 hx hb dX11_flush_69 rfl rfl ?_
      refine lv_iconst (v := 1) hx hb dX11_flush_70 (by decide) ?_
      refine lv_iadd hx hb dX11_flush_71 ?_
      refine g_puti CF hc hk31 rfl (by decide) (fun _ h9 => List.mem_cons_of_mem _ (List.mem_append_right _ (h9))) tyX11 tyX11_ok nmX11 (k := 13) (by decide) (List.mem_cons_of_mem _ (List.mem_append_left _ (List.mem_of_getElem? (i := 5) rfl))) rfl (v := ((gI g r0 13) + 1)) rfl rfl rfl dX11_flush_72 (fun H locs hc => ?_)
      obtain ⟨g35, eg36⟩ : ∃ z, z = sU g r0 13 ((gI g r0 13) + 1) := ⟨_, rfl⟩
      have hc : gC D cA (gA g0 sz) s g35 H locs := by rw [eg36]; exact hc
      replace h := h g35 eg36
      refine lv_iconst (v := 0) hx hb dX11_flush_75 (by decide) ?_
      obtain ⟨hk37, h⟩ := h
      obtain ⟨hi38, h⟩ := h
      refine g_iast CF hc hk37 (x := 0) hi38 dX11_flush_76 (fun H locs hc => ?_)
      obtain ⟨g39, eg40⟩ : ∃ z, z = sU g35 y33 (Int32.toNatClampNeg (gI g r0 13)) 0 := ⟨_, rfl⟩
      have hc : gC D cA (gA g0 sz) s g39 H locs := by rw [eg40]; exact hc
      replace h := h g39 eg40
      exact hb_77 g39 r0 i1 h _ _ _ hc (lv_sub hl [0, 1] rfl)
    · have h := h.2 c32
      refine lv_aload_n hx hb dX11_flush_37 rfl (lv_at hl 0 rfl) ?_
      obtain ⟨y41, e42, h⟩ := h
      refine g_getr CF hc hk31 rfl (by decide) (fun _ h9 => List.mem_cons_of_mem _ (List.mem_append_right _ (h9))) (k := 15) (by decide) (List.mem_cons_of_mem _ (List.mem_append_left _ (List.mem_of_getElem? (i := 4) rfl))) e42 rfl dX11_flush_38 ?_
      refine lv_iload_n hx hb dX11_flush_41 rfl (lv_at hl 2 rfl) ?_
      refine lv_aload_n hx hb dX11_flush_42 rfl (lv_at hl 0 rfl) ?_
      refine g_get CF hc hk31 rfl (by decide) (fun _ h9 => List.mem_cons_of_mem _ (List.mem_append_right _ (h9))) (k := 13) (by decide) (List.mem_cons_of_mem _ (List.mem_append_left _ (List.mem_of_getElem? (i := 5) rfl))) rfl dX11_flush_43 ?_
      obtain ⟨hk43, h⟩ := h
      obtain ⟨hi44, h⟩ := h
      refine g_iast CF hc hk43 (x := (gI g r0 13)) hi44 dX11_flush_46 (fun H locs hc => ?_)
      obtain ⟨g45, eg46⟩ : ∃ z, z = sU g y41 (Int32.toNatClampNeg i2) (gI g r0 13) := ⟨_, rfl⟩
      have hc : gC D cA (gA g0 sz) s g45 H locs := by rw [eg46]; exact hc
      replace h := h g45 eg46
      refine lv_aload_n hx hb dX11_flush_47 rfl (lv_at hl 0 rfl) ?_
      obtain ⟨hk47, h⟩ := h
      obtain ⟨y48, e49, h⟩ := h
      refine g_getr CF hc hk47 rfl (by decide) (fun _ h9 => List.mem_cons_of_mem _ (List.mem_append_right _ (h9))) (k := 6) (by decide) (List.mem_cons_of_mem _ (List.mem_append_left _ (List.mem_of_getElem? (i := 6) rfl))) e49 rfl dX11_flush_48 ?_
      refine lv_iload_n hx hb dX11_flush_51 rfl (lv_at hl 2 rfl) ?_
      refine lv_iconst (v := 1) hx hb dX11_flush_52 (by decide) ?_
      obtain ⟨hk50, h⟩ := h
      obtain ⟨hi51, h⟩ := h
      refine g_zast CF hc hk50 (x := 1) (by decide : (1 : Int32) = 0 ∨ (1 : Int32) = 1) hi51 dX11_flush_53 (fun H locs hc => ?_)
      obtain ⟨g52, eg53⟩ : ∃ z, z = sU g45 y48 (Int32.toNatClampNeg i2) 1 := ⟨_, rfl⟩
      have hc : gC D cA (gA g0 sz) s g52 H locs := by rw [eg53]; exact hc
      replace h := h g52 eg53
      refine lv_iinc (v := (i2 + 1)) (lv' := [(2, .int (i2 + 1)), (0, .ref r0), (1, .int i1)]) hx hb dX11_flush_54 hl (k := 2) rfl rfl (by decide) rfl (fun ls hl => ?_)
      refine lv_goto (tgt := 29) hx hb dX11_flush_57 (by decide) ?_
      exact hk_29 g52 (i2 + 1) h _ _ _ hc (lv_sub hl [1, 2, 0] rfl)
  unfold w_X11_flush at h
  obtain ⟨H, hH0⟩ : ∃ z, z = s.heap := ⟨_, rfl⟩
  rw [← hH0] at hc ⊢
  obtain ⟨locs, hlc0⟩ : ∃ z : List Loc, z = [] := ⟨_, rfl⟩
  rw [← hlc0] at hc ⊢
  refine lv_aload_n hx hb dX11_flush_0 rfl (lv_at hl 0 rfl) ?_
  refine lv_iconst (v := 0) hx hb dX11_flush_1 (by decide) ?_
  obtain ⟨hk54, h⟩ := h
  refine g_puti CF hc hk54 rfl (by decide) (fun _ h9 => List.mem_cons_of_mem _ (List.mem_append_right _ (h9))) tyX11 tyX11_ok nmX11 (k := 0) (by decide) (List.mem_cons_of_mem _ (List.mem_append_left _ (List.mem_of_getElem? (i := 0) rfl))) rfl (v := 0) rfl rfl rfl dX11_flush_2 (fun H locs hc => ?_)
  obtain ⟨g55, eg56⟩ : ∃ z, z = sU g0 p0 0 0 := ⟨_, rfl⟩
  have hc : gC D cA (gA g0 sz) s g55 H locs := by rw [eg56]; exact hc
  replace h := h g55 eg56
  refine lv_aload_n hx hb dX11_flush_5 rfl (lv_at hl 0 rfl) ?_
  obtain ⟨hk57, h⟩ := h
  refine g_get CF hc hk57 rfl (by decide) (fun _ h9 => List.mem_cons_of_mem _ (List.mem_append_right _ (h9))) (k := 1) (by decide) (List.mem_cons_of_mem _ (List.mem_append_left _ (List.mem_of_getElem? (i := 1) rfl))) rfl dX11_flush_6 ?_
  refine lv_aload_n hx hb dX11_flush_9 rfl (lv_at hl 0 rfl) ?_
  refine g_get CF hc hk57 rfl (by decide) (fun _ h9 => List.mem_cons_of_mem _ (List.mem_append_right _ (h9))) (k := 9) (by decide) (List.mem_cons_of_mem _ (List.mem_append_left _ (List.mem_of_getElem? (i := 2) rfl))) rfl dX11_flush_10 ?_
  refine lv_isub hx hb dX11_flush_13 ?_
  refine lv_istore_n (lv' := [(1, .int ((gI g55 p0 1) - (gI g55 p0 9))), (0, .ref p0)]) hx hb dX11_flush_14 rfl hl (by decide) rfl (fun ls hl => ?_)
  refine lv_aload_n hx hb dX11_flush_15 rfl (lv_at hl 1 rfl) ?_
  refine lv_iconst (v := 0) hx hb dX11_flush_16 (by decide) ?_
  refine g_puti CF hc hk57 rfl (by decide) (fun _ h9 => List.mem_cons_of_mem _ (List.mem_append_right _ (h9))) tyX11 tyX11_ok nmX11 (k := 25) (by decide) (List.mem_cons_of_mem _ (List.mem_append_left _ (List.mem_of_getElem? (i := 3) rfl))) rfl (v := 0) (narrow_01 (by decide : (0 : Int32) = 0 ∨ (0 : Int32) = 1)) (fits_01 (by decide : (0 : Int32) = 0 ∨ (0 : Int32) = 1)) rfl dX11_flush_17 (fun H locs hc => ?_)
  obtain ⟨g58, eg59⟩ : ∃ z, z = sU g55 p0 25 0 := ⟨_, rfl⟩
  have hc : gC D cA (gA g0 sz) s g58 H locs := by rw [eg59]; exact hc
  replace h := h g58 eg59
  refine lv_iload_n hx hb dX11_flush_20 rfl (lv_at hl 0 rfl) ?_
  refine lv_if_le (tgt := 77) hx hb dX11_flush_21 (by decide) (fun c60 => ?_) (fun c60 => ?_)
  · have h := h.1 c60
    exact hb_77 g58 p0 ((gI g55 p0 1) - (gI g55 p0 9)) h _ _ _ hc (lv_sub hl [1, 0] rfl)
  · have h := h.2 c60
    refine lv_aload_n hx hb dX11_flush_24 rfl (lv_at hl 1 rfl) ?_
    obtain ⟨hk61, h⟩ := h
    refine g_get CF hc hk61 rfl (by decide) (fun _ h9 => List.mem_cons_of_mem _ (List.mem_append_right _ (h9))) (k := 9) (by decide) (List.mem_cons_of_mem _ (List.mem_append_left _ (List.mem_of_getElem? (i := 2) rfl))) rfl dX11_flush_25 ?_
    refine lv_istore_n (lv' := [(2, .int (gI g58 p0 9)), (1, .int ((gI g55 p0 1) - (gI g55 p0 9))), (0, .ref p0)]) hx hb dX11_flush_28 rfl hl (by decide) rfl (fun ls hl => ?_)
    exact hb_29 p0 ((gI g55 p0 1) - (gI g55 p0 9)) g58 (gI g58 p0 9) h _ _ _ hc (lv_sub hl [2, 1, 0] rfl)
def l_X11_compact_18 (g : gS) (r0 : Nat) (Q : Int32 → gS → Prop) (i1 : Int32) (i2 : Int32) (k18 : Int32 → Int32 → Prop) : Prop :=
  gK g r0 = 12 ∧ (((gI g r0 13) ≤ i2 → (w_X11_merge g r0 0 i1 (fun x3 g4 => (Q x3 g4)))) ∧ (¬ (gI g r0 13) ≤ i2 → (∃ y6, gR g r0 14 = some y6 ∧ (gK g y6 = 21 ∧ (vp_in i2 (gN g y6) ∧ (k18 (if i1 < (gI g y6 (Int32.toNatClampNeg i2)) then (gI g y6 (Int32.toNatClampNeg i2)) else i1) (i2 + 1)))))))
def w_X11_compact (g0 : gS) (p0 : Nat) (Q : Int32 → gS → Prop) : Prop :=
  gK g0 p0 = 12 ∧ (∀ g11, g11 = sU g0 p0 0 0 → (gK g11 p0 = 12 ∧ (((gI g11 p0 13) = 0 → (Q 0 g11)) ∧ (¬ (gI g11 p0 13) = 0 → (lpx2 (l_X11_compact_18 g11 p0 Q) 0 0)))))
abbrev r_X11_compact : Room := { frames := 1, cells := 0, slots := 0, locals := 25 }
set_option maxHeartbeats 4000000 in
set_option maxRecDepth 100000 in
theorem c_X11_compact {l : Launch} {D : va_G} {cA : Nat → ClassId} {sz : Nat} {g0 : gS} {p0 : Nat} {Q : Int32 → gS → Prop} (h : w_X11_compact g0 p0 Q) : Met l yX11_compact wsX11_compact r_X11_compact (va_Pc [.ref p0] (gPre D cA g0 sz)) (gQi D cA g0 sz (Q)) 0 0 (gA g0 sz) := by
  refine g_met (cc := cX11_compact) (maxL := 3) (ret := (some .int)) (own := RX11) (by decide) rfl rfl (Nat.le_of_ble_eq_true rfl) ?_
  intro p e s m args below meth c ls CF hr hlk hnm hc hl
  obtain ⟨hx, hb, hml, hown, hts⟩ := id CF
  have hl : lv_has ls 3 [(0, .ref p0)] := hl
  show W p l e r_X11_compact s m args below meth c s.heap [] 0 0 (MQ below (gQi D cA g0 sz (Q)) args s 0 0 (gA g0 sz)) (F0 m 0 ls [])
  have hb_18 : ∀ (g : gS) (r0 : Nat), ∀ (i1 : Int32) (i2 : Int32), lpx2 (l_X11_compact_18 g r0 Q) i1 i2 → ∀ (H : Heap) (locs : List Loc) (ls : Array Slot), gC D cA (gA g0 sz) s g H locs → lv_has ls 3 [(0, .ref r0), (1, .int i1), (2, .int i2)] → W p l e r_X11_compact s m args below meth c H locs 0 0 (MQ below (gQi D cA g0 sz (Q)) args s 0 0 (gA g0 sz)) (F0 m 18 ls []) := by
    intro g r0
    refine lpx2_run (P := fun (i1 : Int32) (i2 : Int32) => ∀ (H : Heap) (locs : List Loc) (ls : Array Slot), gC D cA (gA g0 sz) s g H locs → lv_has ls 3 [(0, .ref r0), (1, .int i1), (2, .int i2)] → W p l e r_X11_compact s m args below meth c H locs 0 0 (MQ below (gQi D cA g0 sz (Q)) args s 0 0 (gA g0 sz)) (F0 m 18 ls [])) ?_
    intro k18 hk_18 i1 i2 h H locs ls hc hl
    unfold l_X11_compact_18 at h
    refine lv_iload_n hx hb dX11_compact_18 rfl (lv_at hl 2 rfl) ?_
    refine lv_aload_n hx hb dX11_compact_19 rfl (lv_at hl 0 rfl) ?_
    obtain ⟨hk1, h⟩ := h
    refine g_get CF hc hk1 rfl (by decide) (fun _ h9 => List.mem_cons_of_mem _ (List.mem_append_right _ (h9))) (k := 13) (by decide) (List.mem_cons_of_mem _ (List.mem_append_left _ (List.mem_of_getElem? (i := 1) rfl))) rfl dX11_compact_20 ?_
    refine lv_icmp_ge (tgt := 43) hx hb dX11_compact_23 (by decide) (fun c2 => ?_) (fun c2 => ?_)
    · have h := h.1 c2
      refine lv_aload_n hx hb dX11_compact_43 rfl (lv_at hl 0 rfl) ?_
      refine lv_iconst (v := 0) hx hb dX11_compact_44 (by decide) ?_
      refine lv_iload_n hx hb dX11_compact_45 rfl (lv_at hl 1 rfl) ?_
      refine g_calli (va_runV (As := [.int 0, .int i1]) (rest := []) CF (c_X11_merge h) (cwV 2 hts gX11_compact_X11_merge rfl rfl rfl (by decide +kernel) ⟨Nat.le_of_ble_eq_true rfl, Nat.le_of_ble_eq_true rfl⟩) (hc.preV hk1 rfl (by decide)) rfl rfl hl.1 rfl (lv_room (Nat.le_of_ble_eq_true rfl)) dX11_compact_46 ⟨Nat.le_of_ble_eq_true rfl, Nat.le_of_ble_eq_true rfl⟩) hc (fun x3 g4 H locs hq hc => ?_)
      replace h := hq
      exact g_reti (r := x3) CF hr hlk hc rfl h dX11_compact_49
    · have h := h.2 c2
      refine lv_iload_n hx hb dX11_compact_26 rfl (lv_at hl 1 rfl) ?_
      refine lv_aload_n hx hb dX11_compact_27 rfl (lv_at hl 0 rfl) ?_
      obtain ⟨y6, e7, h⟩ := h
      refine g_getr CF hc hk1 rfl (by decide) (fun _ h9 => List.mem_cons_of_mem _ (List.mem_append_right _ (h9))) (k := 14) (by decide) (List.mem_cons_of_mem _ (List.mem_append_left _ (List.mem_of_getElem? (i := 2) rfl))) e7 rfl dX11_compact_28 ?_
      refine lv_iload_n hx hb dX11_compact_31 rfl (lv_at hl 2 rfl) ?_
      obtain ⟨hk8, h⟩ := h
      obtain ⟨hi9, h⟩ := h
      refine g_iald CF hc hk8 hi9 dX11_compact_32 ?_
      refine va_mmax hx hb (hml.trans hl.1.symm) hown (hts _ (List.mem_cons_of_mem _ (List.mem_append_left _ (List.mem_of_getElem? (i := 3) rfl)))) (hts _ (List.mem_cons_of_mem _ (List.mem_append_left _ (List.mem_of_getElem? (i := 4) rfl)))) (hts _ (List.mem_cons_of_mem _ (List.mem_append_left _ (List.mem_of_getElem? (i := 5) rfl)))) (hts _ (List.mem_cons_of_mem _ (List.mem_append_left _ (List.mem_of_getElem? (i := 6) rfl)))) (Nat.le_of_ble_eq_true rfl) (Nat.le_of_ble_eq_true rfl) (Nat.le_of_ble_eq_true rfl) (Nat.le_of_ble_eq_true rfl) dX11_compact_33 ?_
      refine lv_istore_n (lv' := [(1, .int (if i1 < (gI g y6 (Int32.toNatClampNeg i2)) then (gI g y6 (Int32.toNatClampNeg i2)) else i1)), (0, .ref r0), (2, .int i2)]) hx hb dX11_compact_36 rfl hl (by decide) rfl (fun ls hl => ?_)
      refine lv_iinc (v := (i2 + 1)) (lv' := [(2, .int (i2 + 1)), (1, .int (if i1 < (gI g y6 (Int32.toNatClampNeg i2)) then (gI g y6 (Int32.toNatClampNeg i2)) else i1)), (0, .ref r0)]) hx hb dX11_compact_37 hl (k := 2) rfl rfl (by decide) rfl (fun ls hl => ?_)
      refine lv_goto (tgt := 18) hx hb dX11_compact_40 (by decide) ?_
      exact hk_18 (if i1 < (gI g y6 (Int32.toNatClampNeg i2)) then (gI g y6 (Int32.toNatClampNeg i2)) else i1) (i2 + 1) h _ _ _ hc (lv_sub hl [2, 1, 0] rfl)
  unfold w_X11_compact at h
  obtain ⟨H, hH0⟩ : ∃ z, z = s.heap := ⟨_, rfl⟩
  rw [← hH0] at hc ⊢
  obtain ⟨locs, hlc0⟩ : ∃ z : List Loc, z = [] := ⟨_, rfl⟩
  rw [← hlc0] at hc ⊢
  refine lv_aload_n hx hb dX11_compact_0 rfl (lv_at hl 0 rfl) ?_
  refine lv_iconst (v := 0) hx hb dX11_compact_1 (by decide) ?_
  obtain ⟨hk10, h⟩ := h
  refine g_puti CF hc hk10 rfl (by decide) (fun _ h9 => List.mem_cons_of_mem _ (List.mem_append_right _ (h9))) tyX11 tyX11_ok nmX11 (k := 0) (by decide) (List.mem_cons_of_mem _ (List.mem_append_left _ (List.mem_of_getElem? (i := 0) rfl))) rfl (v := 0) rfl rfl rfl dX11_compact_2 (fun H locs hc => ?_)
  obtain ⟨g11, eg12⟩ : ∃ z, z = sU g0 p0 0 0 := ⟨_, rfl⟩
  have hc : gC D cA (gA g0 sz) s g11 H locs := by rw [eg12]; exact hc
  replace h := h g11 eg12
  refine lv_aload_n hx hb dX11_compact_5 rfl (lv_at hl 0 rfl) ?_
  obtain ⟨hk13, h⟩ := h
  refine g_get CF hc hk13 rfl (by decide) (fun _ h9 => List.mem_cons_of_mem _ (List.mem_append_right _ (h9))) (k := 13) (by decide) (List.mem_cons_of_mem _ (List.mem_append_left _ (List.mem_of_getElem? (i := 1) rfl))) rfl dX11_compact_6 ?_
  refine lv_if_ne (tgt := 14) hx hb dX11_compact_9 (by decide) (fun c14 => ?_) (fun c14 => ?_)
  · have h := h.2 c14
    refine lv_iconst (v := 0) hx hb dX11_compact_14 (by decide) ?_
    refine lv_istore_n (lv' := [(1, .int 0), (0, .ref p0)]) hx hb dX11_compact_15 rfl hl (by decide) rfl (fun ls hl => ?_)
    refine lv_iconst (v := 0) hx hb dX11_compact_16 (by decide) ?_
    refine lv_istore_n (lv' := [(2, .int 0), (1, .int 0), (0, .ref p0)]) hx hb dX11_compact_17 rfl hl (by decide) rfl (fun ls hl => ?_)
    exact hb_18 g11 p0 0 0 h _ _ _ hc (lv_sub hl [2, 1, 0] rfl)
  · have h := h.1 c14
    refine lv_iconst (v := 0) hx hb dX11_compact_12 (by decide) ?_
    exact g_reti (r := 0) CF hr hlk hc rfl h dX11_compact_13
def w_X11_segments (g0 : gS) (p0 : Nat) (Q : Int32 → gS → Prop) : Prop :=
  gK g0 p0 = 12 ∧ (w_X11_ok g0 p0 (gI g0 p0 13) (fun x2 g3 => (Q x2 g3)))
abbrev r_X11_segments : Room := { frames := 1, cells := 0, slots := 0, locals := 21 }
set_option maxHeartbeats 4000000 in
set_option maxRecDepth 100000 in
theorem c_X11_segments {l : Launch} {D : va_G} {cA : Nat → ClassId} {sz : Nat} {g0 : gS} {p0 : Nat} {Q : Int32 → gS → Prop} (h : w_X11_segments g0 p0 Q) : Met l yX11_segments wsX11_segments r_X11_segments (va_Pc [.ref p0] (gPre D cA g0 sz)) (gQi D cA g0 sz (Q)) 0 0 (gA g0 sz) := by
  refine g_met (cc := cX11_segments) (maxL := 1) (ret := (some .int)) (own := RX11) (by decide) rfl rfl (Nat.le_of_ble_eq_true rfl) ?_
  intro p e s m args below meth c ls CF hr hlk hnm hc hl
  obtain ⟨hx, hb, hml, hown, hts⟩ := id CF
  have hl : lv_has ls 1 [(0, .ref p0)] := hl
  show W p l e r_X11_segments s m args below meth c s.heap [] 0 0 (MQ below (gQi D cA g0 sz (Q)) args s 0 0 (gA g0 sz)) (F0 m 0 ls [])
  unfold w_X11_segments at h
  obtain ⟨H, hH0⟩ : ∃ z, z = s.heap := ⟨_, rfl⟩
  rw [← hH0] at hc ⊢
  obtain ⟨locs, hlc0⟩ : ∃ z : List Loc, z = [] := ⟨_, rfl⟩
  rw [← hlc0] at hc ⊢
  refine lv_aload_n hx hb dX11_segments_0 rfl (lv_at hl 0 rfl) ?_
  refine lv_aload_n hx hb dX11_segments_1 rfl (lv_at hl 0 rfl) ?_
  obtain ⟨hk1, h⟩ := h
  refine g_get CF hc hk1 rfl (by decide) (fun _ h9 => List.mem_cons_of_mem _ (List.mem_append_right _ (h9))) (k := 13) (by decide) (List.mem_cons_of_mem _ (List.mem_append_left _ (List.mem_of_getElem? (i := 0) rfl))) rfl dX11_segments_2 ?_
  refine g_calli (va_runV (As := [.int (gI g0 p0 13)]) (rest := []) CF (c_X11_ok h) (cwV 1 hts gX11_segments_X11_ok rfl rfl rfl (by decide +kernel) ⟨Nat.le_of_ble_eq_true rfl, Nat.le_of_ble_eq_true rfl⟩) (hc.preV hk1 rfl (by decide)) rfl rfl hl.1 rfl (lv_room (Nat.le_of_ble_eq_true rfl)) dX11_segments_5 ⟨Nat.le_of_ble_eq_true rfl, Nat.le_of_ble_eq_true rfl⟩) hc (fun x2 g3 H locs hq hc => ?_)
  replace h := hq
  exact g_reti (r := x2) CF hr hlk hc rfl h dX11_segments_8
def b_X11_tierOf_33 (g : gS) (is0 : Int32) (Q : Int32 → gS → Prop) : Prop :=
  Q is0 g
def w_X11_tierOf (g0 : gS) (p0 : Nat) (p1 : Int32) (Q : Int32 → gS → Prop) : Prop :=
  gK g0 p0 = 12 ∧ (∀ g2, g2 = sU g0 p0 0 0 → (gK g2 p0 = 12 ∧ (w_X11_isIn g2 p1 0 ((gI g2 p0 13) - 1) (fun x5 => ((x5 = 0 → (w_X11_no g2 p0 1 (fun x8 g9 => (b_X11_tierOf_33 g9 x8 Q)))) ∧ (¬ x5 = 0 → (∃ y11, gR g2 p0 14 = some y11 ∧ (gK g2 y11 = 21 ∧ (vp_in p1 (gN g2 y11) ∧ (b_X11_tierOf_33 g2 (gI g2 y11 (Int32.toNatClampNeg p1)) Q))))))))))
abbrev r_X11_tierOf : Room := { frames := 1, cells := 0, slots := 0, locals := 22 }
set_option maxHeartbeats 4000000 in
set_option maxRecDepth 100000 in
theorem c_X11_tierOf {l : Launch} {D : va_G} {cA : Nat → ClassId} {sz : Nat} {g0 : gS} {p0 : Nat} {p1 : Int32} {Q : Int32 → gS → Prop} (h : w_X11_tierOf g0 p0 p1 Q) : Met l yX11_tierOf wsX11_tierOf r_X11_tierOf (va_Pc [.ref p0, .int p1] (gPre D cA g0 sz)) (gQi D cA g0 sz (Q)) 0 0 (gA g0 sz) := by
  refine g_met (cc := cX11_tierOf) (maxL := 2) (ret := (some .int)) (own := RX11) (by decide) rfl rfl (Nat.le_of_ble_eq_true rfl) ?_
  intro p e s m args below meth c ls CF hr hlk hnm hc hl
  obtain ⟨hx, hb, hml, hown, hts⟩ := id CF
  have hl : lv_has ls 2 [(0, .ref p0), (1, .int p1)] := hl
  show W p l e r_X11_tierOf s m args below meth c s.heap [] 0 0 (MQ below (gQi D cA g0 sz (Q)) args s 0 0 (gA g0 sz)) (F0 m 0 ls [])
  have hb_33 : ∀ (g : gS) (is0 : Int32), b_X11_tierOf_33 g is0 Q → ∀ (H : Heap) (locs : List Loc) (ls : Array Slot), gC D cA (gA g0 sz) s g H locs → lv_has ls 2 [] → W p l e r_X11_tierOf s m args below meth c H locs 0 0 (MQ below (gQi D cA g0 sz (Q)) args s 0 0 (gA g0 sz)) (F0 m 33 ls [.int is0]) := by
    intro g is0 h H locs ls hc hl
    unfold b_X11_tierOf_33 at h
    exact g_reti (r := is0) CF hr hlk hc rfl h dX11_tierOf_33
  unfold w_X11_tierOf at h
  obtain ⟨H, hH0⟩ : ∃ z, z = s.heap := ⟨_, rfl⟩
  rw [← hH0] at hc ⊢
  obtain ⟨locs, hlc0⟩ : ∃ z : List Loc, z = [] := ⟨_, rfl⟩
  rw [← hlc0] at hc ⊢
  refine lv_aload_n hx hb dX11_tierOf_0 rfl (lv_at hl 0 rfl) ?_
  refine lv_iconst (v := 0) hx hb dX11_tierOf_1 (by decide) ?_
  obtain ⟨hk1, h⟩ := h
  refine g_puti CF hc hk1 rfl (by decide) (fun _ h9 => List.mem_cons_of_mem _ (List.mem_append_right _ (h9))) tyX11 tyX11_ok nmX11 (k := 0) (by decide) (List.mem_cons_of_mem _ (List.mem_append_left _ (List.mem_of_getElem? (i := 0) rfl))) rfl (v := 0) rfl rfl rfl dX11_tierOf_2 (fun H locs hc => ?_)
  obtain ⟨g2, eg3⟩ : ∃ z, z = sU g0 p0 0 0 := ⟨_, rfl⟩
  have hc : gC D cA (gA g0 sz) s g2 H locs := by rw [eg3]; exact hc
  replace h := h g2 eg3
  refine lv_iload_n hx hb dX11_tierOf_5 rfl (lv_at hl 1 rfl) ?_
  refine lv_iconst (v := 0) hx hb dX11_tierOf_6 (by decide) ?_
  refine lv_aload_n hx hb dX11_tierOf_7 rfl (lv_at hl 0 rfl) ?_
  obtain ⟨hk4, h⟩ := h
  refine g_get CF hc hk4 rfl (by decide) (fun _ h9 => List.mem_cons_of_mem _ (List.mem_append_right _ (h9))) (k := 13) (by decide) (List.mem_cons_of_mem _ (List.mem_append_left _ (List.mem_of_getElem? (i := 1) rfl))) rfl dX11_tierOf_8 ?_
  refine lv_iconst (v := 1) hx hb dX11_tierOf_11 (by decide) ?_
  refine lv_isub hx hb dX11_tierOf_12 ?_
  refine g_calli (va_runS (As := [.int p1, .int 0, .int ((gI g2 p0 13) - 1)]) (rest := []) CF (c_X11_isIn h) (va_cwS 3 hts gX11_tierOf_X11_isIn rfl rfl rfl (by decide +kernel) ⟨Nat.le_of_ble_eq_true rfl, Nat.le_of_ble_eq_true rfl⟩) hc.preS rfl rfl hl.1 rfl (lv_room (Nat.le_of_ble_eq_true rfl)) dX11_tierOf_13 ⟨Nat.le_of_ble_eq_true rfl, Nat.le_of_ble_eq_true rfl⟩) hc (fun x5 gq6 H locs hq hc => ?_)
  obtain ⟨rfl, h⟩ := hq
  refine lv_if_eq (tgt := 28) hx hb dX11_tierOf_16 (by decide) (fun c7 => ?_) (fun c7 => ?_)
  · have h := h.1 c7
    refine lv_aload_n hx hb dX11_tierOf_28 rfl (lv_at hl 0 rfl) ?_
    refine lv_iconst (v := 1) hx hb dX11_tierOf_29 (by decide) ?_
    refine g_calli (va_runV (As := [.int 1]) (rest := []) CF (c_X11_no h) (cwV 1 hts gX11_tierOf_X11_no rfl rfl rfl (by decide +kernel) ⟨Nat.le_of_ble_eq_true rfl, Nat.le_of_ble_eq_true rfl⟩) (hc.preV hk4 rfl (by decide)) rfl rfl hl.1 rfl (lv_room (Nat.le_of_ble_eq_true rfl)) dX11_tierOf_30 ⟨Nat.le_of_ble_eq_true rfl, Nat.le_of_ble_eq_true rfl⟩) hc (fun x8 g9 H locs hq hc => ?_)
    replace h := hq
    exact hb_33 g9 x8 h _ _ _ hc (lv_sub hl [] rfl)
  · have h := h.2 c7
    refine lv_aload_n hx hb dX11_tierOf_19 rfl (lv_at hl 0 rfl) ?_
    obtain ⟨y11, e12, h⟩ := h
    refine g_getr CF hc hk4 rfl (by decide) (fun _ h9 => List.mem_cons_of_mem _ (List.mem_append_right _ (h9))) (k := 14) (by decide) (List.mem_cons_of_mem _ (List.mem_append_left _ (List.mem_of_getElem? (i := 2) rfl))) e12 rfl dX11_tierOf_20 ?_
    refine lv_iload_n hx hb dX11_tierOf_23 rfl (lv_at hl 1 rfl) ?_
    obtain ⟨hk13, h⟩ := h
    obtain ⟨hi14, h⟩ := h
    refine g_iald CF hc hk13 hi14 dX11_tierOf_24 ?_
    refine lv_goto (tgt := 33) hx hb dX11_tierOf_25 (by decide) ?_
    exact hb_33 g2 (gI g2 y11 (Int32.toNatClampNeg p1)) h _ _ _ hc (lv_sub hl [] rfl)
def b_X11_sizeOf_32 (g : gS) (is0 : Int32) (Q : Int32 → gS → Prop) : Prop :=
  Q is0 g
def w_X11_sizeOf (g0 : gS) (p0 : Nat) (p1 : Int32) (Q : Int32 → gS → Prop) : Prop :=
  gK g0 p0 = 12 ∧ (∀ g2, g2 = sU g0 p0 0 0 → (gK g2 p0 = 12 ∧ (w_X11_isIn g2 p1 0 ((gI g2 p0 13) - 1) (fun x5 => ((x5 = 0 → (w_X11_no g2 p0 1 (fun x8 g9 => (b_X11_sizeOf_32 g9 x8 Q)))) ∧ (¬ x5 = 0 → (w_X11_sizeNow g2 p0 p1 (fun x11 => (b_X11_sizeOf_32 g2 x11 Q)))))))))
abbrev r_X11_sizeOf : Room := { frames := 1, cells := 0, slots := 0, locals := 23 }
set_option maxHeartbeats 4000000 in
set_option maxRecDepth 100000 in
theorem c_X11_sizeOf {l : Launch} {D : va_G} {cA : Nat → ClassId} {sz : Nat} {g0 : gS} {p0 : Nat} {p1 : Int32} {Q : Int32 → gS → Prop} (h : w_X11_sizeOf g0 p0 p1 Q) : Met l yX11_sizeOf wsX11_sizeOf r_X11_sizeOf (va_Pc [.ref p0, .int p1] (gPre D cA g0 sz)) (gQi D cA g0 sz (Q)) 0 0 (gA g0 sz) := by
  refine g_met (cc := cX11_sizeOf) (maxL := 2) (ret := (some .int)) (own := RX11) (by decide) rfl rfl (Nat.le_of_ble_eq_true rfl) ?_
  intro p e s m args below meth c ls CF hr hlk hnm hc hl
  obtain ⟨hx, hb, hml, hown, hts⟩ := id CF
  have hl : lv_has ls 2 [(0, .ref p0), (1, .int p1)] := hl
  show W p l e r_X11_sizeOf s m args below meth c s.heap [] 0 0 (MQ below (gQi D cA g0 sz (Q)) args s 0 0 (gA g0 sz)) (F0 m 0 ls [])
  have hb_32 : ∀ (g : gS) (is0 : Int32), b_X11_sizeOf_32 g is0 Q → ∀ (H : Heap) (locs : List Loc) (ls : Array Slot), gC D cA (gA g0 sz) s g H locs → lv_has ls 2 [] → W p l e r_X11_sizeOf s m args below meth c H locs 0 0 (MQ below (gQi D cA g0 sz (Q)) args s 0 0 (gA g0 sz)) (F0 m 32 ls [.int is0]) := by
    intro g is0 h H locs ls hc hl
    unfold b_X11_sizeOf_32 at h
    exact g_reti (r := is0) CF hr hlk hc rfl h dX11_sizeOf_32
  unfold w_X11_sizeOf at h
  obtain ⟨H, hH0⟩ : ∃ z, z = s.heap := ⟨_, rfl⟩
  rw [← hH0] at hc ⊢
  obtain ⟨locs, hlc0⟩ : ∃ z : List Loc, z = [] := ⟨_, rfl⟩
  rw [← hlc0] at hc ⊢
  refine lv_aload_n hx hb dX11_sizeOf_0 rfl (lv_at hl 0 rfl) ?_
  refine lv_iconst (v := 0) hx hb dX11_sizeOf_1 (by decide) ?_
  obtain ⟨hk1, h⟩ := h
  refine g_puti CF hc hk1 rfl (by decide) (fun _ h9 => List.mem_cons_of_mem _ (List.mem_append_right _ (h9))) tyX11 tyX11_ok nmX11 (k := 0) (by decide) (List.mem_cons_of_mem _ (List.mem_append_left _ (List.mem_of_getElem? (i := 0) rfl))) rfl (v := 0) rfl rfl rfl dX11_sizeOf_2 (fun H locs hc => ?_)
  obtain ⟨g2, eg3⟩ : ∃ z, z = sU g0 p0 0 0 := ⟨_, rfl⟩
  have hc : gC D cA (gA g0 sz) s g2 H locs := by rw [eg3]; exact hc
  replace h := h g2 eg3
  refine lv_iload_n hx hb dX11_sizeOf_5 rfl (lv_at hl 1 rfl) ?_
  refine lv_iconst (v := 0) hx hb dX11_sizeOf_6 (by decide) ?_
  refine lv_aload_n hx hb dX11_sizeOf_7 rfl (lv_at hl 0 rfl) ?_
  obtain ⟨hk4, h⟩ := h
  refine g_get CF hc hk4 rfl (by decide) (fun _ h9 => List.mem_cons_of_mem _ (List.mem_append_right _ (h9))) (k := 13) (by decide) (List.mem_cons_of_mem _ (List.mem_append_left _ (List.mem_of_getElem? (i := 1) rfl))) rfl dX11_sizeOf_8 ?_
  refine lv_iconst (v := 1) hx hb dX11_sizeOf_11 (by decide) ?_
  refine lv_isub hx hb dX11_sizeOf_12 ?_
  refine g_calli (va_runS (As := [.int p1, .int 0, .int ((gI g2 p0 13) - 1)]) (rest := []) CF (c_X11_isIn h) (va_cwS 3 hts gX11_sizeOf_X11_isIn rfl rfl rfl (by decide +kernel) ⟨Nat.le_of_ble_eq_true rfl, Nat.le_of_ble_eq_true rfl⟩) hc.preS rfl rfl hl.1 rfl (lv_room (Nat.le_of_ble_eq_true rfl)) dX11_sizeOf_13 ⟨Nat.le_of_ble_eq_true rfl, Nat.le_of_ble_eq_true rfl⟩) hc (fun x5 gq6 H locs hq hc => ?_)
  obtain ⟨rfl, h⟩ := hq
  refine lv_if_eq (tgt := 27) hx hb dX11_sizeOf_16 (by decide) (fun c7 => ?_) (fun c7 => ?_)
  · have h := h.1 c7
    refine lv_aload_n hx hb dX11_sizeOf_27 rfl (lv_at hl 0 rfl) ?_
    refine lv_iconst (v := 1) hx hb dX11_sizeOf_28 (by decide) ?_
    refine g_calli (va_runV (As := [.int 1]) (rest := []) CF (c_X11_no h) (cwV 1 hts gX11_sizeOf_X11_no rfl rfl rfl (by decide +kernel) ⟨Nat.le_of_ble_eq_true rfl, Nat.le_of_ble_eq_true rfl⟩) (hc.preV hk4 rfl (by decide)) rfl rfl hl.1 rfl (lv_room (Nat.le_of_ble_eq_true rfl)) dX11_sizeOf_29 ⟨Nat.le_of_ble_eq_true rfl, Nat.le_of_ble_eq_true rfl⟩) hc (fun x8 g9 H locs hq hc => ?_)
    replace h := hq
    exact hb_32 g9 x8 h _ _ _ hc (lv_sub hl [] rfl)
  · have h := h.2 c7
    refine lv_aload_n hx hb dX11_sizeOf_19 rfl (lv_at hl 0 rfl) ?_
    refine lv_iload_n hx hb dX11_sizeOf_20 rfl (lv_at hl 1 rfl) ?_
    refine g_calli (va_runV (As := [.int p1]) (rest := []) CF (c_X11_sizeNow h) (cwV 1 hts gX11_sizeOf_X11_sizeNow rfl rfl rfl (by decide +kernel) ⟨Nat.le_of_ble_eq_true rfl, Nat.le_of_ble_eq_true rfl⟩) (hc.preV hk4 rfl (by decide)) rfl rfl hl.1 rfl (lv_room (Nat.le_of_ble_eq_true rfl)) dX11_sizeOf_21 ⟨Nat.le_of_ble_eq_true rfl, Nat.le_of_ble_eq_true rfl⟩) hc (fun x11 gq12 H locs hq hc => ?_)
    obtain ⟨rfl, h⟩ := hq
    refine lv_goto (tgt := 32) hx hb dX11_sizeOf_24 (by decide) ?_
    exact hb_32 g2 x11 h _ _ _ hc (lv_sub hl [] rfl)
def b_X11_countAll_214 (g : gS) (r0 : Nat) (i1 : Int32) (Q : gS → Prop) (k64 : gS → Int32 → Prop) : Prop :=
  k64 g (i1 + 1)
def b_X11_countAll_200 (g : gS) (r0 : Nat) (i1 : Int32) (i2 : Int32) (i3 : Int32) (rs0 : Nat) (is1 : Int32) (is2 : Int32) (is3 : Int32) (Q : gS → Prop) (k64 : gS → Int32 → Prop) (k96 : gS → Int32 → Prop) (k118 : gS → Int32 → Prop) : Prop :=
  gK g rs0 = 21 ∧ (vp_in is1 (gN g rs0) ∧ (∀ g3, g3 = sU g rs0 (Int32.toNatClampNeg is1) (is2 + is3) → (k118 g3 (i3 + 1))))
def b_X11_countAll_169 (g : gS) (r0 : Nat) (i1 : Int32) (i2 : Int32) (i3 : Int32) (i4 : Int32) (i6 : Int32) (is0 : Int32) (is1 : Int32) (Q : gS → Prop) (k64 : gS → Int32 → Prop) (k96 : gS → Int32 → Prop) (k118 : gS → Int32 → Prop) (k143 : Int32 → Int32 → Prop) : Prop :=
  k143 (is0 &&& is1) (i6 + 1)
def l_X11_countAll_143 (g : gS) (r0 : Nat) (i1 : Int32) (i2 : Int32) (i3 : Int32) (i4 : Int32) (Q : gS → Prop) (k64 : gS → Int32 → Prop) (k96 : gS → Int32 → Prop) (k118 : gS → Int32 → Prop) (i5 : Int32) (i6 : Int32) (k143 : Int32 → Int32 → Prop) : Prop :=
  (i3 ≤ i6 → (gK g r0 = 12 ∧ (∃ y7, gR g r0 28 = some y7 ∧ (gK g y7 = 21 ∧ (vp_in ((i4 * 3) + i2) (gN g y7) ∧ ((i5 = 0 → (b_X11_countAll_200 g r0 i1 i2 i3 y7 ((i4 * 3) + i2) (gI g y7 (Int32.toNatClampNeg ((i4 * 3) + i2))) 0 Q k64 k96 k118)) ∧ (¬ i5 = 0 → (b_X11_countAll_200 g r0 i1 i2 i3 y7 ((i4 * 3) + i2) (gI g y7 (Int32.toNatClampNeg ((i4 * 3) + i2))) 1 Q k64 k96 k118)))))))) ∧ (¬ i3 ≤ i6 → (gK g r0 = 12 ∧ (w_X11_at g r0 i1 i2 i6 (fun x13 => ((x13 = i4 → (b_X11_countAll_169 g r0 i1 i2 i3 i4 i6 i5 0 Q k64 k96 k118 k143)) ∧ (¬ x13 = i4 → (b_X11_countAll_169 g r0 i1 i2 i3 i4 i6 i5 1 Q k64 k96 k118 k143)))))))
def l_X11_countAll_118 (r0 : Nat) (i1 : Int32) (i2 : Int32) (Q : gS → Prop) (k64 : gS → Int32 → Prop) (k96 : gS → Int32 → Prop) (g : gS) (i3 : Int32) (k118 : gS → Int32 → Prop) : Prop :=
  gK g r0 = 12 ∧ (w_X11_many g r0 i1 i2 (fun x17 => ((x17 ≤ i3 → (k96 g (i2 + 1))) ∧ (¬ x17 ≤ i3 → (w_X11_at g r0 i1 i2 i3 (fun x20 => (lpx2 (l_X11_countAll_143 g r0 i1 i2 i3 x20 Q k64 k96 k118) 1 0)))))))
def l_X11_countAll_96 (r0 : Nat) (i1 : Int32) (Q : gS → Prop) (k64 : gS → Int32 → Prop) (g : gS) (i2 : Int32) (k96 : gS → Int32 → Prop) : Prop :=
  (3 ≤ i2 → (b_X11_countAll_214 g r0 i1 Q k64)) ∧ (¬ 3 ≤ i2 → (gK g r0 = 12 ∧ (∃ y24, gR g r0 27 = some y24 ∧ (gK g y24 = 21 ∧ (vp_in i2 (gN g y24) ∧ (w_X11_many g r0 i1 i2 (fun x28 => (vp_in i2 (gN g y24) ∧ (∀ g31, g31 = sU g y24 (Int32.toNatClampNeg i2) ((gI g y24 (Int32.toNatClampNeg i2)) + x28) → (lpx2 (l_X11_countAll_118 r0 i1 i2 Q k64 k96) g31 0))))))))))
def l_X11_countAll_64 (r0 : Nat) (Q : gS → Prop) (g : gS) (i1 : Int32) (k64 : gS → Int32 → Prop) : Prop :=
  gK g r0 = 12 ∧ (((gI g r0 1) ≤ i1 → (Q g)) ∧ (¬ (gI g r0 1) ≤ i1 → (∃ y35, gR g r0 6 = some y35 ∧ (gK g y35 = 22 ∧ (vp_in i1 (gN g y35) ∧ (((gI g y35 (Int32.toNatClampNeg i1)) = 0 → (b_X11_countAll_214 g r0 i1 Q k64)) ∧ (¬ (gI g y35 (Int32.toNatClampNeg i1)) = 0 → (∀ g40, g40 = sU g r0 26 ((gI g r0 26) + 1) → (lpx2 (l_X11_countAll_96 r0 i1 Q k64) g40 0)))))))))
def l_X11_countAll_44 (r0 : Nat) (Q : gS → Prop) (g : gS) (i1 : Int32) (k44 : gS → Int32 → Prop) : Prop :=
  (3 ≤ i1 → (lpx2 (l_X11_countAll_64 r0 Q) g 0)) ∧ (¬ 3 ≤ i1 → (gK g r0 = 12 ∧ (∃ y44, gR g r0 27 = some y44 ∧ (gK g y44 = 21 ∧ (vp_in i1 (gN g y44) ∧ (∀ g48, g48 = sU g y44 (Int32.toNatClampNeg i1) 0 → (k44 g48 (i1 + 1))))))))
def l_X11_countAll_20 (r0 : Nat) (Q : gS → Prop) (g : gS) (i1 : Int32) (k20 : gS → Int32 → Prop) : Prop :=
  gK g r0 = 12 ∧ (∃ y51, gR g r0 28 = some y51 ∧ (gK g y51 = 21 ∧ (((nI (gN g y51)) ≤ i1 → (lpx2 (l_X11_countAll_44 r0 Q) g 0)) ∧ (¬ (nI (gN g y51)) ≤ i1 → (∃ y55, gR g r0 28 = some y55 ∧ (gK g y55 = 21 ∧ (vp_in i1 (gN g y55) ∧ (∀ g59, g59 = sU g y55 (Int32.toNatClampNeg i1) 0 → (k20 g59 (i1 + 1))))))))))
def w_X11_countAll (g0 : gS) (p0 : Nat) (Q : gS → Prop) : Prop :=
  gK g0 p0 = 12 ∧ (((gI g0 p0 25) = 0 → (∀ g63, g63 = sU g0 p0 25 1 → (gK g63 p0 = 12 ∧ (∀ g66, g66 = sU g63 p0 26 0 → (lpx2 (l_X11_countAll_20 p0 Q) g66 0))))) ∧ (¬ (gI g0 p0 25) = 0 → (Q g0)))
abbrev r_X11_countAll : Room := { frames := 1, cells := 0, slots := 0, locals := 23 }
set_option maxHeartbeats 4000000 in
set_option maxRecDepth 100000 in
theorem c_X11_countAll {l : Launch} {D : va_G} {cA : Nat → ClassId} {sz : Nat} {g0 : gS} {p0 : Nat} {Q : gS → Prop} (h : w_X11_countAll g0 p0 Q) : Met l yX11_countAll wsX11_countAll r_X11_countAll (va_Pc [.ref p0] (gPre D cA g0 sz)) (gQv D cA g0 sz (Q)) 0 0 (gA g0 sz) := by
  refine g_met (cc := cX11_countAll) (maxL := 7) (ret := none) (own := RX11) (by decide) rfl rfl (Nat.le_of_ble_eq_true rfl) ?_
  intro p e s m args below meth c ls CF hr hlk hnm hc hl
  obtain ⟨hx, hb, hml, hown, hts⟩ := id CF
  have hl : lv_has ls 7 [(0, .ref p0)] := hl
  show W p l e r_X11_countAll s m args below meth c s.heap [] 0 0 (MQ below (gQv D cA g0 sz (Q)) args s 0 0 (gA g0 sz)) (F0 m 0 ls [])
  have hb_64 : ∀ (r0 : Nat), ∀ (g : gS) (i1 : Int32), lpx2 (l_X11_countAll_64 r0 Q) g i1 → ∀ (H : Heap) (locs : List Loc) (ls : Array Slot), gC D cA (gA g0 sz) s g H locs → lv_has ls 7 [(0, .ref r0), (1, .int i1)] → W p l e r_X11_countAll s m args below meth c H locs 0 0 (MQ below (gQv D cA g0 sz (Q)) args s 0 0 (gA g0 sz)) (F0 m 64 ls []) := by
    intro r0
    refine lpx2_run (P := fun (g : gS) (i1 : Int32) => ∀ (H : Heap) (locs : List Loc) (ls : Array Slot), gC D cA (gA g0 sz) s g H locs → lv_has ls 7 [(0, .ref r0), (1, .int i1)] → W p l e r_X11_countAll s m args below meth c H locs 0 0 (MQ below (gQv D cA g0 sz (Q)) args s 0 0 (gA g0 sz)) (F0 m 64 ls [])) ?_
    intro k64 hk_64 g i1 h H locs ls hc hl
    have hb_214 : ∀ (g : gS) (i1 : Int32), b_X11_countAll_214 g r0 i1 Q k64 → ∀ (H : Heap) (locs : List Loc) (ls : Array Slot), gC D cA (gA g0 sz) s g H locs → lv_has ls 7 [(0, .ref r0), (1, .int i1)] → W p l e r_X11_countAll s m args below meth c H locs 0 0 (MQ below (gQv D cA g0 sz (Q)) args s 0 0 (gA g0 sz)) (F0 m 214 ls []) := by
      intro g i1 h H locs ls hc hl
      unfold b_X11_countAll_214 at h
      refine lv_iinc (v := (i1 + 1)) (lv' := [(1, .int (i1 + 1)), (0, .ref r0)]) hx hb dX11_countAll_214 hl (k := 1) rfl rfl (by decide) rfl (fun ls hl => ?_)
      refine lv_goto (tgt := 64) hx hb dX11_countAll_217 (by decide) ?_
      exact hk_64 g (i1 + 1) h _ _ _ hc (lv_sub hl [1, 0] rfl)
    have hb_96 : ∀ (i1 : Int32), ∀ (g : gS) (i2 : Int32), lpx2 (l_X11_countAll_96 r0 i1 Q k64) g i2 → ∀ (H : Heap) (locs : List Loc) (ls : Array Slot), gC D cA (gA g0 sz) s g H locs → lv_has ls 7 [(0, .ref r0), (1, .int i1), (2, .int i2)] → W p l e r_X11_countAll s m args below meth c H locs 0 0 (MQ below (gQv D cA g0 sz (Q)) args s 0 0 (gA g0 sz)) (F0 m 96 ls []) := by
      intro i1
      refine lpx2_run (P := fun (g : gS) (i2 : Int32) => ∀ (H : Heap) (locs : List Loc) (ls : Array Slot), gC D cA (gA g0 sz) s g H locs → lv_has ls 7 [(0, .ref r0), (1, .int i1), (2, .int i2)] → W p l e r_X11_countAll s m args below meth c H locs 0 0 (MQ below (gQv D cA g0 sz (Q)) args s 0 0 (gA g0 sz)) (F0 m 96 ls [])) ?_
      intro k96 hk_96 g i2 h H locs ls hc hl
      have hb_118 : ∀ (i2 : Int32), ∀ (g : gS) (i3 : Int32), lpx2 (l_X11_countAll_118 r0 i1 i2 Q k64 k96) g i3 → ∀ (H : Heap) (locs : List Loc) (ls : Array Slot), gC D cA (gA g0 sz) s g H locs → lv_has ls 7 [(0, .ref r0), (1, .int i1), (2, .int i2), (3, .int i3)] → W p l e r_X11_countAll s m args below meth c H locs 0 0 (MQ below (gQv D cA g0 sz (Q)) args s 0 0 (gA g0 sz)) (F0 m 118 ls []) := by
        intro i2
        refine lpx2_run (P := fun (g : gS) (i3 : Int32) => ∀ (H : Heap) (locs : List Loc) (ls : Array Slot), gC D cA (gA g0 sz) s g H locs → lv_has ls 7 [(0, .ref r0), (1, .int i1), (2, .int i2), (3, .int i3)] → W p l e r_X11_countAll s m args below meth c H locs 0 0 (MQ below (gQv D cA g0 sz (Q)) args s 0 0 (gA g0 sz)) (F0 m 118 ls [])) ?_
        intro k118 hk_118 g i3 h H locs ls hc hl
        have hb_200 : ∀ (g : gS) (i3 : Int32) (rs0 : Nat) (is1 : Int32) (is2 : Int32) (is3 : Int32), b_X11_countAll_200 g r0 i1 i2 i3 rs0 is1 is2 is3 Q k64 k96 k118 → ∀ (H : Heap) (locs : List Loc) (ls : Array Slot), gC D cA (gA g0 sz) s g H locs → lv_has ls 7 [(0, .ref r0), (1, .int i1), (2, .int i2), (3, .int i3)] → W p l e r_X11_countAll s m args below meth c H locs 0 0 (MQ below (gQv D cA g0 sz (Q)) args s 0 0 (gA g0 sz)) (F0 m 200 ls [.int is3, .int is2, .int is1, .ref rs0]) := by
          intro g i3 rs0 is1 is2 is3 h H locs ls hc hl
          unfold b_X11_countAll_200 at h
          refine lv_iadd hx hb dX11_countAll_200 ?_
          obtain ⟨hk1, h⟩ := h
          obtain ⟨hi2, h⟩ := h
          refine g_iast CF hc hk1 (x := (is2 + is3)) hi2 dX11_countAll_201 (fun H locs hc => ?_)
          obtain ⟨g3, eg4⟩ : ∃ z, z = sU g rs0 (Int32.toNatClampNeg is1) (is2 + is3) := ⟨_, rfl⟩
          have hc : gC D cA (gA g0 sz) s g3 H locs := by rw [eg4]; exact hc
          replace h := h g3 eg4
          refine lv_iinc (v := (i3 + 1)) (lv' := [(3, .int (i3 + 1)), (0, .ref r0), (1, .int i1), (2, .int i2)]) hx hb dX11_countAll_202 hl (k := 3) rfl rfl (by decide) rfl (fun ls hl => ?_)
          refine lv_goto (tgt := 118) hx hb dX11_countAll_205 (by decide) ?_
          exact hk_118 g3 (i3 + 1) h _ _ _ hc (lv_sub hl [1, 2, 3, 0] rfl)
        have hb_143 : ∀ (g : gS) (i3 : Int32) (i4 : Int32), ∀ (i5 : Int32) (i6 : Int32), lpx2 (l_X11_countAll_143 g r0 i1 i2 i3 i4 Q k64 k96 k118) i5 i6 → ∀ (H : Heap) (locs : List Loc) (ls : Array Slot), gC D cA (gA g0 sz) s g H locs → lv_has ls 7 [(0, .ref r0), (1, .int i1), (2, .int i2), (3, .int i3), (4, .int i4), (5, .int i5), (6, .int i6)] → W p l e r_X11_countAll s m args below meth c H locs 0 0 (MQ below (gQv D cA g0 sz (Q)) args s 0 0 (gA g0 sz)) (F0 m 143 ls []) := by
          intro g i3 i4
          refine lpx2_run (P := fun (i5 : Int32) (i6 : Int32) => ∀ (H : Heap) (locs : List Loc) (ls : Array Slot), gC D cA (gA g0 sz) s g H locs → lv_has ls 7 [(0, .ref r0), (1, .int i1), (2, .int i2), (3, .int i3), (4, .int i4), (5, .int i5), (6, .int i6)] → W p l e r_X11_countAll s m args below meth c H locs 0 0 (MQ below (gQv D cA g0 sz (Q)) args s 0 0 (gA g0 sz)) (F0 m 143 ls [])) ?_
          intro k143 hk_143 i5 i6 h H locs ls hc hl
          have hb_169 : ∀ (i6 : Int32) (is0 : Int32) (is1 : Int32), b_X11_countAll_169 g r0 i1 i2 i3 i4 i6 is0 is1 Q k64 k96 k118 k143 → ∀ (H : Heap) (locs : List Loc) (ls : Array Slot), gC D cA (gA g0 sz) s g H locs → lv_has ls 7 [(0, .ref r0), (1, .int i1), (2, .int i2), (3, .int i3), (4, .int i4), (6, .int i6)] → W p l e r_X11_countAll s m args below meth c H locs 0 0 (MQ below (gQv D cA g0 sz (Q)) args s 0 0 (gA g0 sz)) (F0 m 169 ls [.int is1, .int is0]) := by
            intro i6 is0 is1 h H locs ls hc hl
            unfold b_X11_countAll_169 at h
            refine lv_iand hx hb dX11_countAll_169 ?_
            refine lv_istore (lv' := [(5, .int (is0 &&& is1)), (0, .ref r0), (1, .int i1), (2, .int i2), (3, .int i3), (4, .int i4), (6, .int i6)]) hx hb dX11_countAll_170 hl (by decide) rfl (fun ls hl => ?_)
            refine lv_iinc (v := (i6 + 1)) (lv' := [(6, .int (i6 + 1)), (5, .int (is0 &&& is1)), (0, .ref r0), (1, .int i1), (2, .int i2), (3, .int i3), (4, .int i4)]) hx hb dX11_countAll_172 hl (k := 6) rfl rfl (by decide) rfl (fun ls hl => ?_)
            refine lv_goto (tgt := 143) hx hb dX11_countAll_175 (by decide) ?_
            exact hk_143 (is0 &&& is1) (i6 + 1) h _ _ _ hc (lv_sub hl [2, 3, 4, 5, 6, 1, 0] rfl)
          unfold l_X11_countAll_143 at h
          refine lv_iload hx hb dX11_countAll_143 (lv_at hl 6 rfl) ?_
          refine lv_iload_n hx hb dX11_countAll_145 rfl (lv_at hl 3 rfl) ?_
          refine lv_icmp_ge (tgt := 178) hx hb dX11_countAll_146 (by decide) (fun c5 => ?_) (fun c5 => ?_)
          · have h := h.1 c5
            refine lv_aload_n hx hb dX11_countAll_178 rfl (lv_at hl 0 rfl) ?_
            obtain ⟨hk6, h⟩ := h
            obtain ⟨y7, e8, h⟩ := h
            refine g_getr CF hc hk6 rfl (by decide) (fun _ h9 => List.mem_cons_of_mem _ (List.mem_append_right _ (h9))) (k := 28) (by decide) (List.mem_cons_of_mem _ (List.mem_append_left _ (List.mem_of_getElem? (i := 2) rfl))) e8 rfl dX11_countAll_179 ?_
            refine lv_iload hx hb dX11_countAll_182 (lv_at hl 4 rfl) ?_
            refine lv_iconst (v := 3) hx hb dX11_countAll_184 (by decide) ?_
            refine lv_imul hx hb dX11_countAll_185 ?_
            refine lv_iload_n hx hb dX11_countAll_186 rfl (lv_at hl 2 rfl) ?_
            refine lv_iadd hx hb dX11_countAll_187 ?_
            refine lv_dup2_11 hx hb dX11_countAll_188 rfl rfl ?_
            obtain ⟨hk9, h⟩ := h
            obtain ⟨hi10, h⟩ := h
            refine g_iald CF hc hk9 hi10 dX11_countAll_189 ?_
            refine lv_iload hx hb dX11_countAll_190 (lv_at hl 5 rfl) ?_
            refine lv_if_eq (tgt := 199) hx hb dX11_countAll_192 (by decide) (fun c11 => ?_) (fun c11 => ?_)
            · have h := h.1 c11
              refine lv_iconst (v := 0) hx hb dX11_countAll_199 (by decide) ?_
              exact hb_200 g i3 y7 ((i4 * 3) + i2) (gI g y7 (Int32.toNatClampNeg ((i4 * 3) + i2))) 0 h _ _ _ hc (lv_sub hl [0, 1, 2, 3] rfl)
            · have h := h.2 c11
              refine lv_iconst (v := 1) hx hb dX11_countAll_195 (by decide) ?_
              refine lv_goto (tgt := 200) hx hb dX11_countAll_196 (by decide) ?_
              exact hb_200 g i3 y7 ((i4 * 3) + i2) (gI g y7 (Int32.toNatClampNeg ((i4 * 3) + i2))) 1 h _ _ _ hc (lv_sub hl [0, 1, 2, 3] rfl)
          · have h := h.2 c5
            refine lv_iload hx hb dX11_countAll_149 (lv_at hl 5 rfl) ?_
            refine lv_aload_n hx hb dX11_countAll_151 rfl (lv_at hl 0 rfl) ?_
            refine lv_iload_n hx hb dX11_countAll_152 rfl (lv_at hl 1 rfl) ?_
            refine lv_iload_n hx hb dX11_countAll_153 rfl (lv_at hl 2 rfl) ?_
            refine lv_iload hx hb dX11_countAll_154 (lv_at hl 6 rfl) ?_
            obtain ⟨hk12, h⟩ := h
            refine g_calli (va_runV (As := [.int i1, .int i2, .int i6]) (rest := [.int i5]) CF (c_X11_at h) (cwV 3 hts gX11_countAll_X11_at rfl rfl rfl (by decide +kernel) ⟨Nat.le_of_ble_eq_true rfl, Nat.le_of_ble_eq_true rfl⟩) (hc.preV hk12 rfl (by decide)) rfl rfl hl.1 rfl (lv_room (Nat.le_of_ble_eq_true rfl)) dX11_countAll_156 ⟨Nat.le_of_ble_eq_true rfl, Nat.le_of_ble_eq_true rfl⟩) hc (fun x13 gq14 H locs hq hc => ?_)
            obtain ⟨rfl, h⟩ := hq
            refine lv_iload hx hb dX11_countAll_159 (lv_at hl 4 rfl) ?_
            refine lv_icmp_eq (tgt := 168) hx hb dX11_countAll_161 (by decide) (fun c15 => ?_) (fun c15 => ?_)
            · have h := h.1 c15
              refine lv_iconst (v := 0) hx hb dX11_countAll_168 (by decide) ?_
              exact hb_169 i6 i5 0 h _ _ _ hc (lv_sub hl [0, 1, 2, 3, 4, 6] rfl)
            · have h := h.2 c15
              refine lv_iconst (v := 1) hx hb dX11_countAll_164 (by decide) ?_
              refine lv_goto (tgt := 169) hx hb dX11_countAll_165 (by decide) ?_
              exact hb_169 i6 i5 1 h _ _ _ hc (lv_sub hl [0, 1, 2, 3, 4, 6] rfl)
        unfold l_X11_countAll_118 at h
        refine lv_iload_n hx hb dX11_countAll_118 rfl (lv_at hl 3 rfl) ?_
        refine lv_aload_n hx hb dX11_countAll_119 rfl (lv_at hl 0 rfl) ?_
        refine lv_iload_n hx hb dX11_countAll_120 rfl (lv_at hl 1 rfl) ?_
        refine lv_iload_n hx hb dX11_countAll_121 rfl (lv_at hl 2 rfl) ?_
        obtain ⟨hk16, h⟩ := h
        refine g_calli (va_runV (As := [.int i1, .int i2]) (rest := [.int i3]) CF (c_X11_many h) (cwV 2 hts gX11_countAll_X11_many rfl rfl rfl (by decide +kernel) ⟨Nat.le_of_ble_eq_true rfl, Nat.le_of_ble_eq_true rfl⟩) (hc.preV hk16 rfl (by decide)) rfl rfl hl.1 rfl (lv_room (Nat.le_of_ble_eq_true rfl)) dX11_countAll_122 ⟨Nat.le_of_ble_eq_true rfl, Nat.le_of_ble_eq_true rfl⟩) hc (fun x17 gq18 H locs hq hc => ?_)
        obtain ⟨rfl, h⟩ := hq
        refine lv_icmp_ge (tgt := 208) hx hb dX11_countAll_125 (by decide) (fun c19 => ?_) (fun c19 => ?_)
        · have h := h.1 c19
          refine lv_iinc (v := (i2 + 1)) (lv' := [(2, .int (i2 + 1)), (0, .ref r0), (1, .int i1), (3, .int i3)]) hx hb dX11_countAll_208 hl (k := 2) rfl rfl (by decide) rfl (fun ls hl => ?_)
          refine lv_goto (tgt := 96) hx hb dX11_countAll_211 (by decide) ?_
          exact hk_96 g (i2 + 1) h _ _ _ hc (lv_sub hl [1, 2, 0] rfl)
        · have h := h.2 c19
          refine lv_aload_n hx hb dX11_countAll_128 rfl (lv_at hl 0 rfl) ?_
          refine lv_iload_n hx hb dX11_countAll_129 rfl (lv_at hl 1 rfl) ?_
          refine lv_iload_n hx hb dX11_countAll_130 rfl (lv_at hl 2 rfl) ?_
          refine lv_iload_n hx hb dX11_countAll_131 rfl (lv_at hl 3 rfl) ?_
          refine g_calli (va_runV (As := [.int i1, .int i2, .int i3]) (rest := []) CF (c_X11_at h) (cwV 3 hts gX11_countAll_X11_at rfl rfl rfl (by decide +kernel) ⟨Nat.le_of_ble_eq_true rfl, Nat.le_of_ble_eq_true rfl⟩) (hc.preV hk16 rfl (by decide)) rfl rfl hl.1 rfl (lv_room (Nat.le_of_ble_eq_true rfl)) dX11_countAll_132 ⟨Nat.le_of_ble_eq_true rfl, Nat.le_of_ble_eq_true rfl⟩) hc (fun x20 gq21 H locs hq hc => ?_)
          obtain ⟨rfl, h⟩ := hq
          refine lv_istore (lv' := [(4, .int x20), (0, .ref r0), (1, .int i1), (2, .int i2), (3, .int i3)]) hx hb dX11_countAll_135 hl (by decide) rfl (fun ls hl => ?_)
          refine lv_iconst (v := 1) hx hb dX11_countAll_137 (by decide) ?_
          refine lv_istore (lv' := [(5, .int 1), (4, .int x20), (0, .ref r0), (1, .int i1), (2, .int i2), (3, .int i3)]) hx hb dX11_countAll_138 hl (by decide) rfl (fun ls hl => ?_)
          refine lv_iconst (v := 0) hx hb dX11_countAll_140 (by decide) ?_
          refine lv_istore (lv' := [(6, .int 0), (5, .int 1), (4, .int x20), (0, .ref r0), (1, .int i1), (2, .int i2), (3, .int i3)]) hx hb dX11_countAll_141 hl (by decide) rfl (fun ls hl => ?_)
          exact hb_143 g i3 x20 1 0 h _ _ _ hc (lv_sub hl [3, 4, 5, 6, 2, 1, 0] rfl)
      unfold l_X11_countAll_96 at h
      refine lv_iload_n hx hb dX11_countAll_96 rfl (lv_at hl 2 rfl) ?_
      refine lv_iconst (v := 3) hx hb dX11_countAll_97 (by decide) ?_
      refine lv_icmp_ge (tgt := 214) hx hb dX11_countAll_98 (by decide) (fun c22 => ?_) (fun c22 => ?_)
      · have h := h.1 c22
        exact hb_214 g i1 h _ _ _ hc (lv_sub hl [0, 1] rfl)
      · have h := h.2 c22
        refine lv_aload_n hx hb dX11_countAll_101 rfl (lv_at hl 0 rfl) ?_
        obtain ⟨hk23, h⟩ := h
        obtain ⟨y24, e25, h⟩ := h
        refine g_getr CF hc hk23 rfl (by decide) (fun _ h9 => List.mem_cons_of_mem _ (List.mem_append_right _ (h9))) (k := 27) (by decide) (List.mem_cons_of_mem _ (List.mem_append_left _ (List.mem_of_getElem? (i := 3) rfl))) e25 rfl dX11_countAll_102 ?_
        refine lv_iload_n hx hb dX11_countAll_105 rfl (lv_at hl 2 rfl) ?_
        refine lv_dup2_11 hx hb dX11_countAll_106 rfl rfl ?_
        obtain ⟨hk26, h⟩ := h
        obtain ⟨hi27, h⟩ := h
        refine g_iald CF hc hk26 hi27 dX11_countAll_107 ?_
        refine lv_aload_n hx hb dX11_countAll_108 rfl (lv_at hl 0 rfl) ?_
        refine lv_iload_n hx hb dX11_countAll_109 rfl (lv_at hl 1 rfl) ?_
        refine lv_iload_n hx hb dX11_countAll_110 rfl (lv_at hl 2 rfl) ?_
        refine g_calli (va_runV (As := [.int i1, .int i2]) (rest := [.int (gI g y24 (Int32.toNatClampNeg i2)), .int i2, .ref y24]) CF (c_X11_many h) (cwV 2 hts gX11_countAll_X11_many rfl rfl rfl (by decide +kernel) ⟨Nat.le_of_ble_eq_true rfl, Nat.le_of_ble_eq_true rfl⟩) (hc.preV hk23 rfl (by decide)) rfl rfl hl.1 rfl (lv_room (Nat.le_of_ble_eq_true rfl)) dX11_countAll_111 ⟨Nat.le_of_ble_eq_true rfl, Nat.le_of_ble_eq_true rfl⟩) hc (fun x28 gq29 H locs hq hc => ?_)
        obtain ⟨rfl, h⟩ := hq
        refine lv_iadd hx hb dX11_countAll_114 ?_
        obtain ⟨hi30, h⟩ := h
        refine g_iast CF hc hk26 (x := ((gI g y24 (Int32.toNatClampNeg i2)) + x28)) hi30 dX11_countAll_115 (fun H locs hc => ?_)
        obtain ⟨g31, eg32⟩ : ∃ z, z = sU g y24 (Int32.toNatClampNeg i2) ((gI g y24 (Int32.toNatClampNeg i2)) + x28) := ⟨_, rfl⟩
        have hc : gC D cA (gA g0 sz) s g31 H locs := by rw [eg32]; exact hc
        replace h := h g31 eg32
        refine lv_iconst (v := 0) hx hb dX11_countAll_116 (by decide) ?_
        refine lv_istore_n (lv' := [(3, .int 0), (0, .ref r0), (1, .int i1), (2, .int i2)]) hx hb dX11_countAll_117 rfl hl (by decide) rfl (fun ls hl => ?_)
        exact hb_118 i2 g31 0 h _ _ _ hc (lv_sub hl [1, 2, 3, 0] rfl)
    unfold l_X11_countAll_64 at h
    refine lv_iload_n hx hb dX11_countAll_64 rfl (lv_at hl 1 rfl) ?_
    refine lv_aload_n hx hb dX11_countAll_65 rfl (lv_at hl 0 rfl) ?_
    obtain ⟨hk33, h⟩ := h
    refine g_get CF hc hk33 rfl (by decide) (fun _ h9 => List.mem_cons_of_mem _ (List.mem_append_right _ (h9))) (k := 1) (by decide) (List.mem_cons_of_mem _ (List.mem_append_left _ (List.mem_of_getElem? (i := 4) rfl))) rfl dX11_countAll_66 ?_
    refine lv_icmp_ge (tgt := 220) hx hb dX11_countAll_69 (by decide) (fun c34 => ?_) (fun c34 => ?_)
    · have h := h.1 c34
      exact g_retv CF hr hlk hc h dX11_countAll_220
    · have h := h.2 c34
      refine lv_aload_n hx hb dX11_countAll_72 rfl (lv_at hl 0 rfl) ?_
      obtain ⟨y35, e36, h⟩ := h
      refine g_getr CF hc hk33 rfl (by decide) (fun _ h9 => List.mem_cons_of_mem _ (List.mem_append_right _ (h9))) (k := 6) (by decide) (List.mem_cons_of_mem _ (List.mem_append_left _ (List.mem_of_getElem? (i := 5) rfl))) e36 rfl dX11_countAll_73 ?_
      refine lv_iload_n hx hb dX11_countAll_76 rfl (lv_at hl 1 rfl) ?_
      obtain ⟨hk37, h⟩ := h
      obtain ⟨hi38, h⟩ := h
      refine g_zald CF hc hk37 hi38 dX11_countAll_77 ?_
      refine lv_if_ne (tgt := 84) hx hb dX11_countAll_78 (by decide) (fun c39 => ?_) (fun c39 => ?_)
      · have h := h.2 c39
        refine lv_aload_n hx hb dX11_countAll_84 rfl (lv_at hl 0 rfl) ?_
        refine lv_dup hx hb dX11_countAll_85 rfl ?_
        refine g_get CF hc hk33 rfl (by decide) (fun _ h9 => List.mem_cons_of_mem _ (List.mem_append_right _ (h9))) (k := 26) (by decide) (List.mem_cons_of_mem _ (List.mem_append_left _ (List.mem_of_getElem? (i := 1) rfl))) rfl dX11_countAll_86 ?_
        refine lv_iconst (v := 1) hx hb dX11_countAll_89 (by decide) ?_
        refine lv_iadd hx hb dX11_countAll_90 ?_
        refine g_puti CF hc hk33 rfl (by decide) (fun _ h9 => List.mem_cons_of_mem _ (List.mem_append_right _ (h9))) tyX11 tyX11_ok nmX11 (k := 26) (by decide) (List.mem_cons_of_mem _ (List.mem_append_left _ (List.mem_of_getElem? (i := 1) rfl))) rfl (v := ((gI g r0 26) + 1)) rfl rfl rfl dX11_countAll_91 (fun H locs hc => ?_)
        obtain ⟨g40, eg41⟩ : ∃ z, z = sU g r0 26 ((gI g r0 26) + 1) := ⟨_, rfl⟩
        have hc : gC D cA (gA g0 sz) s g40 H locs := by rw [eg41]; exact hc
        replace h := h g40 eg41
        refine lv_iconst (v := 0) hx hb dX11_countAll_94 (by decide) ?_
        refine lv_istore_n (lv' := [(2, .int 0), (0, .ref r0), (1, .int i1)]) hx hb dX11_countAll_95 rfl hl (by decide) rfl (fun ls hl => ?_)
        exact hb_96 i1 g40 0 h _ _ _ hc (lv_sub hl [1, 2, 0] rfl)
      · have h := h.1 c39
        refine lv_goto (tgt := 214) hx hb dX11_countAll_81 (by decide) ?_
        exact hb_214 g i1 h _ _ _ hc (lv_sub hl [0, 1] rfl)
  have hb_44 : ∀ (r0 : Nat), ∀ (g : gS) (i1 : Int32), lpx2 (l_X11_countAll_44 r0 Q) g i1 → ∀ (H : Heap) (locs : List Loc) (ls : Array Slot), gC D cA (gA g0 sz) s g H locs → lv_has ls 7 [(0, .ref r0), (1, .int i1)] → W p l e r_X11_countAll s m args below meth c H locs 0 0 (MQ below (gQv D cA g0 sz (Q)) args s 0 0 (gA g0 sz)) (F0 m 44 ls []) := by
    intro r0
    refine lpx2_run (P := fun (g : gS) (i1 : Int32) => ∀ (H : Heap) (locs : List Loc) (ls : Array Slot), gC D cA (gA g0 sz) s g H locs → lv_has ls 7 [(0, .ref r0), (1, .int i1)] → W p l e r_X11_countAll s m args below meth c H locs 0 0 (MQ below (gQv D cA g0 sz (Q)) args s 0 0 (gA g0 sz)) (F0 m 44 ls [])) ?_
    intro k44 hk_44 g i1 h H locs ls hc hl
    unfold l_X11_countAll_44 at h
    refine lv_iload_n hx hb dX11_countAll_44 rfl (lv_at hl 1 rfl) ?_
    refine lv_iconst (v := 3) hx hb dX11_countAll_45 (by decide) ?_
    refine lv_icmp_ge (tgt := 62) hx hb dX11_countAll_46 (by decide) (fun c42 => ?_) (fun c42 => ?_)
    · have h := h.1 c42
      refine lv_iconst (v := 0) hx hb dX11_countAll_62 (by decide) ?_
      refine lv_istore_n (lv' := [(1, .int 0), (0, .ref r0)]) hx hb dX11_countAll_63 rfl hl (by decide) rfl (fun ls hl => ?_)
      exact hb_64 r0 g 0 h _ _ _ hc (lv_sub hl [1, 0] rfl)
    · have h := h.2 c42
      refine lv_aload_n hx hb dX11_countAll_49 rfl (lv_at hl 0 rfl) ?_
      obtain ⟨hk43, h⟩ := h
      obtain ⟨y44, e45, h⟩ := h
      refine g_getr CF hc hk43 rfl (by decide) (fun _ h9 => List.mem_cons_of_mem _ (List.mem_append_right _ (h9))) (k := 27) (by decide) (List.mem_cons_of_mem _ (List.mem_append_left _ (List.mem_of_getElem? (i := 3) rfl))) e45 rfl dX11_countAll_50 ?_
      refine lv_iload_n hx hb dX11_countAll_53 rfl (lv_at hl 1 rfl) ?_
      refine lv_iconst (v := 0) hx hb dX11_countAll_54 (by decide) ?_
      obtain ⟨hk46, h⟩ := h
      obtain ⟨hi47, h⟩ := h
      refine g_iast CF hc hk46 (x := 0) hi47 dX11_countAll_55 (fun H locs hc => ?_)
      obtain ⟨g48, eg49⟩ : ∃ z, z = sU g y44 (Int32.toNatClampNeg i1) 0 := ⟨_, rfl⟩
      have hc : gC D cA (gA g0 sz) s g48 H locs := by rw [eg49]; exact hc
      replace h := h g48 eg49
      refine lv_iinc (v := (i1 + 1)) (lv' := [(1, .int (i1 + 1)), (0, .ref r0)]) hx hb dX11_countAll_56 hl (k := 1) rfl rfl (by decide) rfl (fun ls hl => ?_)
      refine lv_goto (tgt := 44) hx hb dX11_countAll_59 (by decide) ?_
      exact hk_44 g48 (i1 + 1) h _ _ _ hc (lv_sub hl [1, 0] rfl)
  have hb_20 : ∀ (r0 : Nat), ∀ (g : gS) (i1 : Int32), lpx2 (l_X11_countAll_20 r0 Q) g i1 → ∀ (H : Heap) (locs : List Loc) (ls : Array Slot), gC D cA (gA g0 sz) s g H locs → lv_has ls 7 [(0, .ref r0), (1, .int i1)] → W p l e r_X11_countAll s m args below meth c H locs 0 0 (MQ below (gQv D cA g0 sz (Q)) args s 0 0 (gA g0 sz)) (F0 m 20 ls []) := by
    intro r0
    refine lpx2_run (P := fun (g : gS) (i1 : Int32) => ∀ (H : Heap) (locs : List Loc) (ls : Array Slot), gC D cA (gA g0 sz) s g H locs → lv_has ls 7 [(0, .ref r0), (1, .int i1)] → W p l e r_X11_countAll s m args below meth c H locs 0 0 (MQ below (gQv D cA g0 sz (Q)) args s 0 0 (gA g0 sz)) (F0 m 20 ls [])) ?_
    intro k20 hk_20 g i1 h H locs ls hc hl
    unfold l_X11_countAll_20 at h
    refine lv_iload_n hx hb dX11_countAll_20 rfl (lv_at hl 1 rfl) ?_
    refine lv_aload_n hx hb dX11_countAll_21 rfl (lv_at hl 0 rfl) ?_
    obtain ⟨hk50, h⟩ := h
    obtain ⟨y51, e52, h⟩ := h
    refine g_getr CF hc hk50 rfl (by decide) (fun _ h9 => List.mem_cons_of_mem _ (List.mem_append_right _ (h9))) (k := 28) (by decide) (List.mem_cons_of_mem _ (List.mem_append_left _ (List.mem_of_getElem? (i := 2) rfl))) e52 rfl dX11_countAll_22 ?_
    obtain ⟨hk53, h⟩ := h
    refine g_alen CF hc (j := 0) hk53 (by decide) dX11_countAll_25 ?_
    refine lv_icmp_ge (tgt := 42) hx hb dX11_countAll_26 (by decide) (fun c54 => ?_) (fun c54 => ?_)
    · have h := h.1 c54
      refine lv_iconst (v := 0) hx hb dX11_countAll_42 (by decide) ?_
      refine lv_istore_n (lv' := [(1, .int 0), (0, .ref r0)]) hx hb dX11_countAll_43 rfl hl (by decide) rfl (fun ls hl => ?_)
      exact hb_44 r0 g 0 h _ _ _ hc (lv_sub hl [1, 0] rfl)
    · have h := h.2 c54
      refine lv_aload_n hx hb dX11_countAll_29 rfl (lv_at hl 0 rfl) ?_
      obtain ⟨y55, e56, h⟩ := h
      refine g_getr CF hc hk50 rfl (by decide) (fun _ h9 => List.mem_cons_of_mem _ (List.mem_append_right _ (h9))) (k := 28) (by decide) (List.mem_cons_of_mem _ (List.mem_append_left _ (List.mem_of_getElem? (i := 2) rfl))) e56 rfl dX11_countAll_30 ?_
      refine lv_iload_n hx hb dX11_countAll_33 rfl (lv_at hl 1 rfl) ?_
      refine lv_iconst (v := 0) hx hb dX11_countAll_34 (by decide) ?_
      obtain ⟨hk57, h⟩ := h
      obtain ⟨hi58, h⟩ := h
      refine g_iast CF hc hk57 (x := 0) hi58 dX11_countAll_35 (fun H locs hc => ?_)
      obtain ⟨g59, eg60⟩ : ∃ z, z = sU g y55 (Int32.toNatClampNeg i1) 0 := ⟨_, rfl⟩
      have hc : gC D cA (gA g0 sz) s g59 H locs := by rw [eg60]; exact hc
      replace h := h g59 eg60
      refine lv_iinc (v := (i1 + 1)) (lv' := [(1, .int (i1 + 1)), (0, .ref r0)]) hx hb dX11_countAll_36 hl (k := 1) rfl rfl (by decide) rfl (fun ls hl => ?_)
      refine lv_goto (tgt := 20) hx hb dX11_countAll_39 (by decide) ?_
      exact hk_20 g59 (i1 + 1) h _ _ _ hc (lv_sub hl [1, 0] rfl)
  unfold w_X11_countAll at h
  obtain ⟨H, hH0⟩ : ∃ z, z = s.heap := ⟨_, rfl⟩
  rw [← hH0] at hc ⊢
  obtain ⟨locs, hlc0⟩ : ∃ z : List Loc, z = [] := ⟨_, rfl⟩
  rw [← hlc0] at hc ⊢
  refine lv_aload_n hx hb dX11_countAll_0 rfl (lv_at hl 0 rfl) ?_
  obtain ⟨hk61, h⟩ := h
  refine g_get CF hc hk61 rfl (by decide) (fun _ h9 => List.mem_cons_of_mem _ (List.mem_append_right _ (h9))) (k := 25) (by decide) (List.mem_cons_of_mem _ (List.mem_append_left _ (List.mem_of_getElem? (i := 0) rfl))) rfl dX11_countAll_1 ?_
  refine lv_if_eq (tgt := 8) hx hb dX11_countAll_4 (by decide) (fun c62 => ?_) (fun c62 => ?_)
  · have h := h.1 c62
    refine lv_aload_n hx hb dX11_countAll_8 rfl (lv_at hl 0 rfl) ?_
    refine lv_iconst (v := 1) hx hb dX11_countAll_9 (by decide) ?_
    refine g_puti CF hc hk61 rfl (by decide) (fun _ h9 => List.mem_cons_of_mem _ (List.mem_append_right _ (h9))) tyX11 tyX11_ok nmX11 (k := 25) (by decide) (List.mem_cons_of_mem _ (List.mem_append_left _ (List.mem_of_getElem? (i := 0) rfl))) rfl (v := 1) (narrow_01 (by decide : (1 : Int32) = 0 ∨ (1 : Int32) = 1)) (fits_01 (by decide : (1 : Int32) = 0 ∨ (1 : Int32) = 1)) rfl dX11_countAll_10 (fun H locs hc => ?_)
    obtain ⟨g63, eg64⟩ : ∃ z, z = sU g0 p0 25 1 := ⟨_, rfl⟩
    have hc : gC D cA (gA g0 sz) s g63 H locs := by rw [eg64]; exact hc
    replace h := h g63 eg64
    refine lv_aload_n hx hb dX11_countAll_13 rfl (lv_at hl 0 rfl) ?_
    refine lv_iconst (v := 0) hx hb dX11_countAll_14 (by decide) ?_
    obtain ⟨hk65, h⟩ := h
    refine g_puti CF hc hk65 rfl (by decide) (fun _ h9 => List.mem_cons_of_mem _ (List.mem_append_right _ (h9))) tyX11 tyX11_ok nmX11 (k := 26) (by decide) (List.mem_cons_of_mem _ (List.mem_append_left _ (List.mem_of_getElem? (i := 1) rfl))) rfl (v := 0) rfl rfl rfl dX11_countAll_15 (fun H locs hc => ?_)
    obtain ⟨g66, eg67⟩ : ∃ z, z = sU g63 p0 26 0 := ⟨_, rfl⟩
    have hc : gC D cA (gA g0 sz) s g66 H locs := by rw [eg67]; exact hc
    replace h := h g66 eg67
    refine lv_iconst (v := 0) hx hb dX11_countAll_18 (by decide) ?_
    refine lv_istore_n (lv' := [(1, .int 0), (0, .ref p0)]) hx hb dX11_countAll_19 rfl hl (by decide) rfl (fun ls hl => ?_)
    exact hb_20 p0 g66 0 h _ _ _ hc (lv_sub hl [1, 0] rfl)
  · have h := h.2 c62
    exact g_retv CF hr hlk hc h dX11_countAll_7
def w_X11_lying (g0 : gS) (p0 : Nat) (Q : Int32 → gS → Prop) : Prop :=
  gK g0 p0 = 12 ∧ (w_X11_countAll g0 p0 (fun g3 => (gK g3 p0 = 12 ∧ (Q (gI g3 p0 26) g3))))
abbrev r_X11_lying : Room := { frames := 2, cells := 0, slots := 0, locals := 49 }
set_option maxHeartbeats 4000000 in
set_option maxRecDepth 100000 in
theorem c_X11_lying {l : Launch} {D : va_G} {cA : Nat → ClassId} {sz : Nat} {g0 : gS} {p0 : Nat} {Q : Int32 → gS → Prop} (h : w_X11_lying g0 p0 Q) : Met l yX11_lying wsX11_lying r_X11_lying (va_Pc [.ref p0] (gPre D cA g0 sz)) (gQi D cA g0 sz (Q)) 0 0 (gA g0 sz) := by
  refine g_met (cc := cX11_lying) (maxL := 1) (ret := (some .int)) (own := RX11) (by decide) rfl rfl (Nat.le_of_ble_eq_true rfl) ?_
  intro p e s m args below meth c ls CF hr hlk hnm hc hl
  obtain ⟨hx, hb, hml, hown, hts⟩ := id CF
  have hl : lv_has ls 1 [(0, .ref p0)] := hl
  show W p l e r_X11_lying s m args below meth c s.heap [] 0 0 (MQ below (gQi D cA g0 sz (Q)) args s 0 0 (gA g0 sz)) (F0 m 0 ls [])
  unfold w_X11_lying at h
  obtain ⟨H, hH0⟩ : ∃ z, z = s.heap := ⟨_, rfl⟩
  rw [← hH0] at hc ⊢
  obtain ⟨locs, hlc0⟩ : ∃ z : List Loc, z = [] := ⟨_, rfl⟩
  rw [← hlc0] at hc ⊢
  refine lv_aload_n hx hb dX11_lying_0 rfl (lv_at hl 0 rfl) ?_
  obtain ⟨hk1, h⟩ := h
  refine g_callv (va_runV (As := []) (rest := []) CF (c_X11_countAll h) (cwV 0 hts gX11_lying_X11_countAll rfl rfl rfl (by decide +kernel) ⟨Nat.le_of_ble_eq_true rfl, Nat.le_of_ble_eq_true rfl⟩) (hc.preV hk1 rfl (by decide)) rfl rfl hl.1 rfl (lv_room (Nat.le_of_ble_eq_true rfl)) dX11_lying_1 ⟨Nat.le_of_ble_eq_true rfl, Nat.le_of_ble_eq_true rfl⟩) hc (fun g3 H locs hq hc => ?_)
  replace h := hq
  refine lv_aload_n hx hb dX11_lying_4 rfl (lv_at hl 0 rfl) ?_
  obtain ⟨hk5, h⟩ := h
  refine g_get CF hc hk5 rfl (by decide) (fun _ h9 => List.mem_cons_of_mem _ (List.mem_append_right _ (h9))) (k := 26) (by decide) (List.mem_cons_of_mem _ (List.mem_append_left _ (List.mem_of_getElem? (i := 0) rfl))) rfl dX11_lying_5 ?_
  exact g_reti (r := (gI g3 p0 26)) CF hr hlk hc rfl h dX11_lying_8
