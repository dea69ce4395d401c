def b_X11_count_60 (g : gS) (is0 : Int32) (Q : Int32 → Prop) : Prop :=
  Q is0
def b_X11_count_36 (g : gS) (r0 : Nat) (i1 : Int32) (i2 : Int32) (i3 : Int32) (i5 : Int32) (is0 : Int32) (is1 : Int32) (Q : Int32 → Prop) (k6 : Int32 → Int32 → Prop) : Prop :=
  k6 (is0 + is1) (i5 + 1)
def l_X11_count_6 (g : gS) (r0 : Nat) (i1 : Int32) (i2 : Int32) (i3 : Int32) (Q : Int32 → Prop) (i4 : Int32) (i5 : Int32) (k6 : Int32 → Int32 → Prop) : Prop :=
  gK g r0 = 12 ∧ (w_X11_many g r0 i1 i2 (fun x2 => ((x2 ≤ i5 → (∃ y5, gR g r0 10 = some y5 ∧ (gK g y5 = 22 ∧ (vp_in i3 (gN g y5) ∧ (((gI g y5 (Int32.toNatClampNeg i3)) = 0 → (b_X11_count_60 g i4 Q)) ∧ (¬ (gI g y5 (Int32.toNatClampNeg i3)) = 0 → (b_X11_count_60 g 0 Q))))))) ∧ (¬ x2 ≤ i5 → (w_X11_at g r0 i1 i2 i5 (fun x10 => ((x10 = i3 → (b_X11_count_36 g r0 i1 i2 i3 i5 i4 1 Q k6)) ∧ (¬ x10 = i3 → (b_X11_count_36 g r0 i1 i2 i3 i5 i4 0 Q k6)))))))))
def w_X11_count (g : gS) (p0 : Nat) (p1 : Int32) (p2 : Int32) (p3 : Int32) (Q : Int32 → Prop) : Prop :=
  lpx2 (l_X11_count_6 g p0 p1 p2 p3 Q) 0 0
abbrev r_X11_count : Room := { frames := 1, cells := 0, slots := 0, locals := 23 }
set_option maxHeartbeats 4000000 in
set_option maxRecDepth 100000 in
theorem c_X11_count {l : Launch} {D : va_G} {cA : Nat → ClassId} {sz : Nat} {g : gS} {p0 : Nat} {p1 : Int32} {p2 : Int32} {p3 : Int32} {Q : Int32 → Prop} (h : w_X11_count g p0 p1 p2 p3 Q) : Met l yX11_count wsX11_count r_X11_count (va_Pc [.ref p0, .int p1, .int p2, .int p3] (gPre D cA g sz)) (gQi D cA g sz (fun r g2 => g = g2 ∧ Q r)) 0 0 (gA g sz) := by
  refine g_met (cc := cX11_count) (maxL := 6) (ret := (some .int)) (own := RX11) (by decide) rfl rfl (Nat.le_of_ble_eq_true rfl) ?_
  intro p e s m args below meth c ls CF hr hlk hnm hc hl
  obtain ⟨hx, hb, hml, hown, hts⟩ := id CF
  have hl : lv_has ls 6 [(0, .ref p0), (1, .int p1), (2, .int p2), (3, .int p3)] := hl
  show W p l e r_X11_count s m args below meth c s.heap [] 0 0 (MQ below (gQi D cA g sz (fun r g2 => g = g2 ∧ Q r)) args s 0 0 (gA g sz)) (F0 m 0 ls [])
  have hb_60 : ∀ (is0 : Int32), b_X11_count_60 g is0 Q → ∀ (H : Heap) (locs : List Loc) (ls : Array Slot), gC D cA (gA g sz) s g H locs → lv_has ls 6 [] → W p l e r_X11_count s m args below meth c H locs 0 0 (MQ below (gQi D cA g sz (fun r g2 => g = g2 ∧ Q r)) args s 0 0 (gA g sz)) (F0 m 60 ls [.int is0]) := by
    intro is0 h H locs ls hc hl
    unfold b_X11_count_60 at h
    exact g_reti (r := is0) CF hr hlk hc rfl ⟨rfl, h⟩ dX11_count_60
  have hb_6 : ∀ (r0 : Nat) (i1 : Int32) (i2 : Int32) (i3 : Int32), ∀ (i4 : Int32) (i5 : Int32), lpx2 (l_X11_count_6 g r0 i1 i2 i3 Q) i4 i5 → ∀ (H : Heap) (locs : List Loc) (ls : Array Slot), gC D cA (gA g sz) s g H locs → lv_has ls 6 [(0, .ref r0), (1, .int i1), (2, .int i2), (3, .int i3), (4, .int i4), (5, .int i5)] → W p l e r_X11_count s m args below meth c H locs 0 0 (MQ below (gQi D cA g sz (fun r g2 => g = g2 ∧ Q r)) args s 0 0 (gA g sz)) (F0 m 6 ls []) := by
    intro r0 i1 i2 i3
    refine lpx2_run (P := fun (i4 : Int32) (i5 : Int32) => ∀ (H : Heap) (locs : List Loc) (ls : Array Slot), gC D cA (gA g sz) s g H locs → lv_has ls 6 [(0, .ref r0), (1, .int i1), (2, .int i2), (3, .int i3), (4, .int i4), (5, .int i5)] → W p l e r_X11_count s m args below meth c H locs 0 0 (MQ below (gQi D cA g sz (fun r g2 => g = g2 ∧ Q r)) args s 0 0 (gA g sz)) (F0 m 6 ls [])) ?_
    intro k6 hk_6 i4 i5 h H locs ls hc hl
    have hb_36 : ∀ (i5 : Int32) (is0 : Int32) (is1 : Int32), b_X11_count_36 g r0 i1 i2 i3 i5 is0 is1 Q k6 → ∀ (H : Heap) (locs : List Loc) (ls : Array Slot), gC D cA (gA g sz) s g H locs → lv_has ls 6 [(0, .ref r0), (1, .int i1), (2, .int i2), (3, .int i3), (5, .int i5)] → W p l e r_X11_count s m args below meth c H locs 0 0 (MQ below (gQi D cA g sz (fun r g2 => g = g2 ∧ Q r)) args s 0 0 (gA g sz)) (F0 m 36 ls [.int is1, .int is0]) := by
      intro i5 is0 is1 h H locs ls hc hl
      unfold b_X11_count_36 at h
      refine lv_iadd hx hb dX11_count_36 ?_
      refine lv_istore (lv' := [(4, .int (is0 + is1)), (0, .ref r0), (1, .int i1), (2, .int i2), (3, .int i3), (5, .int i5)]) hx hb dX11_count_37 hl (by decide) rfl (fun ls hl => ?_)
      refine lv_iinc (v := (i5 + 1)) (lv' := [(5, .int (i5 + 1)), (4, .int (is0 + is1)), (0, .ref r0), (1, .int i1), (2, .int i2), (3, .int i3)]) hx hb dX11_count_39 hl (k := 5) rfl rfl (by decide) rfl (fun ls hl => ?_)
      refine lv_goto (tgt := 6) hx hb dX11_count_42 (by decide) ?_
      exact hk_6 (is0 + is1) (i5 + 1) h _ _ _ hc (lv_sub hl [2, 3, 4, 5, 1, 0] rfl)
    unfold l_X11_count_6 at h
    refine lv_iload hx hb dX11_count_6 (lv_at hl 5 rfl) ?_
    refine lv_aload_n hx hb dX11_count_8 rfl (lv_at hl 0 rfl) ?_
    refine lv_iload_n hx hb dX11_count_9 rfl (lv_at hl 1 rfl) ?_
    refine lv_iload_n hx hb dX11_count_10 rfl (lv_at hl 2 rfl) ?_
    obtain ⟨hk1, h⟩ := h
    refine g_calli (va_runV (As := [.int i1, .int i2]) (rest := [.int i5]) CF (c_X11_many h) (cwV 2 hts gX11_count_X11_many rfl rfl rfl (by decide +kernel) ⟨Nat.le_of_ble_eq_true rfl, Nat.le_of_ble_eq_true rfl⟩) (hc.preV hk1 rfl (by decide)) rfl rfl hl.1 rfl (lv_room (Nat.le_of_ble_eq_true rfl)) dX11_count_11 ⟨Nat.le_of_ble_eq_true rfl, Nat.le_of_ble_eq_true rfl⟩) hc (fun x2 gq3 H locs hq hc => ?_)
    obtain ⟨rfl, h⟩ := hq
    refine lv_icmp_ge (tgt := 45) hx hb dX11_count_14 (by decide) (fun c4 => ?_) (fun c4 => ?_)
    · have h := h.1 c4
      refine lv_aload_n hx hb dX11_count_45 rfl (lv_at hl 0 rfl) ?_
      obtain ⟨y5, e6, h⟩ := h
      refine g_getr CF hc hk1 rfl (by decide) (fun _ h9 => List.mem_cons_of_mem _ (List.mem_append_right _ (h9))) (k := 10) (by decide) (List.mem_cons_of_mem _ (List.mem_append_left _ (List.mem_of_getElem? (i := 0) rfl))) e6 rfl dX11_count_46 ?_
      refine lv_iload_n hx hb dX11_count_49 rfl (lv_at hl 3 rfl) ?_
      obtain ⟨hk7, h⟩ := h
      obtain ⟨hi8, h⟩ := h
      refine g_zald CF hc hk7 hi8 dX11_count_50 ?_
      refine lv_if_eq (tgt := 58) hx hb dX11_count_51 (by decide) (fun c9 => ?_) (fun c9 => ?_)
      · have h := h.1 c9
        refine lv_iload hx hb dX11_count_58 (lv_at hl 4 rfl) ?_
        exact hb_60 i4 h _ _ _ hc (lv_sub hl [] rfl)
      · have h := h.2 c9
        refine lv_iconst (v := 0) hx hb dX11_count_54 (by decide) ?_
        refine lv_goto (tgt := 60) hx hb dX11_count_55 (by decide) ?_
        exact hb_60 0 h _ _ _ hc (lv_sub hl [] rfl)
    · have h := h.2 c4
      refine lv_iload hx hb dX11_count_17 (lv_at hl 4 rfl) ?_
      refine lv_aload_n hx hb dX11_count_19 rfl (lv_at hl 0 rfl) ?_
      refine lv_iload_n hx hb dX11_count_20 rfl (lv_at hl 1 rfl) ?_
      refine lv_iload_n hx hb dX11_count_21 rfl (lv_at hl 2 rfl) ?_
      refine lv_iload hx hb dX11_count_22 (lv_at hl 5 rfl) ?_
      refine g_calli (va_runV (As := [.int i1, .int i2, .int i5]) (rest := [.int i4]) CF (c_X11_at h) (cwV 3 hts gX11_count_X11_at rfl rfl rfl (by decide +kernel) ⟨Nat.le_of_ble_eq_true rfl, Nat.le_of_ble_eq_true rfl⟩) (hc.preV hk1 rfl (by decide)) rfl rfl hl.1 rfl (lv_room (Nat.le_of_ble_eq_true rfl)) dX11_count_24 ⟨Nat.le_of_ble_eq_true rfl, Nat.le_of_ble_eq_true rfl⟩) hc (fun x10 gq11 H locs hq hc => ?_)
      obtain ⟨rfl, h⟩ := hq
      refine lv_iload_n hx hb dX11_count_27 rfl (lv_at hl 3 rfl) ?_
      refine lv_icmp_ne (tgt := 35) hx hb dX11_count_28 (by decide) (fun c12 => ?_) (fun c12 => ?_)
      · have h := h.2 c12
        refine lv_iconst (v := 0) hx hb dX11_count_35 (by decide) ?_
        exact hb_36 i5 i4 0 h _ _ _ hc (lv_sub hl [0, 1, 2, 3, 5] rfl)
      · have h := h.1 c12
        refine lv_iconst (v := 1) hx hb dX11_count_31 (by decide) ?_
        refine lv_goto (tgt := 36) hx hb dX11_count_32 (by decide) ?_
        exact hb_36 i5 i4 1 h _ _ _ hc (lv_sub hl [0, 1, 2, 3, 5] rfl)
  unfold w_X11_count at h
  obtain ⟨H, hH0⟩ : ∃ z, z = s.heap := ⟨_, rfl⟩
  rw [← hH0] at hc ⊢
  obtain ⟨locs, hlc0⟩ : ∃ z : List Loc, z = [] := ⟨_, rfl⟩
  rw [← hlc0] at hc ⊢
  refine lv_iconst (v := 0) hx hb dX11_count_0 (by decide) ?_
  refine lv_istore (lv' := [(4, .int 0), (0, .ref p0), (1, .int p1), (2, .int p2), (3, .int p3)]) hx hb dX11_count_1 hl (by decide) rfl (fun ls hl => ?_)
  refine lv_iconst (v := 0) hx hb dX11_count_3 (by decide) ?_
  refine lv_istore (lv' := [(5, .int 0), (4, .int 0), (0, .ref p0), (1, .int p1), (2, .int p2), (3, .int p3)]) hx hb dX11_count_4 hl (by decide) rfl (fun ls hl => ?_)
  exact hb_6 p0 p1 p2 p3 0 0 h _ _ _ hc (lv_sub hl [2, 3, 4, 5, 1, 0] rfl)
def w_X11_spreadNow (g0 : gS) (p0 : Nat) (p1 : Int32) (p2 : Int32) (Q : Int32 → gS → Prop) : Prop :=
  gK g0 p0 = 12 ∧ (w_X11_countAll g0 p0 (fun g3 => (gK g3 p0 = 12 ∧ (∃ y6, gR g3 p0 28 = some y6 ∧ (gK g3 y6 = 21 ∧ (vp_in ((p1 * 3) + p2) (gN g3 y6) ∧ (Q (gI g3 y6 (Int32.toNatClampNeg ((p1 * 3) + p2))) g3)))))))
abbrev r_X11_spreadNow : Room := { frames := 2, cells := 0, slots := 0, locals := 49 }
set_option maxHeartbeats 4000000 in
set_option maxRecDepth 100000 in
theorem c_X11_spreadNow {l : Launch} {D : va_G} {cA : Nat → ClassId} {sz : Nat} {g0 : gS} {p0 : Nat} {p1 : Int32} {p2 : Int32} {Q : Int32 → gS → Prop} (h : w_X11_spreadNow g0 p0 p1 p2 Q) : Met l yX11_spreadNow wsX11_spreadNow r_X11_spreadNow (va_Pc [.ref p0, .int p1, .int p2] (gPre D cA g0 sz)) (gQi D cA g0 sz (Q)) 0 0 (gA g0 sz) := by
  refine g_met (cc := cX11_spreadNow) (maxL := 3) (ret := (some .int)) (own := RX11) (by decide) rfl rfl (Nat.le_of_ble_eq_true rfl) ?_
  intro p e s m args below meth c ls CF hr hlk hnm hc hl
  obtain ⟨hx, hb, hml, hown, hts⟩ := id CF
  have hl : lv_has ls 3 [(0, .ref p0), (1, .int p1), (2, .int p2)] := hl
  show W p l e r_X11_spreadNow s m args below meth c s.heap [] 0 0 (MQ below (gQi D cA g0 sz (Q)) args s 0 0 (gA g0 sz)) (F0 m 0 ls [])
  unfold w_X11_spreadNow at h
  obtain ⟨H, hH0⟩ : ∃ z, z = s.heap := ⟨_, rfl⟩
  rw [← hH0] at hc ⊢
  obtain ⟨locs, hlc0⟩ : ∃ z : List Loc, z = [] := ⟨_, rfl⟩
  rw [← hlc0] at hc ⊢
  refine lv_aload_n hx hb dX11_spreadNow_0 rfl (lv_at hl 0 rfl) ?_
  obtain ⟨hk1, h⟩ := h
  refine g_callv (va_runV (As := []) (rest := []) CF (c_X11_countAll h) (cwV 0 hts gX11_spreadNow_X11_countAll rfl rfl rfl (by decide +kernel) ⟨Nat.le_of_ble_eq_true rfl, Nat.le_of_ble_eq_true rfl⟩) (hc.preV hk1 rfl (by decide)) rfl rfl hl.1 rfl (lv_room (Nat.le_of_ble_eq_true rfl)) dX11_spreadNow_1 ⟨Nat.le_of_ble_eq_true rfl, Nat.le_of_ble_eq_true rfl⟩) hc (fun g3 H locs hq hc => ?_)
  replace h := hq
  refine lv_aload_n hx hb dX11_spreadNow_4 rfl (lv_at hl 0 rfl) ?_
  obtain ⟨hk5, h⟩ := h
  obtain ⟨y6, e7, h⟩ := h
  refine g_getr CF hc hk5 rfl (by decide) (fun _ h9 => List.mem_cons_of_mem _ (List.mem_append_right _ (h9))) (k := 28) (by decide) (List.mem_cons_of_mem _ (List.mem_append_left _ (List.mem_of_getElem? (i := 0) rfl))) e7 rfl dX11_spreadNow_5 ?_
  refine lv_iload_n hx hb dX11_spreadNow_8 rfl (lv_at hl 1 rfl) ?_
  refine lv_iconst (v := 3) hx hb dX11_spreadNow_9 (by decide) ?_
  refine lv_imul hx hb dX11_spreadNow_10 ?_
  refine lv_iload_n hx hb dX11_spreadNow_11 rfl (lv_at hl 2 rfl) ?_
  refine lv_iadd hx hb dX11_spreadNow_12 ?_
  obtain ⟨hk8, h⟩ := h
  obtain ⟨hi9, h⟩ := h
  refine g_iald CF hc hk8 hi9 dX11_spreadNow_13 ?_
  exact g_reti (r := (gI g3 y6 (Int32.toNatClampNeg ((p1 * 3) + p2)))) CF hr hlk hc rfl h dX11_spreadNow_14
def b_X11_root_25 (g : gS) (i0 : Int32) (i1 : Int32) (i2 : Int32) (Q : Int32 → Prop) (k6 : Int32 → Int32 → Prop) : Prop :=
  k6 i1 (i2 / 2)
def l_X11_root_6 (g : gS) (i0 : Int32) (Q : Int32 → Prop) (i1 : Int32) (i2 : Int32) (k6 : Int32 → Int32 → Prop) : Prop :=
  (i2 ≤ 0 → (Q i1)) ∧ (¬ i2 ≤ 0 → ((i0 < ((i1 + i2) * (i1 + i2)) → (b_X11_root_25 g i0 i1 i2 Q k6)) ∧ (¬ i0 < ((i1 + i2) * (i1 + i2)) → (b_X11_root_25 g i0 (i1 + i2) i2 Q k6))))
def w_X11_root (g : gS) (p0 : Int32) (Q : Int32 → Prop) : Prop :=
  lpx2 (l_X11_root_6 g p0 Q) 0 16384
abbrev r_X11_root : Room := { frames := 0, cells := 0, slots := 0, locals := 0 }
set_option maxHeartbeats 4000000 in
set_option maxRecDepth 100000 in
theorem c_X11_root {l : Launch} {D : va_G} {cA : Nat → ClassId} {sz : Nat} {g : gS} {p0 : Int32} {Q : Int32 → Prop} (h : w_X11_root g p0 Q) : Met l yX11_root wsX11_root r_X11_root (va_Pc [.int p0] (gPre D cA g sz)) (gQi D cA g sz (fun r g2 => g = g2 ∧ Q r)) 0 0 (gA g sz) := by
  refine g_met (cc := cX11_root) (maxL := 3) (ret := (some .int)) (own := RX11) (by decide) rfl rfl (Nat.le_of_ble_eq_true rfl) ?_
  intro p e s m args below meth c ls CF hr hlk hnm hc hl
  obtain ⟨hx, hb, hml, hown, hts⟩ := id CF
  have hl : lv_has ls 3 [(0, .int p0)] := hl
  show W p l e r_X11_root s m args below meth c s.heap [] 0 0 (MQ below (gQi D cA g sz (fun r g2 => g = g2 ∧ Q r)) args s 0 0 (gA g sz)) (F0 m 0 ls [])
  have hb_6 : ∀ (i0 : Int32), ∀ (i1 : Int32) (i2 : Int32), lpx2 (l_X11_root_6 g i0 Q) i1 i2 → ∀ (H : Heap) (locs : List Loc) (ls : Array Slot), gC D cA (gA g sz) s g H locs → lv_has ls 3 [(0, .int i0), (1, .int i1), (2, .int i2)] → W p l e r_X11_root s m args below meth c H locs 0 0 (MQ below (gQi D cA g sz (fun r g2 => g = g2 ∧ Q r)) args s 0 0 (gA g sz)) (F0 m 6 ls []) := by
    intro i0
    refine lpx2_run (P := fun (i1 : Int32) (i2 : Int32) => ∀ (H : Heap) (locs : List Loc) (ls : Array Slot), gC D cA (gA g sz) s g H locs → lv_has ls 3 [(0, .int i0), (1, .int i1), (2, .int i2)] → W p l e r_X11_root s m args below meth c H locs 0 0 (MQ below (gQi D cA g sz (fun r g2 => g = g2 ∧ Q r)) args s 0 0 (gA g sz)) (F0 m 6 ls [])) ?_
    intro k6 hk_6 i1 i2 h H locs ls hc hl
    have hb_25 : ∀ (i1 : Int32) (i2 : Int32), b_X11_root_25 g i0 i1 i2 Q k6 → ∀ (H : Heap) (locs : List Loc) (ls : Array Slot), gC D cA (gA g sz) s g H locs → lv_has ls 3 [(0, .int i0), (1, .int i1), (2, .int i2)] → W p l e r_X11_root s m args below meth c H locs 0 0 (MQ below (gQi D cA g sz (fun r g2 => g = g2 ∧ Q r)) args s 0 0 (gA g sz)) (F0 m 25 ls []) := by
      intro i1 i2 h H locs ls hc hl
      unfold b_X11_root_25 at h
      refine lv_iload_n hx hb dX11_root_25 rfl (lv_at hl 2 rfl) ?_
      refine lv_iconst (v := 2) hx hb dX11_root_26 (by decide) ?_
      refine lv_idiv hx hb dX11_root_27 (by decide) ?_
      refine lv_istore_n (lv' := [(2, .int (i2 / 2)), (0, .int i0), (1, .int i1)]) hx hb dX11_root_28 rfl hl (by decide) rfl (fun ls hl => ?_)
      refine lv_goto (tgt := 6) hx hb dX11_root_29 (by decide) ?_
      exact hk_6 i1 (i2 / 2) h _ _ _ hc (lv_sub hl [1, 2, 0] rfl)
    unfold l_X11_root_6 at h
    refine lv_iload_n hx hb dX11_root_6 rfl (lv_at hl 2 rfl) ?_
    refine lv_if_le (tgt := 32) hx hb dX11_root_7 (by decide) (fun c1 => ?_) (fun c1 => ?_)
    · have h := h.1 c1
      refine lv_iload_n hx hb dX11_root_32 rfl (lv_at hl 1 rfl) ?_
      exact g_reti (r := i1) CF hr hlk hc rfl ⟨rfl, h⟩ dX11_root_33
    · have h := h.2 c1
      refine lv_iload_n hx hb dX11_root_10 rfl (lv_at hl 1 rfl) ?_
      refine lv_iload_n hx hb dX11_root_11 rfl (lv_at hl 2 rfl) ?_
      refine lv_iadd hx hb dX11_root_12 ?_
      refine lv_iload_n hx hb dX11_root_13 rfl (lv_at hl 1 rfl) ?_
      refine lv_iload_n hx hb dX11_root_14 rfl (lv_at hl 2 rfl) ?_
      refine lv_iadd hx hb dX11_root_15 ?_
      refine lv_imul hx hb dX11_root_16 ?_
      refine lv_iload_n hx hb dX11_root_17 rfl (lv_at hl 0 rfl) ?_
      refine lv_icmp_gt (tgt := 25) hx hb dX11_root_18 (by decide) (fun c2 => ?_) (fun c2 => ?_)
      · have h := h.1 c2
        exact hb_25 i1 i2 h _ _ _ hc (lv_sub hl [0, 1, 2] rfl)
      · have h := h.2 c2
        refine lv_iload_n hx hb dX11_root_21 rfl (lv_at hl 1 rfl) ?_
        refine lv_iload_n hx hb dX11_root_22 rfl (lv_at hl 2 rfl) ?_
        refine lv_iadd hx hb dX11_root_23 ?_
        refine lv_istore_n (lv' := [(1, .int (i1 + i2)), (0, .int i0), (2, .int i2)]) hx hb dX11_root_24 rfl hl (by decide) rfl (fun ls hl => ?_)
        exact hb_25 (i1 + i2) i2 h _ _ _ hc (lv_sub hl [1, 0, 2] rfl)
  unfold w_X11_root at h
  obtain ⟨H, hH0⟩ : ∃ z, z = s.heap := ⟨_, rfl⟩
  rw [← hH0] at hc ⊢
  obtain ⟨locs, hlc0⟩ : ∃ z : List Loc, z = [] := ⟨_, rfl⟩
  rw [← hlc0] at hc ⊢
  refine lv_iconst (v := 0) hx hb dX11_root_0 (by decide) ?_
  refine lv_istore_n (lv' := [(1, .int 0), (0, .int p0)]) hx hb dX11_root_1 rfl hl (by decide) rfl (fun ls hl => ?_)
  refine lv_sipush (v := 16384) hx hb dX11_root_2 (by decide) ?_
  refine lv_istore_n (lv' := [(2, .int 16384), (1, .int 0), (0, .int p0)]) hx hb dX11_root_5 rfl hl (by decide) rfl (fun ls hl => ?_)
  exact hb_6 p0 0 16384 h _ _ _ hc (lv_sub hl [2, 1, 0] rfl)
def w_X11_rareNow (g0 : gS) (p0 : Nat) (p1 : Int32) (p2 : Int32) (Q : Int32 → gS → Prop) : Prop :=
  gK g0 p0 = 12 ∧ (w_X11_lying g0 p0 (fun x2 g3 => (gK g3 p0 = 12 ∧ (w_X11_spreadNow g3 p0 p1 p2 (fun x6 g7 => (¬ (x6 + 1) = 0 ∧ (w_X11_root g7 ((10000 * (x2 + 1)) / (x6 + 1)) (fun x10 => (Q x10 g7)))))))))
abbrev r_X11_rareNow : Room := { frames := 3, cells := 0, slots := 0, locals := 71 }
set_option maxHeartbeats 4000000 in
set_option maxRecDepth 100000 in
theorem c_X11_rareNow {l : Launch} {D : va_G} {cA : Nat → ClassId} {sz : Nat} {g0 : gS} {p0 : Nat} {p1 : Int32} {p2 : Int32} {Q : Int32 → gS → Prop} (h : w_X11_rareNow g0 p0 p1 p2 Q) : Met l yX11_rareNow wsX11_rareNow r_X11_rareNow (va_Pc [.ref p0, .int p1, .int p2] (gPre D cA g0 sz)) (gQi D cA g0 sz (Q)) 0 0 (gA g0 sz) := by
  refine g_met (cc := cX11_rareNow) (maxL := 3) (ret := (some .int)) (own := RX11) (by decide) rfl rfl (Nat.le_of_ble_eq_true rfl) ?_
  intro p e s m args below meth c ls CF hr hlk hnm hc hl
  obtain ⟨hx, hb, hml, hown, hts⟩ := id CF
  have hl : lv_has ls 3 [(0, .ref p0), (1, .int p1), (2, .int p2)] := hl
  show W p l e r_X11_rareNow s m args below meth c s.heap [] 0 0 (MQ below (gQi D cA g0 sz (Q)) args s 0 0 (gA g0 sz)) (F0 m 0 ls [])
  unfold w_X11_rareNow at h
  obtain ⟨H, hH0⟩ : ∃ z, z = s.heap := ⟨_, rfl⟩
  rw [← hH0] at hc ⊢
  obtain ⟨locs, hlc0⟩ : ∃ z : List Loc, z = [] := ⟨_, rfl⟩
  rw [← hlc0] at hc ⊢
  refine lv_sipush (v := 10000) hx hb dX11_rareNow_0 (by decide) ?_
  refine lv_aload_n hx hb dX11_rareNow_3 rfl (lv_at hl 0 rfl) ?_
  obtain ⟨hk1, h⟩ := h
  refine g_calli (va_runV (As := []) (rest := [.int 10000]) CF (c_X11_lying h) (cwV 0 hts gX11_rareNow_X11_lying rfl rfl rfl (by decide +kernel) ⟨Nat.le_of_ble_eq_true rfl, Nat.le_of_ble_eq_true rfl⟩) (hc.preV hk1 rfl (by decide)) rfl rfl hl.1 rfl (lv_room (Nat.le_of_ble_eq_true rfl)) dX11_rareNow_4 ⟨Nat.le_of_ble_eq_true rfl, Nat.le_of_ble_eq_true rfl⟩) hc (fun x2 g3 H locs hq hc => ?_)
  replace h := hq
  refine lv_iconst (v := 1) hx hb dX11_rareNow_7 (by decide) ?_
  refine lv_iadd hx hb dX11_rareNow_8 ?_
  refine lv_imul hx hb dX11_rareNow_9 ?_
  refine lv_aload_n hx hb dX11_rareNow_10 rfl (lv_at hl 0 rfl) ?_
  refine lv_iload_n hx hb dX11_rareNow_11 rfl (lv_at hl 1 rfl) ?_
  refine lv_iload_n hx hb dX11_rareNow_12 rfl (lv_at hl 2 rfl) ?_
  obtain ⟨hk5, h⟩ := h
  refine g_calli (va_runV (As := [.int p1, .int p2]) (rest := [.int (10000 * (x2 + 1))]) CF (c_X11_spreadNow h) (cwV 2 hts gX11_rareNow_X11_spreadNow rfl rfl rfl (by decide +kernel) ⟨Nat.le_of_ble_eq_true rfl, Nat.le_of_ble_eq_true rfl⟩) (hc.preV hk5 rfl (by decide)) rfl rfl hl.1 rfl (lv_room (Nat.le_of_ble_eq_true rfl)) dX11_rareNow_13 ⟨Nat.le_of_ble_eq_true rfl, Nat.le_of_ble_eq_true rfl⟩) hc (fun x6 g7 H locs hq hc => ?_)
  replace h := hq
  refine lv_iconst (v := 1) hx hb dX11_rareNow_16 (by decide) ?_
  refine lv_iadd hx hb dX11_rareNow_17 ?_
  obtain ⟨hz9, h⟩ := h
  refine lv_idiv hx hb dX11_rareNow_18 hz9 ?_
  refine g_calli (va_runS (As := [.int ((10000 * (x2 + 1)) / (x6 + 1))]) (rest := []) CF (c_X11_root h) (va_cwS 1 hts gX11_rareNow_X11_root rfl rfl rfl (by decide +kernel) ⟨Nat.le_of_ble_eq_true rfl, Nat.le_of_ble_eq_true rfl⟩) hc.preS rfl rfl hl.1 rfl (lv_room (Nat.le_of_ble_eq_true rfl)) dX11_rareNow_19 ⟨Nat.le_of_ble_eq_true rfl, Nat.le_of_ble_eq_true rfl⟩) hc (fun x10 gq11 H locs hq hc => ?_)
  obtain ⟨rfl, h⟩ := hq
  exact g_reti (r := x10) CF hr hlk hc rfl h dX11_rareNow_22
def b_X11_spread_33 (g : gS) (is0 : Int32) (Q : Int32 → gS → Prop) : Prop :=
  Q is0 g
def b_X11_spread_28 (g : gS) (r0 : Nat) (Q : Int32 → gS → Prop) : Prop :=
  gK g r0 = 12 ∧ (w_X11_no g r0 1 (fun x2 g3 => (b_X11_spread_33 g3 x2 Q)))
def w_X11_spread (g0 : gS) (p0 : Nat) (p1 : Int32) (p2 : Int32) (Q : Int32 → gS → Prop) : Prop :=
  gK g0 p0 = 12 ∧ (∀ g6, g6 = sU g0 p0 0 0 → (w_X11_isTerm g6 p1 (fun x8 => ((x8 = 0 → (b_X11_spread_28 g6 p0 Q)) ∧ (¬ x8 = 0 → (w_X11_isField g6 p2 (fun x11 => ((x11 = 0 → (b_X11_spread_28 g6 p0 Q)) ∧ (¬ x11 = 0 → (gK g6 p0 = 12 ∧ (w_X11_spreadNow g6 p0 p1 p2 (fun x15 g16 => (b_X11_spread_33 g16 x15 Q)))))))))))))
abbrev r_X11_spread : Room := { frames := 3, cells := 0, slots := 0, locals := 71 }
set_option maxHeartbeats 4000000 in
set_option maxRecDepth 100000 in
theorem c_X11_spread {l : Launch} {D : va_G} {cA : Nat → ClassId} {sz : Nat} {g0 : gS} {p0 : Nat} {p1 : Int32} {p2 : Int32} {Q : Int32 → gS → Prop} (h : w_X11_spread g0 p0 p1 p2 Q) : Met l yX11_spread wsX11_spread r_X11_spread (va_Pc [.ref p0, .int p1, .int p2] (gPre D cA g0 sz)) (gQi D cA g0 sz (Q)) 0 0 (gA g0 sz) := by
  refine g_met (cc := cX11_spread) (maxL := 3) (ret := (some .int)) (own := RX11) (by decide) rfl rfl (Nat.le_of_ble_eq_true rfl) ?_
  intro p e s m args below meth c ls CF hr hlk hnm hc hl
  obtain ⟨hx, hb, hml, hown, hts⟩ := id CF
  have hl : lv_has ls 3 [(0, .ref p0), (1, .int p1), (2, .int p2)] := hl
  show W p l e r_X11_spread s m args below meth c s.heap [] 0 0 (MQ below (gQi D cA g0 sz (Q)) args s 0 0 (gA g0 sz)) (F0 m 0 ls [])
  have hb_33 : ∀ (g : gS) (is0 : Int32), b_X11_spread_33 g is0 Q → ∀ (H : Heap) (locs : List Loc) (ls : Array Slot), gC D cA (gA g0 sz) s g H locs → lv_has ls 3 [] → W p l e r_X11_spread s m args below meth c H locs 0 0 (MQ below (gQi D cA g0 sz (Q)) args s 0 0 (gA g0 sz)) (F0 m 33 ls [.int is0]) := by
    intro g is0 h H locs ls hc hl
    unfold b_X11_spread_33 at h
    exact g_reti (r := is0) CF hr hlk hc rfl h dX11_spread_33
  have hb_28 : ∀ (g : gS) (r0 : Nat), b_X11_spread_28 g r0 Q → ∀ (H : Heap) (locs : List Loc) (ls : Array Slot), gC D cA (gA g0 sz) s g H locs → lv_has ls 3 [(0, .ref r0)] → W p l e r_X11_spread s m args below meth c H locs 0 0 (MQ below (gQi D cA g0 sz (Q)) args s 0 0 (gA g0 sz)) (F0 m 28 ls []) := by
    intro g r0 h H locs ls hc hl
    unfold b_X11_spread_28 at h
    refine lv_aload_n hx hb dX11_spread_28 rfl (lv_at hl 0 rfl) ?_
    refine lv_iconst (v := 1) hx hb dX11_spread_29 (by decide) ?_
    obtain ⟨hk1, h⟩ := h
    refine g_calli (va_runV (As := [.int 1]) (rest := []) CF (c_X11_no h) (cwV 1 hts gX11_spread_X11_no rfl rfl rfl (by decide +kernel) ⟨Nat.le_of_ble_eq_true rfl, Nat.le_of_ble_eq_true rfl⟩) (hc.preV hk1 rfl (by decide)) rfl rfl hl.1 rfl (lv_room (Nat.le_of_ble_eq_true rfl)) dX11_spread_30 ⟨Nat.le_of_ble_eq_true rfl, Nat.le_of_ble_eq_true rfl⟩) hc (fun x2 g3 H locs hq hc => ?_)
    replace h := hq
    exact hb_33 g3 x2 h _ _ _ hc (lv_sub hl [] rfl)
  unfold w_X11_spread at h
  obtain ⟨H, hH0⟩ : ∃ z, z = s.heap := ⟨_, rfl⟩
  rw [← hH0] at hc ⊢
  obtain ⟨locs, hlc0⟩ : ∃ z : List Loc, z = [] := ⟨_, rfl⟩
  rw [← hlc0] at hc ⊢
  refine lv_aload_n hx hb dX11_spread_0 rfl (lv_at hl 0 rfl) ?_
  refine lv_iconst (v := 0) hx hb dX11_spread_1 (by decide) ?_
  obtain ⟨hk5, h⟩ := h
  refine g_puti CF hc hk5 rfl (by decide) (fun _ h9 => List.mem_cons_of_mem _ (List.mem_append_right _ (h9))) tyX11 tyX11_ok nmX11 (k := 0) (by decide) (List.mem_cons_of_mem _ (List.mem_append_left _ (List.mem_append_left _ (List.mem_of_getElem? (i := 0) rfl)))) rfl (v := 0) rfl rfl rfl dX11_spread_2 (fun H locs hc => ?_)
  obtain ⟨g6, eg7⟩ : ∃ z, z = sU g0 p0 0 0 := ⟨_, rfl⟩
  have hc : gC D cA (gA g0 sz) s g6 H locs := by rw [eg7]; exact hc
  replace h := h g6 eg7
  refine lv_iload_n hx hb dX11_spread_5 rfl (lv_at hl 1 rfl) ?_
  refine g_calli (va_runS (As := [.int p1]) (rest := []) CF (c_X11_isTerm h) (va_cwS 1 hts gX11_spread_X11_isTerm rfl rfl rfl (by decide +kernel) ⟨Nat.le_of_ble_eq_true rfl, Nat.le_of_ble_eq_true rfl⟩) hc.preS rfl rfl hl.1 rfl (lv_room (Nat.le_of_ble_eq_true rfl)) dX11_spread_6 ⟨Nat.le_of_ble_eq_true rfl, Nat.le_of_ble_eq_true rfl⟩) hc (fun x8 gq9 H locs hq hc => ?_)
  obtain ⟨rfl, h⟩ := hq
  refine lv_if_eq (tgt := 28) hx hb dX11_spread_9 (by decide) (fun c10 => ?_) (fun c10 => ?_)
  · have h := h.1 c10
    exact hb_28 g6 p0 h _ _ _ hc (lv_sub hl [0] rfl)
  · have h := h.2 c10
    refine lv_iload_n hx hb dX11_spread_12 rfl (lv_at hl 2 rfl) ?_
    refine g_calli (va_runS (As := [.int p2]) (rest := []) CF (c_X11_isField h) (va_cwS 1 hts gX11_spread_X11_isField rfl rfl rfl (by decide +kernel) ⟨Nat.le_of_ble_eq_true rfl, Nat.le_of_ble_eq_true rfl⟩) hc.preS rfl rfl hl.1 rfl (lv_room (Nat.le_of_ble_eq_true rfl)) dX11_spread_13 ⟨Nat.le_of_ble_eq_true rfl, Nat.le_of_ble_eq_true rfl⟩) hc (fun x11 gq12 H locs hq hc => ?_)
    obtain ⟨rfl, h⟩ := hq
    refine lv_if_eq (tgt := 28) hx hb dX11_spread_16 (by decide) (fun c13 => ?_) (fun c13 => ?_)
    · have h := h.1 c13
      exact hb_28 g6 p0 h _ _ _ hc (lv_sub hl [0] rfl)
    · have h := h.2 c13
      refine lv_aload_n hx hb dX11_spread_19 rfl (lv_at hl 0 rfl) ?_
      refine lv_iload_n hx hb dX11_spread_20 rfl (lv_at hl 1 rfl) ?_
      refine lv_iload_n hx hb dX11_spread_21 rfl (lv_at hl 2 rfl) ?_
      obtain ⟨hk14, h⟩ := h
      refine g_calli (va_runV (As := [.int p1, .int p2]) (rest := []) CF (c_X11_spreadNow h) (cwV 2 hts gX11_spread_X11_spreadNow rfl rfl rfl (by decide +kernel) ⟨Nat.le_of_ble_eq_true rfl, Nat.le_of_ble_eq_true rfl⟩) (hc.preV hk14 rfl (by decide)) rfl rfl hl.1 rfl (lv_room (Nat.le_of_ble_eq_true rfl)) dX11_spread_22 ⟨Nat.le_of_ble_eq_true rfl, Nat.le_of_ble_eq_true rfl⟩) hc (fun x15 g16 H locs hq hc => ?_)
      replace h := hq
      refine lv_goto (tgt := 33) hx hb dX11_spread_25 (by decide) ?_
      exact hb_33 g16 x15 h _ _ _ hc (lv_sub hl [] rfl)
def b_X11_rare_33 (g : gS) (is0 : Int32) (Q : Int32 → gS → Prop) : Prop :=
  Q is0 g
def b_X11_rare_28 (g : gS) (r0 : Nat) (Q : Int32 → gS → Prop) : Prop :=
  gK g r0 = 12 ∧ (w_X11_no g r0 1 (fun x2 g3 => (b_X11_rare_33 g3 x2 Q)))
def w_X11_rare (g0 : gS) (p0 : Nat) (p1 : Int32) (p2 : Int32) (Q : Int32 → gS → Prop) : Prop :=
  gK g0 p0 = 12 ∧ (∀ g6, g6 = sU g0 p0 0 0 → (w_X11_isTerm g6 p1 (fun x8 => ((x8 = 0 → (b_X11_rare_28 g6 p0 Q)) ∧ (¬ x8 = 0 → (w_X11_isField g6 p2 (fun x11 => ((x11 = 0 → (b_X11_rare_28 g6 p0 Q)) ∧ (¬ x11 = 0 → (gK g6 p0 = 12 ∧ (w_X11_rareNow g6 p0 p1 p2 (fun x15 g16 => (b_X11_rare_33 g16 x15 Q)))))))))))))
abbrev r_X11_rare : Room := { frames := 4, cells := 0, slots := 0, locals := 93 }
set_option maxHeartbeats 4000000 in
set_option maxRecDepth 100000 in
theorem c_X11_rare {l : Launch} {D : va_G} {cA : Nat → ClassId} {sz : Nat} {g0 : gS} {p0 : Nat} {p1 : Int32} {p2 : Int32} {Q : Int32 → gS → Prop} (h : w_X11_rare g0 p0 p1 p2 Q) : Met l yX11_rare wsX11_rare r_X11_rare (va_Pc [.ref p0, .int p1, .int p2] (gPre D cA g0 sz)) (gQi D cA g0 sz (Q)) 0 0 (gA g0 sz) := by
  refine g_met (cc := cX11_rare) (maxL := 3) (ret := (some .int)) (own := RX11) (by decide) rfl rfl (Nat.le_of_ble_eq_true rfl) ?_
  intro p e s m args below meth c ls CF hr hlk hnm hc hl
  obtain ⟨hx, hb, hml, hown, hts⟩ := id CF
  have hl : lv_has ls 3 [(0, .ref p0), (1, .int p1), (2, .int p2)] := hl
  show W p l e r_X11_rare s m args below meth c s.heap [] 0 0 (MQ below (gQi D cA g0 sz (Q)) args s 0 0 (gA g0 sz)) (F0 m 0 ls [])
  have hb_33 : ∀ (g : gS) (is0 : Int32), b_X11_rare_33 g is0 Q → ∀ (H : Heap) (locs : List Loc) (ls : Array Slot), gC D cA (gA g0 sz) s g H locs → lv_has ls 3 [] → W p l e r_X11_rare s m args below meth c H locs 0 0 (MQ below (gQi D cA g0 sz (Q)) args s 0 0 (gA g0 sz)) (F0 m 33 ls [.int is0]) := by
    intro g is0 h H locs ls hc hl
    unfold b_X11_rare_33 at h
    exact g_reti (r := is0) CF hr hlk hc rfl h dX11_rare_33
  have hb_28 : ∀ (g : gS) (r0 : Nat), b_X11_rare_28 g r0 Q → ∀ (H : Heap) (locs : List Loc) (ls : Array Slot), gC D cA (gA g0 sz) s g H locs → lv_has ls 3 [(0, .ref r0)] → W p l e r_X11_rare s m args below meth c H locs 0 0 (MQ below (gQi D cA g0 sz (Q)) args s 0 0 (gA g0 sz)) (F0 m 28 ls []) := by
    intro g r0 h H locs ls hc hl
    unfold b_X11_rare_28 at h
    refine lv_aload_n hx hb dX11_rare_28 rfl (lv_at hl 0 rfl) ?_
    refine lv_iconst (v := 1) hx hb dX11_rare_29 (by decide) ?_
    obtain ⟨hk1, h⟩ := h
    refine g_calli (va_runV (As := [.int 1]) (rest := []) CF (c_X11_no h) (cwV 1 hts gX11_rare_X11_no rfl rfl rfl (by decide +kernel) ⟨Nat.le_of_ble_eq_true rfl, Nat.le_of_ble_eq_true rfl⟩) (hc.preV hk1 rfl (by decide)) rfl rfl hl.1 rfl (lv_room (Nat.le_of_ble_eq_true rfl)) dX11_rare_30 ⟨Nat.le_of_ble_eq_true rfl, Nat.le_of_ble_eq_true rfl⟩) hc (fun x2 g3 H locs hq hc => ?_)
    replace h := hq
    exact hb_33 g3 x2 h _ _ _ hc (lv_sub hl [] rfl)
  unfold w_X11_rare at h
  obtain ⟨H, hH0⟩ : ∃ z, z = s.heap := ⟨_, rfl⟩
  rw [← hH0] at hc ⊢
  obtain ⟨locs, hlc0⟩ : ∃ z : List Loc, z = [] := ⟨_, rfl⟩
  rw [← hlc0] at hc ⊢
  refine lv_aload_n hx hb dX11_rare_0 rfl (lv_at hl 0 rfl) ?_
  refine lv_iconst (v := 0) hx hb dX11_rare_1 (by decide) ?_
  obtain ⟨hk5, h⟩ := h
  refine g_puti CF hc hk5 rfl (by decide) (fun _ h9 => List.mem_cons_of_mem _ (List.mem_append_right _ (h9))) tyX11 tyX11_ok nmX11 (k := 0) (by decide) (List.mem_cons_of_mem _ (List.mem_append_left _ (List.mem_append_left _ (List.mem_of_getElem? (i := 0) rfl)))) rfl (v := 0) rfl rfl rfl dX11_rare_2 (fun H locs hc => ?_)
  obtain ⟨g6, eg7⟩ : ∃ z, z = sU g0 p0 0 0 := ⟨_, rfl⟩
  have hc : gC D cA (gA g0 sz) s g6 H locs := by rw [eg7]; exact hc
  replace h := h g6 eg7
  refine lv_iload_n hx hb dX11_rare_5 rfl (lv_at hl 1 rfl) ?_
  refine g_calli (va_runS (As := [.int p1]) (rest := []) CF (c_X11_isTerm h) (va_cwS 1 hts gX11_rare_X11_isTerm rfl rfl rfl (by decide +kernel) ⟨Nat.le_of_ble_eq_true rfl, Nat.le_of_ble_eq_true rfl⟩) hc.preS rfl rfl hl.1 rfl (lv_room (Nat.le_of_ble_eq_true rfl)) dX11_rare_6 ⟨Nat.le_of_ble_eq_true rfl, Nat.le_of_ble_eq_true rfl⟩) hc (fun x8 gq9 H locs hq hc => ?_)
  obtain ⟨rfl, h⟩ := hq
  refine lv_if_eq (tgt := 28) hx hb dX11_rare_9 (by decide) (fun c10 => ?_) (fun c10 => ?_)
  · have h := h.1 c10
    exact hb_28 g6 p0 h _ _ _ hc (lv_sub hl [0] rfl)
  · have h := h.2 c10
    refine lv_iload_n hx hb dX11_rare_12 rfl (lv_at hl 2 rfl) ?_
    refine g_calli (va_runS (As := [.int p2]) (rest := []) CF (c_X11_isField h) (va_cwS 1 hts gX11_rare_X11_isField rfl rfl rfl (by decide +kernel) ⟨Nat.le_of_ble_eq_true rfl, Nat.le_of_ble_eq_true rfl⟩) hc.preS rfl rfl hl.1 rfl (lv_room (Nat.le_of_ble_eq_true rfl)) dX11_rare_13 ⟨Nat.le_of_ble_eq_true rfl, Nat.le_of_ble_eq_true rfl⟩) hc (fun x11 gq12 H locs hq hc => ?_)
    obtain ⟨rfl, h⟩ := hq
    refine lv_if_eq (tgt := 28) hx hb dX11_rare_16 (by decide) (fun c13 => ?_) (fun c13 => ?_)
    · have h := h.1 c13
      exact hb_28 g6 p0 h _ _ _ hc (lv_sub hl [0] rfl)
    · have h := h.2 c13
      refine lv_aload_n hx hb dX11_rare_19 rfl (lv_at hl 0 rfl) ?_
      refine lv_iload_n hx hb dX11_rare_20 rfl (lv_at hl 1 rfl) ?_
      refine lv_iload_n hx hb dX11_rare_21 rfl (lv_at hl 2 rfl) ?_
      obtain ⟨hk14, h⟩ := h
      refine g_calli (va_runV (As := [.int p1, .int p2]) (rest := []) CF (c_X11_rareNow h) (cwV 2 hts gX11_rare_X11_rareNow rfl rfl rfl (by decide +kernel) ⟨Nat.le_of_ble_eq_true rfl, Nat.le_of_ble_eq_true rfl⟩) (hc.preV hk14 rfl (by decide)) rfl rfl hl.1 rfl (lv_room (Nat.le_of_ble_eq_true rfl)) dX11_rare_22 ⟨Nat.le_of_ble_eq_true rfl, Nat.le_of_ble_eq_true rfl⟩) hc (fun x15 g16 H locs hq hc => ?_)
      replace h := hq
      refine lv_goto (tgt := 33) hx hb dX11_rare_25 (by decide) ?_
      exact hb_33 g16 x15 h _ _ _ hc (lv_sub hl [] rfl)
def w_X11_taste (g0 : gS) (p0 : Nat) (p1 : Int32) (p2 : Int32) (p3 : Int32) (Q : Int32 → gS → Prop) : Prop :=
  gK g0 p0 = 12 ∧ (w_X11_count g0 p0 p1 p2 p3 (fun x2 => ((x2 = 0 → (Q 0 g0)) ∧ (¬ x2 = 0 → (w_X11_rareNow g0 p0 p3 p2 (fun x5 g6 => (gK g6 p0 = 12 ∧ (w_X11_many g6 p0 p1 p2 (fun x9 => (w_X11_lying g6 p0 (fun x11 g12 => (gK g12 p0 = 12 ∧ (∃ y15, gR g12 p0 27 = some y15 ∧ (gK g12 y15 = 21 ∧ (vp_in p2 (gN g12 y15) ∧ (¬ (gI g12 y15 (Int32.toNatClampNeg p2)) = 0 ∧ (¬ (((10 * x2) + 3) + (((9 * x9) * x11) / (gI g12 y15 (Int32.toNatClampNeg p2)))) = 0 ∧ (∃ y21, gR g12 p0 12 = some y21 ∧ (gK g12 y21 = 21 ∧ (vp_in p2 (gN g12 y21) ∧ (Q ((((x5 * x2) * 20) / (((10 * x2) + 3) + (((9 * x9) * x11) / (gI g12 y15 (Int32.toNatClampNeg p2))))) * (gI g12 y21 (Int32.toNatClampNeg p2))) g12)))))))))))))))))))))
abbrev r_X11_taste : Room := { frames := 4, cells := 0, slots := 0, locals := 93 }
set_option maxHeartbeats 4000000 in
set_option maxRecDepth 100000 in
theorem c_X11_taste {l : Launch} {D : va_G} {cA : Nat → ClassId} {sz : Nat} {g0 : gS} {p0 : Nat} {p1 : Int32} {p2 : Int32} {p3 : Int32} {Q : Int32 → gS → Prop} (h : w_X11_taste g0 p0 p1 p2 p3 Q) : Met l yX11_taste wsX11_taste r_X11_taste (va_Pc [.ref p0, .int p1, .int p2, .int p3] (gPre D cA g0 sz)) (gQi D cA g0 sz (Q)) 0 0 (gA g0 sz) := by
  refine g_met (cc := cX11_taste) (maxL := 5) (ret := (some .int)) (own := RX11) (by decide) rfl rfl (Nat.le_of_ble_eq_true rfl) ?_
  intro p e s m args below meth c ls CF hr hlk hnm hc hl
  obtain ⟨hx, hb, hml, hown, hts⟩ := id CF
  have hl : lv_has ls 5 [(0, .ref p0), (1, .int p1), (2, .int p2), (3, .int p3)] := hl
  show W p l e r_X11_taste s m args below meth c s.heap [] 0 0 (MQ below (gQi D cA g0 sz (Q)) args s 0 0 (gA g0 sz)) (F0 m 0 ls [])
  unfold w_X11_taste at h
  obtain ⟨H, hH0⟩ : ∃ z, z = s.heap := ⟨_, rfl⟩
  rw [← hH0] at hc ⊢
  obtain ⟨locs, hlc0⟩ : ∃ z : List Loc, z = [] := ⟨_, rfl⟩
  rw [← hlc0] at hc ⊢
  refine lv_aload_n hx hb dX11_taste_0 rfl (lv_at hl 0 rfl) ?_
  refine lv_iload_n hx hb dX11_taste_1 rfl (lv_at hl 1 rfl) ?_
  refine lv_iload_n hx hb dX11_taste_2 rfl (lv_at hl 2 rfl) ?_
  refine lv_iload_n hx hb dX11_taste_3 rfl (lv_at hl 3 rfl) ?_
  obtain ⟨hk1, h⟩ := h
  refine g_calli (va_runV (As := [.int p1, .int p2, .int p3]) (rest := []) CF (c_X11_count h) (cwV 3 hts gX11_taste_X11_count rfl rfl rfl (by decide +kernel) ⟨Nat.le_of_ble_eq_true rfl, Nat.le_of_ble_eq_true rfl⟩) (hc.preV hk1 rfl (by decide)) rfl rfl hl.1 rfl (lv_room (Nat.le_of_ble_eq_true rfl)) dX11_taste_4 ⟨Nat.le_of_ble_eq_true rfl, Nat.le_of_ble_eq_true rfl⟩) hc (fun x2 gq3 H locs hq hc => ?_)
  obtain ⟨rfl, h⟩ := hq
  refine lv_istore (lv' := [(4, .int x2), (0, .ref p0), (1, .int p1), (2, .int p2), (3, .int p3)]) hx hb dX11_taste_7 hl (by decide) rfl (fun ls hl => ?_)
  refine lv_iload hx hb dX11_taste_9 (lv_at hl 0 rfl) ?_
  refine lv_if_ne (tgt := 16) hx hb dX11_taste_11 (by decide) (fun c4 => ?_) (fun c4 => ?_)
  · have h := h.2 c4
    refine lv_aload_n hx hb dX11_taste_16 rfl (lv_at hl 1 rfl) ?_
    refine lv_iload_n hx hb dX11_taste_17 rfl (lv_at hl 4 rfl) ?_
    refine lv_iload_n hx hb dX11_taste_18 rfl (lv_at hl 3 rfl) ?_
    refine g_calli (va_runV (As := [.int p3, .int p2]) (rest := []) CF (c_X11_rareNow h) (cwV 2 hts gX11_taste_X11_rareNow rfl rfl rfl (by decide +kernel) ⟨Nat.le_of_ble_eq_true rfl, Nat.le_of_ble_eq_true rfl⟩) (hc.preV hk1 rfl (by decide)) rfl rfl hl.1 rfl (lv_room (Nat.le_of_ble_eq_true rfl)) dX11_taste_19 ⟨Nat.le_of_ble_eq_true rfl, Nat.le_of_ble_eq_true rfl⟩) hc (fun x5 g6 H locs hq hc => ?_)
    replace h := hq
    refine lv_iload hx hb dX11_taste_22 (lv_at hl 0 rfl) ?_
    refine lv_imul hx hb dX11_taste_24 ?_
    refine lv_bipush (v := 20) hx hb dX11_taste_25 (by decide) ?_
    refine lv_imul hx hb dX11_taste_27 ?_
    refine lv_bipush (v := 10) hx hb dX11_taste_28 (by decide) ?_
    refine lv_iload hx hb dX11_taste_30 (lv_at hl 0 rfl) ?_
    refine lv_imul hx hb dX11_taste_32 ?_
    refine lv_iconst (v := 3) hx hb dX11_taste_33 (by decide) ?_
    refine lv_iadd hx hb dX11_taste_34 ?_
    refine lv_bipush (v := 9) hx hb dX11_taste_35 (by decide) ?_
    refine lv_aload_n hx hb dX11_taste_37 rfl (lv_at hl 1 rfl) ?_
    refine lv_iload_n hx hb dX11_taste_38 rfl (lv_at hl 2 rfl) ?_
    refine lv_iload_n hx hb dX11_taste_39 rfl (lv_at hl 3 rfl) ?_
    obtain ⟨hk8, h⟩ := h
    refine g_calli (va_runV (As := [.int p1, .int p2]) (rest := [.int 9, .int ((10 * x2) + 3), .int ((x5 * x2) * 20)]) CF (c_X11_many h) (cwV 2 hts gX11_taste_X11_many rfl rfl rfl (by decide +kernel) ⟨Nat.le_of_ble_eq_true rfl, Nat.le_of_ble_eq_true rfl⟩) (hc.preV hk8 rfl (by decide)) rfl rfl hl.1 rfl (lv_room (Nat.le_of_ble_eq_true rfl)) dX11_taste_40 ⟨Nat.le_of_ble_eq_true rfl, Nat.le_of_ble_eq_true rfl⟩) hc (fun x9 gq10 H locs hq hc => ?_)
    obtain ⟨rfl, h⟩ := hq
    refine lv_imul hx hb dX11_taste_43 ?_
    refine lv_aload_n hx hb dX11_taste_44 rfl (lv_at hl 1 rfl) ?_
    refine g_calli (va_runV (As := []) (rest := [.int (9 * x9), .int ((10 * x2) + 3), .int ((x5 * x2) * 20)]) CF (c_X11_lying h) (cwV 0 hts gX11_taste_X11_lying rfl rfl rfl (by decide +kernel) ⟨Nat.le_of_ble_eq_true rfl, Nat.le_of_ble_eq_true rfl⟩) (hc.preV hk8 rfl (by decide)) rfl rfl hl.1 rfl (lv_room (Nat.le_of_ble_eq_true rfl)) dX11_taste_45 ⟨Nat.le_of_ble_eq_true rfl, Nat.le_of_ble_eq_true rfl⟩) hc (fun x11 g12 H locs hq hc => ?_)
    replace h := hq
    refine lv_imul hx hb dX11_taste_48 ?_
    refine lv_aload_n hx hb dX11_taste_49 rfl (lv_at hl 1 rfl) ?_
    obtain ⟨hk14, h⟩ := h
    obtain ⟨y15, e16, h⟩ := h
    refine g_getr CF hc hk14 rfl (by decide) (fun _ h9 => List.mem_cons_of_mem _ (List.mem_append_right _ (h9))) (k := 27) (by decide) (List.mem_cons_of_mem _ (List.mem_append_left _ (List.mem_append_left _ (List.mem_of_getElem? (i := 0) rfl)))) e16 rfl dX11_taste_50 ?_
    refine lv_iload_n hx hb dX11_taste_53 rfl (lv_at hl 3 rfl) ?_
    obtain ⟨hk17, h⟩ := h
    obtain ⟨hi18, h⟩ := h
    refine g_iald CF hc hk17 hi18 dX11_taste_54 ?_
    obtain ⟨hz19, h⟩ := h
    refine lv_idiv hx hb dX11_taste_55 hz19 ?_
    refine lv_iadd hx hb dX11_taste_56 ?_
    obtain ⟨hz20, h⟩ := h
    refine lv_idiv hx hb dX11_taste_57 hz20 ?_
    refine lv_aload_n hx hb dX11_taste_58 rfl (lv_at hl 1 rfl) ?_
    obtain ⟨y21, e22, h⟩ := h
    refine g_getr CF hc hk14 rfl (by decide) (fun _ h9 => List.mem_cons_of_mem _ (List.mem_append_right _ (h9))) (k := 12) (by decide) (List.mem_cons_of_mem _ (List.mem_append_left _ (List.mem_append_left _ (List.mem_of_getElem? (i := 1) rfl)))) e22 rfl dX11_taste_59 ?_
    refine lv_iload_n hx hb dX11_taste_62 rfl (lv_at hl 3 rfl) ?_
    obtain ⟨hk23, h⟩ := h
    obtain ⟨hi24, h⟩ := h
    refine g_iald CF hc hk23 hi24 dX11_taste_63 ?_
    refine lv_imul hx hb dX11_taste_64 ?_
    exact g_reti (r := ((((x5 * x2) * 20) / (((10 * x2) + 3) + (((9 * x9) * x11) / (gI g12 y15 (Int32.toNatClampNeg p2))))) * (gI g12 y21 (Int32.toNatClampNeg p2)))) CF hr hlk hc rfl h dX11_taste_65
  · have h := h.1 c4
    refine lv_iconst (v := 0) hx hb dX11_taste_14 (by decide) ?_
    exact g_reti (r := 0) CF hr hlk hc rfl h dX11_taste_15
def w_X11_add (g0 : gS) (p0 : Nat) (p1 : Int32) (p2 : Int32) (p3 : Int32) (p4 : Int32) (Q : Int32 → gS → Prop) : Prop :=
  gK g0 p0 = 12 ∧ (∃ y2, gR g0 p0 17 = some y2 ∧ (gK g0 y2 = 21 ∧ (vp_in (gI g0 p0 16) (gN g0 y2) ∧ (∀ g6, g6 = sU g0 y2 (Int32.toNatClampNeg (gI g0 p0 16)) p1 → (gK g6 p0 = 12 ∧ (∃ y9, gR g6 p0 18 = some y9 ∧ (gK g6 y9 = 21 ∧ (vp_in (gI g6 p0 16) (gN g6 y9) ∧ (∀ g13, g13 = sU g6 y9 (Int32.toNatClampNeg (gI g6 p0 16)) p2 → (gK g13 p0 = 12 ∧ (∃ y16, gR g13 p0 19 = some y16 ∧ (gK g13 y16 = 21 ∧ (vp_in (gI g13 p0 16) (gN g13 y16) ∧ (∀ g20, g20 = sU g13 y16 (Int32.toNatClampNeg (gI g13 p0 16)) p3 → (gK g20 p0 = 12 ∧ (∃ y23, gR g20 p0 20 = some y23 ∧ (gK g20 y23 = 21 ∧ (vp_in (gI g20 p0 16) (gN g20 y23) ∧ (∀ g27, g27 = sU g20 y23 (Int32.toNatClampNeg (gI g20 p0 16)) p4 → (gK g27 p0 = 12 ∧ (∀ g30, g30 = sU g27 p0 16 ((gI g27 p0 16) + 1) → (Q (gI g27 p0 16) g30))))))))))))))))))))))
abbrev r_X11_add : Room := { frames := 0, cells := 0, slots := 0, locals := 0 }
set_option maxHeartbeats 4000000 in
set_option maxRecDepth 100000 in
theorem c_X11_add {l : Launch} {D : va_G} {cA : Nat → ClassId} {sz : Nat} {g0 : gS} {p0 : Nat} {p1 : Int32} {p2 : Int32} {p3 : Int32} {p4 : Int32} {Q : Int32 → gS → Prop} (h : w_X11_add g0 p0 p1 p2 p3 p4 Q) : Met l yX11_add wsX11_add r_X11_add (va_Pc [.ref p0, .int p1, .int p2, .int p3, .int p4] (gPre D cA g0 sz)) (gQi D cA g0 sz (Q)) 0 0 (gA g0 sz) := by
  refine g_met (cc := cX11_add) (maxL := 5) (ret := (some .int)) (own := RX11) (by decide) rfl rfl (Nat.le_of_ble_eq_true rfl) ?_
  intro p e s m args below meth c ls CF hr hlk hnm hc hl
  obtain ⟨hx, hb, hml, hown, hts⟩ := id CF
  have hl : lv_has ls 5 [(0, .ref p0), (1, .int p1), (2, .int p2), (3, .int p3), (4, .int p4)] := hl
  show W p l e r_X11_add s m args below meth c s.heap [] 0 0 (MQ below (gQi D cA g0 sz (Q)) args s 0 0 (gA g0 sz)) (F0 m 0 ls [])
  unfold w_X11_add at h
  obtain ⟨H, hH0⟩ : ∃ z, z = s.heap := ⟨_, rfl⟩
  rw [← hH0] at hc ⊢
  obtain ⟨locs, hlc0⟩ : ∃ z : List Loc, z = [] := ⟨_, rfl⟩
  rw [← hlc0] at hc ⊢
  refine lv_aload_n hx hb dX11_add_0 rfl (lv_at hl 0 rfl) ?_
  obtain ⟨hk1, h⟩ := h
  obtain ⟨y2, e3, h⟩ := h
  refine g_getr CF hc hk1 rfl (by decide) (fun _ h9 => List.mem_cons_of_mem _ (List.mem_append_right _ (h9))) (k := 17) (by decide) (List.mem_cons_of_mem _ (List.mem_append_left _ (List.mem_of_getElem? (i := 0) rfl))) e3 rfl dX11_add_1 ?_
  refine lv_aload_n hx hb dX11_add_4 rfl (lv_at hl 0 rfl) ?_
  refine g_get CF hc hk1 rfl (by decide) (fun _ h9 => List.mem_cons_of_mem _ (List.mem_append_right _ (h9))) (k := 16) (by decide) (List.mem_cons_of_mem _ (List.mem_append_left _ (List.mem_of_getElem? (i := 1) rfl))) rfl dX11_add_5 ?_
  refine lv_iload_n hx hb dX11_add_8 rfl (lv_at hl 1 rfl) ?_
  obtain ⟨hk4, h⟩ := h
  obtain ⟨hi5, h⟩ := h
  refine g_iast CF hc hk4 (x := p1) hi5 dX11_add_9 (fun H locs hc => ?_)
  obtain ⟨g6, eg7⟩ : ∃ z, z = sU g0 y2 (Int32.toNatClampNeg (gI g0 p0 16)) p1 := ⟨_, rfl⟩
  have hc : gC D cA (gA g0 sz) s g6 H locs := by rw [eg7]; exact hc
  replace h := h g6 eg7
  refine lv_aload_n hx hb dX11_add_10 rfl (lv_at hl 0 rfl) ?_
  obtain ⟨hk8, h⟩ := h
  obtain ⟨y9, e10, h⟩ := h
  refine g_getr CF hc hk8 rfl (by decide) (fun _ h9 => List.mem_cons_of_mem _ (List.mem_append_right _ (h9))) (k := 18) (by decide) (List.mem_cons_of_mem _ (List.mem_append_left _ (List.mem_of_getElem? (i := 2) rfl))) e10 rfl dX11_add_11 ?_
  refine lv_aload_n hx hb dX11_add_14 rfl (lv_at hl 0 rfl) ?_
  refine g_get CF hc hk8 rfl (by decide) (fun _ h9 => List.mem_cons_of_mem _ (List.mem_append_right _ (h9))) (k := 16) (by decide) (List.mem_cons_of_mem _ (List.mem_append_left _ (List.mem_of_getElem? (i := 1) rfl))) rfl dX11_add_15 ?_
  refine lv_iload_n hx hb dX11_add_18 rfl (lv_at hl 2 rfl) ?_
  obtain ⟨hk11, h⟩ := h
  obtain ⟨hi12, h⟩ := h
  refine g_iast CF hc hk11 (x := p2) hi12 dX11_add_19 (fun H locs hc => ?_)
  obtain ⟨g13, eg14⟩ : ∃ z, z = sU g6 y9 (Int32.toNatClampNeg (gI g6 p0 16)) p2 := ⟨_, rfl⟩
  have hc : gC D cA (gA g0 sz) s g13 H locs := by rw [eg14]; exact hc
  replace h := h g13 eg14
  refine lv_aload_n hx hb dX11_add_20 rfl (lv_at hl 0 rfl) ?_
  obtain ⟨hk15, h⟩ := h
  obtain ⟨y16, e17, h⟩ := h
  refine g_getr CF hc hk15 rfl (by decide) (fun _ h9 => List.mem_cons_of_mem _ (List.mem_append_right _ (h9))) (k := 19) (by decide) (List.mem_cons_of_mem _ (List.mem_append_left _ (List.mem_of_getElem? (i := 3) rfl))) e17 rfl dX11_add_21 ?_
  refine lv_aload_n hx hb dX11_add_24 rfl (lv_at hl 0 rfl) ?_
  refine g_get CF hc hk15 rfl (by decide) (fun _ h9 => List.mem_cons_of_mem _ (List.mem_append_right _ (h9))) (k := 16) (by decide) (List.mem_cons_of_mem _ (List.mem_append_left _ (List.mem_of_getElem? (i := 1) rfl))) rfl dX11_add_25 ?_
  refine lv_iload_n hx hb dX11_add_28 rfl (lv_at hl 3 rfl) ?_
  obtain ⟨hk18, h⟩ := h
  obtain ⟨hi19, h⟩ := h
  refine g_iast CF hc hk18 (x := p3) hi19 dX11_add_29 (fun H locs hc => ?_)
  obtain ⟨g20, eg21⟩ : ∃ z, z = sU g13 y16 (Int32.toNatClampNeg (gI g13 p0 16)) p3 := ⟨_, rfl⟩
  have hc : gC D cA (gA g0 sz) s g20 H locs := by rw [eg21]; exact hc
  replace h := h g20 eg21
  refine lv_aload_n hx hb dX11_add_30 rfl (lv_at hl 0 rfl) ?_
  obtain ⟨hk22, h⟩ := h
  obtain ⟨y23, e24, h⟩ := h
  refine g_getr CF hc hk22 rfl (by decide) (fun _ h9 => List.mem_cons_of_mem _ (List.mem_append_right _ (h9))) (k := 20) (by decide) (List.mem_cons_of_mem _ (List.mem_append_left _ (List.mem_of_getElem? (i := 4) rfl))) e24 rfl dX11_add_31 ?_
  refine lv_aload_n hx hb dX11_add_34 rfl (lv_at hl 0 rfl) ?_
  refine g_get CF hc hk22 rfl (by decide) (fun _ h9 => List.mem_cons_of_mem _ (List.mem_append_right _ (h9))) (k := 16) (by decide) (List.mem_cons_of_mem _ (List.mem_append_left _ (List.mem_of_getElem? (i := 1) rfl))) rfl dX11_add_35 ?_
  refine lv_iload hx hb dX11_add_38 (lv_at hl 4 rfl) ?_
  obtain ⟨hk25, h⟩ := h
  obtain ⟨hi26, h⟩ := h
  refine g_iast CF hc hk25 (x := p4) hi26 dX11_add_40 (fun H locs hc => ?_)
  obtain ⟨g27, eg28⟩ : ∃ z, z = sU g20 y23 (Int32.toNatClampNeg (gI g20 p0 16)) p4 := ⟨_, rfl⟩
  have hc : gC D cA (gA g0 sz) s g27 H locs := by rw [eg28]; exact hc
  replace h := h g27 eg28
  refine lv_aload_n hx hb dX11_add_41 rfl (lv_at hl 0 rfl) ?_
  refine lv_dup hx hb dX11_add_42 rfl ?_
  obtain ⟨hk29, h⟩ := h
  refine g_get CF hc hk29 rfl (by decide) (fun _ h9 => List.mem_cons_of_mem _ (List.mem_append_right _ (h9))) (k := 16) (by decide) (List.mem_cons_of_mem _ (List.mem_append_left _ (List.mem_of_getElem? (i := 1) rfl))) rfl dX11_add_43 ?_
  refine lv_dup_x1 hx hb dX11_add_46 rfl rfl ?_
  refine lv_iconst (v := 1) hx hb dX11_add_47 (by decide) ?_
  refine lv_iadd hx hb dX11_add_48 ?_
  refine g_puti CF hc hk29 rfl (by decide) (fun _ h9 => List.mem_cons_of_mem _ (List.mem_append_right _ (h9))) tyX11 tyX11_ok nmX11 (k := 16) (by decide) (List.mem_cons_of_mem _ (List.mem_append_left _ (List.mem_of_getElem? (i := 1) rfl))) rfl (v := ((gI g27 p0 16) + 1)) rfl rfl rfl dX11_add_49 (fun H locs hc => ?_)
  obtain ⟨g30, eg31⟩ : ∃ z, z = sU g27 p0 16 ((gI g27 p0 16) + 1) := ⟨_, rfl⟩
  have hc : gC D cA (gA g0 sz) s g30 H locs := by rw [eg31]; exact hc
  replace h := h g30 eg31
  exact g_reti (r := (gI g27 p0 16)) CF hr hlk hc rfl h dX11_add_52
def b_X11_term_53 (g : gS) (is0 : Int32) (Q : Int32 → gS → Prop) : Prop :=
  Q is0 g
def b_X11_term_22 (g : gS) (r0 : Nat) (Q : Int32 → gS → Prop) : Prop :=
  gK g r0 = 12 ∧ (w_X11_no g r0 1 (fun x2 g3 => (Q x2 g3)))
def w_X11_term (g0 : gS) (p0 : Nat) (p1 : Int32) (p2 : Int32) (Q : Int32 → gS → Prop) : Prop :=
  gK g0 p0 = 12 ∧ (∀ g6, g6 = sU g0 p0 0 0 → (w_X11_isTerm g6 p1 (fun x8 => ((x8 = 0 → (b_X11_term_22 g6 p0 Q)) ∧ (¬ x8 = 0 → (w_X11_isIn g6 p2 1 7 (fun x11 => ((x11 = 0 → (b_X11_term_22 g6 p0 Q)) ∧ (¬ x11 = 0 → (gK g6 p0 = 12 ∧ (((gI g6 p0 16) = 30 → (w_X11_no g6 p0 2 (fun x19 g20 => (b_X11_term_53 g20 x19 Q)))) ∧ (¬ (gI g6 p0 16) = 30 → (w_X11_add g6 p0 0 p1 p2 0 (fun x16 g17 => (b_X11_term_53 g17 x16 Q)))))))))))))))
abbrev r_X11_term : Room := { frames := 2, cells := 0, slots := 0, locals := 42 }
set_option maxHeartbeats 4000000 in
set_option maxRecDepth 100000 in
theorem c_X11_term {l : Launch} {D : va_G} {cA : Nat → ClassId} {sz : Nat} {g0 : gS} {p0 : Nat} {p1 : Int32} {p2 : Int32} {Q : Int32 → gS → Prop} (h : w_X11_term g0 p0 p1 p2 Q) : Met l yX11_term wsX11_term r_X11_term (va_Pc [.ref p0, .int p1, .int p2] (gPre D cA g0 sz)) (gQi D cA g0 sz (Q)) 0 0 (gA g0 sz) := by
  refine g_met (cc := cX11_term) (maxL := 3) (ret := (some .int)) (own := RX11) (by decide) rfl rfl (Nat.le_of_ble_eq_true rfl) ?_
  intro p e s m args below meth c ls CF hr hlk hnm hc hl
  obtain ⟨hx, hb, hml, hown, hts⟩ := id CF
  have hl : lv_has ls 3 [(0, .ref p0), (1, .int p1), (2, .int p2)] := hl
  show W p l e r_X11_term s m args below meth c s.heap [] 0 0 (MQ below (gQi D cA g0 sz (Q)) args s 0 0 (gA g0 sz)) (F0 m 0 ls [])
  have hb_53 : ∀ (g : gS) (is0 : Int32), b_X11_term_53 g is0 Q → ∀ (H : Heap) (locs : List Loc) (ls : Array Slot), gC D cA (gA g0 sz) s g H locs → lv_has ls 3 [] → W p l e r_X11_term s m args below meth c H locs 0 0 (MQ below (gQi D cA g0 sz (Q)) args s 0 0 (gA g0 sz)) (F0 m 53 ls [.int is0]) := by
    intro g is0 h H locs ls hc hl
    unfold b_X11_term_53 at h
    exact g_reti (r := is0) CF hr hlk hc rfl h dX11_term_53
  have hb_22 : ∀ (g : gS) (r0 : Nat), b_X11_term_22 g r0 Q → ∀ (H : Heap) (locs : List Loc) (ls : Array Slot), gC D cA (gA g0 sz) s g H locs → lv_has ls 3 [(0, .ref r0)] → W p l e r_X11_term s m args below meth c H locs 0 0 (MQ below (gQi D cA g0 sz (Q)) args s 0 0 (gA g0 sz)) (F0 m 22 ls []) := by
    intro g r0 h H locs ls hc hl
    unfold b_X11_term_22 at h
    refine lv_aload_n hx hb dX11_term_22 rfl (lv_at hl 0 rfl) ?_
    refine lv_iconst (v := 1) hx hb dX11_term_23 (by decide) ?_
    obtain ⟨hk1, h⟩ := h
    refine g_calli (va_runV (As := [.int 1]) (rest := []) CF (c_X11_no h) (cwV 1 hts gX11_term_X11_no rfl rfl rfl (by decide +kernel) ⟨Nat.le_of_ble_eq_true rfl, Nat.le_of_ble_eq_true rfl⟩) (hc.preV hk1 rfl (by decide)) rfl rfl hl.1 rfl (lv_room (Nat.le_of_ble_eq_true rfl)) dX11_term_24 ⟨Nat.le_of_ble_eq_true rfl, Nat.le_of_ble_eq_true rfl⟩) hc (fun x2 g3 H locs hq hc => ?_)
    replace h := hq
    exact g_reti (r := x2) CF hr hlk hc rfl h dX11_term_27
  unfold w_X11_term at h
  obtain ⟨H, hH0⟩ : ∃ z, z = s.heap := ⟨_, rfl⟩
  rw [← hH0] at hc ⊢
  obtain ⟨locs, hlc0⟩ : ∃ z : List Loc, z = [] := ⟨_, rfl⟩
  rw [← hlc0] at hc ⊢
  refine lv_aload_n hx hb dX11_term_0 rfl (lv_at hl 0 rfl) ?_
  refine lv_iconst (v := 0) hx hb dX11_term_1 (by decide) ?_
  obtain ⟨hk5, h⟩ := h
  refine g_puti CF hc hk5 rfl (by decide) (fun _ h9 => List.mem_cons_of_mem _ (List.mem_append_right _ (h9))) tyX11 tyX11_ok nmX11 (k := 0) (by decide) (List.mem_cons_of_mem _ (List.mem_append_left _ (List.mem_of_getElem? (i := 0) rfl))) rfl (v := 0) rfl rfl rfl dX11_term_2 (fun H locs hc => ?_)
  obtain ⟨g6, eg7⟩ : ∃ z, z = sU g0 p0 0 0 := ⟨_, rfl⟩
  have hc : gC D cA (gA g0 sz) s g6 H locs := by rw [eg7]; exact hc
  replace h := h g6 eg7
  refine lv_iload_n hx hb dX11_term_5 rfl (lv_at hl 1 rfl) ?_
  refine g_calli (va_runS (As := [.int p1]) (rest := []) CF (c_X11_isTerm h) (va_cwS 1 hts gX11_term_X11_isTerm rfl rfl rfl (by decide +kernel) ⟨Nat.le_of_ble_eq_true rfl, Nat.le_of_ble_eq_true rfl⟩) hc.preS rfl rfl hl.1 rfl (lv_room (Nat.le_of_ble_eq_true rfl)) dX11_term_6 ⟨Nat.le_of_ble_eq_true rfl, Nat.le_of_ble_eq_true rfl⟩) hc (fun x8 gq9 H locs hq hc => ?_)
  obtain ⟨rfl, h⟩ := hq
  refine lv_if_eq (tgt := 22) hx hb dX11_term_9 (by decide) (fun c10 => ?_) (fun c10 => ?_)
  · have h := h.1 c10
    exact hb_22 g6 p0 h _ _ _ hc (lv_sub hl [0] rfl)
  · have h := h.2 c10
    refine lv_iload_n hx hb dX11_term_12 rfl (lv_at hl 2 rfl) ?_
    refine lv_iconst (v := 1) hx hb dX11_term_13 (by decide) ?_
    refine lv_bipush (v := 7) hx hb dX11_term_14 (by decide) ?_
    refine g_calli (va_runS (As := [.int p2, .int 1, .int 7]) (rest := []) CF (c_X11_isIn h) (va_cwS 3 hts gX11_term_X11_isIn rfl rfl rfl (by decide +kernel) ⟨Nat.le_of_ble_eq_true rfl, Nat.le_of_ble_eq_true rfl⟩) hc.preS rfl rfl hl.1 rfl (lv_room (Nat.le_of_ble_eq_true rfl)) dX11_term_16 ⟨Nat.le_of_ble_eq_true rfl, Nat.le_of_ble_eq_true rfl⟩) hc (fun x11 gq12 H locs hq hc => ?_)
    obtain ⟨rfl, h⟩ := hq
    refine lv_if_ne (tgt := 28) hx hb dX11_term_19 (by decide) (fun c13 => ?_) (fun c13 => ?_)
    · have h := h.2 c13
      refine lv_aload_n hx hb dX11_term_28 rfl (lv_at hl 0 rfl) ?_
      obtain ⟨hk14, h⟩ := h
      refine g_get CF hc hk14 rfl (by decide) (fun _ h9 => List.mem_cons_of_mem _ (List.mem_append_right _ (h9))) (k := 16) (by decide) (List.mem_cons_of_mem _ (List.mem_append_left _ (List.mem_of_getElem? (i := 1) rfl))) rfl dX11_term_29 ?_
      refine lv_bipush (v := 30) hx hb dX11_term_32 (by decide) ?_
      refine lv_icmp_ne (tgt := 45) hx hb dX11_term_34 (by decide) (fun c15 => ?_) (fun c15 => ?_)
      · have h := h.2 c15
        refine lv_aload_n hx hb dX11_term_45 rfl (lv_at hl 0 rfl) ?_
        refine lv_iconst (v := 0) hx hb dX11_term_46 (by decide) ?_
        refine lv_iload_n hx hb dX11_term_47 rfl (lv_at hl 1 rfl) ?_
        refine lv_iload_n hx hb dX11_term_48 rfl (lv_at hl 2 rfl) ?_
        refine lv_iconst (v := 0) hx hb dX11_term_49 (by decide) ?_
        refine g_calli (va_runV (As := [.int 0, .int p1, .int p2, .int 0]) (rest := []) CF (c_X11_add h) (cwV 4 hts gX11_term_X11_add rfl rfl rfl (by decide +kernel) ⟨Nat.le_of_ble_eq_true rfl, Nat.le_of_ble_eq_true rfl⟩) (hc.preV hk14 rfl (by decide)) rfl rfl hl.1 rfl (lv_room (Nat.le_of_ble_eq_true rfl)) dX11_term_50 ⟨Nat.le_of_ble_eq_true rfl, Nat.le_of_ble_eq_true rfl⟩) hc (fun x16 g17 H locs hq hc => ?_)
        replace h := hq
        exact hb_53 g17 x16 h _ _ _ hc (lv_sub hl [] rfl)
      · have h := h.1 c15
        refine lv_aload_n hx hb dX11_term_37 rfl (lv_at hl 0 rfl) ?_
        refine lv_iconst (v := 2) hx hb dX11_term_38 (by decide) ?_
        refine g_calli (va_runV (As := [.int 2]) (rest := []) CF (c_X11_no h) (cwV 1 hts gX11_term_X11_no rfl rfl rfl (by decide +kernel) ⟨Nat.le_of_ble_eq_true rfl, Nat.le_of_ble_eq_true rfl⟩) (hc.preV hk14 rfl (by decide)) rfl rfl hl.1 rfl (lv_room (Nat.le_of_ble_eq_true rfl)) dX11_term_39 ⟨Nat.le_of_ble_eq_true rfl, Nat.le_of_ble_eq_true rfl⟩) hc (fun x19 g20 H locs hq hc => ?_)
        replace h := hq
        refine lv_goto (tgt := 53) hx hb dX11_term_42 (by decide) ?_
        exact hb_53 g20 x19 h _ _ _ hc (lv_sub hl [] rfl)
    · have h := h.1 c13
      exact hb_22 g6 p0 h _ _ _ hc (lv_sub hl [0] rfl)
def b_X11_pair_52 (g : gS) (is0 : Int32) (Q : Int32 → gS → Prop) : Prop :=
  Q is0 g
def b_X11_pair_21 (g : gS) (r0 : Nat) (Q : Int32 → gS → Prop) : Prop :=
  gK g r0 = 12 ∧ (w_X11_no g r0 1 (fun x2 g3 => (Q x2 g3)))
def w_X11_pair (g0 : gS) (p0 : Nat) (p1 : Int32) (p2 : Int32) (p3 : Int32) (Q : Int32 → gS → Prop) : Prop :=
  gK g0 p0 = 12 ∧ (∀ g6, g6 = sU g0 p0 0 0 → (gK g6 p0 = 12 ∧ (w_X11_isNode g6 p0 p2 (fun x9 => ((x9 = 0 → (b_X11_pair_21 g6 p0 Q)) ∧ (¬ x9 = 0 → (w_X11_isNode g6 p0 p3 (fun x12 => ((x12 = 0 → (b_X11_pair_21 g6 p0 Q)) ∧ (¬ x12 = 0 → (((gI g6 p0 16) = 30 → (w_X11_no g6 p0 2 (fun x19 g20 => (b_X11_pair_52 g20 x19 Q)))) ∧ (¬ (gI g6 p0 16) = 30 → (w_X11_add g6 p0 p1 p2 p3 0 (fun x16 g17 => (b_X11_pair_52 g17 x16 Q)))))))))))))))
abbrev r_X11_pair : Room := { frames := 2, cells := 0, slots := 0, locals := 43 }
set_option maxHeartbeats 4000000 in
set_option maxRecDepth 100000 in
theorem c_X11_pair {l : Launch} {D : va_G} {cA : Nat → ClassId} {sz : Nat} {g0 : gS} {p0 : Nat} {p1 : Int32} {p2 : Int32} {p3 : Int32} {Q : Int32 → gS → Prop} (h : w_X11_pair g0 p0 p1 p2 p3 Q) : Met l yX11_pair wsX11_pair r_X11_pair (va_Pc [.ref p0, .int p1, .int p2, .int p3] (gPre D cA g0 sz)) (gQi D cA g0 sz (Q)) 0 0 (gA g0 sz) := by
  refine g_met (cc := cX11_pair) (maxL := 4) (ret := (some .int)) (own := RX11) (by decide) rfl rfl (Nat.le_of_ble_eq_true rfl) ?_
  intro p e s m args below meth c ls CF hr hlk hnm hc hl
  obtain ⟨hx, hb, hml, hown, hts⟩ := id CF
  have hl : lv_has ls 4 [(0, .ref p0), (1, .int p1), (2, .int p2), (3, .int p3)] := hl
  show W p l e r_X11_pair s m args below meth c s.heap [] 0 0 (MQ below (gQi D cA g0 sz (Q)) args s 0 0 (gA g0 sz)) (F0 m 0 ls [])
  have hb_52 : ∀ (g : gS) (is0 : Int32), b_X11_pair_52 g is0 Q → ∀ (H : Heap) (locs : List Loc) (ls : Array Slot), gC D cA (gA g0 sz) s g H locs → lv_has ls 4 [] → W p l e r_X11_pair s m args below meth c H locs 0 0 (MQ below (gQi D cA g0 sz (Q)) args s 0 0 (gA g0 sz)) (F0 m 52 ls [.int is0]) := by
    intro g is0 h H locs ls hc hl
    unfold b_X11_pair_52 at h
    exact g_reti (r := is0) CF hr hlk hc rfl h dX11_pair_52
  have hb_21 : ∀ (g : gS) (r0 : Nat), b_X11_pair_21 g r0 Q → ∀ (H : Heap) (locs : List Loc) (ls : Array Slot), gC D cA (gA g0 sz) s g H locs → lv_has ls 4 [(0, .ref r0)] → W p l e r_X11_pair s m args below meth c H locs 0 0 (MQ below (gQi D cA g0 sz (Q)) args s 0 0 (gA g0 sz)) (F0 m 21 ls []) := by
    intro g r0 h H locs ls hc hl
    unfold b_X11_pair_21 at h
    refine lv_aload_n hx hb dX11_pair_21 rfl (lv_at hl 0 rfl) ?_
    refine lv_iconst (v := 1) hx hb dX11_pair_22 (by decide) ?_
    obtain ⟨hk1, h⟩ := h
    refine g_calli (va_runV (As := [.int 1]) (rest := []) CF (c_X11_no h) (cwV 1 hts gX11_pair_X11_no rfl rfl rfl (by decide +kernel) ⟨Nat.le_of_ble_eq_true rfl, Nat.le_of_ble_eq_true rfl⟩) (hc.preV hk1 rfl (by decide)) rfl rfl hl.1 rfl (lv_room (Nat.le_of_ble_eq_true rfl)) dX11_pair_23 ⟨Nat.le_of_ble_eq_true rfl, Nat.le_of_ble_eq_true rfl⟩) hc (fun x2 g3 H locs hq hc => ?_)
    replace h := hq
    exact g_reti (r := x2) CF hr hlk hc rfl h dX11_pair_26
  unfold w_X11_pair at h
  obtain ⟨H, hH0⟩ : ∃ z, z = s.heap := ⟨_, rfl⟩
  rw [← hH0] at hc ⊢
  obtain ⟨locs, hlc0⟩ : ∃ z : List Loc, z = [] := ⟨_, rfl⟩
  rw [← hlc0] at hc ⊢
  refine lv_aload_n hx hb dX11_pair_0 rfl (lv_at hl 0 rfl) ?_
  refine lv_iconst (v := 0) hx hb dX11_pair_1 (by decide) ?_
  obtain ⟨hk5, h⟩ := h
  refine g_puti CF hc hk5 rfl (by decide) (fun _ h9 => List.mem_cons_of_mem _ (List.mem_append_right _ (h9))) tyX11 tyX11_ok nmX11 (k := 0) (by decide) (List.mem_cons_of_mem _ (List.mem_append_left _ (List.mem_of_getElem? (i := 0) rfl))) rfl (v := 0) rfl rfl rfl dX11_pair_2 (fun H locs hc => ?_)
  obtain ⟨g6, eg7⟩ : ∃ z, z = sU g0 p0 0 0 := ⟨_, rfl⟩
  have hc : gC D cA (gA g0 sz) s g6 H locs := by rw [eg7]; exact hc
  replace h := h g6 eg7
  refine lv_aload_n hx hb dX11_pair_5 rfl (lv_at hl 0 rfl) ?_
  refine lv_iload_n hx hb dX11_pair_6 rfl (lv_at hl 2 rfl) ?_
  obtain ⟨hk8, h⟩ := h
  refine g_calli (va_runV (As := [.int p2]) (rest := []) CF (c_X11_isNode h) (cwV 1 hts gX11_pair_X11_isNode rfl rfl rfl (by decide +kernel) ⟨Nat.le_of_ble_eq_true rfl, Nat.le_of_ble_eq_true rfl⟩) (hc.preV hk8 rfl (by decide)) rfl rfl hl.1 rfl (lv_room (Nat.le_of_ble_eq_true rfl)) dX11_pair_7 ⟨Nat.le_of_ble_eq_true rfl, Nat.le_of_ble_eq_true rfl⟩) hc (fun x9 gq10 H locs hq hc => ?_)
  obtain ⟨rfl, h⟩ := hq
  refine lv_if_eq (tgt := 21) hx hb dX11_pair_10 (by decide) (fun c11 => ?_) (fun c11 => ?_)
  · have h := h.1 c11
    exact hb_21 g6 p0 h _ _ _ hc (lv_sub hl [0] rfl)
  · have h := h.2 c11
    refine lv_aload_n hx hb dX11_pair_13 rfl (lv_at hl 0 rfl) ?_
    refine lv_iload_n hx hb dX11_pair_14 rfl (lv_at hl 3 rfl) ?_
    refine g_calli (va_runV (As := [.int p3]) (rest := []) CF (c_X11_isNode h) (cwV 1 hts gX11_pair_X11_isNode rfl rfl rfl (by decide +kernel) ⟨Nat.le_of_ble_eq_true rfl, Nat.le_of_ble_eq_true rfl⟩) (hc.preV hk8 rfl (by decide)) rfl rfl hl.1 rfl (lv_room (Nat.le_of_ble_eq_true rfl)) dX11_pair_15 ⟨Nat.le_of_ble_eq_true rfl, Nat.le_of_ble_eq_true rfl⟩) hc (fun x12 gq13 H locs hq hc => ?_)
    obtain ⟨rfl, h⟩ := hq
    refine lv_if_ne (tgt := 27) hx hb dX11_pair_18 (by decide) (fun c14 => ?_) (fun c14 => ?_)
    · have h := h.2 c14
      refine lv_aload_n hx hb dX11_pair_27 rfl (lv_at hl 0 rfl) ?_
      refine g_get CF hc hk8 rfl (by decide) (fun _ h9 => List.mem_cons_of_mem _ (List.mem_append_right _ (h9))) (k := 16) (by decide) (List.mem_cons_of_mem _ (List.mem_append_left _ (List.mem_of_getElem? (i := 1) rfl))) rfl dX11_pair_28 ?_
      refine lv_bipush (v := 30) hx hb dX11_pair_31 (by decide) ?_
      refine lv_icmp_ne (tgt := 44) hx hb dX11_pair_33 (by decide) (fun c15 => ?_) (fun c15 => ?_)
      · have h := h.2 c15
        refine lv_aload_n hx hb dX11_pair_44 rfl (lv_at hl 0 rfl) ?_
        refine lv_iload_n hx hb dX11_pair_45 rfl (lv_at hl 1 rfl) ?_
        refine lv_iload_n hx hb dX11_pair_46 rfl (lv_at hl 2 rfl) ?_
        refine lv_iload_n hx hb dX11_pair_47 rfl (lv_at hl 3 rfl) ?_
        refine lv_iconst (v := 0) hx hb dX11_pair_48 (by decide) ?_
        refine g_calli (va_runV (As := [.int p1, .int p2, .int p3, .int 0]) (rest := []) CF (c_X11_add h) (cwV 4 hts gX11_pair_X11_add rfl rfl rfl (by decide +kernel) ⟨Nat.le_of_ble_eq_true rfl, Nat.le_of_ble_eq_true rfl⟩) (hc.preV hk8 rfl (by decide)) rfl rfl hl.1 rfl (lv_room (Nat.le_of_ble_eq_true rfl)) dX11_pair_49 ⟨Nat.le_of_ble_eq_true rfl, Nat.le_of_ble_eq_true rfl⟩) hc (fun x16 g17 H locs hq hc => ?_)
        replace h := hq
        exact hb_52 g17 x16 h _ _ _ hc (lv_sub hl [] rfl)
      · have h := h.1 c15
        refine lv_aload_n hx hb dX11_pair_36 rfl (lv_at hl 0 rfl) ?_
        refine lv_iconst (v := 2) hx hb dX11_pair_37 (by decide) ?_
        refine g_calli (va_runV (As := [.int 2]) (rest := []) CF (c_X11_no h) (cwV 1 hts gX11_pair_X11_no rfl rfl rfl (by decide +kernel) ⟨Nat.le_of_ble_eq_true rfl, Nat.le_of_ble_eq_true rfl⟩) (hc.preV hk8 rfl (by decide)) rfl rfl hl.1 rfl (lv_room (Nat.le_of_ble_eq_true rfl)) dX11_pair_38 ⟨Nat.le_of_ble_eq_true rfl, Nat.le_of_ble_eq_true rfl⟩) hc (fun x19 g20 H locs hq hc => ?_)
        replace h := hq
        refine lv_goto (tgt := 52) hx hb dX11_pair_41 (by decide) ?_
        exact hb_52 g20 x19 h _ _ _ hc (lv_sub hl [] rfl)
    · have h := h.1 c14
      exact hb_21 g6 p0 h _ _ _ hc (lv_sub hl [0] rfl)
def w_X11_and (g0 : gS) (p0 : Nat) (p1 : Int32) (p2 : Int32) (Q : Int32 → gS → Prop) : Prop :=
  gK g0 p0 = 12 ∧ (w_X11_pair g0 p0 1 p1 p2 (fun x2 g3 => (Q x2 g3)))
abbrev r_X11_and : Room := { frames := 3, cells := 0, slots := 0, locals := 66 }
set_option maxHeartbeats 4000000 in
set_option maxRecDepth 100000 in
theorem c_X11_and {l : Launch} {D : va_G} {cA : Nat → ClassId} {sz : Nat} {g0 : gS} {p0 : Nat} {p1 : Int32} {p2 : Int32} {Q : Int32 → gS → Prop} (h : w_X11_and g0 p0 p1 p2 Q) : Met l yX11_and wsX11_and r_X11_and (va_Pc [.ref p0, .int p1, .int p2] (gPre D cA g0 sz)) (gQi D cA g0 sz (Q)) 0 0 (gA g0 sz) := by
  refine g_met (cc := cX11_and) (maxL := 3) (ret := (some .int)) (own := RX11) (by decide) rfl rfl (Nat.le_of_ble_eq_true rfl) ?_
  intro p e s m args below meth c ls CF hr hlk hnm hc hl
  obtain ⟨hx, hb, hml, hown, hts⟩ := id CF
  have hl : lv_has ls 3 [(0, .ref p0), (1, .int p1), (2, .int p2)] := hl
  show W p l e r_X11_and s m args below meth c s.heap [] 0 0 (MQ below (gQi D cA g0 sz (Q)) args s 0 0 (gA g0 sz)) (F0 m 0 ls [])
  unfold w_X11_and at h
  obtain ⟨H, hH0⟩ : ∃ z, z = s.heap := ⟨_, rfl⟩
  rw [← hH0] at hc ⊢
  obtain ⟨locs, hlc0⟩ : ∃ z : List Loc, z = [] := ⟨_, rfl⟩
  rw [← hlc0] at hc ⊢
  refine lv_aload_n hx hb dX11_and_0 rfl (lv_at hl 0 rfl) ?_
  refine lv_iconst (v := 1) hx hb dX11_and_1 (by decide) ?_
  refine lv_iload_n hx hb dX11_and_2 rfl (lv_at hl 1 rfl) ?_
  refine lv_iload_n hx hb dX11_and_3 rfl (lv_at hl 2 rfl) ?_
  obtain ⟨hk1, h⟩ := h
  refine g_calli (va_runV (As := [.int 1, .int p1, .int p2]) (rest := []) CF (c_X11_pair h) (cwV 3 hts gX11_and_X11_pair rfl rfl rfl (by decide +kernel) ⟨Nat.le_of_ble_eq_true rfl, Nat.le_of_ble_eq_true rfl⟩) (hc.preV hk1 rfl (by decide)) rfl rfl hl.1 rfl (lv_room (Nat.le_of_ble_eq_true rfl)) dX11_and_4 ⟨Nat.le_of_ble_eq_true rfl, Nat.le_of_ble_eq_true rfl⟩) hc (fun x2 g3 H locs hq hc => ?_)
  replace h := hq
  exact g_reti (r := x2) CF hr hlk hc rfl h dX11_and_7
def w_X11_or (g0 : gS) (p0 : Nat) (p1 : Int32) (p2 : Int32) (Q : Int32 → gS → Prop) : Prop :=
  gK g0 p0 = 12 ∧ (w_X11_pair g0 p0 2 p1 p2 (fun x2 g3 => (Q x2 g3)))
abbrev r_X11_or : Room := { frames := 3, cells := 0, slots := 0, locals := 66 }
set_option maxHeartbeats 4000000 in
set_option maxRecDepth 100000 in
theorem c_X11_or {l : Launch} {D : va_G} {cA : Nat → ClassId} {sz : Nat} {g0 : gS} {p0 : Nat} {p1 : Int32} {p2 : Int32} {Q : Int32 → gS → Prop} (h : w_X11_or g0 p0 p1 p2 Q) : Met l yX11_or wsX11_or r_X11_or (va_Pc [.ref p0, .int p1, .int p2] (gPre D cA g0 sz)) (gQi D cA g0 sz (Q)) 0 0 (gA g0 sz) := by
  refine g_met (cc := cX11_or) (maxL := 3) (ret := (some .int)) (own := RX11) (by decide) rfl rfl (Nat.le_of_ble_eq_true rfl) ?_
  intro p e s m args below meth c ls CF hr hlk hnm hc hl
  obtain ⟨hx, hb, hml, hown, hts⟩ := id CF
  have hl : lv_has ls 3 [(0, .ref p0), (1, .int p1), (2, .int p2)] := hl
  show W p l e r_X11_or s m args below meth c s.heap [] 0 0 (MQ below (gQi D cA g0 sz (Q)) args s 0 0 (gA g0 sz)) (F0 m 0 ls [])
  unfold w_X11_or at h
  obtain ⟨H, hH0⟩ : ∃ z, z = s.heap := ⟨_, rfl⟩
  rw [← hH0] at hc ⊢
  obtain ⟨locs, hlc0⟩ : ∃ z : List Loc, z = [] := ⟨_, rfl⟩
  rw [← hlc0] at hc ⊢
  refine lv_aload_n hx hb dX11_or_0 rfl (lv_at hl 0 rfl) ?_
  refine lv_iconst (v := 2) hx hb dX11_or_1 (by decide) ?_
  refine lv_iload_n hx hb dX11_or_2 rfl (lv_at hl 1 rfl) ?_
  refine lv_iload_n hx hb dX11_or_3 rfl (lv_at hl 2 rfl) ?_
  obtain ⟨hk1, h⟩ := h
  refine g_calli (va_runV (As := [.int 2, .int p1, .int p2]) (rest := []) CF (c_X11_pair h) (cwV 3 hts gX11_or_X11_pair rfl rfl rfl (by decide +kernel) ⟨Nat.le_of_ble_eq_true rfl, Nat.le_of_ble_eq_true rfl⟩) (hc.preV hk1 rfl (by decide)) rfl rfl hl.1 rfl (lv_room (Nat.le_of_ble_eq_true rfl)) dX11_or_4 ⟨Nat.le_of_ble_eq_true rfl, Nat.le_of_ble_eq_true rfl⟩) hc (fun x2 g3 H locs hq hc => ?_)
  replace h := hq
  exact g_reti (r := x2) CF hr hlk hc rfl h dX11_or_7
def w_X11_not (g0 : gS) (p0 : Nat) (p1 : Int32) (p2 : Int32) (Q : Int32 → gS → Prop) : Prop :=
  gK g0 p0 = 12 ∧ (w_X11_pair g0 p0 3 p1 p2 (fun x2 g3 => (Q x2 g3)))
abbrev r_X11_not : Room := { frames := 3, cells := 0, slots := 0, locals := 66 }
set_option maxHeartbeats 4000000 in
set_option maxRecDepth 100000 in
theorem c_X11_not {l : Launch} {D : va_G} {cA : Nat → ClassId} {sz : Nat} {g0 : gS} {p0 : Nat} {p1 : Int32} {p2 : Int32} {Q : Int32 → gS → Prop} (h : w_X11_not g0 p0 p1 p2 Q) : Met l yX11_not wsX11_not r_X11_not (va_Pc [.ref p0, .int p1, .int p2] (gPre D cA g0 sz)) (gQi D cA g0 sz (Q)) 0 0 (gA g0 sz) := by
  refine g_met (cc := cX11_not) (maxL := 3) (ret := (some .int)) (own := RX11) (by decide) rfl rfl (Nat.le_of_ble_eq_true rfl) ?_
  intro p e s m args below meth c ls CF hr hlk hnm hc hl
  obtain ⟨hx, hb, hml, hown, hts⟩ := id CF
  have hl : lv_has ls 3 [(0, .ref p0), (1, .int p1), (2, .int p2)] := hl
  show W p l e r_X11_not s m args below meth c s.heap [] 0 0 (MQ below (gQi D cA g0 sz (Q)) args s 0 0 (gA g0 sz)) (F0 m 0 ls [])
  unfold w_X11_not at h
  obtain ⟨H, hH0⟩ : ∃ z, z = s.heap := ⟨_, rfl⟩
  rw [← hH0] at hc ⊢
  obtain ⟨locs, hlc0⟩ : ∃ z : List Loc, z = [] := ⟨_, rfl⟩
  rw [← hlc0] at hc ⊢
  refine lv_aload_n hx hb dX11_not_0 rfl (lv_at hl 0 rfl) ?_
  refine lv_iconst (v := 3) hx hb dX11_not_1 (by decide) ?_
  refine lv_iload_n hx hb dX11_not_2 rfl (lv_at hl 1 rfl) ?_
  refine lv_iload_n hx hb dX11_not_3 rfl (lv_at hl 2 rfl) ?_
  obtain ⟨hk1, h⟩ := h
  refine g_calli (va_runV (As := [.int 3, .int p1, .int p2]) (rest := []) CF (c_X11_pair h) (cwV 3 hts gX11_not_X11_pair rfl rfl rfl (by decide +kernel) ⟨Nat.le_of_ble_eq_true rfl, Nat.le_of_ble_eq_true rfl⟩) (hc.preV hk1 rfl (by decide)) rfl rfl hl.1 rfl (lv_room (Nat.le_of_ble_eq_true rfl)) dX11_not_4 ⟨Nat.le_of_ble_eq_true rfl, Nat.le_of_ble_eq_true rfl⟩) hc (fun x2 g3 H locs hq hc => ?_)
  replace h := hq
  exact g_reti (r := x2) CF hr hlk hc rfl h dX11_not_7
def b_X11_near_55 (g : gS) (r0 : Nat) (Q : Int32 → gS → Prop) : Prop :=
  gK g r0 = 12 ∧ (w_X11_no g r0 2 (fun x2 g3 => (Q x2 g3)))
def b_X11_near_21 (g : gS) (r0 : Nat) (Q : Int32 → gS → Prop) : Prop :=
  gK g r0 = 12 ∧ (w_X11_no g r0 1 (fun x6 g7 => (Q x6 g7)))
def w_X11_near (g0 : gS) (p0 : Nat) (p1 : Int32) (p2 : Int32) (p3 : Int32) (p4 : Int32) (Q : Int32 → gS → Prop) : Prop :=
  gK g0 p0 = 12 ∧ (∀ g10, g10 = sU g0 p0 0 0 → (gK g10 p0 = 12 ∧ (w_X11_isNode g10 p0 p1 (fun x13 => ((x13 = 0 → (b_X11_near_21 g10 p0 Q)) ∧ (¬ x13 = 0 → (w_X11_isNode g10 p0 p2 (fun x16 => ((x16 = 0 → (b_X11_near_21 g10 p0 Q)) ∧ (¬ x16 = 0 → (∃ y19, gR g10 p0 17 = some y19 ∧ (gK g10 y19 = 21 ∧ (vp_in p1 (gN g10 y19) ∧ (((gI g10 y19 (Int32.toNatClampNeg p1)) = 0 → (∃ y24, gR g10 p0 17 = some y24 ∧ (gK g10 y24 = 21 ∧ (vp_in p2 (gN g10 y24) ∧ (((gI g10 y24 (Int32.toNatClampNeg p2)) = 0 → (w_X11_isIn g10 p3 1 10 (fun x29 => ((x29 = 0 → (b_X11_near_55 g10 p0 Q)) ∧ (¬ x29 = 0 → (((gI g10 p0 16) = 30 → (w_X11_no g10 p0 3 (fun x44 g45 => (Q x44 g45)))) ∧ (¬ (gI g10 p0 16) = 30 → (∃ y33, gR g10 p0 21 = some y33 ∧ (gK g10 y33 = 22 ∧ (vp_in (gI g10 p0 16) (gN g10 y33) ∧ ((p4 = 0 ∨ p4 = 1) ∧ (∀ g38, g38 = sU g10 y33 (Int32.toNatClampNeg (gI g10 p0 16)) p4 → (gK g38 p0 = 12 ∧ (w_X11_add g38 p0 4 p1 p2 p3 (fun x41 g42 => (Q x41 g42)))))))))))))))) ∧ (¬ (gI g10 y24 (Int32.toNatClampNeg p2)) = 0 → (b_X11_near_55 g10 p0 Q))))))) ∧ (¬ (gI g10 y19 (Int32.toNatClampNeg p1)) = 0 → (b_X11_near_55 g10 p0 Q))))))))))))))))
abbrev r_X11_near : Room := { frames := 2, cells := 0, slots := 0, locals := 43 }
set_option maxHeartbeats 4000000 in
set_option maxRecDepth 100000 in
theorem c_X11_near {l : Launch} {D : va_G} {cA : Nat → ClassId} {sz : Nat} {g0 : gS} {p0 : Nat} {p1 : Int32} {p2 : Int32} {p3 : Int32} {p4 : Int32} {Q : Int32 → gS → Prop} (h : w_X11_near g0 p0 p1 p2 p3 p4 Q) : Met l yX11_near wsX11_near r_X11_near (va_Pc [.ref p0, .int p1, .int p2, .int p3, .int p4] (gPre D cA g0 sz)) (gQi D cA g0 sz (Q)) 0 0 (gA g0 sz) := by
  refine g_met (cc := cX11_near) (maxL := 5) (ret := (some .int)) (own := RX11) (by decide) rfl rfl (Nat.le_of_ble_eq_true rfl) ?_
  intro p e s m args below meth c ls CF hr hlk hnm hc hl
  obtain ⟨hx, hb, hml, hown, hts⟩ := id CF
  have hl : lv_has ls 5 [(0, .ref p0), (1, .int p1), (2, .int p2), (3, .int p3), (4, .int p4)] := hl
  show W p l e r_X11_near s m args below meth c s.heap [] 0 0 (MQ below (gQi D cA g0 sz (Q)) args s 0 0 (gA g0 sz)) (F0 m 0 ls [])
  have hb_55 : ∀ (g : gS) (r0 : Nat), b_X11_near_55 g r0 Q → ∀ (H : Heap) (locs : List Loc) (ls : Array Slot), gC D cA (gA g0 sz) s g H locs → lv_has ls 5 [(0, .ref r0)] → W p l e r_X11_near s m args below meth c H locs 0 0 (MQ below (gQi D cA g0 sz (Q)) args s 0 0 (gA g0 sz)) (F0 m 55 ls []) := by
    intro g r0 h H locs ls hc hl
    unfold b_X11_near_55 at h
    refine lv_aload_n hx hb dX11_near_55 rfl (lv_at hl 0 rfl) ?_
    refine lv_iconst (v := 2) hx hb dX11_near_56 (by decide) ?_
    obtain ⟨hk1, h⟩ := h
    refine g_calli (va_runV (As := [.int 2]) (rest := []) CF (c_X11_no h) (cwV 1 hts gX11_near_X11_no rfl rfl rfl (by decide +kernel) ⟨Nat.le_of_ble_eq_true rfl, Nat.le_of_ble_eq_true rfl⟩) (hc.preV hk1 rfl (by decide)) rfl rfl hl.1 rfl (lv_room (Nat.le_of_ble_eq_true rfl)) dX11_near_57 ⟨Nat.le_of_ble_eq_true rfl, Nat.le_of_ble_eq_true rfl⟩) hc (fun x2 g3 H locs hq hc => ?_)
    replace h := hq
    exact g_reti (r := x2) CF hr hlk hc rfl h dX11_near_60
  have hb_21 : ∀ (g : gS) (r0 : Nat), b_X11_near_21 g r0 Q → ∀ (H : Heap) (locs : List Loc) (ls : Array Slot), gC D cA (gA g0 sz) s g H locs → lv_has ls 5 [(0, .ref r0)] → W p l e r_X11_near s m args below meth c H locs 0 0 (MQ below (gQi D cA g0 sz (Q)) args s 0 0 (gA g0 sz)) (F0 m 21 ls []) := by
    intro g r0 h H locs ls hc hl
    unfold b_X11_near_21 at h
    refine lv_aload_n hx hb dX11_near_21 rfl (lv_at hl 0 rfl) ?_
    refine lv_iconst (v := 1) hx hb dX11_near_22 (by decide) ?_
    obtain ⟨hk5, h⟩ := h
    refine g_calli (va_runV (As := [.int 1]) (rest := []) CF (c_X11_no h) (cwV 1 hts gX11_near_X11_no rfl rfl rfl (by decide +kernel) ⟨Nat.le_of_ble_eq_true rfl, Nat.le_of_ble_eq_true rfl⟩) (hc.preV hk5 rfl (by decide)) rfl rfl hl.1 rfl (lv_room (Nat.le_of_ble_eq_true rfl)) dX11_near_23 ⟨Nat.le_of_ble_eq_true rfl, Nat.le_of_ble_eq_true rfl⟩) hc (fun x6 g7 H locs hq hc => ?_)
    replace h := hq
    exact g_reti (r := x6) CF hr hlk hc rfl h dX11_near_26
  unfold w_X11_near at h
  obtain ⟨H, hH0⟩ : ∃ z, z = s.heap := ⟨_, rfl⟩
  rw [← hH0] at hc ⊢
  obtain ⟨locs, hlc0⟩ : ∃ z : List Loc, z = [] := ⟨_, rfl⟩
  rw [← hlc0] at hc ⊢
  refine lv_aload_n hx hb dX11_near_0 rfl (lv_at hl 0 rfl) ?_
  refine lv_iconst (v := 0) hx hb dX11_near_1 (by decide) ?_
  obtain ⟨hk9, h⟩ := h
  refine g_puti CF hc hk9 rfl (by decide) (fun _ h9 => List.mem_cons_of_mem _ (List.mem_append_right _ (h9))) tyX11 tyX11_ok nmX11 (k := 0) (by decide) (List.mem_cons_of_mem _ (List.mem_append_left _ (List.mem_of_getElem? (i := 0) rfl))) rfl (v := 0) rfl rfl rfl dX11_near_2 (fun H locs hc => ?_)
  obtain ⟨g10, eg11⟩ : ∃ z, z = sU g0 p0 0 0 := ⟨_, rfl⟩
  have hc : gC D cA (gA g0 sz) s g10 H locs := by rw [eg11]; exact hc
  replace h := h g10 eg11
  refine lv_aload_n hx hb dX11_near_5 rfl (lv_at hl 0 rfl) ?_
  refine lv_iload_n hx hb dX11_near_6 rfl (lv_at hl 1 rfl) ?_
  obtain ⟨hk12, h⟩ := h
  refine g_calli (va_runV (As := [.int p1]) (rest := []) CF (c_X11_isNode h) (cwV 1 hts gX11_near_X11_isNode rfl rfl rfl (by decide +kernel) ⟨Nat.le_of_ble_eq_true rfl, Nat.le_of_ble_eq_true rfl⟩) (hc.preV hk12 rfl (by decide)) rfl rfl hl.1 rfl (lv_room (Nat.le_of_ble_eq_true rfl)) dX11_near_7 ⟨Nat.le_of_ble_eq_true rfl, Nat.le_of_ble_eq_true rfl⟩) hc (fun x13 gq14 H locs hq hc => ?_)
  obtain ⟨rfl, h⟩ := hq
  refine lv_if_eq (tgt := 21) hx hb dX11_near_10 (by decide) (fun c15 => ?_) (fun c15 => ?_)
  · have h := h.1 c15
    exact hb_21 g10 p0 h _ _ _ hc (lv_sub hl [0] rfl)
  · have h := h.2 c15
    refine lv_aload_n hx hb dX11_near_13 rfl (lv_at hl 0 rfl) ?_
    refine lv_iload_n hx hb dX11_near_14 rfl (lv_at hl 2 rfl) ?_
    refine g_calli (va_runV (As := [.int p2]) (rest := []) CF (c_X11_isNode h) (cwV 1 hts gX11_near_X11_isNode rfl rfl rfl (by decide +kernel) ⟨Nat.le_of_ble_eq_true rfl, Nat.le_of_ble_eq_true rfl⟩) (hc.preV hk12 rfl (by decide)) rfl rfl hl.1 rfl (lv_room (Nat.le_of_ble_eq_true rfl)) dX11_near_15 ⟨Nat.le_of_ble_eq_true rfl, Nat.le_of_ble_eq_true rfl⟩) hc (fun x16 gq17 H locs hq hc => ?_)
    obtain ⟨rfl, h⟩ := hq
    refine lv_if_ne (tgt := 27) hx hb dX11_near_18 (by decide) (fun c18 => ?_) (fun c18 => ?_)
    · have h := h.2 c18
      refine lv_aload_n hx hb dX11_near_27 rfl (lv_at hl 0 rfl) ?_
      obtain ⟨y19, e20, h⟩ := h
      refine g_getr CF hc hk12 rfl (by decide) (fun _ h9 => List.mem_cons_of_mem _ (List.mem_append_right _ (h9))) (k := 17) (by decide) (List.mem_cons_of_mem _ (List.mem_append_left _ (List.mem_of_getElem? (i := 1) rfl))) e20 rfl dX11_near_28 ?_
      refine lv_iload_n hx hb dX11_near_31 rfl (lv_at hl 1 rfl) ?_
      obtain ⟨hk21, h⟩ := h
      obtain ⟨hi22, h⟩ := h
      refine g_iald CF hc hk21 hi22 dX11_near_32 ?_
      refine lv_if_ne (tgt := 55) hx hb dX11_near_33 (by decide) (fun c23 => ?_) (fun c23 => ?_)
      · have h := h.2 c23
        exact hb_55 g10 p0 h _ _ _ hc (lv_sub hl [0] rfl)
      · have h := h.1 c23
        refine lv_aload_n hx hb dX11_near_36 rfl (lv_at hl 0 rfl) ?_
        obtain ⟨y24, e25, h⟩ := h
        refine g_getr CF hc hk12 rfl (by decide) (fun _ h9 => List.mem_cons_of_mem _ (List.mem_append_right _ (h9))) (k := 17) (by decide) (List.mem_cons_of_mem _ (List.mem_append_left _ (List.mem_of_getElem? (i := 1) rfl))) e25 rfl dX11_near_37 ?_
        refine lv_iload_n hx hb dX11_near_40 rfl (lv_at hl 2 rfl) ?_
        obtain ⟨hk26, h⟩ := h
        obtain ⟨hi27, h⟩ := h
        refine g_iald CF hc hk26 hi27 dX11_near_41 ?_
        refine lv_if_ne (tgt := 55) hx hb dX11_near_42 (by decide) (fun c28 => ?_) (fun c28 => ?_)
        · have h := h.2 c28
          exact hb_55 g10 p0 h _ _ _ hc (lv_sub hl [0] rfl)
        · have h := h.1 c28
          refine lv_iload_n hx hb dX11_near_45 rfl (lv_at hl 3 rfl) ?_
          refine lv_iconst (v := 1) hx hb dX11_near_46 (by decide) ?_
          refine lv_bipush (v := 10) hx hb dX11_near_47 (by decide) ?_
          refine g_calli (va_runS (As := [.int p3, .int 1, .int 10]) (rest := []) CF (c_X11_isIn h) (va_cwS 3 hts gX11_near_X11_isIn rfl rfl rfl (by decide +kernel) ⟨Nat.le_of_ble_eq_true rfl, Nat.le_of_ble_eq_true rfl⟩) hc.preS rfl rfl hl.1 rfl (lv_room (Nat.le_of_ble_eq_true rfl)) dX11_near_49 ⟨Nat.le_of_ble_eq_true rfl, Nat.le_of_ble_eq_true rfl⟩) hc (fun x29 gq30 H locs hq hc => ?_)
          obtain ⟨rfl, h⟩ := hq
          refine lv_if_ne (tgt := 61) hx hb dX11_near_52 (by decide) (fun c31 => ?_) (fun c31 => ?_)
          · have h := h.2 c31
            refine lv_aload_n hx hb dX11_near_61 rfl (lv_at hl 0 rfl) ?_
            refine g_get CF hc hk12 rfl (by decide) (fun _ h9 => List.mem_cons_of_mem _ (List.mem_append_right _ (h9))) (k := 16) (by decide) (List.mem_cons_of_mem _ (List.mem_append_left _ (List.mem_of_getElem? (i := 2) rfl))) rfl dX11_near_62 ?_
            refine lv_bipush (v := 30) hx hb dX11_near_65 (by decide) ?_
            refine lv_icmp_ne (tgt := 76) hx hb dX11_near_67 (by decide) (fun c32 => ?_) (fun c32 => ?_)
            · have h := h.2 c32
              refine lv_aload_n hx hb dX11_near_76 rfl (lv_at hl 0 rfl) ?_
              obtain ⟨y33, e34, h⟩ := h
              refine g_getr CF hc hk12 rfl (by decide) (fun _ h9 => List.mem_cons_of_mem _ (List.mem_append_right _ (h9))) (k := 21) (by decide) (List.mem_cons_of_mem _ (List.mem_append_left _ (List.mem_of_getElem? (i := 3) rfl))) e34 rfl dX11_near_77 ?_
              refine lv_aload_n hx hb dX11_near_80 rfl (lv_at hl 0 rfl) ?_
              refine g_get CF hc hk12 rfl (by decide) (fun _ h9 => List.mem_cons_of_mem _ (List.mem_append_right _ (h9))) (k := 16) (by decide) (List.mem_cons_of_mem _ (List.mem_append_left _ (List.mem_of_getElem? (i := 2) rfl))) rfl dX11_near_81 ?_
              refine lv_iload hx hb dX11_near_84 (lv_at hl 4 rfl) ?_
              obtain ⟨hk35, h⟩ := h
              obtain ⟨hi36, h⟩ := h
              obtain ⟨hz37, h⟩ := h
              refine g_zast CF hc hk35 (x := p4) hz37 hi36 dX11_near_86 (fun H locs hc => ?_)
              obtain ⟨g38, eg39⟩ : ∃ z, z = sU g10 y33 (Int32.toNatClampNeg (gI g10 p0 16)) p4 := ⟨_, rfl⟩
              have hc : gC D cA (gA g0 sz) s g38 H locs := by rw [eg39]; exact hc
              replace h := h g38 eg39
              refine lv_aload_n hx hb dX11_near_87 rfl (lv_at hl 0 rfl) ?_
              refine lv_iconst (v := 4) hx hb dX11_near_88 (by decide) ?_
              refine lv_iload_n hx hb dX11_near_89 rfl (lv_at hl 1 rfl) ?_
              refine lv_iload_n hx hb dX11_near_90 rfl (lv_at hl 2 rfl) ?_
              refine lv_iload_n hx hb dX11_near_91 rfl (lv_at hl 3 rfl) ?_
              obtain ⟨hk40, h⟩ := h
              refine g_calli (va_runV (As := [.int 4, .int p1, .int p2, .int p3]) (rest := []) CF (c_X11_add h) (cwV 4 hts gX11_near_X11_add rfl rfl rfl (by decide +kernel) ⟨Nat.le_of_ble_eq_true rfl, Nat.le_of_ble_eq_true rfl⟩) (hc.preV hk40 rfl (by decide)) rfl rfl hl.1 rfl (lv_room (Nat.le_of_ble_eq_true rfl)) dX11_near_92 ⟨Nat.le_of_ble_eq_true rfl, Nat.le_of_ble_eq_true rfl⟩) hc (fun x41 g42 H locs hq hc => ?_)
              replace h := hq
              exact g_reti (r := x41) CF hr hlk hc rfl h dX11_near_95
            · have h := h.1 c32
              refine lv_aload_n hx hb dX11_near_70 rfl (lv_at hl 0 rfl) ?_
              refine lv_iconst (v := 3) hx hb dX11_near_71 (by decide) ?_
              refine g_calli (va_runV (As := [.int 3]) (rest := []) CF (c_X11_no h) (cwV 1 hts gX11_near_X11_no rfl rfl rfl (by decide +kernel) ⟨Nat.le_of_ble_eq_true rfl, Nat.le_of_ble_eq_true rfl⟩) (hc.preV hk12 rfl (by decide)) rfl rfl hl.1 rfl (lv_room (Nat.le_of_ble_eq_true rfl)) dX11_near_72 ⟨Nat.le_of_ble_eq_true rfl, Nat.le_of_ble_eq_true rfl⟩) hc (fun x44 g45 H locs hq hc => ?_)
              replace h := hq
              exact g_reti (r := x44) CF hr hlk hc rfl h dX11_near_75
          · have h := h.1 c31
            exact hb_55 g10 p0 h _ _ _ hc (lv_sub hl [0] rfl)
    · have h := h.1 c18
      exact hb_21 g10 p0 h _ _ _ hc (lv_sub hl [0] rfl)
def b_X11_dated_58 (g : gS) (is0 : Int32) (Q : Int32 → gS → Prop) : Prop :=
  Q is0 g
def b_X11_dated_27 (g : gS) (r0 : Nat) (Q : Int32 → gS → Prop) : Prop :=
  gK g r0 = 12 ∧ (w_X11_no g r0 1 (fun x2 g3 => (Q x2 g3)))
def w_X11_dated (g0 : gS) (p0 : Nat) (p1 : Int32) (p2 : Int32) (Q : Int32 → gS → Prop) : Prop :=
  gK g0 p0 = 12 ∧ (∀ g6, g6 = sU g0 p0 0 0 → (w_X11_isIn g6 p1 0 9999 (fun x8 => ((x8 = 0 → (b_X11_dated_27 g6 p0 Q)) ∧ (¬ x8 = 0 → (w_X11_isIn g6 p2 0 9999 (fun x11 => ((x11 = 0 → (b_X11_dated_27 g6 p0 Q)) ∧ (¬ x11 = 0 → (gK g6 p0 = 12 ∧ (((gI g6 p0 16) = 30 → (w_X11_no g6 p0 2 (fun x19 g20 => (b_X11_dated_58 g20 x19 Q)))) ∧ (¬ (gI g6 p0 16) = 30 → (w_X11_add g6 p0 5 p1 p2 0 (fun x16 g17 => (b_X11_dated_58 g17 x16 Q)))))))))))))))
abbrev r_X11_dated : Room := { frames := 1, cells := 0, slots := 0, locals := 24 }
set_option maxHeartbeats 4000000 in
set_option maxRecDepth 100000 in
theorem c_X11_dated {l : Launch} {D : va_G} {cA : Nat → ClassId} {sz : Nat} {g0 : gS} {p0 : Nat} {p1 : Int32} {p2 : Int32} {Q : Int32 → gS → Prop} (h : w_X11_dated g0 p0 p1 p2 Q) : Met l yX11_dated wsX11_dated r_X11_dated (va_Pc [.ref p0, .int p1, .int p2] (gPre D cA g0 sz)) (gQi D cA g0 sz (Q)) 0 0 (gA g0 sz) := by
  refine g_met (cc := cX11_dated) (maxL := 3) (ret := (some .int)) (own := RX11) (by decide) rfl rfl (Nat.le_of_ble_eq_true rfl) ?_
  intro p e s m args below meth c ls CF hr hlk hnm hc hl
  obtain ⟨hx, hb, hml, hown, hts⟩ := id CF
  have hl : lv_has ls 3 [(0, .ref p0), (1, .int p1), (2, .int p2)] := hl
  show W p l e r_X11_dated s m args below meth c s.heap [] 0 0 (MQ below (gQi D cA g0 sz (Q)) args s 0 0 (gA g0 sz)) (F0 m 0 ls [])
  have hb_58 : ∀ (g : gS) (is0 : Int32), b_X11_dated_58 g is0 Q → ∀ (H : Heap) (locs : List Loc) (ls : Array Slot), gC D cA (gA g0 sz) s g H locs → lv_has ls 3 [] → W p l e r_X11_dated s m args below meth c H locs 0 0 (MQ below (gQi D cA g0 sz (Q)) args s 0 0 (gA g0 sz)) (F0 m 58 ls [.int is0]) := by
    intro g is0 h H locs ls hc hl
    unfold b_X11_dated_58 at h
    exact g_reti (r := is0) CF hr hlk hc rfl h dX11_dated_58
  have hb_27 : ∀ (g : gS) (r0 : Nat), b_X11_dated_27 g r0 Q → ∀ (H : Heap) (locs : List Loc) (ls : Array Slot), gC D cA (gA g0 sz) s g H locs → lv_has ls 3 [(0, .ref r0)] → W p l e r_X11_dated s m args below meth c H locs 0 0 (MQ below (gQi D cA g0 sz (Q)) args s 0 0 (gA g0 sz)) (F0 m 27 ls []) := by
    intro g r0 h H locs ls hc hl
    unfold b_X11_dated_27 at h
    refine lv_aload_n hx hb dX11_dated_27 rfl (lv_at hl 0 rfl) ?_
    refine lv_iconst (v := 1) hx hb dX11_dated_28 (by decide) ?_
    obtain ⟨hk1, h⟩ := h
    refine g_calli (va_runV (As := [.int 1]) (rest := []) CF (c_X11_no h) (cwV 1 hts gX11_dated_X11_no rfl rfl rfl (by decide +kernel) ⟨Nat.le_of_ble_eq_true rfl, Nat.le_of_ble_eq_true rfl⟩) (hc.preV hk1 rfl (by decide)) rfl rfl hl.1 rfl (lv_room (Nat.le_of_ble_eq_true rfl)) dX11_dated_29 ⟨Nat.le_of_ble_eq_true rfl, Nat.le_of_ble_eq_true rfl⟩) hc (fun x2 g3 H locs hq hc => ?_)
    replace h := hq
    exact g_reti (r := x2) CF hr hlk hc rfl h dX11_dated_32
  unfold w_X11_dated at h
  obtain ⟨H, hH0⟩ : ∃ z, z = s.heap := ⟨_, rfl⟩
  rw [← hH0] at hc ⊢
  obtain ⟨locs, hlc0⟩ : ∃ z : List Loc, z = [] := ⟨_, rfl⟩
  rw [← hlc0] at hc ⊢
  refine lv_aload_n hx hb dX11_dated_0 rfl (lv_at hl 0 rfl) ?_
  refine lv_iconst (v := 0) hx hb dX11_dated_1 (by decide) ?_
  obtain ⟨hk5, h⟩ := h
  refine g_puti CF hc hk5 rfl (by decide) (fun _ h9 => List.mem_cons_of_mem _ (List.mem_append_right _ (h9))) tyX11 tyX11_ok nmX11 (k := 0) (by decide) (List.mem_cons_of_mem _ (List.mem_append_left _ (List.mem_of_getElem? (i := 0) rfl))) rfl (v := 0) rfl rfl rfl dX11_dated_2 (fun H locs hc => ?_)
  obtain ⟨g6, eg7⟩ : ∃ z, z = sU g0 p0 0 0 := ⟨_, rfl⟩
  have hc : gC D cA (gA g0 sz) s g6 H locs := by rw [eg7]; exact hc
  replace h := h g6 eg7
  refine lv_iload_n hx hb dX11_dated_5 rfl (lv_at hl 1 rfl) ?_
  refine lv_iconst (v := 0) hx hb dX11_dated_6 (by decide) ?_
  refine lv_sipush (v := 9999) hx hb dX11_dated_7 (by decide) ?_
  refine g_calli (va_runS (As := [.int p1, .int 0, .int 9999]) (rest := []) CF (c_X11_isIn h) (va_cwS 3 hts gX11_dated_X11_isIn rfl rfl rfl (by decide +kernel) ⟨Nat.le_of_ble_eq_true rfl, Nat.le_of_ble_eq_true rfl⟩) hc.preS rfl rfl hl.1 rfl (lv_room (Nat.le_of_ble_eq_true rfl)) dX11_dated_10 ⟨Nat.le_of_ble_eq_true rfl, Nat.le_of_ble_eq_true rfl⟩) hc (fun x8 gq9 H locs hq hc => ?_)
  obtain ⟨rfl, h⟩ := hq
  refine lv_if_eq (tgt := 27) hx hb dX11_dated_13 (by decide) (fun c10 => ?_) (fun c10 => ?_)
  · have h := h.1 c10
    exact hb_27 g6 p0 h _ _ _ hc (lv_sub hl [0] rfl)
  · have h := h.2 c10
    refine lv_iload_n hx hb dX11_dated_16 rfl (lv_at hl 2 rfl) ?_
    refine lv_iconst (v := 0) hx hb dX11_dated_17 (by decide) ?_
    refine lv_sipush (v := 9999) hx hb dX11_dated_18 (by decide) ?_
    refine g_calli (va_runS (As := [.int p2, .int 0, .int 9999]) (rest := []) CF (c_X11_isIn h) (va_cwS 3 hts gX11_dated_X11_isIn rfl rfl rfl (by decide +kernel) ⟨Nat.le_of_ble_eq_true rfl, Nat.le_of_ble_eq_true rfl⟩) hc.preS rfl rfl hl.1 rfl (lv_room (Nat.le_of_ble_eq_true rfl)) dX11_dated_21 ⟨Nat.le_of_ble_eq_true rfl, Nat.le_of_ble_eq_true rfl⟩) hc (fun x11 gq12 H locs hq hc => ?_)
    obtain ⟨rfl, h⟩ := hq
    refine lv_if_ne (tgt := 33) hx hb dX11_dated_24 (by decide) (fun c13 => ?_) (fun c13 => ?_)
    · have h := h.2 c13
      refine lv_aload_n hx hb dX11_dated_33 rfl (lv_at hl 0 rfl) ?_
      obtain ⟨hk14, h⟩ := h
      refine g_get CF hc hk14 rfl (by decide) (fun _ h9 => List.mem_cons_of_mem _ (List.mem_append_right _ (h9))) (k := 16) (by decide) (List.mem_cons_of_mem _ (List.mem_append_left _ (List.mem_of_getElem? (i := 1) rfl))) rfl dX11_dated_34 ?_
      refine lv_bipush (v := 30) hx hb dX11_dated_37 (by decide) ?_
      refine lv_icmp_ne (tgt := 50) hx hb dX11_dated_39 (by decide) (fun c15 => ?_) (fun c15 => ?_)
      · have h := h.2 c15
        refine lv_aload_n hx hb dX11_dated_50 rfl (lv_at hl 0 rfl) ?_
        refine lv_iconst (v := 5) hx hb dX11_dated_51 (by decide) ?_
        refine lv_iload_n hx hb dX11_dated_52 rfl (lv_at hl 1 rfl) ?_
        refine lv_iload_n hx hb dX11_dated_53 rfl (lv_at hl 2 rfl) ?_
        refine lv_iconst (v := 0) hx hb dX11_dated_54 (by decide) ?_
        refine g_calli (va_runV (As := [.int 5, .int p1, .int p2, .int 0]) (rest := []) CF (c_X11_add h) (cwV 4 hts gX11_dated_X11_add rfl rfl rfl (by decide +kernel) ⟨Nat.le_of_ble_eq_true rfl, Nat.le_of_ble_eq_true rfl⟩) (hc.preV hk14 rfl (by decide)) rfl rfl hl.1 rfl (lv_room (Nat.le_of_ble_eq_true rfl)) dX11_dated_55 ⟨Nat.le_of_ble_eq_true rfl, Nat.le_of_ble_eq_true rfl⟩) hc (fun x16 g17 H locs hq hc => ?_)
        replace h := hq
        exact hb_58 g17 x16 h _ _ _ hc (lv_sub hl [] rfl)
      · have h := h.1 c15
        refine lv_aload_n hx hb dX11_dated_42 rfl (lv_at hl 0 rfl) ?_
        refine lv_iconst (v := 2) hx hb dX11_dated_43 (by decide) ?_
        refine g_calli (va_runV (As := [.int 2]) (rest := []) CF (c_X11_no h) (cwV 1 hts gX11_dated_X11_no rfl rfl rfl (by decide +kernel) ⟨Nat.le_of_ble_eq_true rfl, Nat.le_of_ble_eq_true rfl⟩) (hc.preV hk14 rfl (by decide)) rfl rfl hl.1 rfl (lv_room (Nat.le_of_ble_eq_true rfl)) dX11_dated_44 ⟨Nat.le_of_ble_eq_true rfl, Nat.le_of_ble_eq_true rfl⟩) hc (fun x19 g20 H locs hq hc => ?_)
        replace h := hq
        refine lv_goto (tgt := 58) hx hb dX11_dated_47 (by decide) ?_
        exact hb_58 g20 x19 h _ _ _ hc (lv_sub hl [] rfl)
    · have h := h.1 c13
      exact hb_27 g6 p0 h _ _ _ hc (lv_sub hl [0] rfl)
def b_X11_kind_48 (g : gS) (is0 : Int32) (Q : Int32 → gS → Prop) : Prop :=
  Q is0 g
def w_X11_kind (g0 : gS) (p0 : Nat) (p1 : Int32) (Q : Int32 → gS → Prop) : Prop :=
  gK g0 p0 = 12 ∧ (∀ g2, g2 = sU g0 p0 0 0 → (w_X11_isIn g2 p1 1 255 (fun x4 => ((x4 = 0 → (gK g2 p0 = 12 ∧ (w_X11_no g2 p0 1 (fun x16 g17 => (Q x16 g17))))) ∧ (¬ x4 = 0 → (gK g2 p0 = 12 ∧ (((gI g2 p0 16) = 30 → (w_X11_no g2 p0 2 (fun x12 g13 => (b_X11_kind_48 g13 x12 Q)))) ∧ (¬ (gI g2 p0 16) = 30 → (w_X11_add g2 p0 6 p1 0 0 (fun x9 g10 => (b_X11_kind_48 g10 x9 Q)))))))))))
abbrev r_X11_kind : Room := { frames := 1, cells := 0, slots := 0, locals := 24 }
set_option maxHeartbeats 4000000 in
set_option maxRecDepth 100000 in
theorem c_X11_kind {l : Launch} {D : va_G} {cA : Nat → ClassId} {sz : Nat} {g0 : gS} {p0 : Nat} {p1 : Int32} {Q : Int32 → gS → Prop} (h : w_X11_kind g0 p0 p1 Q) : Met l yX11_kind wsX11_kind r_X11_kind (va_Pc [.ref p0, .int p1] (gPre D cA g0 sz)) (gQi D cA g0 sz (Q)) 0 0 (gA g0 sz) := by
  refine g_met (cc := cX11_kind) (maxL := 2) (ret := (some .int)) (own := RX11) (by decide) rfl rfl (Nat.le_of_ble_eq_true rfl) ?_
  intro p e s m args below meth c ls CF hr hlk hnm hc hl
  obtain ⟨hx, hb, hml, hown, hts⟩ := id CF
  have hl : lv_has ls 2 [(0, .ref p0), (1, .int p1)] := hl
  show W p l e r_X11_kind s m args below meth c s.heap [] 0 0 (MQ below (gQi D cA g0 sz (Q)) args s 0 0 (gA g0 sz)) (F0 m 0 ls [])
  have hb_48 : ∀ (g : gS) (is0 : Int32), b_X11_kind_48 g is0 Q → ∀ (H : Heap) (locs : List Loc) (ls : Array Slot), gC D cA (gA g0 sz) s g H locs → lv_has ls 2 [] → W p l e r_X11_kind s m args below meth c H locs 0 0 (MQ below (gQi D cA g0 sz (Q)) args s 0 0 (gA g0 sz)) (F0 m 48 ls [.int is0]) := by
    intro g is0 h H locs ls hc hl
    unfold b_X11_kind_48 at h
    exact g_reti (r := is0) CF hr hlk hc rfl h dX11_kind_48
  unfold w_X11_kind at h
  obtain ⟨H, hH0⟩ : ∃ z, z = s.heap := ⟨_, rfl⟩
  rw [← hH0] at hc ⊢
  obtain ⟨locs, hlc0⟩ : ∃ z : List Loc, z = [] := ⟨_, rfl⟩
  rw [← hlc0] at hc ⊢
  refine lv_aload_n hx hb dX11_kind_0 rfl (lv_at hl 0 rfl) ?_
  refine lv_iconst (v := 0) hx hb dX11_kind_1 (by decide) ?_
  obtain ⟨hk1, h⟩ := h
  refine g_puti CF hc hk1 rfl (by decide) (fun _ h9 => List.mem_cons_of_mem _ (List.mem_append_right _ (h9))) tyX11 tyX11_ok nmX11 (k := 0) (by decide) (List.mem_cons_of_mem _ (List.mem_append_left _ (List.mem_of_getElem? (i := 0) rfl))) rfl (v := 0) rfl rfl rfl dX11_kind_2 (fun H locs hc => ?_)
  obtain ⟨g2, eg3⟩ : ∃ z, z = sU g0 p0 0 0 := ⟨_, rfl⟩
  have hc : gC D cA (gA g0 sz) s g2 H locs := by rw [eg3]; exact hc
  replace h := h g2 eg3
  refine lv_iload_n hx hb dX11_kind_5 rfl (lv_at hl 1 rfl) ?_
  refine lv_iconst (v := 1) hx hb dX11_kind_6 (by decide) ?_
  refine lv_sipush (v := 255) hx hb dX11_kind_7 (by decide) ?_
  refine g_calli (va_runS (As := [.int p1, .int 1, .int 255]) (rest := []) CF (c_X11_isIn h) (va_cwS 3 hts gX11_kind_X11_isIn rfl rfl rfl (by decide +kernel) ⟨Nat.le_of_ble_eq_true rfl, Nat.le_of_ble_eq_true rfl⟩) hc.preS rfl rfl hl.1 rfl (lv_room (Nat.le_of_ble_eq_true rfl)) dX11_kind_10 ⟨Nat.le_of_ble_eq_true rfl, Nat.le_of_ble_eq_true rfl⟩) hc (fun x4 gq5 H locs hq hc => ?_)
  obtain ⟨rfl, h⟩ := hq
  refine lv_if_ne (tgt := 22) hx hb dX11_kind_13 (by decide) (fun c6 => ?_) (fun c6 => ?_)
  · have h := h.2 c6
    refine lv_aload_n hx hb dX11_kind_22 rfl (lv_at hl 0 rfl) ?_
    obtain ⟨hk7, h⟩ := h
    refine g_get CF hc hk7 rfl (by decide) (fun _ h9 => List.mem_cons_of_mem _ (List.mem_append_right _ (h9))) (k := 16) (by decide) (List.mem_cons_of_mem _ (List.mem_append_left _ (List.mem_of_getElem? (i := 1) rfl))) rfl dX11_kind_23 ?_
    refine lv_bipush (v := 30) hx hb dX11_kind_26 (by decide) ?_
    refine lv_icmp_ne (tgt := 39) hx hb dX11_kind_28 (by decide) (fun c8 => ?_) (fun c8 => ?_)
    · have h := h.2 c8
      refine lv_aload_n hx hb dX11_kind_39 rfl (lv_at hl 0 rfl) ?_
      refine lv_bipush (v := 6) hx hb dX11_kind_40 (by decide) ?_
      refine lv_iload_n hx hb dX11_kind_42 rfl (lv_at hl 1 rfl) ?_
      refine lv_iconst (v := 0) hx hb dX11_kind_43 (by decide) ?_
      refine lv_iconst (v := 0) hx hb dX11_kind_44 (by decide) ?_
      refine g_calli (va_runV (As := [.int 6, .int p1, .int 0, .int 0]) (rest := []) CF (c_X11_add h) (cwV 4 hts gX11_kind_X11_add rfl rfl rfl (by decide +kernel) ⟨Nat.le_of_ble_eq_true rfl, Nat.le_of_ble_eq_true rfl⟩) (hc.preV hk7 rfl (by decide)) rfl rfl hl.1 rfl (lv_room (Nat.le_of_ble_eq_true rfl)) dX11_kind_45 ⟨Nat.le_of_ble_eq_true rfl, Nat.le_of_ble_eq_true rfl⟩) hc (fun x9 g10 H locs hq hc => ?_)
      replace h := hq
      exact hb_48 g10 x9 h _ _ _ hc (lv_sub hl [] rfl)
    · have h := h.1 c8
      refine lv_aload_n hx hb dX11_kind_31 rfl (lv_at hl 0 rfl) ?_
      refine lv_iconst (v := 2) hx hb dX11_kind_32 (by decide) ?_
      refine g_calli (va_runV (As := [.int 2]) (rest := []) CF (c_X11_no h) (cwV 1 hts gX11_kind_X11_no rfl rfl rfl (by decide +kernel) ⟨Nat.le_of_ble_eq_true rfl, Nat.le_of_ble_eq_true rfl⟩) (hc.preV hk7 rfl (by decide)) rfl rfl hl.1 rfl (lv_room (Nat.le_of_ble_eq_true rfl)) dX11_kind_33 ⟨Nat.le_of_ble_eq_true rfl, Nat.le_of_ble_eq_true rfl⟩) hc (fun x12 g13 H locs hq hc => ?_)
      replace h := hq
      refine lv_goto (tgt := 48) hx hb dX11_kind_36 (by decide) ?_
      exact hb_48 g13 x12 h _ _ _ hc (lv_sub hl [] rfl)
  · have h := h.1 c6
    refine lv_aload_n hx hb dX11_kind_16 rfl (lv_at hl 0 rfl) ?_
    refine lv_iconst (v := 1) hx hb dX11_kind_17 (by decide) ?_
    obtain ⟨hk15, h⟩ := h
    refine g_calli (va_runV (As := [.int 1]) (rest := []) CF (c_X11_no h) (cwV 1 hts gX11_kind_X11_no rfl rfl rfl (by decide +kernel) ⟨Nat.le_of_ble_eq_true rfl, Nat.le_of_ble_eq_true rfl⟩) (hc.preV hk15 rfl (by decide)) rfl rfl hl.1 rfl (lv_room (Nat.le_of_ble_eq_true rfl)) dX11_kind_18 ⟨Nat.le_of_ble_eq_true rfl, Nat.le_of_ble_eq_true rfl⟩) hc (fun x16 g17 H locs hq hc => ?_)
    replace h := hq
    exact g_reti (r := x16) CF hr hlk hc rfl h dX11_kind_21
def b_X11_scaled_62 (g : gS) (is0 : Int32) (Q : Int32 → gS → Prop) : Prop :=
  Q is0 g
def w_X11_scaled (g0 : gS) (p0 : Nat) (p1 : Int32) (p2 : Int32) (Q : Int32 → gS → Prop) : Prop :=
  gK g0 p0 = 12 ∧ (∀ g2, g2 = sU g0 p0 0 0 → (gK g2 p0 = 12 ∧ (w_X11_isNode g2 p0 p1 (fun x5 => ((x5 = 0 → (w_X11_no g2 p0 1 (fun x21 g22 => (Q x21 g22)))) ∧ (¬ x5 = 0 → (w_X11_isIn g2 p2 0 500 (fun x8 => ((x8 = 0 → (w_X11_no g2 p0 2 (fun x18 g19 => (Q x18 g19)))) ∧ (¬ x8 = 0 → (((gI g2 p0 16) = 30 → (w_X11_no g2 p0 3 (fun x15 g16 => (b_X11_scaled_62 g16 x15 Q)))) ∧ (¬ (gI g2 p0 16) = 30 → (w_X11_add g2 p0 7 p1 p2 0 (fun x12 g13 => (b_X11_scaled_62 g13 x12 Q)))))))))))))))
abbrev r_X11_scaled : Room := { frames := 2, cells := 0, slots := 0, locals := 43 }
set_option maxHeartbeats 4000000 in
set_option maxRecDepth 100000 in
theorem c_X11_scaled {l : Launch} {D : va_G} {cA : Nat → ClassId} {sz : Nat} {g0 : gS} {p0 : Nat} {p1 : Int32} {p2 : Int32} {Q : Int32 → gS → Prop} (h : w_X11_scaled g0 p0 p1 p2 Q) : Met l yX11_scaled wsX11_scaled r_X11_scaled (va_Pc [.ref p0, .int p1, .int p2] (gPre D cA g0 sz)) (gQi D cA g0 sz (Q)) 0 0 (gA g0 sz) := by
  refine g_met (cc := cX11_scaled) (maxL := 3) (ret := (some .int)) (own := RX11) (by decide) rfl rfl (Nat.le_of_ble_eq_true rfl) ?_
  intro p e s m args below meth c ls CF hr hlk hnm hc hl
  obtain ⟨hx, hb, hml, hown, hts⟩ := id CF
  have hl : lv_has ls 3 [(0, .ref p0), (1, .int p1), (2, .int p2)] := hl
  show W p l e r_X11_scaled s m args below meth c s.heap [] 0 0 (MQ below (gQi D cA g0 sz (Q)) args s 0 0 (gA g0 sz)) (F0 m 0 ls [])
  have hb_62 : ∀ (g : gS) (is0 : Int32), b_X11_scaled_62 g is0 Q → ∀ (H : Heap) (locs : List Loc) (ls : Array Slot), gC D cA (gA g0 sz) s g H locs → lv_has ls 3 [] → W p l e r_X11_scaled s m args below meth c H locs 0 0 (MQ below (gQi D cA g0 sz (Q)) args s 0 0 (gA g0 sz)) (F0 m 62 ls [.int is0]) := by
    intro g is0 h H locs ls hc hl
    unfold b_X11_scaled_62 at h
    exact g_reti (r := is0) CF hr hlk hc rfl h dX11_scaled_62
  unfold w_X11_scaled at h
  obtain ⟨H, hH0⟩ : ∃ z, z = s.heap := ⟨_, rfl⟩
  rw [← hH0] at hc ⊢
  obtain ⟨locs, hlc0⟩ : ∃ z : List Loc, z = [] := ⟨_, rfl⟩
  rw [← hlc0] at hc ⊢
  refine lv_aload_n hx hb dX11_scaled_0 rfl (lv_at hl 0 rfl) ?_
  refine lv_iconst (v := 0) hx hb dX11_scaled_1 (by decide) ?_
  obtain ⟨hk1, h⟩ := h
  refine g_puti CF hc hk1 rfl (by decide) (fun _ h9 => List.mem_cons_of_mem _ (List.mem_append_right _ (h9))) tyX11 tyX11_ok nmX11 (k := 0) (by decide) (List.mem_cons_of_mem _ (List.mem_append_left _ (List.mem_of_getElem? (i := 0) rfl))) rfl (v := 0) rfl rfl rfl dX11_scaled_2 (fun H locs hc => ?_)
  obtain ⟨g2, eg3⟩ : ∃ z, z = sU g0 p0 0 0 := ⟨_, rfl⟩
  have hc : gC D cA (gA g0 sz) s g2 H locs := by rw [eg3]; exact hc
  replace h := h g2 eg3
  refine lv_aload_n hx hb dX11_scaled_5 rfl (lv_at hl 0 rfl) ?_
  refine lv_iload_n hx hb dX11_scaled_6 rfl (lv_at hl 1 rfl) ?_
  obtain ⟨hk4, h⟩ := h
  refine g_calli (va_runV (As := [.int p1]) (rest := []) CF (c_X11_isNode h) (cwV 1 hts gX11_scaled_X11_isNode rfl rfl rfl (by decide +kernel) ⟨Nat.le_of_ble_eq_true rfl, Nat.le_of_ble_eq_true rfl⟩) (hc.preV hk4 rfl (by decide)) rfl rfl hl.1 rfl (lv_room (Nat.le_of_ble_eq_true rfl)) dX11_scaled_7 ⟨Nat.le_of_ble_eq_true rfl, Nat.le_of_ble_eq_true rfl⟩) hc (fun x5 gq6 H locs hq hc => ?_)
  obtain ⟨rfl, h⟩ := hq
  refine lv_if_ne (tgt := 19) hx hb dX11_scaled_10 (by decide) (fun c7 => ?_) (fun c7 => ?_)
  · have h := h.2 c7
    refine lv_iload_n hx hb dX11_scaled_19 rfl (lv_at hl 2 rfl) ?_
    refine lv_iconst (v := 0) hx hb dX11_scaled_20 (by decide) ?_
    refine lv_sipush (v := 500) hx hb dX11_scaled_21 (by decide) ?_
    refine g_calli (va_runS (As := [.int p2, .int 0, .int 500]) (rest := []) CF (c_X11_isIn h) (va_cwS 3 hts gX11_scaled_X11_isIn rfl rfl rfl (by decide +kernel) ⟨Nat.le_of_ble_eq_true rfl, Nat.le_of_ble_eq_true rfl⟩) hc.preS rfl rfl hl.1 rfl (lv_room (Nat.le_of_ble_eq_true rfl)) dX11_scaled_24 ⟨Nat.le_of_ble_eq_true rfl, Nat.le_of_ble_eq_true rfl⟩) hc (fun x8 gq9 H locs hq hc => ?_)
    obtain ⟨rfl, h⟩ := hq
    refine lv_if_ne (tgt := 36) hx hb dX11_scaled_27 (by decide) (fun c10 => ?_) (fun c10 => ?_)
    · have h := h.2 c10
      refine lv_aload_n hx hb dX11_scaled_36 rfl (lv_at hl 0 rfl) ?_
      refine g_get CF hc hk4 rfl (by decide) (fun _ h9 => List.mem_cons_of_mem _ (List.mem_append_right _ (h9))) (k := 16) (by decide) (List.mem_cons_of_mem _ (List.mem_append_left _ (List.mem_of_getElem? (i := 1) rfl))) rfl dX11_scaled_37 ?_
      refine lv_bipush (v := 30) hx hb dX11_scaled_40 (by decide) ?_
      refine lv_icmp_ne (tgt := 53) hx hb dX11_scaled_42 (by decide) (fun c11 => ?_) (fun c11 => ?_)
      · have h := h.2 c11
        refine lv_aload_n hx hb dX11_scaled_53 rfl (lv_at hl 0 rfl) ?_
        refine lv_bipush (v := 7) hx hb dX11_scaled_54 (by decide) ?_
        refine lv_iload_n hx hb dX11_scaled_56 rfl (lv_at hl 1 rfl) ?_
        refine lv_iload_n hx hb dX11_scaled_57 rfl (lv_at hl 2 rfl) ?_
        refine lv_iconst (v := 0) hx hb dX11_scaled_58 (by decide) ?_
        refine g_calli (va_runV (As := [.int 7, .int p1, .int p2, .int 0]) (rest := []) CF (c_X11_add h) (cwV 4 hts gX11_scaled_X11_add rfl rfl rfl (by decide +kernel) ⟨Nat.le_of_ble_eq_true rfl, Nat.le_of_ble_eq_true rfl⟩) (hc.preV hk4 rfl (by decide)) rfl rfl hl.1 rfl (lv_room (Nat.le_of_ble_eq_true rfl)) dX11_scaled_59 ⟨Nat.le_of_ble_eq_true rfl, Nat.le_of_ble_eq_true rfl⟩) hc (fun x12 g13 H locs hq hc => ?_)
        replace h := hq
        exact hb_62 g13 x12 h _ _ _ hc (lv_sub hl [] rfl)
      · have h := h.1 c11
        refine lv_aload_n hx hb dX11_scaled_45 rfl (lv_at hl 0 rfl) ?_
        refine lv_iconst (v := 3) hx hb dX11_scaled_46 (by decide) ?_
        refine g_calli (va_runV (As := [.int 3]) (rest := []) CF (c_X11_no h) (cwV 1 hts gX11_scaled_X11_no rfl rfl rfl (by decide +kernel) ⟨Nat.le_of_ble_eq_true rfl, Nat.le_of_ble_eq_true rfl⟩) (hc.preV hk4 rfl (by decide)) rfl rfl hl.1 rfl (lv_room (Nat.le_of_ble_eq_true rfl)) dX11_scaled_47 ⟨Nat.le_of_ble_eq_true rfl, Nat.le_of_ble_eq_true rfl⟩) hc (fun x15 g16 H locs hq hc => ?_)
        replace h := hq
        refine lv_goto (tgt := 62) hx hb dX11_scaled_50 (by decide) ?_
        exact hb_62 g16 x15 h _ _ _ hc (lv_sub hl [] rfl)
    · have h := h.1 c10
      refine lv_aload_n hx hb dX11_scaled_30 rfl (lv_at hl 0 rfl) ?_
      refine lv_iconst (v := 2) hx hb dX11_scaled_31 (by decide) ?_
      refine g_calli (va_runV (As := [.int 2]) (rest := []) CF (c_X11_no h) (cwV 1 hts gX11_scaled_X11_no rfl rfl rfl (by decide +kernel) ⟨Nat.le_of_ble_eq_true rfl, Nat.le_of_ble_eq_true rfl⟩) (hc.preV hk4 rfl (by decide)) rfl rfl hl.1 rfl (lv_room (Nat.le_of_ble_eq_true rfl)) dX11_scaled_32 ⟨Nat.le_of_ble_eq_true rfl, Nat.le_of_ble_eq_true rfl⟩) hc (fun x18 g19 H locs hq hc => ?_)
      replace h := hq
      exact g_reti (r := x18) CF hr hlk hc rfl h dX11_scaled_35
  · have h := h.1 c7
    refine lv_aload_n hx hb dX11_scaled_13 rfl (lv_at hl 0 rfl) ?_
    refine lv_iconst (v := 1) hx hb dX11_scaled_14 (by decide) ?_
    refine g_calli (va_runV (As := [.int 1]) (rest := []) CF (c_X11_no h) (cwV 1 hts gX11_scaled_X11_no rfl rfl rfl (by decide +kernel) ⟨Nat.le_of_ble_eq_true rfl, Nat.le_of_ble_eq_true rfl⟩) (hc.preV hk4 rfl (by decide)) rfl rfl hl.1 rfl (lv_room (Nat.le_of_ble_eq_true rfl)) dX11_scaled_15 ⟨Nat.le_of_ble_eq_true rfl, Nat.le_of_ble_eq_true rfl⟩) hc (fun x21 g22 H locs hq hc => ?_)
    replace h := hq
    exact g_reti (r := x21) CF hr hlk hc rfl h dX11_scaled_18
def b_X11_most_103 (g : gS) (is0 : Int32) (Q : Int32 → gS → Prop) : Prop :=
  Q is0 g
def b_X11_most_71 (g : gS) (r0 : Nat) (Q : Int32 → gS → Prop) : Prop :=
  gK g r0 = 12 ∧ (w_X11_no g r0 2 (fun x2 g3 => (Q x2 g3)))
def b_X11_most_42 (g : gS) (r0 : Nat) (i1 : Int32) (i2 : Int32) (i3 : Int32) (i4 : Int32) (Q : Int32 → gS → Prop) : Prop :=
  (i4 = 0 → (gK g r0 = 12 ∧ (w_X11_no g r0 1 (fun x21 g22 => (Q x21 g22))))) ∧ (¬ i4 = 0 → (w_X11_isIn g i2 2 4 (fun x6 => ((x6 = 0 → (b_X11_most_71 g r0 Q)) ∧ (¬ x6 = 0 → (w_X11_isIn g i3 1 i2 (fun x9 => ((x9 = 0 → (b_X11_most_71 g r0 Q)) ∧ (¬ x9 = 0 → (gK g r0 = 12 ∧ (((gI g r0 16) = 30 → (w_X11_no g r0 3 (fun x17 g18 => (b_X11_most_103 g18 x17 Q)))) ∧ (¬ (gI g r0 16) = 30 → (w_X11_add g r0 8 i1 i2 i3 (fun x14 g15 => (b_X11_most_103 g15 x14 Q)))))))))))))))
def l_X11_most_15 (g : gS) (r0 : Nat) (i1 : Int32) (i2 : Int32) (i3 : Int32) (Q : Int32 → gS → Prop) (i4 : Int32) (i5 : Int32) (k15 : Int32 → Int32 → Prop) : Prop :=
  (i4 = 0 → (b_X11_most_42 g r0 i1 i2 i3 i4 Q)) ∧ (¬ i4 = 0 → ((i2 ≤ i5 → (b_X11_most_42 g r0 i1 i2 i3 i4 Q)) ∧ (¬ i2 ≤ i5 → (gK g r0 = 12 ∧ (w_X11_isNode g r0 (i1 + i5) (fun x27 => (k15 x27 (i5 + 1))))))))
def w_X11_most (g0 : gS) (p0 : Nat) (p1 : Int32) (p2 : Int32) (p3 : Int32) (Q : Int32 → gS → Prop) : Prop :=
  gK g0 p0 = 12 ∧ (∀ g30, g30 = sU g0 p0 0 0 → (gK g30 p0 = 12 ∧ (w_X11_isNode g30 p0 p1 (fun x33 => (lpx2 (l_X11_most_15 g30 p0 p1 p2 p3 Q) x33 1)))))
abbrev r_X11_most : Room := { frames := 2, cells := 0, slots := 0, locals := 43 }
set_option maxHeartbeats 4000000 in
set_option maxRecDepth 100000 in
theorem c_X11_most {l : Launch} {D : va_G} {cA : Nat → ClassId} {sz : Nat} {g0 : gS} {p0 : Nat} {p1 : Int32} {p2 : Int32} {p3 : Int32} {Q : Int32 → gS → Prop} (h : w_X11_most g0 p0 p1 p2 p3 Q) : Met l yX11_most wsX11_most r_X11_most (va_Pc [.ref p0, .int p1, .int p2, .int p3] (gPre D cA g0 sz)) (gQi D cA g0 sz (Q)) 0 0 (gA g0 sz) := by
  refine g_met (cc := cX11_most) (maxL := 6) (ret := (some .int)) (own := RX11) (by decide) rfl rfl (Nat.le_of_ble_eq_true rfl) ?_
  intro p e s m args below meth c ls CF hr hlk hnm hc hl
  obtain ⟨hx, hb, hml, hown, hts⟩ := id CF
  have hl : lv_has ls 6 [(0, .ref p0), (1, .int p1), (2, .int p2), (3, .int p3)] := hl
  show W p l e r_X11_most s m args below meth c s.heap [] 0 0 (MQ below (gQi D cA g0 sz (Q)) args s 0 0 (gA g0 sz)) (F0 m 0 ls [])
  have hb_103 : ∀ (g : gS) (is0 : Int32), b_X11_most_103 g is0 Q → ∀ (H : Heap) (locs : List Loc) (ls : Array Slot), gC D cA (gA g0 sz) s g H locs → lv_has ls 6 [] → W p l e r_X11_most s m args below meth c H locs 0 0 (MQ below (gQi D cA g0 sz (Q)) args s 0 0 (gA g0 sz)) (F0 m 103 ls [.int is0]) := by
    intro g is0 h H locs ls hc hl
    unfold b_X11_most_103 at h
    exact g_reti (r := is0) CF hr hlk hc rfl h dX11_most_103
  have hb_71 : ∀ (g : gS) (r0 : Nat), b_X11_most_71 g r0 Q → ∀ (H : Heap) (locs : List Loc) (ls : Array Slot), gC D cA (gA g0 sz) s g H locs → lv_has ls 6 [(0, .ref r0)] → W p l e r_X11_most s m args below meth c H locs 0 0 (MQ below (gQi D cA g0 sz (Q)) args s 0 0 (gA g0 sz)) (F0 m 71 ls []) := by
    intro g r0 h H locs ls hc hl
    unfold b_X11_most_71 at h
    refine lv_aload_n hx hb dX11_most_71 rfl (lv_at hl 0 rfl) ?_
    refine lv_iconst (v := 2) hx hb dX11_most_72 (by decide) ?_
    obtain ⟨hk1, h⟩ := h
    refine g_calli (va_runV (As := [.int 2]) (rest := []) CF (c_X11_no h) (cwV 1 hts gX11_most_X11_no rfl rfl rfl (by decide +kernel) ⟨Nat.le_of_ble_eq_true rfl, Nat.le_of_ble_eq_true rfl⟩) (hc.preV hk1 rfl (by decide)) rfl rfl hl.1 rfl (lv_room (Nat.le_of_ble_eq_true rfl)) dX11_most_73 ⟨Nat.le_of_ble_eq_true rfl, Nat.le_of_ble_eq_true rfl⟩) hc (fun x2 g3 H locs hq hc => ?_)
    replace h := hq
    exact g_reti (r := x2) CF hr hlk hc rfl h dX11_most_76
  have hb_42 : ∀ (g : gS) (r0 : Nat) (i1 : Int32) (i2 : Int32) (i3 : Int32) (i4 : Int32), b_X11_most_42 g r0 i1 i2 i3 i4 Q → ∀ (H : Heap) (locs : List Loc) (ls : Array Slot), gC D cA (gA g0 sz) s g H locs → lv_has ls 6 [(0, .ref r0), (1, .int i1), (2, .int i2), (3, .int i3), (4, .int i4)] → W p l e r_X11_most s m args below meth c H locs 0 0 (MQ below (gQi D cA g0 sz (Q)) args s 0 0 (gA g0 sz)) (F0 m 42 ls []) := by
    intro g r0 i1 i2 i3 i4 h H locs ls hc hl
    unfold b_X11_most_42 at h
    refine lv_iload hx hb dX11_most_42 (lv_at hl 4 rfl) ?_
    refine lv_if_ne (tgt := 53) hx hb dX11_most_44 (by decide) (fun c5 => ?_) (fun c5 => ?_)
    · have h := h.2 c5
      refine lv_iload_n hx hb dX11_most_53 rfl (lv_at hl 2 rfl) ?_
      refine lv_iconst (v := 2) hx hb dX11_most_54 (by decide) ?_
      refine lv_iconst (v := 4) hx hb dX11_most_55 (by decide) ?_
      refine g_calli (va_runS (As := [.int i2, .int 2, .int 4]) (rest := []) CF (c_X11_isIn h) (va_cwS 3 hts gX11_most_X11_isIn rfl rfl rfl (by decide +kernel) ⟨Nat.le_of_ble_eq_true rfl, Nat.le_of_ble_eq_true rfl⟩) hc.preS rfl rfl hl.1 rfl (lv_room (Nat.le_of_ble_eq_true rfl)) dX11_most_56 ⟨Nat.le_of_ble_eq_true rfl, Nat.le_of_ble_eq_true rfl⟩) hc (fun x6 gq7 H locs hq hc => ?_)
      obtain ⟨rfl, h⟩ := hq
      refine lv_if_eq (tgt := 71) hx hb dX11_most_59 (by decide) (fun c8 => ?_) (fun c8 => ?_)
      · have h := h.1 c8
        exact hb_71 g r0 h _ _ _ hc (lv_sub hl [0] rfl)
      · have h := h.2 c8
        refine lv_iload_n hx hb dX11_most_62 rfl (lv_at hl 3 rfl) ?_
        refine lv_iconst (v := 1) hx hb dX11_most_63 (by decide) ?_
        refine lv_iload_n hx hb dX11_most_64 rfl (lv_at hl 2 rfl) ?_
        refine g_calli (va_runS (As := [.int i3, .int 1, .int i2]) (rest := []) CF (c_X11_isIn h) (va_cwS 3 hts gX11_most_X11_isIn rfl rfl rfl (by decide +kernel) ⟨Nat.le_of_ble_eq_true rfl, Nat.le_of_ble_eq_true rfl⟩) hc.preS rfl rfl hl.1 rfl (lv_room (Nat.le_of_ble_eq_true rfl)) dX11_most_65 ⟨Nat.le_of_ble_eq_true rfl, Nat.le_of_ble_eq_true rfl⟩) hc (fun x9 gq10 H locs hq hc => ?_)
        obtain ⟨rfl, h⟩ := hq
        refine lv_if_ne (tgt := 77) hx hb dX11_most_68 (by decide) (fun c11 => ?_) (fun c11 => ?_)
        · have h := h.2 c11
          refine lv_aload_n hx hb dX11_most_77 rfl (lv_at hl 0 rfl) ?_
          obtain ⟨hk12, h⟩ := h
          refine g_get CF hc hk12 rfl (by decide) (fun _ h9 => List.mem_cons_of_mem _ (List.mem_append_right _ (h9))) (k := 16) (by decide) (List.mem_cons_of_mem _ (List.mem_append_left _ (List.mem_of_getElem? (i := 1) rfl))) rfl dX11_most_78 ?_
          refine lv_bipush (v := 30) hx hb dX11_most_81 (by decide) ?_
          refine lv_icmp_ne (tgt := 94) hx hb dX11_most_83 (by decide) (fun c13 => ?_) (fun c13 => ?_)
          · have h := h.2 c13
            refine lv_aload_n hx hb dX11_most_94 rfl (lv_at hl 0 rfl) ?_
            refine lv_bipush (v := 8) hx hb dX11_most_95 (by decide) ?_
            refine lv_iload_n hx hb dX11_most_97 rfl (lv_at hl 1 rfl) ?_
            refine lv_iload_n hx hb dX11_most_98 rfl (lv_at hl 2 rfl) ?_
            refine lv_iload_n hx hb dX11_most_99 rfl (lv_at hl 3 rfl) ?_
            refine g_calli (va_runV (As := [.int 8, .int i1, .int i2, .int i3]) (rest := []) CF (c_X11_add h) (cwV 4 hts gX11_most_X11_add rfl rfl rfl (by decide +kernel) ⟨Nat.le_of_ble_eq_true rfl, Nat.le_of_ble_eq_true rfl⟩) (hc.preV hk12 rfl (by decide)) rfl rfl hl.1 rfl (lv_room (Nat.le_of_ble_eq_true rfl)) dX11_most_100 ⟨Nat.le_of_ble_eq_true rfl, Nat.le_of_ble_eq_true rfl⟩) hc (fun x14 g15 H locs hq hc => ?_)
            replace h := hq
            exact hb_103 g15 x14 h _ _ _ hc (lv_sub hl [] rfl)
          · have h := h.1 c13
            refine lv_aload_n hx hb dX11_most_86 rfl (lv_at hl 0 rfl) ?_
            refine lv_iconst (v := 3) hx hb dX11_most_87 (by decide) ?_
            refine g_calli (va_runV (As := [.int 3]) (rest := []) CF (c_X11_no h) (cwV 1 hts gX11_most_X11_no rfl rfl rfl (by decide +kernel) ⟨Nat.le_of_ble_eq_true rfl, Nat.le_of_ble_eq_true rfl⟩) (hc.preV hk12 rfl (by decide)) rfl rfl hl.1 rfl (lv_room (Nat.le_of_ble_eq_true rfl)) dX11_most_88 ⟨Nat.le_of_ble_eq_true rfl, Nat.le_of_ble_eq_true rfl⟩) hc (fun x17 g18 H locs hq hc => ?_)
            replace h := hq
            refine lv_goto (tgt := 103) hx hb dX11_most_91 (by decide) ?_
            exact hb_103 g18 x17 h _ _ _ hc (lv_sub hl [] rfl)
        · have h := h.1 c11
          exact hb_71 g r0 h _ _ _ hc (lv_sub hl [0] rfl)
    · have h := h.1 c5
      refine lv_aload_n hx hb dX11_most_47 rfl (lv_at hl 0 rfl) ?_
      refine lv_iconst (v := 1) hx hb dX11_most_48 (by decide) ?_
      obtain ⟨hk20, h⟩ := h
      refine g_calli (va_runV (As := [.int 1]) (rest := []) CF (c_X11_no h) (cwV 1 hts gX11_most_X11_no rfl rfl rfl (by decide +kernel) ⟨Nat.le_of_ble_eq_true rfl, Nat.le_of_ble_eq_true rfl⟩) (hc.preV hk20 rfl (by decide)) rfl rfl hl.1 rfl (lv_room (Nat.le_of_ble_eq_true rfl)) dX11_most_49 ⟨Nat.le_of_ble_eq_true rfl, Nat.le_of_ble_eq_true rfl⟩) hc (fun x21 g22 H locs hq hc => ?_)
      replace h := hq
      exact g_reti (r := x21) CF hr hlk hc rfl h dX11_most_52
  have hb_15 : ∀ (g : gS) (r0 : Nat) (i1 : Int32) (i2 : Int32) (i3 : Int32), ∀ (i4 : Int32) (i5 : Int32), lpx2 (l_X11_most_15 g r0 i1 i2 i3 Q) i4 i5 → ∀ (H : Heap) (locs : List Loc) (ls : Array Slot), gC D cA (gA g0 sz) s g H locs → lv_has ls 6 [(0, .ref r0), (1, .int i1), (2, .int i2), (3, .int i3), (4, .int i4), (5, .int i5)] → W p l e r_X11_most s m args below meth c H locs 0 0 (MQ below (gQi D cA g0 sz (Q)) args s 0 0 (gA g0 sz)) (F0 m 15 ls []) := by
    intro g r0 i1 i2 i3
    refine lpx2_run (P := fun (i4 : Int32) (i5 : Int32) => ∀ (H : Heap) (locs : List Loc) (ls : Array Slot), gC D cA (gA g0 sz) s g H locs → lv_has ls 6 [(0, .ref r0), (1, .int i1), (2, .int i2), (3, .int i3), (4, .int i4), (5, .int i5)] → W p l e r_X11_most s m args below meth c H locs 0 0 (MQ below (gQi D cA g0 sz (Q)) args s 0 0 (gA g0 sz)) (F0 m 15 ls [])) ?_
    intro k15 hk_15 i4 i5 h H locs ls hc hl
    unfold l_X11_most_15 at h
    refine lv_iload hx hb dX11_most_15 (lv_at hl 4 rfl) ?_
    refine lv_if_eq (tgt := 42) hx hb dX11_most_17 (by decide) (fun c24 => ?_) (fun c24 => ?_)
    · have h := h.1 c24
      exact hb_42 g r0 i1 i2 i3 i4 h _ _ _ hc (lv_sub hl [0, 1, 2, 3, 4] rfl)
    · have h := h.2 c24
      refine lv_iload hx hb dX11_most_20 (lv_at hl 5 rfl) ?_
      refine lv_iload_n hx hb dX11_most_22 rfl (lv_at hl 2 rfl) ?_
      refine lv_icmp_ge (tgt := 42) hx hb dX11_most_23 (by decide) (fun c25 => ?_) (fun c25 => ?_)
      · have h := h.1 c25
        exact hb_42 g r0 i1 i2 i3 i4 h _ _ _ hc (lv_sub hl [0, 1, 2, 3, 4] rfl)
      · have h := h.2 c25
        refine lv_aload_n hx hb dX11_most_26 rfl (lv_at hl 0 rfl) ?_
        refine lv_iload_n hx hb dX11_most_27 rfl (lv_at hl 1 rfl) ?_
        refine lv_iload hx hb dX11_most_28 (lv_at hl 5 rfl) ?_
        refine lv_iadd hx hb dX11_most_30 ?_
        obtain ⟨hk26, h⟩ := h
        refine g_calli (va_runV (As := [.int (i1 + i5)]) (rest := []) CF (c_X11_isNode h) (cwV 1 hts gX11_most_X11_isNode rfl rfl rfl (by decide +kernel) ⟨Nat.le_of_ble_eq_true rfl, Nat.le_of_ble_eq_true rfl⟩) (hc.preV hk26 rfl (by decide)) rfl rfl hl.1 rfl (lv_room (Nat.le_of_ble_eq_true rfl)) dX11_most_31 ⟨Nat.le_of_ble_eq_true rfl, Nat.le_of_ble_eq_true rfl⟩) hc (fun x27 gq28 H locs hq hc => ?_)
        obtain ⟨rfl, h⟩ := hq
        refine lv_istore (lv' := [(4, .int x27), (0, .ref r0), (1, .int i1), (2, .int i2), (3, .int i3), (5, .int i5)]) hx hb dX11_most_34 hl (by decide) rfl (fun ls hl => ?_)
        refine lv_iinc (v := (i5 + 1)) (lv' := [(5, .int (i5 + 1)), (4, .int x27), (0, .ref r0), (1, .int i1), (2, .int i2), (3, .int i3)]) hx hb dX11_most_36 hl (k := 5) rfl rfl (by decide) rfl (fun ls hl => ?_)
        refine lv_goto (tgt := 15) hx hb dX11_most_39 (by decide) ?_
        exact hk_15 x27 (i5 + 1) h _ _ _ hc (lv_sub hl [2, 3, 4, 5, 1, 0] rfl)
  unfold w_X11_most at h
  obtain ⟨H, hH0⟩ : ∃ z, z = s.heap := ⟨_, rfl⟩
  rw [← hH0] at hc ⊢
  obtain ⟨locs, hlc0⟩ : ∃ z : List Loc, z = [] := ⟨_, rfl⟩
  rw [← hlc0] at hc ⊢
  refine lv_aload_n hx hb dX11_most_0 rfl (lv_at hl 0 rfl) ?_
  refine lv_iconst (v := 0) hx hb dX11_most_1 (by decide) ?_
  obtain ⟨hk29, h⟩ := h
  refine g_puti CF hc hk29 rfl (by decide) (fun _ h9 => List.mem_cons_of_mem _ (List.mem_append_right _ (h9))) tyX11 tyX11_ok nmX11 (k := 0) (by decide) (List.mem_cons_of_mem _ (List.mem_append_left _ (List.mem_of_getElem? (i := 0) rfl))) rfl (v := 0) rfl rfl rfl dX11_most_2 (fun H locs hc => ?_)
  obtain ⟨g30, eg31⟩ : ∃ z, z = sU g0 p0 0 0 := ⟨_, rfl⟩
  have hc : gC D cA (gA g0 sz) s g30 H locs := by rw [eg31]; exact hc
  replace h := h g30 eg31
  refine lv_aload_n hx hb dX11_most_5 rfl (lv_at hl 0 rfl) ?_
  refine lv_iload_n hx hb dX11_most_6 rfl (lv_at hl 1 rfl) ?_
  obtain ⟨hk32, h⟩ := h
  refine g_calli (va_runV (As := [.int p1]) (rest := []) CF (c_X11_isNode h) (cwV 1 hts gX11_most_X11_isNode rfl rfl rfl (by decide +kernel) ⟨Nat.le_of_ble_eq_true rfl, Nat.le_of_ble_eq_true rfl⟩) (hc.preV hk32 rfl (by decide)) rfl rfl hl.1 rfl (lv_room (Nat.le_of_ble_eq_true rfl)) dX11_most_7 ⟨Nat.le_of_ble_eq_true rfl, Nat.le_of_ble_eq_true rfl⟩) hc (fun x33 gq34 H locs hq hc => ?_)
  obtain ⟨rfl, h⟩ := hq
  refine lv_istore (lv' := [(4, .int x33), (0, .ref p0), (1, .int p1), (2, .int p2), (3, .int p3)]) hx hb dX11_most_10 hl (by decide) rfl (fun ls hl => ?_)
  refine lv_iconst (v := 1) hx hb dX11_most_12 (by decide) ?_
  refine lv_istore (lv' := [(5, .int 1), (4, .int x33), (0, .ref p0), (1, .int p1), (2, .int p2), (3, .int p3)]) hx hb dX11_most_13 hl (by decide) rfl (fun ls hl => ?_)
  exact hb_15 g30 p0 p1 p2 p3 x33 1 h _ _ _ hc (lv_sub hl [2, 3, 4, 5, 1, 0] rfl)
def w_X11_clear (g0 : gS) (p0 : Nat) (Q : Int32 → gS → Prop) : Prop :=
  gK g0 p0 = 12 ∧ (∀ g2, g2 = sU g0 p0 0 0 → (gK g2 p0 = 12 ∧ (∀ g5, g5 = sU g2 p0 16 0 → (Q (gI g2 p0 16) g5))))
abbrev r_X11_clear : Room := { frames := 0, cells := 0, slots := 0, locals := 0 }
set_option maxHeartbeats 4000000 in
set_option maxRecDepth 100000 in
theorem c_X11_clear {l : Launch} {D : va_G} {cA : Nat → ClassId} {sz : Nat} {g0 : gS} {p0 : Nat} {Q : Int32 → gS → Prop} (h : w_X11_clear g0 p0 Q) : Met l yX11_clear wsX11_clear r_X11_clear (va_Pc [.ref p0] (gPre D cA g0 sz)) (gQi D cA g0 sz (Q)) 0 0 (gA g0 sz) := by
  refine g_met (cc := cX11_clear) (maxL := 2) (ret := (some .int)) (own := RX11) (by decide) rfl rfl (Nat.le_of_ble_eq_true rfl) ?_
  intro p e s m args below meth c ls CF hr hlk hnm hc hl
  obtain ⟨hx, hb, hml, hown, hts⟩ := id CF
  have hl : lv_has ls 2 [(0, .ref p0)] := hl
  show W p l e r_X11_clear s m args below meth c s.heap [] 0 0 (MQ below (gQi D cA g0 sz (Q)) args s 0 0 (gA g0 sz)) (F0 m 0 ls [])
  unfold w_X11_clear at h
  obtain ⟨H, hH0⟩ : ∃ z, z = s.heap := ⟨_, rfl⟩
  rw [← hH0] at hc ⊢
  obtain ⟨locs, hlc0⟩ : ∃ z : List Loc, z = [] := ⟨_, rfl⟩
  rw [← hlc0] at hc ⊢
  refine lv_aload_n hx hb dX11_clear_0 rfl (lv_at hl 0 rfl) ?_
  refine lv_iconst (v := 0) hx hb dX11_clear_1 (by decide) ?_
  obtain ⟨hk1, h⟩ := h
  refine g_puti CF hc hk1 rfl (by decide) (fun _ h9 => List.mem_cons_of_mem _ (List.mem_append_right _ (h9))) tyX11 tyX11_ok nmX11 (k := 0) (by decide) (List.mem_cons_of_mem _ (List.mem_append_left _ (List.mem_of_getElem? (i := 0) rfl))) rfl (v := 0) rfl rfl rfl dX11_clear_2 (fun H locs hc => ?_)
  obtain ⟨g2, eg3⟩ : ∃ z, z = sU g0 p0 0 0 := ⟨_, rfl⟩
  have hc : gC D cA (gA g0 sz) s g2 H locs := by rw [eg3]; exact hc
  replace h := h g2 eg3
  refine lv_aload_n hx hb dX11_clear_5 rfl (lv_at hl 0 rfl) ?_
  obtain ⟨hk4, h⟩ := h
  refine g_get CF hc hk4 rfl (by decide) (fun _ h9 => List.mem_cons_of_mem _ (List.mem_append_right _ (h9))) (k := 16) (by decide) (List.mem_cons_of_mem _ (List.mem_append_left _ (List.mem_of_getElem? (i := 1) rfl))) rfl dX11_clear_6 ?_
  refine lv_istore_n (lv' := [(1, .int (gI g2 p0 16)), (0, .ref p0)]) hx hb dX11_clear_9 rfl hl (by decide) rfl (fun ls hl => ?_)
  refine lv_aload_n hx hb dX11_clear_10 rfl (lv_at hl 1 rfl) ?_
  refine lv_iconst (v := 0) hx hb dX11_clear_11 (by decide) ?_
  refine g_puti CF hc hk4 rfl (by decide) (fun _ h9 => List.mem_cons_of_mem _ (List.mem_append_right _ (h9))) tyX11 tyX11_ok nmX11 (k := 16) (by decide) (List.mem_cons_of_mem _ (List.mem_append_left _ (List.mem_of_getElem? (i := 1) rfl))) rfl (v := 0) rfl rfl rfl dX11_clear_12 (fun H locs hc => ?_)
  obtain ⟨g5, eg6⟩ : ∃ z, z = sU g2 p0 16 0 := ⟨_, rfl⟩
  have hc : gC D cA (gA g0 sz) s g5 H locs := by rw [eg6]; exact hc
  replace h := h g5 eg6
  refine lv_iload_n hx hb dX11_clear_15 rfl (lv_at hl 0 rfl) ?_
  exact g_reti (r := (gI g2 p0 16)) CF hr hlk hc rfl h dX11_clear_16
def w_X11_nodes (g0 : gS) (p0 : Nat) (Q : Int32 → gS → Prop) : Prop :=
  gK g0 p0 = 12 ∧ (w_X11_ok g0 p0 (gI g0 p0 16) (fun x2 g3 => (Q x2 g3)))
abbrev r_X11_nodes : Room := { frames := 1, cells := 0, slots := 0, locals := 21 }
set_option maxHeartbeats 4000000 in
set_option maxRecDepth 100000 in
theorem c_X11_nodes {l : Launch} {D : va_G} {cA : Nat → ClassId} {sz : Nat} {g0 : gS} {p0 : Nat} {Q : Int32 → gS → Prop} (h : w_X11_nodes g0 p0 Q) : Met l yX11_nodes wsX11_nodes r_X11_nodes (va_Pc [.ref p0] (gPre D cA g0 sz)) (gQi D cA g0 sz (Q)) 0 0 (gA g0 sz) := by
  refine g_met (cc := cX11_nodes) (maxL := 1) (ret := (some .int)) (own := RX11) (by decide) rfl rfl (Nat.le_of_ble_eq_true rfl) ?_
  intro p e s m args below meth c ls CF hr hlk hnm hc hl
  obtain ⟨hx, hb, hml, hown, hts⟩ := id CF
  have hl : lv_has ls 1 [(0, .ref p0)] := hl
  show W p l e r_X11_nodes s m args below meth c s.heap [] 0 0 (MQ below (gQi D cA g0 sz (Q)) args s 0 0 (gA g0 sz)) (F0 m 0 ls [])
  unfold w_X11_nodes at h
  obtain ⟨H, hH0⟩ : ∃ z, z = s.heap := ⟨_, rfl⟩
  rw [← hH0] at hc ⊢
  obtain ⟨locs, hlc0⟩ : ∃ z : List Loc, z = [] := ⟨_, rfl⟩
  rw [← hlc0] at hc ⊢
  refine lv_aload_n hx hb dX11_nodes_0 rfl (lv_at hl 0 rfl) ?_
  refine lv_aload_n hx hb dX11_nodes_1 rfl (lv_at hl 0 rfl) ?_
  obtain ⟨hk1, h⟩ := h
  refine g_get CF hc hk1 rfl (by decide) (fun _ h9 => List.mem_cons_of_mem _ (List.mem_append_right _ (h9))) (k := 16) (by decide) (List.mem_cons_of_mem _ (List.mem_append_left _ (List.mem_of_getElem? (i := 0) rfl))) rfl dX11_nodes_2 ?_
  refine g_calli (va_runV (As := [.int (gI g0 p0 16)]) (rest := []) CF (c_X11_ok h) (cwV 1 hts gX11_nodes_X11_ok rfl rfl rfl (by decide +kernel) ⟨Nat.le_of_ble_eq_true rfl, Nat.le_of_ble_eq_true rfl⟩) (hc.preV hk1 rfl (by decide)) rfl rfl hl.1 rfl (lv_room (Nat.le_of_ble_eq_true rfl)) dX11_nodes_5 ⟨Nat.le_of_ble_eq_true rfl, Nat.le_of_ble_eq_true rfl⟩) hc (fun x2 g3 H locs hq hc => ?_)
  replace h := hq
  exact g_reti (r := x2) CF hr hlk hc rfl h dX11_nodes_8
def w_X11_least (g : gS) (p0 : Int32) (Q : Int32 → Prop) : Prop :=
  Q (if p0 < 1000000 then p0 else 1000000)
abbrev r_X11_least : Room := { frames := 1, cells := 0, slots := 0, locals := 22 }
set_option maxHeartbeats 4000000 in
set_option maxRecDepth 100000 in
theorem c_X11_least {l : Launch} {D : va_G} {cA : Nat → ClassId} {sz : Nat} {g : gS} {p0 : Int32} {Q : Int32 → Prop} (h : w_X11_least g p0 Q) : Met l yX11_least wsX11_least r_X11_least (va_Pc [.int p0] (gPre D cA g sz)) (gQi D cA g sz (fun r g2 => g = g2 ∧ Q r)) 0 0 (gA g sz) := by
  refine g_met (cc := cX11_least) (maxL := 1) (ret := (some .int)) (own := RX11) (by decide) rfl rfl (Nat.le_of_ble_eq_true rfl) ?_
  intro p e s m args below meth c ls CF hr hlk hnm hc hl
  obtain ⟨hx, hb, hml, hown, hts⟩ := id CF
  have hl : lv_has ls 1 [(0, .int p0)] := hl
  show W p l e r_X11_least s m args below meth c s.heap [] 0 0 (MQ below (gQi D cA g sz (fun r g2 => g = g2 ∧ Q r)) args s 0 0 (gA g sz)) (F0 m 0 ls [])
  unfold w_X11_least at h
  obtain ⟨H, hH0⟩ : ∃ z, z = s.heap := ⟨_, rfl⟩
  rw [← hH0] at hc ⊢
  obtain ⟨locs, hlc0⟩ : ∃ z : List Loc, z = [] := ⟨_, rfl⟩
  rw [← hlc0] at hc ⊢
  refine lv_ldc (v := 1000000) hx hb hown (hts _ (List.mem_cons_of_mem _ (List.mem_of_getElem? (i := 0) rfl))) dX11_least_0 ?_
  refine lv_iload_n hx hb dX11_least_2 rfl (lv_at hl 0 rfl) ?_
  refine va_mmin hx hb (hml.trans hl.1.symm) hown (hts _ (List.mem_cons_of_mem _ (List.mem_of_getElem? (i := 1) rfl))) (hts _ (List.mem_cons_of_mem _ (List.mem_of_getElem? (i := 2) rfl))) (hts _ (List.mem_cons_of_mem _ (List.mem_of_getElem? (i := 3) rfl))) (hts _ (List.mem_cons_of_mem _ (List.mem_of_getElem? (i := 4) rfl))) (Nat.le_of_ble_eq_true rfl) (Nat.le_of_ble_eq_true rfl) (Nat.le_of_ble_eq_true rfl) (Nat.le_of_ble_eq_true rfl) dX11_least_3 ?_
  exact g_reti (r := (if p0 < 1000000 then p0 else 1000000)) CF hr hlk hc rfl ⟨rfl, h⟩ dX11_least_6
def b_X11_looksFor_39 (g : gS) (is0 : Int32) (Q : Int32 → Prop) : Prop :=
  (is0 = 0 ∨ is0 = 1) ∧ (Q is0)
def b_X11_looksFor_38 (g : gS) (Q : Int32 → Prop) : Prop :=
  b_X11_looksFor_39 g 0 Q
def b_X11_looksFor_34 (g : gS) (Q : Int32 → Prop) : Prop :=
  b_X11_looksFor_39 g 1 Q
def w_X11_looksFor (g : gS) (p0 : Nat) (p1 : Int32) (p2 : Int32) (Q : Int32 → Prop) : Prop :=
  gK g p0 = 12 ∧ (∃ y3, gR g p0 10 = some y3 ∧ (gK g y3 = 22 ∧ (vp_in p2 (gN g y3) ∧ (((gI g y3 (Int32.toNatClampNeg p2)) = 0 → (∃ y8, gR g p0 18 = some y8 ∧ (gK g y8 = 21 ∧ (vp_in p1 (gN g y8) ∧ (((gI g y8 (Int32.toNatClampNeg p1)) = p2 → (b_X11_looksFor_34 g Q)) ∧ (¬ (gI g y8 (Int32.toNatClampNeg p1)) = p2 → (∃ y13, gR g p0 11 = some y13 ∧ (∃ y15, gR g p0 18 = some y15 ∧ (gK g y15 = 21 ∧ (vp_in p1 (gN g y15) ∧ (gK g y13 = 21 ∧ (vp_in (gI g y15 (Int32.toNatClampNeg p1)) (gN g y13) ∧ (((gI g y13 (Int32.toNatClampNeg (gI g y15 (Int32.toNatClampNeg p1)))) = p2 → (b_X11_looksFor_34 g Q)) ∧ (¬ (gI g y13 (Int32.toNatClampNeg (gI g y15 (Int32.toNatClampNeg p1)))) = p2 → (b_X11_looksFor_38 g Q))))))))))))))) ∧ (¬ (gI g y3 (Int32.toNatClampNeg p2)) = 0 → (b_X11_looksFor_38 g Q))))))
abbrev r_X11_looksFor : Room := { frames := 0, cells := 0, slots := 0, locals := 0 }
set_option maxHeartbeats 4000000 in
set_option maxRecDepth 100000 in
theorem c_X11_looksFor {l : Launch} {D : va_G} {cA : Nat → ClassId} {sz : Nat} {g : gS} {p0 : Nat} {p1 : Int32} {p2 : Int32} {Q : Int32 → Prop} (h : w_X11_looksFor g p0 p1 p2 Q) : Met l yX11_looksFor wsX11_looksFor r_X11_looksFor (va_Pc [.ref p0, .int p1, .int p2] (gPre D cA g sz)) (gQi D cA g sz (fun r g2 => g = g2 ∧ Q r)) 0 0 (gA g sz) := by
  refine g_met (cc := cX11_looksFor) (maxL := 3) (ret := (some .boolean)) (own := RX11) (by decide) rfl rfl (Nat.le_of_ble_eq_true rfl) ?_
  intro p e s m args below meth c ls CF hr hlk hnm hc hl
  obtain ⟨hx, hb, hml, hown, hts⟩ := id CF
  have hl : lv_has ls 3 [(0, .ref p0), (1, .int p1), (2, .int p2)] := hl
  show W p l e r_X11_looksFor s m args below meth c s.heap [] 0 0 (MQ below (gQi D cA g sz (fun r g2 => g = g2 ∧ Q r)) args s 0 0 (gA g sz)) (F0 m 0 ls [])
  have hb_39 : ∀ (is0 : Int32), b_X11_looksFor_39 g is0 Q → ∀ (H : Heap) (locs : List Loc) (ls : Array Slot), gC D cA (gA g sz) s g H locs → lv_has ls 3 [] → W p l e r_X11_looksFor s m args below meth c H locs 0 0 (MQ below (gQi D cA g sz (fun r g2 => g = g2 ∧ Q r)) args s 0 0 (gA g sz)) (F0 m 39 ls [.int is0]) := by
    intro is0 h H locs ls hc hl
    unfold b_X11_looksFor_39 at h
    obtain ⟨hz1, h⟩ := h
    exact g_reti (r := is0) CF hr hlk hc (narrow_01 hz1) ⟨rfl, h⟩ dX11_looksFor_39
  have hb_38 : b_X11_looksFor_38 g Q → ∀ (H : Heap) (locs : List Loc) (ls : Array Slot), gC D cA (gA g sz) s g H locs → lv_has ls 3 [] → W p l e r_X11_looksFor s m args below meth c H locs 0 0 (MQ below (gQi D cA g sz (fun r g2 => g = g2 ∧ Q r)) args s 0 0 (gA g sz)) (F0 m 38 ls []) := by
    intro h H locs ls hc hl
    unfold b_X11_looksFor_38 at h
    refine lv_iconst (v := 0) hx hb dX11_looksFor_38 (by decide) ?_
    exact hb_39 0 h _ _ _ hc (lv_sub hl [] rfl)
  have hb_34 : b_X11_looksFor_34 g Q → ∀ (H : Heap) (locs : List Loc) (ls : Array Slot), gC D cA (gA g sz) s g H locs → lv_has ls 3 [] → W p l e r_X11_looksFor s m args below meth c H locs 0 0 (MQ below (gQi D cA g sz (fun r g2 => g = g2 ∧ Q r)) args s 0 0 (gA g sz)) (F0 m 34 ls []) := by
    intro h H locs ls hc hl
    unfold b_X11_looksFor_34 at h
    refine lv_iconst (v := 1) hx hb dX11_looksFor_34 (by decide) ?_
    refine lv_goto (tgt := 39) hx hb dX11_looksFor_35 (by decide) ?_
    exact hb_39 1 h _ _ _ hc (lv_sub hl [] rfl)
  unfold w_X11_looksFor at h
  obtain ⟨H, hH0⟩ : ∃ z, z = s.heap := ⟨_, rfl⟩
  rw [← hH0] at hc ⊢
  obtain ⟨locs, hlc0⟩ : ∃ z : List Loc, z = [] := ⟨_, rfl⟩
  rw [← hlc0] at hc ⊢
  refine lv_aload_n hx hb dX11_looksFor_0 rfl (lv_at hl 0 rfl) ?_
  obtain ⟨hk2, h⟩ := h
  obtain ⟨y3, e4, h⟩ := h
  refine g_getr CF hc hk2 rfl (by decide) (fun _ h9 => List.mem_cons_of_mem _ (List.mem_append_right _ (h9))) (k := 10) (by decide) (List.mem_cons_of_mem _ (List.mem_append_left _ (List.mem_of_getElem? (i := 0) rfl))) e4 rfl dX11_looksFor_1 ?_
  refine lv_iload_n hx hb dX11_looksFor_4 rfl (lv_at hl 2 rfl) ?_
  obtain ⟨hk5, h⟩ := h
  obtain ⟨hi6, h⟩ := h
  refine g_zald CF hc hk5 hi6 dX11_looksFor_5 ?_
  refine lv_if_ne (tgt := 38) hx hb dX11_looksFor_6 (by decide) (fun c7 => ?_) (fun c7 => ?_)
  · have h := h.2 c7
    exact hb_38  h _ _ _ hc (lv_sub hl [] rfl)
  · have h := h.1 c7
    refine lv_aload_n hx hb dX11_looksFor_9 rfl (lv_at hl 0 rfl) ?_
    obtain ⟨y8, e9, h⟩ := h
    refine g_getr CF hc hk2 rfl (by decide) (fun _ h9 => List.mem_cons_of_mem _ (List.mem_append_right _ (h9))) (k := 18) (by decide) (List.mem_cons_of_mem _ (List.mem_append_left _ (List.mem_of_getElem? (i := 1) rfl))) e9 rfl dX11_looksFor_10 ?_
    refine lv_iload_n hx hb dX11_looksFor_13 rfl (lv_at hl 1 rfl) ?_
    obtain ⟨hk10, h⟩ := h
    obtain ⟨hi11, h⟩ := h
    refine g_iald CF hc hk10 hi11 dX11_looksFor_14 ?_
    refine lv_iload_n hx hb dX11_looksFor_15 rfl (lv_at hl 2 rfl) ?_
    refine lv_icmp_eq (tgt := 34) hx hb dX11_looksFor_16 (by decide) (fun c12 => ?_) (fun c12 => ?_)
    · have h := h.1 c12
      exact hb_34  h _ _ _ hc (lv_sub hl [] rfl)
    · have h := h.2 c12
      refine lv_aload_n hx hb dX11_looksFor_19 rfl (lv_at hl 0 rfl) ?_
      obtain ⟨y13, e14, h⟩ := h
      refine g_getr CF hc hk2 rfl (by decide) (fun _ h9 => List.mem_cons_of_mem _ (List.mem_append_right _ (h9))) (k := 11) (by decide) (List.mem_cons_of_mem _ (List.mem_append_left _ (List.mem_of_getElem? (i := 2) rfl))) e14 rfl dX11_looksFor_20 ?_
      refine lv_aload_n hx hb dX11_looksFor_23 rfl (lv_at hl 0 rfl) ?_
      obtain ⟨y15, e16, h⟩ := h
      refine g_getr CF hc hk2 rfl (by decide) (fun _ h9 => List.mem_cons_of_mem _ (List.mem_append_right _ (h9))) (k := 18) (by decide) (List.mem_cons_of_mem _ (List.mem_append_left _ (List.mem_of_getElem? (i := 1) rfl))) e16 rfl dX11_looksFor_24 ?_
      refine lv_iload_n hx hb dX11_looksFor_27 rfl (lv_at hl 1 rfl) ?_
      obtain ⟨hk17, h⟩ := h
      obtain ⟨hi18, h⟩ := h
      refine g_iald CF hc hk17 hi18 dX11_looksFor_28 ?_
      obtain ⟨hk19, h⟩ := h
      obtain ⟨hi20, h⟩ := h
      refine g_iald CF hc hk19 hi20 dX11_looksFor_29 ?_
      refine lv_iload_n hx hb dX11_looksFor_30 rfl (lv_at hl 2 rfl) ?_
      refine lv_icmp_ne (tgt := 38) hx hb dX11_looksFor_31 (by decide) (fun c21 => ?_) (fun c21 => ?_)
      · have h := h.2 c21
        exact hb_38  h _ _ _ hc (lv_sub hl [] rfl)
      · have h := h.1 c21
        exact hb_34  h _ _ _ hc (lv_sub hl [] rfl)
