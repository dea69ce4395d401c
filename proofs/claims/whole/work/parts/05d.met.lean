def b_X6_isSought_50 (g : gS) (r0 : Nat) (i1 : Int32) (i2 : Int32) (i3 : Int32) (Q : Int32 → Prop) (k2 : Int32 → Prop) : Prop :=
  k2 (i3 + 1)
def l_X6_isSought_2 (g : gS) (r0 : Nat) (i1 : Int32) (i2 : Int32) (Q : Int32 → Prop) (i3 : Int32) (k2 : Int32 → Prop) : Prop :=
  gK g r0 = 7 ∧ (((gI g r0 2) ≤ i3 → (Q 0)) ∧ (¬ (gI g r0 2) ≤ i3 → (w_X6_termNodeInside g r0 i3 (fun o3 => ((o3 = none → (b_X6_isSought_50 g r0 i1 i2 i3 Q k2)) ∧ (∀ y5, o3 = some y5 → (gK g y5 = 6 ∧ (w_X5_isFor g y5 i2 (fun x8 => ((x8 = 0 → (b_X6_isSought_50 g r0 i1 i2 i3 Q k2)) ∧ (¬ x8 = 0 → (∃ y11, gR g r0 0 = some y11 ∧ (gK g y11 = 5 ∧ (w_X4_finds g y11 (gI g y5 1) i1 1 (fun x14 => ((x14 = 0 → (b_X6_isSought_50 g r0 i1 i2 i3 Q k2)) ∧ (¬ x14 = 0 → (Q 1))))))))))))))))))
def w_X6_isSought (g : gS) (p0 : Nat) (p1 : Int32) (p2 : Int32) (Q : Int32 → Prop) : Prop :=
  lpx1 (l_X6_isSought_2 g p0 p1 p2 Q) 0
abbrev r_X6_isSought : Room := { frames := 2, cells := 0, slots := 0, locals := 44 }
set_option maxHeartbeats 4000000 in
set_option maxRecDepth 100000 in
theorem c_X6_isSought {l : Launch} {D : va_G} {cA : Nat → ClassId} {sz : Nat} {g : gS} {p0 : Nat} {p1 : Int32} {p2 : Int32} {Q : Int32 → Prop} (h : w_X6_isSought g p0 p1 p2 Q) : Met l yX6_isSought wsX6_isSought r_X6_isSought (va_Pc [.ref p0, .int p1, .int p2] (gPre D cA g sz)) (gQi D cA g sz (fun r g2 => g = g2 ∧ Q r)) 0 0 (gA g sz) := by
  refine g_met (cc := cX6_isSought) (maxL := 5) (ret := (some .boolean)) (own := RX6) (by decide) rfl rfl (Nat.le_of_ble_eq_true rfl) ?_
  intro p e s m args below meth c ls CF hr hlk hnm hc hl
  obtain ⟨hx, hb, hml, hown, hts⟩ := id CF
  have hl : lv_has ls 5 [(0, .ref p0), (1, .int p1), (2, .int p2)] := hl
  show W p l e r_X6_isSought s m args below meth c s.heap [] 0 0 (MQ below (gQi D cA g sz (fun r g2 => g = g2 ∧ Q r)) args s 0 0 (gA g sz)) (F0 m 0 ls [])
  have hb_2 : ∀ (r0 : Nat) (i1 : Int32) (i2 : Int32), ∀ (i3 : Int32), lpx1 (l_X6_isSought_2 g r0 i1 i2 Q) i3 → ∀ (H : Heap) (locs : List Loc) (ls : Array Slot), gC D cA (gA g sz) s g H locs → lv_has ls 5 [(0, .ref r0), (1, .int i1), (2, .int i2), (3, .int i3)] → W p l e r_X6_isSought s m args below meth c H locs 0 0 (MQ below (gQi D cA g sz (fun r g2 => g = g2 ∧ Q r)) args s 0 0 (gA g sz)) (F0 m 2 ls []) := by
    intro r0 i1 i2
    refine lpx1_run (P := fun (i3 : Int32) => ∀ (H : Heap) (locs : List Loc) (ls : Array Slot), gC D cA (gA g sz) s g H locs → lv_has ls 5 [(0, .ref r0), (1, .int i1), (2, .int i2), (3, .int i3)] → W p l e r_X6_isSought s m args below meth c H locs 0 0 (MQ below (gQi D cA g sz (fun r g2 => g = g2 ∧ Q r)) args s 0 0 (gA g sz)) (F0 m 2 ls [])) ?_
    intro k2 hk_2 i3 h H locs ls hc hl
    have hb_50 : ∀ (i3 : Int32), b_X6_isSought_50 g r0 i1 i2 i3 Q k2 → ∀ (H : Heap) (locs : List Loc) (ls : Array Slot), gC D cA (gA g sz) s g H locs → lv_has ls 5 [(0, .ref r0), (1, .int i1), (2, .int i2), (3, .int i3)] → W p l e r_X6_isSought s m args below meth c H locs 0 0 (MQ below (gQi D cA g sz (fun r g2 => g = g2 ∧ Q r)) args s 0 0 (gA g sz)) (F0 m 50 ls []) := by
      intro i3 h H locs ls hc hl
      unfold b_X6_isSought_50 at h
      refine lv_iinc (v := (i3 + 1)) (lv' := [(3, .int (i3 + 1)), (0, .ref r0), (1, .int i1), (2, .int i2)]) hx hb dX6_isSought_50 hl (k := 3) rfl rfl (by decide) rfl (fun ls hl => ?_)
      refine lv_goto (tgt := 2) hx hb dX6_isSought_53 (by decide) ?_
      exact hk_2 (i3 + 1) h _ _ _ hc (lv_sub hl [1, 2, 3, 0] rfl)
    unfold l_X6_isSought_2 at h
    refine lv_iload_n hx hb dX6_isSought_2 rfl (lv_at hl 3 rfl) ?_
    refine lv_aload_n hx hb dX6_isSought_3 rfl (lv_at hl 0 rfl) ?_
    obtain ⟨hk1, h⟩ := h
    refine g_get CF hc hk1 rfl (by decide) (fun _ h9 => List.mem_cons_of_mem _ (List.mem_append_left _ (List.mem_append_left _ (List.mem_append_right _ (h9))))) (k := 2) (by decide) (List.mem_cons_of_mem _ (List.mem_append_left _ (List.mem_append_left _ (List.mem_append_left _ (List.mem_append_left _ (List.mem_of_getElem? (i := 0) rfl)))))) rfl dX6_isSought_4 ?_
    refine lv_icmp_ge (tgt := 56) hx hb dX6_isSought_7 (by decide) (fun c2 => ?_) (fun c2 => ?_)
    · have h := h.1 c2
      refine lv_iconst (v := 0) hx hb dX6_isSought_56 (by decide) ?_
      exact g_reti (r := 0) CF hr hlk hc (narrow_01 (by decide : (0 : Int32) = 0 ∨ (0 : Int32) = 1)) ⟨rfl, h⟩ dX6_isSought_57
    · have h := h.2 c2
      refine lv_aload_n hx hb dX6_isSought_10 rfl (lv_at hl 0 rfl) ?_
      refine lv_iload_n hx hb dX6_isSought_11 rfl (lv_at hl 3 rfl) ?_
      refine g_callq (va_runV (As := [.int i3]) (rest := []) CF (c_X6_termNodeInside h) (cwV 1 hts gX6_isSought_X6_termNodeInside rfl rfl rfl (by decide +kernel) ⟨Nat.le_of_ble_eq_true rfl, Nat.le_of_ble_eq_true rfl⟩) (hc.preV hk1 rfl (by decide)) rfl rfl hl.1 rfl (lv_room (Nat.le_of_ble_eq_true rfl)) dX6_isSought_12 ⟨Nat.le_of_ble_eq_true rfl, Nat.le_of_ble_eq_true rfl⟩) hc (fun o3 gq4 H locs hq hc => ?_)
      obtain ⟨rfl, h⟩ := hq
      refine g_astoreq (lv' := [(4, va_rf o3), (0, .ref r0), (1, .int i1), (2, .int i2), (3, .int i3)]) CF dX6_isSought_15 hl (by decide) rfl (fun ls hl => ?_)
      refine g_aloadq CF dX6_isSought_17 (lv_at hl 0 rfl) ?_
      refine g_ifnull (tgt := 50) CF dX6_isSought_19 (by decide) (fun e6 => ?_) (fun y5 e6 => ?_)
      · have hu17 := h.1 e6
        subst e6
        have h := hu17
        exact hb_50 i3 h _ _ _ hc (lv_sub hl [1, 2, 3, 4] rfl)
      · have hu17 := h.2 y5 e6
        subst e6
        have h := hu17
        refine lv_aload hx hb dX6_isSought_22 (lv_at hl 0 rfl) ?_
        refine lv_iload_n hx hb dX6_isSought_24 rfl (lv_at hl 3 rfl) ?_
        obtain ⟨hk7, h⟩ := h
        refine g_calli (va_runV (As := [.int i2]) (rest := []) CF (c_X5_isFor h) (cwV 1 hts gX6_isSought_X5_isFor rfl rfl rfl (by decide +kernel) ⟨Nat.le_of_ble_eq_true rfl, Nat.le_of_ble_eq_true rfl⟩) (hc.preV hk7 rfl (by decide)) rfl rfl hl.1 rfl (lv_room (Nat.le_of_ble_eq_true rfl)) dX6_isSought_25 ⟨Nat.le_of_ble_eq_true rfl, Nat.le_of_ble_eq_true rfl⟩) hc (fun x8 gq9 H locs hq hc => ?_)
        obtain ⟨rfl, h⟩ := hq
        refine lv_if_eq (tgt := 50) hx hb dX6_isSought_28 (by decide) (fun c10 => ?_) (fun c10 => ?_)
        · have h := h.1 c10
          exact hb_50 i3 h _ _ _ hc (lv_sub hl [1, 2, 3, 4] rfl)
        · have h := h.2 c10
          refine lv_aload_n hx hb dX6_isSought_31 rfl (lv_at hl 1 rfl) ?_
          obtain ⟨y11, e12, h⟩ := h
          refine g_getr CF hc hk1 rfl (by decide) (fun _ h9 => List.mem_cons_of_mem _ (List.mem_append_left _ (List.mem_append_left _ (List.mem_append_right _ (h9))))) (k := 0) (by decide) (List.mem_cons_of_mem _ (List.mem_append_left _ (List.mem_append_left _ (List.mem_append_left _ (List.mem_append_left _ (List.mem_of_getElem? (i := 1) rfl)))))) e12 rfl dX6_isSought_32 ?_
          refine lv_aload hx hb dX6_isSought_35 (lv_at hl 0 rfl) ?_
          refine g_get CF hc hk7 rfl (by decide) (fun _ h9 => List.mem_cons_of_mem _ (List.mem_append_left _ (List.mem_append_right _ (h9)))) (k := 1) (by decide) (List.mem_cons_of_mem _ (List.mem_append_left _ (List.mem_append_left _ (List.mem_append_left _ (List.mem_append_left _ (List.mem_of_getElem? (i := 2) rfl)))))) rfl dX6_isSought_37 ?_
          refine lv_iload_n hx hb dX6_isSought_40 rfl (lv_at hl 2 rfl) ?_
          refine lv_iconst (v := 1) hx hb dX6_isSought_41 (by decide) ?_
          obtain ⟨hk13, h⟩ := h
          refine g_calli (va_runV (As := [.int (gI g y5 1), .int i1, .int 1]) (rest := []) CF (c_X4_finds h) (cwV 3 hts gX6_isSought_X4_finds rfl rfl rfl (by decide +kernel) ⟨Nat.le_of_ble_eq_true rfl, Nat.le_of_ble_eq_true rfl⟩) (hc.preV hk13 rfl (by decide)) rfl rfl hl.1 rfl (lv_room (Nat.le_of_ble_eq_true rfl)) dX6_isSought_42 ⟨Nat.le_of_ble_eq_true rfl, Nat.le_of_ble_eq_true rfl⟩) hc (fun x14 gq15 H locs hq hc => ?_)
          obtain ⟨rfl, h⟩ := hq
          refine lv_if_eq (tgt := 50) hx hb dX6_isSought_45 (by decide) (fun c16 => ?_) (fun c16 => ?_)
          · have h := h.1 c16
            exact hb_50 i3 h _ _ _ hc (lv_sub hl [1, 2, 3, 4] rfl)
          · have h := h.2 c16
            refine lv_iconst (v := 1) hx hb dX6_isSought_48 (by decide) ?_
            exact g_reti (r := 1) CF hr hlk hc (narrow_01 (by decide : (1 : Int32) = 0 ∨ (1 : Int32) = 1)) ⟨rfl, h⟩ dX6_isSought_49
  unfold w_X6_isSought at h
  obtain ⟨H, hH0⟩ : ∃ z, z = s.heap := ⟨_, rfl⟩
  rw [← hH0] at hc ⊢
  obtain ⟨locs, hlc0⟩ : ∃ z : List Loc, z = [] := ⟨_, rfl⟩
  rw [← hlc0] at hc ⊢
  refine lv_iconst (v := 0) hx hb dX6_isSought_0 (by decide) ?_
  refine lv_istore_n (lv' := [(3, .int 0), (0, .ref p0), (1, .int p1), (2, .int p2)]) hx hb dX6_isSought_1 rfl hl (by decide) rfl (fun ls hl => ?_)
  exact hb_2 p0 p1 p2 0 h _ _ _ hc (lv_sub hl [1, 2, 3, 0] rfl)
def l_X6_isRepeated_3 (g : gS) (r1 : Nat) (i3 : Int32) (Q : Int32 → Prop) (i4 : Int32) (k3 : Int32 → Prop) : Prop :=
  (i3 ≤ i4 → (Q 0)) ∧ (¬ i3 ≤ i4 → (gK g r1 = 10 ∧ (w_X9_termOn g r1 i4 (fun x3 => (w_X9_termOn g r1 i3 (fun x5 => ((x3 = x5 → (Q 1)) ∧ (¬ x3 = x5 → (k3 (i4 + 1))))))))))
def w_X6_isRepeated (g : gS) (p0 : Nat) (p1 : Nat) (p2 : Int32) (p3 : Int32) (Q : Int32 → Prop) : Prop :=
  lpx1 (l_X6_isRepeated_3 g p1 p3 Q) p2
abbrev r_X6_isRepeated : Room := { frames := 1, cells := 0, slots := 0, locals := 21 }
set_option maxHeartbeats 4000000 in
set_option maxRecDepth 100000 in
theorem c_X6_isRepeated {l : Launch} {D : va_G} {cA : Nat → ClassId} {sz : Nat} {g : gS} {p0 : Nat} {p1 : Nat} {p2 : Int32} {p3 : Int32} {Q : Int32 → Prop} (h : w_X6_isRepeated g p0 p1 p2 p3 Q) : Met l yX6_isRepeated wsX6_isRepeated r_X6_isRepeated (va_Pc [.ref p0, .ref p1, .int p2, .int p3] (gPre D cA g sz)) (gQi D cA g sz (fun r g2 => g = g2 ∧ Q r)) 0 0 (gA g sz) := by
  refine g_met (cc := cX6_isRepeated) (maxL := 5) (ret := (some .boolean)) (own := RX6) (by decide) rfl rfl (Nat.le_of_ble_eq_true rfl) ?_
  intro p e s m args below meth c ls CF hr hlk hnm hc hl
  obtain ⟨hx, hb, hml, hown, hts⟩ := id CF
  have hl : lv_has ls 5 [(0, .ref p0), (1, .ref p1), (2, .int p2), (3, .int p3)] := hl
  show W p l e r_X6_isRepeated s m args below meth c s.heap [] 0 0 (MQ below (gQi D cA g sz (fun r g2 => g = g2 ∧ Q r)) args s 0 0 (gA g sz)) (F0 m 0 ls [])
  have hb_3 : ∀ (r1 : Nat) (i3 : Int32), ∀ (i4 : Int32), lpx1 (l_X6_isRepeated_3 g r1 i3 Q) i4 → ∀ (H : Heap) (locs : List Loc) (ls : Array Slot), gC D cA (gA g sz) s g H locs → lv_has ls 5 [(1, .ref r1), (3, .int i3), (4, .int i4)] → W p l e r_X6_isRepeated s m args below meth c H locs 0 0 (MQ below (gQi D cA g sz (fun r g2 => g = g2 ∧ Q r)) args s 0 0 (gA g sz)) (F0 m 3 ls []) := by
    intro r1 i3
    refine lpx1_run (P := fun (i4 : Int32) => ∀ (H : Heap) (locs : List Loc) (ls : Array Slot), gC D cA (gA g sz) s g H locs → lv_has ls 5 [(1, .ref r1), (3, .int i3), (4, .int i4)] → W p l e r_X6_isRepeated s m args below meth c H locs 0 0 (MQ below (gQi D cA g sz (fun r g2 => g = g2 ∧ Q r)) args s 0 0 (gA g sz)) (F0 m 3 ls [])) ?_
    intro k3 hk_3 i4 h H locs ls hc hl
    unfold l_X6_isRepeated_3 at h
    refine lv_iload hx hb dX6_isRepeated_3 (lv_at hl 2 rfl) ?_
    refine lv_iload_n hx hb dX6_isRepeated_5 rfl (lv_at hl 1 rfl) ?_
    refine lv_icmp_ge (tgt := 31) hx hb dX6_isRepeated_6 (by decide) (fun c1 => ?_) (fun c1 => ?_)
    · have h := h.1 c1
      refine lv_iconst (v := 0) hx hb dX6_isRepeated_31 (by decide) ?_
      exact g_reti (r := 0) CF hr hlk hc (narrow_01 (by decide : (0 : Int32) = 0 ∨ (0 : Int32) = 1)) ⟨rfl, h⟩ dX6_isRepeated_32
    · have h := h.2 c1
      refine lv_aload_n hx hb dX6_isRepeated_9 rfl (lv_at hl 0 rfl) ?_
      refine lv_iload hx hb dX6_isRepeated_10 (lv_at hl 2 rfl) ?_
      obtain ⟨hk2, h⟩ := h
      refine g_calli (va_runV (As := [.int i4]) (rest := []) CF (c_X9_termOn h) (cwV 1 hts gX6_isRepeated_X9_termOn rfl rfl rfl (by decide +kernel) ⟨Nat.le_of_ble_eq_true rfl, Nat.le_of_ble_eq_true rfl⟩) (hc.preV hk2 rfl (by decide)) rfl rfl hl.1 rfl (lv_room (Nat.le_of_ble_eq_true rfl)) dX6_isRepeated_12 ⟨Nat.le_of_ble_eq_true rfl, Nat.le_of_ble_eq_true rfl⟩) hc (fun x3 gq4 H locs hq hc => ?_)
      obtain ⟨rfl, h⟩ := hq
      refine lv_aload_n hx hb dX6_isRepeated_15 rfl (lv_at hl 0 rfl) ?_
      refine lv_iload_n hx hb dX6_isRepeated_16 rfl (lv_at hl 1 rfl) ?_
      refine g_calli (va_runV (As := [.int i3]) (rest := [.int x3]) CF (c_X9_termOn h) (cwV 1 hts gX6_isRepeated_X9_termOn rfl rfl rfl (by decide +kernel) ⟨Nat.le_of_ble_eq_true rfl, Nat.le_of_ble_eq_true rfl⟩) (hc.preV hk2 rfl (by decide)) rfl rfl hl.1 rfl (lv_room (Nat.le_of_ble_eq_true rfl)) dX6_isRepeated_17 ⟨Nat.le_of_ble_eq_true rfl, Nat.le_of_ble_eq_true rfl⟩) hc (fun x5 gq6 H locs hq hc => ?_)
      obtain ⟨rfl, h⟩ := hq
      refine lv_icmp_ne (tgt := 25) hx hb dX6_isRepeated_20 (by decide) (fun c7 => ?_) (fun c7 => ?_)
      · have h := h.2 c7
        refine lv_iinc (v := (i4 + 1)) (lv' := [(4, .int (i4 + 1)), (1, .ref r1), (3, .int i3)]) hx hb dX6_isRepeated_25 hl (k := 2) rfl rfl (by decide) rfl (fun ls hl => ?_)
        refine lv_goto (tgt := 3) hx hb dX6_isRepeated_28 (by decide) ?_
        exact hk_3 (i4 + 1) h _ _ _ hc (lv_sub hl [1, 2, 0] rfl)
      · have h := h.1 c7
        refine lv_iconst (v := 1) hx hb dX6_isRepeated_23 (by decide) ?_
        exact g_reti (r := 1) CF hr hlk hc (narrow_01 (by decide : (1 : Int32) = 0 ∨ (1 : Int32) = 1)) ⟨rfl, h⟩ dX6_isRepeated_24
  unfold w_X6_isRepeated at h
  obtain ⟨H, hH0⟩ : ∃ z, z = s.heap := ⟨_, rfl⟩
  rw [← hH0] at hc ⊢
  obtain ⟨locs, hlc0⟩ : ∃ z : List Loc, z = [] := ⟨_, rfl⟩
  rw [← hlc0] at hc ⊢
  refine lv_iload_n hx hb dX6_isRepeated_0 rfl (lv_at hl 2 rfl) ?_
  refine lv_istore (lv' := [(4, .int p2), (0, .ref p0), (1, .ref p1), (2, .int p2), (3, .int p3)]) hx hb dX6_isRepeated_1 hl (by decide) rfl (fun ls hl => ?_)
  exact hb_3 p1 p3 p2 h _ _ _ hc (lv_sub hl [2, 4, 0] rfl)
def b_X6_countSought_63 (g : gS) (r0 : Nat) (r1 : Nat) (i2 : Int32) (i3 : Int32) (i4 : Int32) (i5 : Int32) (Q : Int32 → Prop) (k6 : Int32 → Int32 → Prop) : Prop :=
  k6 i4 (i5 + 1)
def b_X6_countSought_42 (g : gS) (r0 : Nat) (r1 : Nat) (i2 : Int32) (i3 : Int32) (i4 : Int32) (i5 : Int32) (is0 : Int32) (Q : Int32 → Prop) (k6 : Int32 → Int32 → Prop) : Prop :=
  (is0 = 0 → (b_X6_countSought_63 g r0 r1 i2 i3 i4 i5 Q k6)) ∧ (¬ is0 = 0 → (gK g r0 = 7 ∧ (w_X6_isRepeated g r0 r1 i2 i5 (fun x3 => ((x3 = 0 → (b_X6_countSought_63 g r0 r1 i2 i3 (i4 + 1) i5 Q k6)) ∧ (¬ x3 = 0 → (b_X6_countSought_63 g r0 r1 i2 i3 i4 i5 Q k6)))))))
def b_X6_countSought_41 (g : gS) (r0 : Nat) (r1 : Nat) (i2 : Int32) (i3 : Int32) (i4 : Int32) (i5 : Int32) (Q : Int32 → Prop) (k6 : Int32 → Int32 → Prop) : Prop :=
  b_X6_countSought_42 g r0 r1 i2 i3 i4 i5 0 Q k6
def l_X6_countSought_6 (g : gS) (r0 : Nat) (r1 : Nat) (i2 : Int32) (i3 : Int32) (Q : Int32 → Prop) (i4 : Int32) (i5 : Int32) (k6 : Int32 → Int32 → Prop) : Prop :=
  (i3 ≤ i5 → (Q i4)) ∧ (¬ i3 ≤ i5 → ((i5 < 0 → (b_X6_countSought_41 g r0 r1 i2 i3 i4 i5 Q k6)) ∧ (¬ i5 < 0 → (gK g r0 = 7 ∧ (∃ y9, gR g r0 4 = some y9 ∧ (gK g y9 = 22 ∧ (((nI (gN g y9)) ≤ i5 → (b_X6_countSought_41 g r0 r1 i2 i3 i4 i5 Q k6)) ∧ (¬ (nI (gN g y9)) ≤ i5 → (∃ y13, gR g r0 4 = some y13 ∧ (gK g y13 = 22 ∧ (vp_in i5 (gN g y13) ∧ (((gI g y13 (Int32.toNatClampNeg i5)) = 0 → (b_X6_countSought_41 g r0 r1 i2 i3 i4 i5 Q k6)) ∧ (¬ (gI g y13 (Int32.toNatClampNeg i5)) = 0 → (b_X6_countSought_42 g r0 r1 i2 i3 i4 i5 1 Q k6))))))))))))))
def w_X6_countSought (g : gS) (p0 : Nat) (p1 : Nat) (p2 : Int32) (p3 : Int32) (Q : Int32 → Prop) : Prop :=
  lpx2 (l_X6_countSought_6 g p0 p1 p2 p3 Q) 0 p2
abbrev r_X6_countSought : Room := { frames := 2, cells := 0, slots := 0, locals := 45 }
set_option maxHeartbeats 4000000 in
set_option maxRecDepth 100000 in
theorem c_X6_countSought {l : Launch} {D : va_G} {cA : Nat → ClassId} {sz : Nat} {g : gS} {p0 : Nat} {p1 : Nat} {p2 : Int32} {p3 : Int32} {Q : Int32 → Prop} (h : w_X6_countSought g p0 p1 p2 p3 Q) : Met l yX6_countSought wsX6_countSought r_X6_countSought (va_Pc [.ref p0, .ref p1, .int p2, .int p3] (gPre D cA g sz)) (gQi D cA g sz (fun r g2 => g = g2 ∧ Q r)) 0 0 (gA g sz) := by
  refine g_met (cc := cX6_countSought) (maxL := 7) (ret := (some .int)) (own := RX6) (by decide) rfl rfl (Nat.le_of_ble_eq_true rfl) ?_
  intro p e s m args below meth c ls CF hr hlk hnm hc hl
  obtain ⟨hx, hb, hml, hown, hts⟩ := id CF
  have hl : lv_has ls 7 [(0, .ref p0), (1, .ref p1), (2, .int p2), (3, .int p3)] := hl
  show W p l e r_X6_countSought s m args below meth c s.heap [] 0 0 (MQ below (gQi D cA g sz (fun r g2 => g = g2 ∧ Q r)) args s 0 0 (gA g sz)) (F0 m 0 ls [])
  have hb_6 : ∀ (r0 : Nat) (r1 : Nat) (i2 : Int32) (i3 : Int32), ∀ (i4 : Int32) (i5 : Int32), lpx2 (l_X6_countSought_6 g r0 r1 i2 i3 Q) i4 i5 → ∀ (H : Heap) (locs : List Loc) (ls : Array Slot), gC D cA (gA g sz) s g H locs → lv_has ls 7 [(0, .ref r0), (1, .ref r1), (2, .int i2), (3, .int i3), (4, .int i4), (5, .int i5)] → W p l e r_X6_countSought s m args below meth c H locs 0 0 (MQ below (gQi D cA g sz (fun r g2 => g = g2 ∧ Q r)) args s 0 0 (gA g sz)) (F0 m 6 ls []) := by
    intro r0 r1 i2 i3
    refine lpx2_run (P := fun (i4 : Int32) (i5 : Int32) => ∀ (H : Heap) (locs : List Loc) (ls : Array Slot), gC D cA (gA g sz) s g H locs → lv_has ls 7 [(0, .ref r0), (1, .ref r1), (2, .int i2), (3, .int i3), (4, .int i4), (5, .int i5)] → W p l e r_X6_countSought s m args below meth c H locs 0 0 (MQ below (gQi D cA g sz (fun r g2 => g = g2 ∧ Q r)) args s 0 0 (gA g sz)) (F0 m 6 ls [])) ?_
    intro k6 hk_6 i4 i5 h H locs ls hc hl
    have hb_63 : ∀ (i4 : Int32) (i5 : Int32), b_X6_countSought_63 g r0 r1 i2 i3 i4 i5 Q k6 → ∀ (H : Heap) (locs : List Loc) (ls : Array Slot), gC D cA (gA g sz) s g H locs → lv_has ls 7 [(0, .ref r0), (1, .ref r1), (2, .int i2), (3, .int i3), (4, .int i4), (5, .int i5)] → W p l e r_X6_countSought s m args below meth c H locs 0 0 (MQ below (gQi D cA g sz (fun r g2 => g = g2 ∧ Q r)) args s 0 0 (gA g sz)) (F0 m 63 ls []) := by
      intro i4 i5 h H locs ls hc hl
      unfold b_X6_countSought_63 at h
      refine lv_iinc (v := (i5 + 1)) (lv' := [(5, .int (i5 + 1)), (0, .ref r0), (1, .ref r1), (2, .int i2), (3, .int i3), (4, .int i4)]) hx hb dX6_countSought_63 hl (k := 5) rfl rfl (by decide) rfl (fun ls hl => ?_)
      refine lv_goto (tgt := 6) hx hb dX6_countSought_66 (by decide) ?_
      exact hk_6 i4 (i5 + 1) h _ _ _ hc (lv_sub hl [1, 2, 3, 4, 5, 0] rfl)
    have hb_42 : ∀ (i4 : Int32) (i5 : Int32) (is0 : Int32), b_X6_countSought_42 g r0 r1 i2 i3 i4 i5 is0 Q k6 → ∀ (H : Heap) (locs : List Loc) (ls : Array Slot), gC D cA (gA g sz) s g H locs → lv_has ls 7 [(0, .ref r0), (1, .ref r1), (2, .int i2), (3, .int i3), (4, .int i4), (5, .int i5)] → W p l e r_X6_countSought s m args below meth c H locs 0 0 (MQ below (gQi D cA g sz (fun r g2 => g = g2 ∧ Q r)) args s 0 0 (gA g sz)) (F0 m 42 ls [.int is0]) := by
      intro i4 i5 is0 h H locs ls hc hl
      unfold b_X6_countSought_42 at h
      refine lv_istore (lv' := [(6, .int is0), (0, .ref r0), (1, .ref r1), (2, .int i2), (3, .int i3), (4, .int i4), (5, .int i5)]) hx hb dX6_countSought_42 hl (by decide) rfl (fun ls hl => ?_)
      refine lv_iload hx hb dX6_countSought_44 (lv_at hl 0 rfl) ?_
      refine lv_if_eq (tgt := 63) hx hb dX6_countSought_46 (by decide) (fun c1 => ?_) (fun c1 => ?_)
      · have h := h.1 c1
        exact hb_63 i4 i5 h _ _ _ hc (lv_sub hl [1, 2, 3, 4, 5, 6] rfl)
      · have h := h.2 c1
        refine lv_aload_n hx hb dX6_countSought_49 rfl (lv_at hl 1 rfl) ?_
        refine lv_aload_n hx hb dX6_countSought_50 rfl (lv_at hl 2 rfl) ?_
        refine lv_iload_n hx hb dX6_countSought_51 rfl (lv_at hl 3 rfl) ?_
        refine lv_iload hx hb dX6_countSought_52 (lv_at hl 6 rfl) ?_
        obtain ⟨hk2, h⟩ := h
        refine g_calli (va_runV (As := [.ref r1, .int i2, .int i5]) (rest := []) CF (c_X6_isRepeated h) (cwV 3 hts gX6_countSought_X6_isRepeated rfl rfl rfl (by decide +kernel) ⟨Nat.le_of_ble_eq_true rfl, Nat.le_of_ble_eq_true rfl⟩) (hc.preV hk2 rfl (by decide)) rfl rfl hl.1 rfl (lv_room (Nat.le_of_ble_eq_true rfl)) dX6_countSought_54 ⟨Nat.le_of_ble_eq_true rfl, Nat.le_of_ble_eq_true rfl⟩) hc (fun x3 gq4 H locs hq hc => ?_)
        obtain ⟨rfl, h⟩ := hq
        refine lv_if_ne (tgt := 63) hx hb dX6_countSought_57 (by decide) (fun c5 => ?_) (fun c5 => ?_)
        · have h := h.2 c5
          exact hb_63 i4 i5 h _ _ _ hc (lv_sub hl [1, 2, 3, 4, 5, 6] rfl)
        · have h := h.1 c5
          refine lv_iinc (v := (i4 + 1)) (lv' := [(4, .int (i4 + 1)), (6, .int is0), (0, .ref r0), (1, .ref r1), (2, .int i2), (3, .int i3), (5, .int i5)]) hx hb dX6_countSought_60 hl (k := 5) rfl rfl (by decide) rfl (fun ls hl => ?_)
          exact hb_63 (i4 + 1) i5 h _ _ _ hc (lv_sub hl [2, 3, 4, 5, 0, 6] rfl)
    have hb_41 : ∀ (i4 : Int32) (i5 : Int32), b_X6_countSought_41 g r0 r1 i2 i3 i4 i5 Q k6 → ∀ (H : Heap) (locs : List Loc) (ls : Array Slot), gC D cA (gA g sz) s g H locs → lv_has ls 7 [(0, .ref r0), (1, .ref r1), (2, .int i2), (3, .int i3), (4, .int i4), (5, .int i5)] → W p l e r_X6_countSought s m args below meth c H locs 0 0 (MQ below (gQi D cA g sz (fun r g2 => g = g2 ∧ Q r)) args s 0 0 (gA g sz)) (F0 m 41 ls []) := by
      intro i4 i5 h H locs ls hc hl
      unfold b_X6_countSought_41 at h
      refine lv_iconst (v := 0) hx hb dX6_countSought_41 (by decide) ?_
      exact hb_42 i4 i5 0 h _ _ _ hc (lv_sub hl [0, 1, 2, 3, 4, 5] rfl)
    unfold l_X6_countSought_6 at h
    refine lv_iload hx hb dX6_countSought_6 (lv_at hl 5 rfl) ?_
    refine lv_iload_n hx hb dX6_countSought_8 rfl (lv_at hl 3 rfl) ?_
    refine lv_icmp_ge (tgt := 69) hx hb dX6_countSought_9 (by decide) (fun c6 => ?_) (fun c6 => ?_)
    · have h := h.1 c6
      refine lv_iload hx hb dX6_countSought_69 (lv_at hl 4 rfl) ?_
      exact g_reti (r := i4) CF hr hlk hc rfl ⟨rfl, h⟩ dX6_countSought_71
    · have h := h.2 c6
      refine lv_iload hx hb dX6_countSought_12 (lv_at hl 5 rfl) ?_
      refine lv_if_lt (tgt := 41) hx hb dX6_countSought_14 (by decide) (fun c7 => ?_) (fun c7 => ?_)
      · have h := h.1 c7
        exact hb_41 i4 i5 h _ _ _ hc (lv_sub hl [0, 1, 2, 3, 4, 5] rfl)
      · have h := h.2 c7
        refine lv_iload hx hb dX6_countSought_17 (lv_at hl 5 rfl) ?_
        refine lv_aload_n hx hb dX6_countSought_19 rfl (lv_at hl 0 rfl) ?_
        obtain ⟨hk8, h⟩ := h
        obtain ⟨y9, e10, h⟩ := h
        refine g_getr CF hc hk8 rfl (by decide) (fun _ h9 => List.mem_cons_of_mem _ (List.mem_append_left _ (List.mem_append_right _ (h9)))) (k := 4) (by decide) (List.mem_cons_of_mem _ (List.mem_append_left _ (List.mem_append_left _ (List.mem_of_getElem? (i := 0) rfl)))) e10 rfl dX6_countSought_20 ?_
        obtain ⟨hk11, h⟩ := h
        refine g_alen CF hc (j := 1) hk11 (by decide) dX6_countSought_23 ?_
        refine lv_icmp_ge (tgt := 41) hx hb dX6_countSought_24 (by decide) (fun c12 => ?_) (fun c12 => ?_)
        · have h := h.1 c12
          exact hb_41 i4 i5 h _ _ _ hc (lv_sub hl [0, 1, 2, 3, 4, 5] rfl)
        · have h := h.2 c12
          refine lv_aload_n hx hb dX6_countSought_27 rfl (lv_at hl 0 rfl) ?_
          obtain ⟨y13, e14, h⟩ := h
          refine g_getr CF hc hk8 rfl (by decide) (fun _ h9 => List.mem_cons_of_mem _ (List.mem_append_left _ (List.mem_append_right _ (h9)))) (k := 4) (by decide) (List.mem_cons_of_mem _ (List.mem_append_left _ (List.mem_append_left _ (List.mem_of_getElem? (i := 0) rfl)))) e14 rfl dX6_countSought_28 ?_
          refine lv_iload hx hb dX6_countSought_31 (lv_at hl 5 rfl) ?_
          obtain ⟨hk15, h⟩ := h
          obtain ⟨hi16, h⟩ := h
          refine g_zald CF hc hk15 hi16 dX6_countSought_33 ?_
          refine lv_if_eq (tgt := 41) hx hb dX6_countSought_34 (by decide) (fun c17 => ?_) (fun c17 => ?_)
          · have h := h.1 c17
            exact hb_41 i4 i5 h _ _ _ hc (lv_sub hl [0, 1, 2, 3, 4, 5] rfl)
          · have h := h.2 c17
            refine lv_iconst (v := 1) hx hb dX6_countSought_37 (by decide) ?_
            refine lv_goto (tgt := 42) hx hb dX6_countSought_38 (by decide) ?_
            exact hb_42 i4 i5 1 h _ _ _ hc (lv_sub hl [0, 1, 2, 3, 4, 5] rfl)
  unfold w_X6_countSought at h
  obtain ⟨H, hH0⟩ : ∃ z, z = s.heap := ⟨_, rfl⟩
  rw [← hH0] at hc ⊢
  obtain ⟨locs, hlc0⟩ : ∃ z : List Loc, z = [] := ⟨_, rfl⟩
  rw [← hlc0] at hc ⊢
  refine lv_iconst (v := 0) hx hb dX6_countSought_0 (by decide) ?_
  refine lv_istore (lv' := [(4, .int 0), (0, .ref p0), (1, .ref p1), (2, .int p2), (3, .int p3)]) hx hb dX6_countSought_1 hl (by decide) rfl (fun ls hl => ?_)
  refine lv_iload_n hx hb dX6_countSought_3 rfl (lv_at hl 3 rfl) ?_
  refine lv_istore (lv' := [(5, .int p2), (4, .int 0), (0, .ref p0), (1, .ref p1), (2, .int p2), (3, .int p3)]) hx hb dX6_countSought_4 hl (by decide) rfl (fun ls hl => ?_)
  exact hb_6 p0 p1 p2 p3 0 p2 h _ _ _ hc (lv_sub hl [2, 3, 4, 5, 1, 0] rfl)
def b_X6_bestWindow_114 (g : gS) (r0 : Nat) (r2 : Nat) (i4 : Int32) (i5 : Int32) (i6 : Int32) (i7 : Int32) (Q : Int32 → gS → Prop) (k69 : Int32 → Int32 → Int32 → Prop) : Prop :=
  k69 i5 i6 (i7 + 1)
def l_X6_bestWindow_69 (g : gS) (r0 : Nat) (r2 : Nat) (i4 : Int32) (Q : Int32 → gS → Prop) (i5 : Int32) (i6 : Int32) (i7 : Int32) (k69 : Int32 → Int32 → Int32 → Prop) : Prop :=
  gK g r2 = 10 ∧ (((gI g r2 3) ≤ i7 → (Q i5 g)) ∧ (¬ (gI g r2 3) ≤ i7 → (gK g r0 = 7 ∧ (w_X6_countSought g r0 r2 i7 (if (gI g r2 3) < (i7 + i4) then (gI g r2 3) else (i7 + i4)) (fun x4 => ((x4 ≤ i6 → (b_X6_bestWindow_114 g r0 r2 i4 i5 i6 i7 Q k69)) ∧ (¬ x4 ≤ i6 → (b_X6_bestWindow_114 g r0 r2 i4 i7 x4 i7 Q k69))))))))
def b_X6_bestWindow_53 (g : gS) (r0 : Nat) (r2 : Nat) (i3 : Int32) (i4 : Int32) (i5 : Int32) (rs0 : Nat) (is1 : Int32) (is2 : Int32) (Q : Int32 → gS → Prop) (k9 : gS → Int32 → Prop) : Prop :=
  gK g rs0 = 22 ∧ (vp_in is1 (gN g rs0) ∧ ((is2 = 0 ∨ is2 = 1) ∧ (∀ g10, g10 = sU g rs0 (Int32.toNatClampNeg is1) is2 → (k9 g10 (i5 + 1)))))
def b_X6_bestWindow_52 (g : gS) (r0 : Nat) (r2 : Nat) (i3 : Int32) (i4 : Int32) (i5 : Int32) (rs0 : Nat) (is1 : Int32) (Q : Int32 → gS → Prop) (k9 : gS → Int32 → Prop) : Prop :=
  b_X6_bestWindow_53 g r0 r2 i3 i4 i5 rs0 is1 0 Q k9
def l_X6_bestWindow_9 (r0 : Nat) (r2 : Nat) (i3 : Int32) (i4 : Int32) (Q : Int32 → gS → Prop) (g : gS) (i5 : Int32) (k9 : gS → Int32 → Prop) : Prop :=
  gK g r0 = 7 ∧ (∃ y13, gR g r0 4 = some y13 ∧ (gK g y13 = 22 ∧ (((nI (gN g y13)) ≤ i5 → (lpx3 (l_X6_bestWindow_69 g r0 r2 i4 Q) (-1) 0 0)) ∧ (¬ (nI (gN g y13)) ≤ i5 → (∃ y17, gR g r0 4 = some y17 ∧ (gK g r2 = 10 ∧ (((gI g r2 3) ≤ i5 → (b_X6_bestWindow_52 g r0 r2 i3 i4 i5 y17 i5 Q k9)) ∧ (¬ (gI g r2 3) ≤ i5 → (w_X9_termOn g r2 i5 (fun x21 => (w_X6_isSought g r0 x21 i3 (fun x23 => ((x23 = 0 → (b_X6_bestWindow_52 g r0 r2 i3 i4 i5 y17 i5 Q k9)) ∧ (¬ x23 = 0 → (b_X6_bestWindow_53 g r0 r2 i3 i4 i5 y17 i5 1 Q k9)))))))))))))))
def w_X6_bestWindow (g0 : gS) (p0 : Nat) (p1 : Int32) (p2 : Nat) (p3 : Int32) (p4 : Int32) (Q : Int32 → gS → Prop) : Prop :=
  gK g0 p0 = 7 ∧ (w_X6_markInside g0 p0 p1 1 (fun g28 => (lpx2 (l_X6_bestWindow_9 p0 p2 p3 p4 Q) g28 0)))
abbrev r_X6_bestWindow : Room := { frames := 3, cells := 0, slots := 0, locals := 71 }
set_option maxHeartbeats 4000000 in
set_option maxRecDepth 100000 in
theorem c_X6_bestWindow {l : Launch} {D : va_G} {cA : Nat → ClassId} {sz : Nat} {g0 : gS} {p0 : Nat} {p1 : Int32} {p2 : Nat} {p3 : Int32} {p4 : Int32} {Q : Int32 → gS → Prop} (h : w_X6_bestWindow g0 p0 p1 p2 p3 p4 Q) : Met l yX6_bestWindow wsX6_bestWindow r_X6_bestWindow (va_Pc [.ref p0, .int p1, .ref p2, .int p3, .int p4] (gPre D cA g0 sz)) (gQi D cA g0 sz (Q)) 0 0 (gA g0 sz) := by
  refine g_met (cc := cX6_bestWindow) (maxL := 9) (ret := (some .int)) (own := RX6) (by decide) rfl rfl (Nat.le_of_ble_eq_true rfl) ?_
  intro p e s m args below meth c ls CF hr hlk hnm hc hl
  obtain ⟨hx, hb, hml, hown, hts⟩ := id CF
  have hl : lv_has ls 9 [(0, .ref p0), (1, .int p1), (2, .ref p2), (3, .int p3), (4, .int p4)] := hl
  show W p l e r_X6_bestWindow s m args below meth c s.heap [] 0 0 (MQ below (gQi D cA g0 sz (Q)) args s 0 0 (gA g0 sz)) (F0 m 0 ls [])
  have hb_69 : ∀ (g : gS) (r0 : Nat) (r2 : Nat) (i4 : Int32), ∀ (i5 : Int32) (i6 : Int32) (i7 : Int32), lpx3 (l_X6_bestWindow_69 g r0 r2 i4 Q) i5 i6 i7 → ∀ (H : Heap) (locs : List Loc) (ls : Array Slot), gC D cA (gA g0 sz) s g H locs → lv_has ls 9 [(0, .ref r0), (2, .ref r2), (4, .int i4), (5, .int i5), (6, .int i6), (7, .int i7)] → W p l e r_X6_bestWindow s m args below meth c H locs 0 0 (MQ below (gQi D cA g0 sz (Q)) args s 0 0 (gA g0 sz)) (F0 m 69 ls []) := by
    intro g r0 r2 i4
    refine lpx3_run (P := fun (i5 : Int32) (i6 : Int32) (i7 : Int32) => ∀ (H : Heap) (locs : List Loc) (ls : Array Slot), gC D cA (gA g0 sz) s g H locs → lv_has ls 9 [(0, .ref r0), (2, .ref r2), (4, .int i4), (5, .int i5), (6, .int i6), (7, .int i7)] → W p l e r_X6_bestWindow s m args below meth c H locs 0 0 (MQ below (gQi D cA g0 sz (Q)) args s 0 0 (gA g0 sz)) (F0 m 69 ls [])) ?_
    intro k69 hk_69 i5 i6 i7 h H locs ls hc hl
    have hb_114 : ∀ (i5 : Int32) (i6 : Int32) (i7 : Int32), b_X6_bestWindow_114 g r0 r2 i4 i5 i6 i7 Q k69 → ∀ (H : Heap) (locs : List Loc) (ls : Array Slot), gC D cA (gA g0 sz) s g H locs → lv_has ls 9 [(0, .ref r0), (2, .ref r2), (4, .int i4), (5, .int i5), (6, .int i6), (7, .int i7)] → W p l e r_X6_bestWindow s m args below meth c H locs 0 0 (MQ below (gQi D cA g0 sz (Q)) args s 0 0 (gA g0 sz)) (F0 m 114 ls []) := by
      intro i5 i6 i7 h H locs ls hc hl
      unfold b_X6_bestWindow_114 at h
      refine lv_iinc (v := (i7 + 1)) (lv' := [(7, .int (i7 + 1)), (0, .ref r0), (2, .ref r2), (4, .int i4), (5, .int i5), (6, .int i6)]) hx hb dX6_bestWindow_114 hl (k := 5) rfl rfl (by decide) rfl (fun ls hl => ?_)
      refine lv_goto (tgt := 69) hx hb dX6_bestWindow_117 (by decide) ?_
      exact hk_69 i5 i6 (i7 + 1) h _ _ _ hc (lv_sub hl [1, 2, 3, 4, 5, 0] rfl)
    unfold l_X6_bestWindow_69 at h
    refine lv_iload hx hb dX6_bestWindow_69 (lv_at hl 5 rfl) ?_
    refine lv_aload_n hx hb dX6_bestWindow_71 rfl (lv_at hl 1 rfl) ?_
    obtain ⟨hk1, h⟩ := h
    refine g_get CF hc hk1 rfl (by decide) (fun _ h9 => List.mem_cons_of_mem _ (List.mem_append_left _ (List.mem_append_left _ (List.mem_append_right _ (h9))))) (k := 3) (by decide) (List.mem_cons_of_mem _ (List.mem_append_left _ (List.mem_append_left _ (List.mem_append_left _ (List.mem_append_left _ (List.mem_append_left _ (List.mem_of_getElem? (i := 1) rfl))))))) rfl dX6_bestWindow_72 ?_
    refine lv_icmp_ge (tgt := 120) hx hb dX6_bestWindow_75 (by decide) (fun c2 => ?_) (fun c2 => ?_)
    · have h := h.1 c2
      refine lv_iload hx hb dX6_bestWindow_120 (lv_at hl 3 rfl) ?_
      exact g_reti (r := i5) CF hr hlk hc rfl h dX6_bestWindow_122
    · have h := h.2 c2
      refine lv_aload_n hx hb dX6_bestWindow_78 rfl (lv_at hl 0 rfl) ?_
      refine lv_aload_n hx hb dX6_bestWindow_79 rfl (lv_at hl 1 rfl) ?_
      refine lv_iload hx hb dX6_bestWindow_80 (lv_at hl 5 rfl) ?_
      refine lv_iload hx hb dX6_bestWindow_82 (lv_at hl 5 rfl) ?_
      refine lv_iload hx hb dX6_bestWindow_84 (lv_at hl 2 rfl) ?_
      refine lv_iadd hx hb dX6_bestWindow_86 ?_
      refine lv_aload_n hx hb dX6_bestWindow_87 rfl (lv_at hl 1 rfl) ?_
      refine g_get CF hc hk1 rfl (by decide) (fun _ h9 => List.mem_cons_of_mem _ (List.mem_append_left _ (List.mem_append_left _ (List.mem_append_right _ (h9))))) (k := 3) (by decide) (List.mem_cons_of_mem _ (List.mem_append_left _ (List.mem_append_left _ (List.mem_append_left _ (List.mem_append_left _ (List.mem_append_left _ (List.mem_of_getElem? (i := 1) rfl))))))) rfl dX6_bestWindow_88 ?_
      refine va_mmin hx hb (hml.trans hl.1.symm) hown (hts _ (List.mem_cons_of_mem _ (List.mem_append_left _ (List.mem_append_left _ (List.mem_append_left _ (List.mem_append_left _ (List.mem_append_left _ (List.mem_of_getElem? (i := 2) rfl)))))))) (hts _ (List.mem_cons_of_mem _ (List.mem_append_left _ (List.mem_append_left _ (List.mem_append_left _ (List.mem_append_left _ (List.mem_append_left _ (List.mem_of_getElem? (i := 3) rfl)))))))) (hts _ (List.mem_cons_of_mem _ (List.mem_append_left _ (List.mem_append_left _ (List.mem_append_left _ (List.mem_append_left _ (List.mem_append_left _ (List.mem_of_getElem? (i := 4) rfl)))))))) (hts _ (List.mem_cons_of_mem _ (List.mem_append_left _ (List.mem_append_left _ (List.mem_append_left _ (List.mem_append_left _ (List.mem_append_left _ (List.mem_of_getElem? (i := 5) rfl)))))))) (Nat.le_of_ble_eq_true rfl) (Nat.le_of_ble_eq_true rfl) (Nat.le_of_ble_eq_true rfl) (Nat.le_of_ble_eq_true rfl) dX6_bestWindow_91 ?_
      obtain ⟨hk3, h⟩ := h
      refine g_calli (va_runV (As := [.ref r2, .int i7, .int (if (gI g r2 3) < (i7 + i4) then (gI g r2 3) else (i7 + i4))]) (rest := []) CF (c_X6_countSought h) (cwV 3 hts gX6_bestWindow_X6_countSought rfl rfl rfl (by decide +kernel) ⟨Nat.le_of_ble_eq_true rfl, Nat.le_of_ble_eq_true rfl⟩) (hc.preV hk3 rfl (by decide)) rfl rfl hl.1 rfl (lv_room (Nat.le_of_ble_eq_true rfl)) dX6_bestWindow_94 ⟨Nat.le_of_ble_eq_true rfl, Nat.le_of_ble_eq_true rfl⟩) hc (fun x4 gq5 H locs hq hc => ?_)
      obtain ⟨rfl, h⟩ := hq
      refine lv_istore (lv' := [(8, .int x4), (0, .ref r0), (2, .ref r2), (4, .int i4), (5, .int i5), (6, .int i6), (7, .int i7)]) hx hb dX6_bestWindow_97 hl (by decide) rfl (fun ls hl => ?_)
      refine lv_iload hx hb dX6_bestWindow_99 (lv_at hl 0 rfl) ?_
      refine lv_iload hx hb dX6_bestWindow_101 (lv_at hl 5 rfl) ?_
      refine lv_icmp_le (tgt := 114) hx hb dX6_bestWindow_103 (by decide) (fun c6 => ?_) (fun c6 => ?_)
      · have h := h.1 c6
        exact hb_114 i5 i6 i7 h _ _ _ hc (lv_sub hl [1, 2, 3, 4, 5, 6] rfl)
      · have h := h.2 c6
        refine lv_iload hx hb dX6_bestWindow_106 (lv_at hl 0 rfl) ?_
        refine lv_istore (lv' := [(6, .int x4), (8, .int x4), (0, .ref r0), (2, .ref r2), (4, .int i4), (5, .int i5), (7, .int i7)]) hx hb dX6_bestWindow_108 hl (by decide) rfl (fun ls hl => ?_)
        refine lv_iload hx hb dX6_bestWindow_110 (lv_at hl 6 rfl) ?_
        refine lv_istore (lv' := [(5, .int i7), (6, .int x4), (8, .int x4), (0, .ref r0), (2, .ref r2), (4, .int i4), (7, .int i7)]) hx hb dX6_bestWindow_112 hl (by decide) rfl (fun ls hl => ?_)
        exact hb_114 i7 x4 i7 h _ _ _ hc (lv_sub hl [3, 4, 5, 0, 1, 6] rfl)
  have hb_9 : ∀ (r0 : Nat) (r2 : Nat) (i3 : Int32) (i4 : Int32), ∀ (g : gS) (i5 : Int32), lpx2 (l_X6_bestWindow_9 r0 r2 i3 i4 Q) g i5 → ∀ (H : Heap) (locs : List Loc) (ls : Array Slot), gC D cA (gA g0 sz) s g H locs → lv_has ls 9 [(0, .ref r0), (2, .ref r2), (3, .int i3), (4, .int i4), (5, .int i5)] → W p l e r_X6_bestWindow s m args below meth c H locs 0 0 (MQ below (gQi D cA g0 sz (Q)) args s 0 0 (gA g0 sz)) (F0 m 9 ls []) := by
    intro r0 r2 i3 i4
    refine lpx2_run (P := fun (g : gS) (i5 : Int32) => ∀ (H : Heap) (locs : List Loc) (ls : Array Slot), gC D cA (gA g0 sz) s g H locs → lv_has ls 9 [(0, .ref r0), (2, .ref r2), (3, .int i3), (4, .int i4), (5, .int i5)] → W p l e r_X6_bestWindow s m args below meth c H locs 0 0 (MQ below (gQi D cA g0 sz (Q)) args s 0 0 (gA g0 sz)) (F0 m 9 ls [])) ?_
    intro k9 hk_9 g i5 h H locs ls hc hl
    have hb_53 : ∀ (g : gS) (i5 : Int32) (rs0 : Nat) (is1 : Int32) (is2 : Int32), b_X6_bestWindow_53 g r0 r2 i3 i4 i5 rs0 is1 is2 Q k9 → ∀ (H : Heap) (locs : List Loc) (ls : Array Slot), gC D cA (gA g0 sz) s g H locs → lv_has ls 9 [(0, .ref r0), (2, .ref r2), (3, .int i3), (4, .int i4), (5, .int i5)] → W p l e r_X6_bestWindow s m args below meth c H locs 0 0 (MQ below (gQi D cA g0 sz (Q)) args s 0 0 (gA g0 sz)) (F0 m 53 ls [.int is2, .int is1, .ref rs0]) := by
      intro g i5 rs0 is1 is2 h H locs ls hc hl
      unfold b_X6_bestWindow_53 at h
      obtain ⟨hk7, h⟩ := h
      obtain ⟨hi8, h⟩ := h
      obtain ⟨hz9, h⟩ := h
      refine g_zast CF hc hk7 (x := is2) hz9 hi8 dX6_bestWindow_53 (fun H locs hc => ?_)
      obtain ⟨g10, eg11⟩ : ∃ z, z = sU g rs0 (Int32.toNatClampNeg is1) is2 := ⟨_, rfl⟩
      have hc : gC D cA (gA g0 sz) s g10 H locs := by rw [eg11]; exact hc
      replace h := h g10 eg11
      refine lv_iinc (v := (i5 + 1)) (lv' := [(5, .int (i5 + 1)), (0, .ref r0), (2, .ref r2), (3, .int i3), (4, .int i4)]) hx hb dX6_bestWindow_54 hl (k := 4) rfl rfl (by decide) rfl (fun ls hl => ?_)
      refine lv_goto (tgt := 9) hx hb dX6_bestWindow_57 (by decide) ?_
      exact hk_9 g10 (i5 + 1) h _ _ _ hc (lv_sub hl [1, 2, 3, 4, 0] rfl)
    have hb_52 : ∀ (g : gS) (i5 : Int32) (rs0 : Nat) (is1 : Int32), b_X6_bestWindow_52 g r0 r2 i3 i4 i5 rs0 is1 Q k9 → ∀ (H : Heap) (locs : List Loc) (ls : Array Slot), gC D cA (gA g0 sz) s g H locs → lv_has ls 9 [(0, .ref r0), (2, .ref r2), (3, .int i3), (4, .int i4), (5, .int i5)] → W p l e r_X6_bestWindow s m args below meth c H locs 0 0 (MQ below (gQi D cA g0 sz (Q)) args s 0 0 (gA g0 sz)) (F0 m 52 ls [.int is1, .ref rs0]) := by
      intro g i5 rs0 is1 h H locs ls hc hl
      unfold b_X6_bestWindow_52 at h
      refine lv_iconst (v := 0) hx hb dX6_bestWindow_52 (by decide) ?_
      exact hb_53 g i5 rs0 is1 0 h _ _ _ hc (lv_sub hl [0, 1, 2, 3, 4] rfl)
    unfold l_X6_bestWindow_9 at h
    refine lv_iload hx hb dX6_bestWindow_9 (lv_at hl 4 rfl) ?_
    refine lv_aload_n hx hb dX6_bestWindow_11 rfl (lv_at hl 0 rfl) ?_
    obtain ⟨hk12, h⟩ := h
    obtain ⟨y13, e14, h⟩ := h
    refine g_getr CF hc hk12 rfl (by decide) (fun _ h9 => List.mem_cons_of_mem _ (List.mem_append_left _ (List.mem_append_left _ (List.mem_append_left _ (List.mem_append_right _ (h9)))))) (k := 4) (by decide) (List.mem_cons_of_mem _ (List.mem_append_left _ (List.mem_append_left _ (List.mem_append_left _ (List.mem_append_left _ (List.mem_append_left _ (List.mem_of_getElem? (i := 0) rfl))))))) e14 rfl dX6_bestWindow_12 ?_
    obtain ⟨hk15, h⟩ := h
    refine g_alen CF hc (j := 1) hk15 (by decide) dX6_bestWindow_15 ?_
    refine lv_icmp_ge (tgt := 60) hx hb dX6_bestWindow_16 (by decide) (fun c16 => ?_) (fun c16 => ?_)
    · have h := h.1 c16
      refine lv_iconst (v := (-1)) hx hb dX6_bestWindow_60 (by decide) ?_
      refine lv_istore (lv' := [(5, .int (-1)), (0, .ref r0), (2, .ref r2), (3, .int i3), (4, .int i4)]) hx hb dX6_bestWindow_61 hl (by decide) rfl (fun ls hl => ?_)
      refine lv_iconst (v := 0) hx hb dX6_bestWindow_63 (by decide) ?_
      refine lv_istore (lv' := [(6, .int 0), (5, .int (-1)), (0, .ref r0), (2, .ref r2), (3, .int i3), (4, .int i4)]) hx hb dX6_bestWindow_64 hl (by decide) rfl (fun ls hl => ?_)
      refine lv_iconst (v := 0) hx hb dX6_bestWindow_66 (by decide) ?_
      refine lv_istore (lv' := [(7, .int 0), (6, .int 0), (5, .int (-1)), (0, .ref r0), (2, .ref r2), (3, .int i3), (4, .int i4)]) hx hb dX6_bestWindow_67 hl (by decide) rfl (fun ls hl => ?_)
      exact hb_69 g r0 r2 i4 (-1) 0 0 h _ _ _ hc (lv_sub hl [3, 4, 6, 2, 1, 0] rfl)
    · have h := h.2 c16
      refine lv_aload_n hx hb dX6_bestWindow_19 rfl (lv_at hl 0 rfl) ?_
      obtain ⟨y17, e18, h⟩ := h
      refine g_getr CF hc hk12 rfl (by decide) (fun _ h9 => List.mem_cons_of_mem _ (List.mem_append_left _ (List.mem_append_left _ (List.mem_append_left _ (List.mem_append_right _ (h9)))))) (k := 4) (by decide) (List.mem_cons_of_mem _ (List.mem_append_left _ (List.mem_append_left _ (List.mem_append_left _ (List.mem_append_left _ (List.mem_append_left _ (List.mem_of_getElem? (i := 0) rfl))))))) e18 rfl dX6_bestWindow_20 ?_
      refine lv_iload hx hb dX6_bestWindow_23 (lv_at hl 4 rfl) ?_
      refine lv_iload hx hb dX6_bestWindow_25 (lv_at hl 4 rfl) ?_
      refine lv_aload_n hx hb dX6_bestWindow_27 rfl (lv_at hl 1 rfl) ?_
      obtain ⟨hk19, h⟩ := h
      refine g_get CF hc hk19 rfl (by decide) (fun _ h9 => List.mem_cons_of_mem _ (List.mem_append_left _ (List.mem_append_left _ (List.mem_append_right _ (h9))))) (k := 3) (by decide) (List.mem_cons_of_mem _ (List.mem_append_left _ (List.mem_append_left _ (List.mem_append_left _ (List.mem_append_left _ (List.mem_append_left _ (List.mem_of_getElem? (i := 1) rfl))))))) rfl dX6_bestWindow_28 ?_
      refine lv_icmp_ge (tgt := 52) hx hb dX6_bestWindow_31 (by decide) (fun c20 => ?_) (fun c20 => ?_)
      · have h := h.1 c20
        exact hb_52 g i5 y17 i5 h _ _ _ hc (lv_sub hl [0, 1, 2, 3, 4] rfl)
      · have h := h.2 c20
        refine lv_aload_n hx hb dX6_bestWindow_34 rfl (lv_at hl 0 rfl) ?_
        refine lv_aload_n hx hb dX6_bestWindow_35 rfl (lv_at hl 1 rfl) ?_
        refine lv_iload hx hb dX6_bestWindow_36 (lv_at hl 4 rfl) ?_
        refine g_calli (va_runV (As := [.int i5]) (rest := [.ref r0, .int i5, .ref y17]) CF (c_X9_termOn h) (cwV 1 hts gX6_bestWindow_X9_termOn rfl rfl rfl (by decide +kernel) ⟨Nat.le_of_ble_eq_true rfl, Nat.le_of_ble_eq_true rfl⟩) (hc.preV hk19 rfl (by decide)) rfl rfl hl.1 rfl (lv_room (Nat.le_of_ble_eq_true rfl)) dX6_bestWindow_38 ⟨Nat.le_of_ble_eq_true rfl, Nat.le_of_ble_eq_true rfl⟩) hc (fun x21 gq22 H locs hq hc => ?_)
        obtain ⟨rfl, h⟩ := hq
        refine lv_iload_n hx hb dX6_bestWindow_41 rfl (lv_at hl 2 rfl) ?_
        refine g_calli (va_runV (As := [.int x21, .int i3]) (rest := [.int i5, .ref y17]) CF (c_X6_isSought h) (cwV 2 hts gX6_bestWindow_X6_isSought rfl rfl rfl (by decide +kernel) ⟨Nat.le_of_ble_eq_true rfl, Nat.le_of_ble_eq_true rfl⟩) (hc.preV hk12 rfl (by decide)) rfl rfl hl.1 rfl (lv_room (Nat.le_of_ble_eq_true rfl)) dX6_bestWindow_42 ⟨Nat.le_of_ble_eq_true rfl, Nat.le_of_ble_eq_true rfl⟩) hc (fun x23 gq24 H locs hq hc => ?_)
        obtain ⟨rfl, h⟩ := hq
        refine lv_if_eq (tgt := 52) hx hb dX6_bestWindow_45 (by decide) (fun c25 => ?_) (fun c25 => ?_)
        · have h := h.1 c25
          exact hb_52 g i5 y17 i5 h _ _ _ hc (lv_sub hl [0, 1, 2, 3, 4] rfl)
        · have h := h.2 c25
          refine lv_iconst (v := 1) hx hb dX6_bestWindow_48 (by decide) ?_
          refine lv_goto (tgt := 53) hx hb dX6_bestWindow_49 (by decide) ?_
          exact hb_53 g i5 y17 i5 1 h _ _ _ hc (lv_sub hl [0, 1, 2, 3, 4] rfl)
  unfold w_X6_bestWindow at h
  obtain ⟨H, hH0⟩ : ∃ z, z = s.heap := ⟨_, rfl⟩
  rw [← hH0] at hc ⊢
  obtain ⟨locs, hlc0⟩ : ∃ z : List Loc, z = [] := ⟨_, rfl⟩
  rw [← hlc0] at hc ⊢
  refine lv_aload_n hx hb dX6_bestWindow_0 rfl (lv_at hl 0 rfl) ?_
  refine lv_iload_n hx hb dX6_bestWindow_1 rfl (lv_at hl 1 rfl) ?_
  refine lv_iconst (v := 1) hx hb dX6_bestWindow_2 (by decide) ?_
  obtain ⟨hk26, h⟩ := h
  refine g_callv (va_runV (As := [.int p1, .int 1]) (rest := []) CF (c_X6_markInside h) (cwV 2 hts gX6_bestWindow_X6_markInside rfl rfl rfl (by decide +kernel) ⟨Nat.le_of_ble_eq_true rfl, Nat.le_of_ble_eq_true rfl⟩) (hc.preV hk26 rfl (by decide)) rfl rfl hl.1 rfl (lv_room (Nat.le_of_ble_eq_true rfl)) dX6_bestWindow_3 ⟨Nat.le_of_ble_eq_true rfl, Nat.le_of_ble_eq_true rfl⟩) hc (fun g28 H locs hq hc => ?_)
  replace h := hq
  refine lv_iconst (v := 0) hx hb dX6_bestWindow_6 (by decide) ?_
  refine lv_istore (lv' := [(5, .int 0), (0, .ref p0), (1, .int p1), (2, .ref p2), (3, .int p3), (4, .int p4)]) hx hb dX6_bestWindow_7 hl (by decide) rfl (fun ls hl => ?_)
  exact hb_9 p0 p2 p3 p4 g28 0 h _ _ _ hc (lv_sub hl [1, 3, 4, 5, 0] rfl)
def w_X7_init (g0 : gS) (p0 : Nat) (Q : gS → Prop) : Prop :=
  ∀ q1, gK g0 q1 = 0 → (∀ g3, g3 = sNew g0 q1 25 60 → (gK g3 p0 = 8 ∧ (∀ g6, g6 = sV g3 p0 0 (some q1) → (∀ q8, gK g6 q8 = 0 → (∀ g10, g10 = sNew g6 q8 21 60 → (gK g10 p0 = 8 ∧ (∀ g13, g13 = sV g10 p0 1 (some q8) → (∀ q15, gK g13 q15 = 0 → (∀ g17, g17 = sNew g13 q15 21 60 → (gK g17 p0 = 8 ∧ (∀ g20, g20 = sV g17 p0 2 (some q15) → (Q g20))))))))))))
abbrev r_X7_init : Room := { frames := 1, cells := 3, slots := 180, locals := 12 }
set_option maxHeartbeats 4000000 in
set_option maxRecDepth 100000 in
theorem c_X7_init {l : Launch} {D : va_G} {cA : Nat → ClassId} {sz : Nat} {g0 : gS} {p0 : Nat} {Q : gS → Prop} (h : w_X7_init g0 p0 Q) : Met l yX7_init wsX7_init r_X7_init (va_Pc [.ref p0] (gPre D cA g0 sz)) (gQv D cA g0 sz (Q)) 3 180 (gA g0 sz) := by
  refine g_met (cc := cX7_init) (maxL := 1) (ret := none) (own := RX7) (by decide) rfl rfl (Nat.le_of_ble_eq_true rfl) ?_
  intro p e s m args below meth c ls CF hr hlk hnm hc hl
  obtain ⟨hx, hb, hml, hown, hts⟩ := id CF
  have hl : lv_has ls 1 [(0, .ref p0)] := hl
  show W p l e r_X7_init s m args below meth c s.heap [] 0 0 (MQ below (gQv D cA g0 sz (Q)) args s 3 180 (gA g0 sz)) (F0 m 0 ls [])
  unfold w_X7_init at h
  obtain ⟨H, hH0⟩ : ∃ z, z = s.heap := ⟨_, rfl⟩
  rw [← hH0] at hc ⊢
  obtain ⟨locs, hlc0⟩ : ∃ z : List Loc, z = [] := ⟨_, rfl⟩
  rw [← hlc0] at hc ⊢
  refine lv_aload_n hx hb dX7_init_0 rfl (lv_at hl 0 rfl) ?_
  refine W.objInit hx hb hown (hts _ (List.mem_cons_of_mem _ (List.mem_append_left _ (List.mem_of_getElem? (i := 0) rfl)))) (hts _ (List.mem_cons_of_mem _ (List.mem_append_left _ (List.mem_of_getElem? (i := 1) rfl)))) (hts _ (List.mem_cons_of_mem _ (List.mem_append_left _ (List.mem_of_getElem? (i := 2) rfl)))) rfl (by rw [hml]; exact hl.1) rfl dX7_init_1 (Nat.le_of_ble_eq_true rfl) (Nat.le_of_ble_eq_true rfl) ?_
  refine W.eq (g2 := F0 m 4 ls []) rfl ?_
  refine lv_aload_n hx hb dX7_init_4 rfl (lv_at hl 0 rfl) ?_
  refine lv_bipush (v := 60) hx hb dX7_init_5 (by decide) ?_
  refine g_newq CF hc (j2 := 0) (by decide) hc.1.2.2.2.1 rfl (List.mem_cons_of_mem _ (List.mem_append_left _ (List.mem_of_getElem? (i := 3) rfl))) (n := 60) (N := 60) (by decide) (by decide) (by decide) (Nat.le_of_ble_eq_true rfl) (Nat.le_of_ble_eq_true rfl) dX7_init_7 (fun q1 H locs hq2 hc => ?_)
  replace h := h q1 hq2
  obtain ⟨g3, eg4⟩ : ∃ z, z = sNew g0 q1 25 60 := ⟨_, rfl⟩
  have hc : gC D cA (gA g0 sz) s g3 H locs := by rw [eg4]; exact hc
  replace h := h g3 eg4
  refine W.widen (k := 1) (n := 60) (Nat.le_of_ble_eq_true rfl) (Nat.le_of_ble_eq_true rfl) ?_
  obtain ⟨hk5, h⟩ := h
  refine g_putrF CF hc hk5 rfl (by decide) (fun _ h9 => List.mem_cons_of_mem _ (List.mem_append_right _ (h9))) tyX7 tyX7_ok nmX7 (k := 0) (by decide) (List.mem_cons_of_mem _ (List.mem_append_left _ (List.mem_of_getElem? (i := 4) rfl))) rfl hnm rfl (some q1) narrow_ra fits_ra rfl dX7_init_10 (fun H locs hc => ?_)
  obtain ⟨g6, eg7⟩ : ∃ z, z = sV g3 p0 0 (some q1) := ⟨_, rfl⟩
  have hc : gC D cA (gA g0 sz) s g6 H locs := by rw [eg7]; exact hc
  replace h := h g6 eg7
  refine lv_aload_n hx hb dX7_init_13 rfl (lv_at hl 0 rfl) ?_
  refine lv_bipush (v := 60) hx hb dX7_init_14 (by decide) ?_
  refine g_newi CF hc (List.mem_cons_of_mem _ (List.mem_append_left _ (List.mem_of_getElem? (i := 5) rfl))) (n := 60) (N := 60) (by decide) (by decide) (by decide) (Nat.le_of_ble_eq_true rfl) (Nat.le_of_ble_eq_true rfl) dX7_init_16 (fun q8 H locs hq9 hc => ?_)
  replace h := h q8 hq9
  obtain ⟨g10, eg11⟩ : ∃ z, z = sNew g6 q8 21 60 := ⟨_, rfl⟩
  have hc : gC D cA (gA g0 sz) s g10 H locs := by rw [eg11]; exact hc
  replace h := h g10 eg11
  refine W.widen (k := 2) (n := 120) (Nat.le_of_ble_eq_true rfl) (Nat.le_of_ble_eq_true rfl) ?_
  obtain ⟨hk12, h⟩ := h
  refine g_putrF CF hc hk12 rfl (by decide) (fun _ h9 => List.mem_cons_of_mem _ (List.mem_append_right _ (h9))) tyX7 tyX7_ok nmX7 (k := 1) (by decide) (List.mem_cons_of_mem _ (List.mem_append_left _ (List.mem_of_getElem? (i := 6) rfl))) rfl hnm rfl (some q8) narrow_ra fits_ra rfl dX7_init_18 (fun H locs hc => ?_)
  obtain ⟨g13, eg14⟩ : ∃ z, z = sV g10 p0 1 (some q8) := ⟨_, rfl⟩
  have hc : gC D cA (gA g0 sz) s g13 H locs := by rw [eg14]; exact hc
  replace h := h g13 eg14
  refine lv_aload_n hx hb dX7_init_21 rfl (lv_at hl 0 rfl) ?_
  refine lv_bipush (v := 60) hx hb dX7_init_22 (by decide) ?_
  refine g_newi CF hc (List.mem_cons_of_mem _ (List.mem_append_left _ (List.mem_of_getElem? (i := 5) rfl))) (n := 60) (N := 60) (by decide) (by decide) (by decide) (Nat.le_of_ble_eq_true rfl) (Nat.le_of_ble_eq_true rfl) dX7_init_24 (fun q15 H locs hq16 hc => ?_)
  replace h := h q15 hq16
  obtain ⟨g17, eg18⟩ : ∃ z, z = sNew g13 q15 21 60 := ⟨_, rfl⟩
  have hc : gC D cA (gA g0 sz) s g17 H locs := by rw [eg18]; exact hc
  replace h := h g17 eg18
  refine W.widen (k := 3) (n := 180) (Nat.le_of_ble_eq_true rfl) (Nat.le_of_ble_eq_true rfl) ?_
  obtain ⟨hk19, h⟩ := h
  refine g_putrF CF hc hk19 rfl (by decide) (fun _ h9 => List.mem_cons_of_mem _ (List.mem_append_right _ (h9))) tyX7 tyX7_ok nmX7 (k := 2) (by decide) (List.mem_cons_of_mem _ (List.mem_append_left _ (List.mem_of_getElem? (i := 7) rfl))) rfl hnm rfl (some q15) narrow_ra fits_ra rfl dX7_init_26 (fun H locs hc => ?_)
  obtain ⟨g20, eg21⟩ : ∃ z, z = sV g17 p0 2 (some q15) := ⟨_, rfl⟩
  have hc : gC D cA (gA g0 sz) s g20 H locs := by rw [eg21]; exact hc
  replace h := h g20 eg21
  exact g_retv CF hr hlk hc h dX7_init_29
def w_X7_dropAll (g0 : gS) (p0 : Nat) (Q : gS → Prop) : Prop :=
  gK g0 p0 = 8 ∧ (∀ g2, g2 = sU g0 p0 3 0 → (Q g2))
abbrev r_X7_dropAll : Room := { frames := 0, cells := 0, slots := 0, locals := 0 }
set_option maxHeartbeats 4000000 in
set_option maxRecDepth 100000 in
theorem c_X7_dropAll {l : Launch} {D : va_G} {cA : Nat → ClassId} {sz : Nat} {g0 : gS} {p0 : Nat} {Q : gS → Prop} (h : w_X7_dropAll g0 p0 Q) : Met l yX7_dropAll wsX7_dropAll r_X7_dropAll (va_Pc [.ref p0] (gPre D cA g0 sz)) (gQv D cA g0 sz (Q)) 0 0 (gA g0 sz) := by
  refine g_met (cc := cX7_dropAll) (maxL := 1) (ret := none) (own := RX7) (by decide) rfl rfl (Nat.le_of_ble_eq_true rfl) ?_
  intro p e s m args below meth c ls CF hr hlk hnm hc hl
  obtain ⟨hx, hb, hml, hown, hts⟩ := id CF
  have hl : lv_has ls 1 [(0, .ref p0)] := hl
  show W p l e r_X7_dropAll s m args below meth c s.heap [] 0 0 (MQ below (gQv D cA g0 sz (Q)) args s 0 0 (gA g0 sz)) (F0 m 0 ls [])
  unfold w_X7_dropAll at h
  obtain ⟨H, hH0⟩ : ∃ z, z = s.heap := ⟨_, rfl⟩
  rw [← hH0] at hc ⊢
  obtain ⟨locs, hlc0⟩ : ∃ z : List Loc, z = [] := ⟨_, rfl⟩
  rw [← hlc0] at hc ⊢
  refine lv_aload_n hx hb dX7_dropAll_0 rfl (lv_at hl 0 rfl) ?_
  refine lv_iconst (v := 0) hx hb dX7_dropAll_1 (by decide) ?_
  obtain ⟨hk1, h⟩ := h
  refine g_puti CF hc hk1 rfl (by decide) (fun _ h9 => List.mem_cons_of_mem _ (List.mem_append_right _ (h9))) tyX7 tyX7_ok nmX7 (k := 3) (by decide) (List.mem_cons_of_mem _ (List.mem_append_left _ (List.mem_of_getElem? (i := 0) rfl))) rfl (v := 0) rfl rfl rfl dX7_dropAll_2 (fun H locs hc => ?_)
  obtain ⟨g2, eg3⟩ : ∃ z, z = sU g0 p0 3 0 := ⟨_, rfl⟩
  have hc : gC D cA (gA g0 sz) s g2 H locs := by rw [eg3]; exact hc
  replace h := h g2 eg3
  exact g_retv CF hr hlk hc h dX7_dropAll_5
def b_X7_hasPlace_17 (g : gS) (is0 : Int32) (Q : Int32 → Prop) : Prop :=
  (is0 = 0 ∨ is0 = 1) ∧ (Q is0)
def b_X7_hasPlace_16 (g : gS) (Q : Int32 → Prop) : Prop :=
  b_X7_hasPlace_17 g 0 Q
def w_X7_hasPlace (g : gS) (p0 : Nat) (p1 : Int32) (Q : Int32 → Prop) : Prop :=
  (p1 < 0 → (b_X7_hasPlace_16 g Q)) ∧ (¬ p1 < 0 → (gK g p0 = 8 ∧ (((gI g p0 3) ≤ p1 → (b_X7_hasPlace_16 g Q)) ∧ (¬ (gI g p0 3) ≤ p1 → (b_X7_hasPlace_17 g 1 Q)))))
abbrev r_X7_hasPlace : Room := { frames := 0, cells := 0, slots := 0, locals := 0 }
set_option maxHeartbeats 4000000 in
set_option maxRecDepth 100000 in
theorem c_X7_hasPlace {l : Launch} {D : va_G} {cA : Nat → ClassId} {sz : Nat} {g : gS} {p0 : Nat} {p1 : Int32} {Q : Int32 → Prop} (h : w_X7_hasPlace g p0 p1 Q) : Met l yX7_hasPlace wsX7_hasPlace r_X7_hasPlace (va_Pc [.ref p0, .int p1] (gPre D cA g sz)) (gQi D cA g sz (fun r g2 => g = g2 ∧ Q r)) 0 0 (gA g sz) := by
  refine g_met (cc := cX7_hasPlace) (maxL := 2) (ret := (some .boolean)) (own := RX7) (by decide) rfl rfl (Nat.le_of_ble_eq_true rfl) ?_
  intro p e s m args below meth c ls CF hr hlk hnm hc hl
  obtain ⟨hx, hb, hml, hown, hts⟩ := id CF
  have hl : lv_has ls 2 [(0, .ref p0), (1, .int p1)] := hl
  show W p l e r_X7_hasPlace s m args below meth c s.heap [] 0 0 (MQ below (gQi D cA g sz (fun r g2 => g = g2 ∧ Q r)) args s 0 0 (gA g sz)) (F0 m 0 ls [])
  have hb_17 : ∀ (is0 : Int32), b_X7_hasPlace_17 g is0 Q → ∀ (H : Heap) (locs : List Loc) (ls : Array Slot), gC D cA (gA g sz) s g H locs → lv_has ls 2 [] → W p l e r_X7_hasPlace s m args below meth c H locs 0 0 (MQ below (gQi D cA g sz (fun r g2 => g = g2 ∧ Q r)) args s 0 0 (gA g sz)) (F0 m 17 ls [.int is0]) := by
    intro is0 h H locs ls hc hl
    unfold b_X7_hasPlace_17 at h
    obtain ⟨hz1, h⟩ := h
    exact g_reti (r := is0) CF hr hlk hc (narrow_01 hz1) ⟨rfl, h⟩ dX7_hasPlace_17
  have hb_16 : b_X7_hasPlace_16 g Q → ∀ (H : Heap) (locs : List Loc) (ls : Array Slot), gC D cA (gA g sz) s g H locs → lv_has ls 2 [] → W p l e r_X7_hasPlace s m args below meth c H locs 0 0 (MQ below (gQi D cA g sz (fun r g2 => g = g2 ∧ Q r)) args s 0 0 (gA g sz)) (F0 m 16 ls []) := by
    intro h H locs ls hc hl
    unfold b_X7_hasPlace_16 at h
    refine lv_iconst (v := 0) hx hb dX7_hasPlace_16 (by decide) ?_
    exact hb_17 0 h _ _ _ hc (lv_sub hl [] rfl)
  unfold w_X7_hasPlace at h
  obtain ⟨H, hH0⟩ : ∃ z, z = s.heap := ⟨_, rfl⟩
  rw [← hH0] at hc ⊢
  obtain ⟨locs, hlc0⟩ : ∃ z : List Loc, z = [] := ⟨_, rfl⟩
  rw [← hlc0] at hc ⊢
  refine lv_iload_n hx hb dX7_hasPlace_0 rfl (lv_at hl 1 rfl) ?_
  refine lv_if_lt (tgt := 16) hx hb dX7_hasPlace_1 (by decide) (fun c2 => ?_) (fun c2 => ?_)
  · have h := h.1 c2
    exact hb_16  h _ _ _ hc (lv_sub hl [] rfl)
  · have h := h.2 c2
    refine lv_iload_n hx hb dX7_hasPlace_4 rfl (lv_at hl 1 rfl) ?_
    refine lv_aload_n hx hb dX7_hasPlace_5 rfl (lv_at hl 0 rfl) ?_
    obtain ⟨hk3, h⟩ := h
    refine g_get CF hc hk3 rfl (by decide) (fun _ h9 => List.mem_cons_of_mem _ (List.mem_append_right _ (h9))) (k := 3) (by decide) (List.mem_cons_of_mem _ (List.mem_append_left _ (List.mem_of_getElem? (i := 0) rfl))) rfl dX7_hasPlace_6 ?_
    refine lv_icmp_ge (tgt := 16) hx hb dX7_hasPlace_9 (by decide) (fun c4 => ?_) (fun c4 => ?_)
    · have h := h.1 c4
      exact hb_16  h _ _ _ hc (lv_sub hl [] rfl)
    · have h := h.2 c4
      refine lv_iconst (v := 1) hx hb dX7_hasPlace_12 (by decide) ?_
      refine lv_goto (tgt := 17) hx hb dX7_hasPlace_13 (by decide) ?_
      exact hb_17 1 h _ _ _ hc (lv_sub hl [] rfl)
def b_X7_documentAt_27 (g : gS) (os0 : Option Nat) (Q : Option Nat → Prop) : Prop :=
  Q os0
def b_X7_documentAt_17 (g : gS) (Q : Option Nat → Prop) : Prop :=
  b_X7_documentAt_27 g none Q
def w_X7_documentAt (g : gS) (p0 : Nat) (p1 : Int32) (Q : Option Nat → Prop) : Prop :=
  gK g p0 = 8 ∧ (w_X7_hasPlace g p0 p1 (fun x2 => ((x2 = 0 → (b_X7_documentAt_17 g Q)) ∧ (¬ x2 = 0 → (∃ y5, gR g p0 0 = some y5 ∧ (gK g y5 = 25 ∧ ((p1 < (nI (gN g y5)) → (∃ y9, gR g p0 0 = some y9 ∧ (gK g y9 = 25 ∧ (vp_in p1 (gN g y9) ∧ (∀ o13, o13 = gR g y9 (Int32.toNatClampNeg p1) → (b_X7_documentAt_27 g o13 Q)))))) ∧ (¬ p1 < (nI (gN g y5)) → (b_X7_documentAt_17 g Q)))))))))
abbrev r_X7_documentAt : Room := { frames := 1, cells := 0, slots := 0, locals := 21 }
set_option maxHeartbeats 4000000 in
set_option maxRecDepth 100000 in
theorem c_X7_documentAt {l : Launch} {D : va_G} {cA : Nat → ClassId} {sz : Nat} {g : gS} {p0 : Nat} {p1 : Int32} {Q : Option Nat → Prop} (h : w_X7_documentAt g p0 p1 Q) : Met l yX7_documentAt wsX7_documentAt r_X7_documentAt (va_Pc [.ref p0, .int p1] (gPre D cA g sz)) (gQq D cA g sz (fun r g2 => g = g2 ∧ Q r)) 0 0 (gA g sz) := by
  refine g_met (cc := cX7_documentAt) (maxL := 2) (ret := (some (.object "QuarryIndex$Document"))) (own := RX7) (by decide) rfl rfl (Nat.le_of_ble_eq_true rfl) ?_
  intro p e s m args below meth c ls CF hr hlk hnm hc hl
  obtain ⟨hx, hb, hml, hown, hts⟩ := id CF
  have hl : lv_has ls 2 [(0, .ref p0), (1, .int p1)] := hl
  show W p l e r_X7_documentAt s m args below meth c s.heap [] 0 0 (MQ below (gQq D cA g sz (fun r g2 => g = g2 ∧ Q r)) args s 0 0 (gA g sz)) (F0 m 0 ls [])
  have hb_27 : ∀ (os0 : Option Nat), b_X7_documentAt_27 g os0 Q → ∀ (H : Heap) (locs : List Loc) (ls : Array Slot), gC D cA (gA g sz) s g H locs → lv_has ls 2 [] → W p l e r_X7_documentAt s m args below meth c H locs 0 0 (MQ below (gQq D cA g sz (fun r g2 => g = g2 ∧ Q r)) args s 0 0 (gA g sz)) (F0 m 27 ls [va_rf os0]) := by
    intro os0 h H locs ls hc hl
    unfold b_X7_documentAt_27 at h
    exact g_retq (r := os0) CF hr hlk hc ⟨rfl, h⟩ dX7_documentAt_27
  have hb_17 : b_X7_documentAt_17 g Q → ∀ (H : Heap) (locs : List Loc) (ls : Array Slot), gC D cA (gA g sz) s g H locs → lv_has ls 2 [] → W p l e r_X7_documentAt s m args below meth c H locs 0 0 (MQ below (gQq D cA g sz (fun r g2 => g = g2 ∧ Q r)) args s 0 0 (gA g sz)) (F0 m 17 ls []) := by
    intro h H locs ls hc hl
    unfold b_X7_documentAt_17 at h
    refine lv_null hx hb dX7_documentAt_17 ?_
    refine lv_goto (tgt := 27) hx hb dX7_documentAt_18 (by decide) ?_
    exact hb_27 none h _ _ _ hc (lv_sub hl [] rfl)
  unfold w_X7_documentAt at h
  obtain ⟨H, hH0⟩ : ∃ z, z = s.heap := ⟨_, rfl⟩
  rw [← hH0] at hc ⊢
  obtain ⟨locs, hlc0⟩ : ∃ z : List Loc, z = [] := ⟨_, rfl⟩
  rw [← hlc0] at hc ⊢
  refine lv_aload_n hx hb dX7_documentAt_0 rfl (lv_at hl 0 rfl) ?_
  refine lv_iload_n hx hb dX7_documentAt_1 rfl (lv_at hl 1 rfl) ?_
  obtain ⟨hk1, h⟩ := h
  refine g_calli (va_runV (As := [.int p1]) (rest := []) CF (c_X7_hasPlace h) (cwV 1 hts gX7_documentAt_X7_hasPlace rfl rfl rfl (by decide +kernel) ⟨Nat.le_of_ble_eq_true rfl, Nat.le_of_ble_eq_true rfl⟩) (hc.preV hk1 rfl (by decide)) rfl rfl hl.1 rfl (lv_room (Nat.le_of_ble_eq_true rfl)) dX7_documentAt_2 ⟨Nat.le_of_ble_eq_true rfl, Nat.le_of_ble_eq_true rfl⟩) hc (fun x2 gq3 H locs hq hc => ?_)
  obtain ⟨rfl, h⟩ := hq
  refine lv_if_eq (tgt := 17) hx hb dX7_documentAt_5 (by decide) (fun c4 => ?_) (fun c4 => ?_)
  · have h := h.1 c4
    exact hb_17  h _ _ _ hc (lv_sub hl [] rfl)
  · have h := h.2 c4
    refine lv_iload_n hx hb dX7_documentAt_8 rfl (lv_at hl 1 rfl) ?_
    refine lv_aload_n hx hb dX7_documentAt_9 rfl (lv_at hl 0 rfl) ?_
    obtain ⟨y5, e6, h⟩ := h
    refine g_getr CF hc hk1 rfl (by decide) (fun _ h9 => List.mem_cons_of_mem _ (List.mem_append_right _ (h9))) (k := 0) (by decide) (List.mem_cons_of_mem _ (List.mem_append_left _ (List.mem_of_getElem? (i := 0) rfl))) e6 rfl dX7_documentAt_10 ?_
    obtain ⟨hk7, h⟩ := h
    refine g_alen CF hc (j := 4) hk7 (by decide) dX7_documentAt_13 ?_
    refine lv_icmp_lt (tgt := 21) hx hb dX7_documentAt_14 (by decide) (fun c8 => ?_) (fun c8 => ?_)
    · have h := h.1 c8
      refine lv_aload_n hx hb dX7_documentAt_21 rfl (lv_at hl 0 rfl) ?_
      obtain ⟨y9, e10, h⟩ := h
      refine g_getr CF hc hk1 rfl (by decide) (fun _ h9 => List.mem_cons_of_mem _ (List.mem_append_right _ (h9))) (k := 0) (by decide) (List.mem_cons_of_mem _ (List.mem_append_left _ (List.mem_of_getElem? (i := 0) rfl))) e10 rfl dX7_documentAt_22 ?_
      refine lv_iload_n hx hb dX7_documentAt_25 rfl (lv_at hl 1 rfl) ?_
      obtain ⟨hk11, h⟩ := h
      obtain ⟨hi12, h⟩ := h
      refine g_aald CF hc (j := 1) hk11 (by decide) hi12 dX7_documentAt_26 ?_
      obtain ⟨o13, eo14⟩ : ∃ z, z = gR g y9 (Int32.toNatClampNeg p1) := ⟨_, rfl⟩
      rw [← eo14]
      replace h := h o13 eo14
      exact hb_27 o13 h _ _ _ hc (lv_sub hl [] rfl)
    · have h := h.2 c8
      exact hb_17  h _ _ _ hc (lv_sub hl [] rfl)
def b_X7_valueAt_27 (g : gS) (is0 : Int32) (Q : Int32 → Prop) : Prop :=
  Q is0
def b_X7_valueAt_17 (g : gS) (Q : Int32 → Prop) : Prop :=
  b_X7_valueAt_27 g (-1) Q
def w_X7_valueAt (g : gS) (p0 : Nat) (p1 : Int32) (Q : Int32 → Prop) : Prop :=
  gK g p0 = 8 ∧ (w_X7_hasPlace g p0 p1 (fun x2 => ((x2 = 0 → (b_X7_valueAt_17 g Q)) ∧ (¬ x2 = 0 → (∃ y5, gR g p0 2 = some y5 ∧ (gK g y5 = 21 ∧ ((p1 < (nI (gN g y5)) → (∃ y9, gR g p0 2 = some y9 ∧ (gK g y9 = 21 ∧ (vp_in p1 (gN g y9) ∧ (b_X7_valueAt_27 g (gI g y9 (Int32.toNatClampNeg p1)) Q))))) ∧ (¬ p1 < (nI (gN g y5)) → (b_X7_valueAt_17 g Q)))))))))
abbrev r_X7_valueAt : Room := { frames := 1, cells := 0, slots := 0, locals := 21 }
set_option maxHeartbeats 4000000 in
set_option maxRecDepth 100000 in
theorem c_X7_valueAt {l : Launch} {D : va_G} {cA : Nat → ClassId} {sz : Nat} {g : gS} {p0 : Nat} {p1 : Int32} {Q : Int32 → Prop} (h : w_X7_valueAt g p0 p1 Q) : Met l yX7_valueAt wsX7_valueAt r_X7_valueAt (va_Pc [.ref p0, .int p1] (gPre D cA g sz)) (gQi D cA g sz (fun r g2 => g = g2 ∧ Q r)) 0 0 (gA g sz) := by
  refine g_met (cc := cX7_valueAt) (maxL := 2) (ret := (some .int)) (own := RX7) (by decide) rfl rfl (Nat.le_of_ble_eq_true rfl) ?_
  intro p e s m args below meth c ls CF hr hlk hnm hc hl
  obtain ⟨hx, hb, hml, hown, hts⟩ := id CF
  have hl : lv_has ls 2 [(0, .ref p0), (1, .int p1)] := hl
  show W p l e r_X7_valueAt s m args below meth c s.heap [] 0 0 (MQ below (gQi D cA g sz (fun r g2 => g = g2 ∧ Q r)) args s 0 0 (gA g sz)) (F0 m 0 ls [])
  have hb_27 : ∀ (is0 : Int32), b_X7_valueAt_27 g is0 Q → ∀ (H : Heap) (locs : List Loc) (ls : Array Slot), gC D cA (gA g sz) s g H locs → lv_has ls 2 [] → W p l e r_X7_valueAt s m args below meth c H locs 0 0 (MQ below (gQi D cA g sz (fun r g2 => g = g2 ∧ Q r)) args s 0 0 (gA g sz)) (F0 m 27 ls [.int is0]) := by
    intro is0 h H locs ls hc hl
    unfold b_X7_valueAt_27 at h
    exact g_reti (r := is0) CF hr hlk hc rfl ⟨rfl, h⟩ dX7_valueAt_27
  have hb_17 : b_X7_valueAt_17 g Q → ∀ (H : Heap) (locs : List Loc) (ls : Array Slot), gC D cA (gA g sz) s g H locs → lv_has ls 2 [] → W p l e r_X7_valueAt s m args below meth c H locs 0 0 (MQ below (gQi D cA g sz (fun r g2 => g = g2 ∧ Q r)) args s 0 0 (gA g sz)) (F0 m 17 ls []) := by
    intro h H locs ls hc hl
    unfold b_X7_valueAt_17 at h
    refine lv_iconst (v := (-1)) hx hb dX7_valueAt_17 (by decide) ?_
    refine lv_goto (tgt := 27) hx hb dX7_valueAt_18 (by decide) ?_
    exact hb_27 (-1) h _ _ _ hc (lv_sub hl [] rfl)
  unfold w_X7_valueAt at h
  obtain ⟨H, hH0⟩ : ∃ z, z = s.heap := ⟨_, rfl⟩
  rw [← hH0] at hc ⊢
  obtain ⟨locs, hlc0⟩ : ∃ z : List Loc, z = [] := ⟨_, rfl⟩
  rw [← hlc0] at hc ⊢
  refine lv_aload_n hx hb dX7_valueAt_0 rfl (lv_at hl 0 rfl) ?_
  refine lv_iload_n hx hb dX7_valueAt_1 rfl (lv_at hl 1 rfl) ?_
  obtain ⟨hk1, h⟩ := h
  refine g_calli (va_runV (As := [.int p1]) (rest := []) CF (c_X7_hasPlace h) (cwV 1 hts gX7_valueAt_X7_hasPlace rfl rfl rfl (by decide +kernel) ⟨Nat.le_of_ble_eq_true rfl, Nat.le_of_ble_eq_true rfl⟩) (hc.preV hk1 rfl (by decide)) rfl rfl hl.1 rfl (lv_room (Nat.le_of_ble_eq_true rfl)) dX7_valueAt_2 ⟨Nat.le_of_ble_eq_true rfl, Nat.le_of_ble_eq_true rfl⟩) hc (fun x2 gq3 H locs hq hc => ?_)
  obtain ⟨rfl, h⟩ := hq
  refine lv_if_eq (tgt := 17) hx hb dX7_valueAt_5 (by decide) (fun c4 => ?_) (fun c4 => ?_)
  · have h := h.1 c4
    exact hb_17  h _ _ _ hc (lv_sub hl [] rfl)
  · have h := h.2 c4
    refine lv_iload_n hx hb dX7_valueAt_8 rfl (lv_at hl 1 rfl) ?_
    refine lv_aload_n hx hb dX7_valueAt_9 rfl (lv_at hl 0 rfl) ?_
    obtain ⟨y5, e6, h⟩ := h
    refine g_getr CF hc hk1 rfl (by decide) (fun _ h9 => List.mem_cons_of_mem _ (List.mem_append_right _ (h9))) (k := 2) (by decide) (List.mem_cons_of_mem _ (List.mem_append_left _ (List.mem_of_getElem? (i := 0) rfl))) e6 rfl dX7_valueAt_10 ?_
    obtain ⟨hk7, h⟩ := h
    refine g_alen CF hc (j := 0) hk7 (by decide) dX7_valueAt_13 ?_
    refine lv_icmp_lt (tgt := 21) hx hb dX7_valueAt_14 (by decide) (fun c8 => ?_) (fun c8 => ?_)
    · have h := h.1 c8
      refine lv_aload_n hx hb dX7_valueAt_21 rfl (lv_at hl 0 rfl) ?_
      obtain ⟨y9, e10, h⟩ := h
      refine g_getr CF hc hk1 rfl (by decide) (fun _ h9 => List.mem_cons_of_mem _ (List.mem_append_right _ (h9))) (k := 2) (by decide) (List.mem_cons_of_mem _ (List.mem_append_left _ (List.mem_of_getElem? (i := 0) rfl))) e10 rfl dX7_valueAt_22 ?_
      refine lv_iload_n hx hb dX7_valueAt_25 rfl (lv_at hl 1 rfl) ?_
      obtain ⟨hk11, h⟩ := h
      obtain ⟨hi12, h⟩ := h
      refine g_iald CF hc hk11 hi12 dX7_valueAt_26 ?_
      exact hb_27 (gI g y9 (Int32.toNatClampNeg p1)) h _ _ _ hc (lv_sub hl [] rfl)
    · have h := h.2 c8
      exact hb_17  h _ _ _ hc (lv_sub hl [] rfl)
def b_X7_isBetter_49 (g : gS) (is0 : Int32) (Q : Int32 → Prop) : Prop :=
  (is0 = 0 ∨ is0 = 1) ∧ (Q is0)
def b_X7_isBetter_44 (g : gS) (Q : Int32 → Prop) : Prop :=
  b_X7_isBetter_49 g 1 Q
def b_X7_isBetter_21 (g : gS) (Q : Int32 → Prop) : Prop :=
  Q 0
def w_X7_isBetter (g : gS) (p0 : Nat) (p1 : Nat) (p2 : Int32) (p3 : Int32) (Q : Int32 → Prop) : Prop :=
  gK g p0 = 8 ∧ (w_X7_documentAt g p0 p3 (fun o3 => ((o3 = none → (b_X7_isBetter_21 g Q)) ∧ (∀ y5, o3 = some y5 → (w_X7_valueAt g p0 p3 (fun x7 => ((x7 ≤ p2 → (w_X7_valueAt g p0 p3 (fun x10 => ((x10 < p2 → (b_X7_isBetter_44 g Q)) ∧ (¬ x10 < p2 → (gK g p1 = 3 ∧ (gK g y5 = 3 ∧ (((gI g p1 0) ≤ (gI g y5 0) → (b_X7_isBetter_49 g 0 Q)) ∧ (¬ (gI g p1 0) ≤ (gI g y5 0) → (b_X7_isBetter_44 g Q)))))))))) ∧ (¬ x7 ≤ p2 → (b_X7_isBetter_21 g Q)))))))))
abbrev r_X7_isBetter : Room := { frames := 2, cells := 0, slots := 0, locals := 42 }
set_option maxHeartbeats 4000000 in
set_option maxRecDepth 100000 in
theorem c_X7_isBetter {l : Launch} {D : va_G} {cA : Nat → ClassId} {sz : Nat} {g : gS} {p0 : Nat} {p1 : Nat} {p2 : Int32} {p3 : Int32} {Q : Int32 → Prop} (h : w_X7_isBetter g p0 p1 p2 p3 Q) : Met l yX7_isBetter wsX7_isBetter r_X7_isBetter (va_Pc [.ref p0, .ref p1, .int p2, .int p3] (gPre D cA g sz)) (gQi D cA g sz (fun r g2 => g = g2 ∧ Q r)) 0 0 (gA g sz) := by
  refine g_met (cc := cX7_isBetter) (maxL := 5) (ret := (some .boolean)) (own := RX7) (by decide) rfl rfl (Nat.le_of_ble_eq_true rfl) ?_
  intro p e s m args below meth c ls CF hr hlk hnm hc hl
  obtain ⟨hx, hb, hml, hown, hts⟩ := id CF
  have hl : lv_has ls 5 [(0, .ref p0), (1, .ref p1), (2, .int p2), (3, .int p3)] := hl
  show W p l e r_X7_isBetter s m args below meth c s.heap [] 0 0 (MQ below (gQi D cA g sz (fun r g2 => g = g2 ∧ Q r)) args s 0 0 (gA g sz)) (F0 m 0 ls [])
  have hb_49 : ∀ (is0 : Int32), b_X7_isBetter_49 g is0 Q → ∀ (H : Heap) (locs : List Loc) (ls : Array Slot), gC D cA (gA g sz) s g H locs → lv_has ls 5 [] → W p l e r_X7_isBetter s m args below meth c H locs 0 0 (MQ below (gQi D cA g sz (fun r g2 => g = g2 ∧ Q r)) args s 0 0 (gA g sz)) (F0 m 49 ls [.int is0]) := by
    intro is0 h H locs ls hc hl
    unfold b_X7_isBetter_49 at h
    obtain ⟨hz1, h⟩ := h
    exact g_reti (r := is0) CF hr hlk hc (narrow_01 hz1) ⟨rfl, h⟩ dX7_isBetter_49
  have hb_44 : b_X7_isBetter_44 g Q → ∀ (H : Heap) (locs : List Loc) (ls : Array Slot), gC D cA (gA g sz) s g H locs → lv_has ls 5 [] → W p l e r_X7_isBetter s m args below meth c H locs 0 0 (MQ below (gQi D cA g sz (fun r g2 => g = g2 ∧ Q r)) args s 0 0 (gA g sz)) (F0 m 44 ls []) := by
    intro h H locs ls hc hl
    unfold b_X7_isBetter_44 at h
    refine lv_iconst (v := 1) hx hb dX7_isBetter_44 (by decide) ?_
    refine lv_goto (tgt := 49) hx hb dX7_isBetter_45 (by decide) ?_
    exact hb_49 1 h _ _ _ hc (lv_sub hl [] rfl)
  have hb_21 : b_X7_isBetter_21 g Q → ∀ (H : Heap) (locs : List Loc) (ls : Array Slot), gC D cA (gA g sz) s g H locs → lv_has ls 5 [] → W p l e r_X7_isBetter s m args below meth c H locs 0 0 (MQ below (gQi D cA g sz (fun r g2 => g = g2 ∧ Q r)) args s 0 0 (gA g sz)) (F0 m 21 ls []) := by
    intro h H locs ls hc hl
    unfold b_X7_isBetter_21 at h
    refine lv_iconst (v := 0) hx hb dX7_isBetter_21 (by decide) ?_
    exact g_reti (r := 0) CF hr hlk hc (narrow_01 (by decide : (0 : Int32) = 0 ∨ (0 : Int32) = 1)) ⟨rfl, h⟩ dX7_isBetter_22
  unfold w_X7_isBetter at h
  obtain ⟨H, hH0⟩ : ∃ z, z = s.heap := ⟨_, rfl⟩
  rw [← hH0] at hc ⊢
  obtain ⟨locs, hlc0⟩ : ∃ z : List Loc, z = [] := ⟨_, rfl⟩
  rw [← hlc0] at hc ⊢
  refine lv_aload_n hx hb dX7_isBetter_0 rfl (lv_at hl 0 rfl) ?_
  refine lv_iload_n hx hb dX7_isBetter_1 rfl (lv_at hl 3 rfl) ?_
  obtain ⟨hk2, h⟩ := h
  refine g_callq (va_runV (As := [.int p3]) (rest := []) CF (c_X7_documentAt h) (cwV 1 hts gX7_isBetter_X7_documentAt rfl rfl rfl (by decide +kernel) ⟨Nat.le_of_ble_eq_true rfl, Nat.le_of_ble_eq_true rfl⟩) (hc.preV hk2 rfl (by decide)) rfl rfl hl.1 rfl (lv_room (Nat.le_of_ble_eq_true rfl)) dX7_isBetter_2 ⟨Nat.le_of_ble_eq_true rfl, Nat.le_of_ble_eq_true rfl⟩) hc (fun o3 gq4 H locs hq hc => ?_)
  obtain ⟨rfl, h⟩ := hq
  refine g_astoreq (lv' := [(4, va_rf o3), (0, .ref p0), (1, .ref p1), (2, .int p2), (3, .int p3)]) CF dX7_isBetter_5 hl (by decide) rfl (fun ls hl => ?_)
  refine g_aloadq CF dX7_isBetter_7 (lv_at hl 0 rfl) ?_
  refine g_ifnull (tgt := 21) CF dX7_isBetter_9 (by decide) (fun e6 => ?_) (fun y5 e6 => ?_)
  · have hu16 := h.1 e6
    subst e6
    have h := hu16
    exact hb_21  h _ _ _ hc (lv_sub hl [] rfl)
  · have hu16 := h.2 y5 e6
    subst e6
    have h := hu16
    refine lv_iload_n hx hb dX7_isBetter_12 rfl (lv_at hl 3 rfl) ?_
    refine lv_aload_n hx hb dX7_isBetter_13 rfl (lv_at hl 1 rfl) ?_
    refine lv_iload_n hx hb dX7_isBetter_14 rfl (lv_at hl 4 rfl) ?_
    refine g_calli (va_runV (As := [.int p3]) (rest := [.int p2]) CF (c_X7_valueAt h) (cwV 1 hts gX7_isBetter_X7_valueAt rfl rfl rfl (by decide +kernel) ⟨Nat.le_of_ble_eq_true rfl, Nat.le_of_ble_eq_true rfl⟩) (hc.preV hk2 rfl (by decide)) rfl rfl hl.1 rfl (lv_room (Nat.le_of_ble_eq_true rfl)) dX7_isBetter_15 ⟨Nat.le_of_ble_eq_true rfl, Nat.le_of_ble_eq_true rfl⟩) hc (fun x7 gq8 H locs hq hc => ?_)
    obtain ⟨rfl, h⟩ := hq
    refine lv_icmp_ge (tgt := 23) hx hb dX7_isBetter_18 (by decide) (fun c9 => ?_) (fun c9 => ?_)
    · have h := h.1 c9
      refine lv_iload_n hx hb dX7_isBetter_23 rfl (lv_at hl 3 rfl) ?_
      refine lv_aload_n hx hb dX7_isBetter_24 rfl (lv_at hl 1 rfl) ?_
      refine lv_iload_n hx hb dX7_isBetter_25 rfl (lv_at hl 4 rfl) ?_
      refine g_calli (va_runV (As := [.int p3]) (rest := [.int p2]) CF (c_X7_valueAt h) (cwV 1 hts gX7_isBetter_X7_valueAt rfl rfl rfl (by decide +kernel) ⟨Nat.le_of_ble_eq_true rfl, Nat.le_of_ble_eq_true rfl⟩) (hc.preV hk2 rfl (by decide)) rfl rfl hl.1 rfl (lv_room (Nat.le_of_ble_eq_true rfl)) dX7_isBetter_26 ⟨Nat.le_of_ble_eq_true rfl, Nat.le_of_ble_eq_true rfl⟩) hc (fun x10 gq11 H locs hq hc => ?_)
      obtain ⟨rfl, h⟩ := hq
      refine lv_icmp_gt (tgt := 44) hx hb dX7_isBetter_29 (by decide) (fun c12 => ?_) (fun c12 => ?_)
      · have h := h.1 c12
        exact hb_44  h _ _ _ hc (lv_sub hl [] rfl)
      · have h := h.2 c12
        refine lv_aload_n hx hb dX7_isBetter_32 rfl (lv_at hl 2 rfl) ?_
        obtain ⟨hk13, h⟩ := h
        refine g_get CF hc hk13 rfl (by decide) (fun _ h9 => List.mem_cons_of_mem _ (List.mem_append_left _ (List.mem_append_right _ (h9)))) (k := 0) (by decide) (List.mem_cons_of_mem _ (List.mem_append_left _ (List.mem_append_left _ (List.mem_of_getElem? (i := 0) rfl)))) rfl dX7_isBetter_33 ?_
        refine lv_aload hx hb dX7_isBetter_36 (lv_at hl 0 rfl) ?_
        obtain ⟨hk14, h⟩ := h
        refine g_get CF hc hk14 rfl (by decide) (fun _ h9 => List.mem_cons_of_mem _ (List.mem_append_left _ (List.mem_append_right _ (h9)))) (k := 0) (by decide) (List.mem_cons_of_mem _ (List.mem_append_left _ (List.mem_append_left _ (List.mem_of_getElem? (i := 0) rfl)))) rfl dX7_isBetter_38 ?_
        refine lv_icmp_le (tgt := 48) hx hb dX7_isBetter_41 (by decide) (fun c15 => ?_) (fun c15 => ?_)
        · have h := h.1 c15
          refine lv_iconst (v := 0) hx hb dX7_isBetter_48 (by decide) ?_
          exact hb_49 0 h _ _ _ hc (lv_sub hl [] rfl)
        · have h := h.2 c15
          exact hb_44  h _ _ _ hc (lv_sub hl [] rfl)
    · have h := h.2 c9
      exact hb_21  h _ _ _ hc (lv_sub hl [] rfl)
def b_X7_insert_95 (g : gS) (r0 : Nat) (r1 : Nat) (i2 : Int32) (i3 : Int32) (i4 : Int32) (Q : gS → Prop) : Prop :=
  gK g r0 = 8 ∧ (∃ y2, gR g r0 0 = some y2 ∧ (gK g y2 = 25 ∧ (vp_in i4 (gN g y2) ∧ (gK g r1 = 3 ∧ (∀ g7, g7 = sV g y2 (Int32.toNatClampNeg i4) (some r1) → (gK g7 r0 = 8 ∧ (∃ y10, gR g7 r0 1 = some y10 ∧ (gK g7 y10 = 21 ∧ (vp_in i4 (gN g7 y10) ∧ (∀ g14, g14 = sU g7 y10 (Int32.toNatClampNeg i4) i2 → (gK g14 r0 = 8 ∧ (∃ y17, gR g14 r0 2 = some y17 ∧ (gK g14 y17 = 21 ∧ (vp_in i4 (gN g14 y17) ∧ (∀ g21, g21 = sU g14 y17 (Int32.toNatClampNeg i4) i3 → (gK g21 r0 = 8 ∧ (∀ g24, g24 = sU g21 r0 3 ((gI g21 r0 3) + 1) → (Q g24))))))))))))))))))
def l_X7_insert_23 (r0 : Nat) (r1 : Nat) (i2 : Int32) (i3 : Int32) (Q : gS → Prop) (g : gS) (i4 : Int32) (k23 : gS → Int32 → Prop) : Prop :=
  (i4 ≤ 0 → (b_X7_insert_95 g r0 r1 i2 i3 i4 Q)) ∧ (¬ i4 ≤ 0 → (gK g r0 = 8 ∧ (w_X7_isBetter g r0 r1 i3 (i4 - 1) (fun x28 => ((x28 = 0 → (b_X7_insert_95 g r0 r1 i2 i3 i4 Q)) ∧ (¬ x28 = 0 → (∃ y31, gR g r0 0 = some y31 ∧ (∃ y33, gR g r0 0 = some y33 ∧ (gK g y33 = 25 ∧ (vp_in (i4 - 1) (gN g y33) ∧ (∀ o37, o37 = gR g y33 (Int32.toNatClampNeg (i4 - 1)) → (gK g y31 = 25 ∧ (vp_in i4 (gN g y31) ∧ (∃ y41, o37 = some y41 ∧ (gK g y41 = 3 ∧ (∀ g45, g45 = sV g y31 (Int32.toNatClampNeg i4) (some y41) → (gK g45 r0 = 8 ∧ (∃ y48, gR g45 r0 1 = some y48 ∧ (∃ y50, gR g45 r0 1 = some y50 ∧ (gK g45 y50 = 21 ∧ (vp_in (i4 - 1) (gN g45 y50) ∧ (gK g45 y48 = 21 ∧ (vp_in i4 (gN g45 y48) ∧ (∀ g56, g56 = sU g45 y48 (Int32.toNatClampNeg i4) (gI g45 y50 (Int32.toNatClampNeg (i4 - 1))) → (gK g56 r0 = 8 ∧ (∃ y59, gR g56 r0 2 = some y59 ∧ (∃ y61, gR g56 r0 2 = some y61 ∧ (gK g56 y61 = 21 ∧ (vp_in (i4 - 1) (gN g56 y61) ∧ (gK g56 y59 = 21 ∧ (vp_in i4 (gN g56 y59) ∧ (∀ g67, g67 = sU g56 y59 (Int32.toNatClampNeg i4) (gI g56 y61 (Int32.toNatClampNeg (i4 - 1))) → (k23 g67 (i4 + (-1)))))))))))))))))))))))))))))))))))
def b_X7_insert_16 (g : gS) (Q : gS → Prop) : Prop :=
  Q g
def w_X7_insert (g0 : gS) (p0 : Nat) (p1 : Option Nat) (p2 : Int32) (p3 : Int32) (Q : gS → Prop) : Prop :=
  (p1 = none → (b_X7_insert_16 g0 Q)) ∧ (∀ y69, p1 = some y69 → (gK g0 p0 = 8 ∧ (∃ y72, gR g0 p0 0 = some y72 ∧ (gK g0 y72 = 25 ∧ (((gI g0 p0 3) < (nI (gN g0 y72)) → (lpx2 (l_X7_insert_23 p0 y69 p2 p3 Q) g0 (gI g0 p0 3))) ∧ (¬ (gI g0 p0 3) < (nI (gN g0 y72)) → (b_X7_insert_16 g0 Q)))))))
abbrev r_X7_insert : Room := { frames := 3, cells := 0, slots := 0, locals := 66 }
set_option maxHeartbeats 4000000 in
set_option maxRecDepth 100000 in
theorem c_X7_insert {l : Launch} {D : va_G} {cA : Nat → ClassId} {sz : Nat} {g0 : gS} {p0 : Nat} {p1 : Option Nat} {p2 : Int32} {p3 : Int32} {Q : gS → Prop} (h : w_X7_insert g0 p0 p1 p2 p3 Q) : Met l yX7_insert wsX7_insert r_X7_insert (va_Pc [.ref p0, va_rf p1, .int p2, .int p3] (gPre D cA g0 sz)) (gQv D cA g0 sz (Q)) 0 0 (gA g0 sz) := by
  refine g_met (cc := cX7_insert) (maxL := 5) (ret := none) (own := RX7) (by decide) rfl rfl (by cases p1 <;> exact Nat.le_of_ble_eq_true rfl) ?_
  intro p e s m args below meth c ls CF hr hlk hnm hc hl
  obtain ⟨hx, hb, hml, hown, hts⟩ := id CF
  have hl : lv_has ls 5 [(0, .ref p0), (1, va_rf p1), (2, .int p2), (3, .int p3)] := (by cases p1 <;> exact hl)
  show W p l e r_X7_insert s m args below meth c s.heap [] 0 0 (MQ below (gQv D cA g0 sz (Q)) args s 0 0 (gA g0 sz)) (F0 m 0 ls [])
  have hb_95 : ∀ (g : gS) (r0 : Nat) (r1 : Nat) (i2 : Int32) (i3 : Int32) (i4 : Int32), b_X7_insert_95 g r0 r1 i2 i3 i4 Q → ∀ (H : Heap) (locs : List Loc) (ls : Array Slot), gC D cA (gA g0 sz) s g H locs → lv_has ls 5 [(0, .ref r0), (1, .ref r1), (2, .int i2), (3, .int i3), (4, .int i4)] → W p l e r_X7_insert s m args below meth c H locs 0 0 (MQ below (gQv D cA g0 sz (Q)) args s 0 0 (gA g0 sz)) (F0 m 95 ls []) := by
    intro g r0 r1 i2 i3 i4 h H locs ls hc hl
    unfold b_X7_insert_95 at h
    refine lv_aload_n hx hb dX7_insert_95 rfl (lv_at hl 0 rfl) ?_
    obtain ⟨hk1, h⟩ := h
    obtain ⟨y2, e3, h⟩ := h
    refine g_getr CF hc hk1 rfl (by decide) (fun _ h9 => List.mem_cons_of_mem _ (List.mem_append_left _ (List.mem_append_right _ (h9)))) (k := 0) (by decide) (List.mem_cons_of_mem _ (List.mem_append_left _ (List.mem_append_left _ (List.mem_of_getElem? (i := 1) rfl)))) e3 rfl dX7_insert_96 ?_
    refine lv_iload hx hb dX7_insert_99 (lv_at hl 4 rfl) ?_
    refine lv_aload_n hx hb dX7_insert_101 rfl (lv_at hl 1 rfl) ?_
    obtain ⟨hk4, h⟩ := h
    obtain ⟨hi5, h⟩ := h
    obtain ⟨hk6, h⟩ := h
    refine g_aast CF hc (j2 := 0) (ci := 2) (v := r1) hk4 (by decide) rfl (by decide) rfl hk6 hi5 dX7_insert_102 (fun H locs hc => ?_)
    obtain ⟨g7, eg8⟩ : ∃ z, z = sV g y2 (Int32.toNatClampNeg i4) (some r1) := ⟨_, rfl⟩
    have hc : gC D cA (gA g0 sz) s g7 H locs := by rw [eg8]; exact hc
    replace h := h g7 eg8
    refine lv_aload_n hx hb dX7_insert_103 rfl (lv_at hl 0 rfl) ?_
    obtain ⟨hk9, h⟩ := h
    obtain ⟨y10, e11, h⟩ := h
    refine g_getr CF hc hk9 rfl (by decide) (fun _ h9 => List.mem_cons_of_mem _ (List.mem_append_left _ (List.mem_append_right _ (h9)))) (k := 1) (by decide) (List.mem_cons_of_mem _ (List.mem_append_left _ (List.mem_append_left _ (List.mem_of_getElem? (i := 2) rfl)))) e11 rfl dX7_insert_104 ?_
    refine lv_iload hx hb dX7_insert_107 (lv_at hl 4 rfl) ?_
    refine lv_iload_n hx hb dX7_insert_109 rfl (lv_at hl 2 rfl) ?_
    obtain ⟨hk12, h⟩ := h
    obtain ⟨hi13, h⟩ := h
    refine g_iast CF hc hk12 (x := i2) hi13 dX7_insert_110 (fun H locs hc => ?_)
    obtain ⟨g14, eg15⟩ : ∃ z, z = sU g7 y10 (Int32.toNatClampNeg i4) i2 := ⟨_, rfl⟩
    have hc : gC D cA (gA g0 sz) s g14 H locs := by rw [eg15]; exact hc
    replace h := h g14 eg15
    refine lv_aload_n hx hb dX7_insert_111 rfl (lv_at hl 0 rfl) ?_
    obtain ⟨hk16, h⟩ := h
    obtain ⟨y17, e18, h⟩ := h
    refine g_getr CF hc hk16 rfl (by decide) (fun _ h9 => List.mem_cons_of_mem _ (List.mem_append_left _ (List.mem_append_right _ (h9)))) (k := 2) (by decide) (List.mem_cons_of_mem _ (List.mem_append_left _ (List.mem_append_left _ (List.mem_of_getElem? (i := 3) rfl)))) e18 rfl dX7_insert_112 ?_
    refine lv_iload hx hb dX7_insert_115 (lv_at hl 4 rfl) ?_
    refine lv_iload_n hx hb dX7_insert_117 rfl (lv_at hl 3 rfl) ?_
    obtain ⟨hk19, h⟩ := h
    obtain ⟨hi20, h⟩ := h
    refine g_iast CF hc hk19 (x := i3) hi20 dX7_insert_118 (fun H locs hc => ?_)
    obtain ⟨g21, eg22⟩ : ∃ z, z = sU g14 y17 (Int32.toNatClampNeg i4) i3 := ⟨_, rfl⟩
    have hc : gC D cA (gA g0 sz) s g21 H locs := by rw [eg22]; exact hc
    replace h := h g21 eg22
    refine lv_aload_n hx hb dX7_insert_119 rfl (lv_at hl 0 rfl) ?_
    refine lv_dup hx hb dX7_insert_120 rfl ?_
    obtain ⟨hk23, h⟩ := h
    refine g_get CF hc hk23 rfl (by decide) (fun _ h9 => List.mem_cons_of_mem _ (List.mem_append_left _ (List.mem_append_right _ (h9)))) (k := 3) (by decide) (List.mem_cons_of_mem _ (List.mem_append_left _ (List.mem_append_left _ (List.mem_of_getElem? (i := 0) rfl)))) rfl dX7_insert_121 ?_
    refine lv_iconst (v := 1) hx hb dX7_insert_124 (by decide) ?_
    refine lv_iadd hx hb dX7_insert_125 ?_
    refine g_puti CF hc hk23 rfl (by decide) (fun _ h9 => List.mem_cons_of_mem _ (List.mem_append_left _ (List.mem_append_right _ (h9)))) tyX7 tyX7_ok nmX7 (k := 3) (by decide) (List.mem_cons_of_mem _ (List.mem_append_left _ (List.mem_append_left _ (List.mem_of_getElem? (i := 0) rfl)))) rfl (v := ((gI g21 r0 3) + 1)) rfl rfl rfl dX7_insert_126 (fun H locs hc => ?_)
    obtain ⟨g24, eg25⟩ : ∃ z, z = sU g21 r0 3 ((gI g21 r0 3) + 1) := ⟨_, rfl⟩
    have hc : gC D cA (gA g0 sz) s g24 H locs := by rw [eg25]; exact hc
    replace h := h g24 eg25
    exact g_retv CF hr hlk hc h dX7_insert_129
  have hb_23 : ∀ (r0 : Nat) (r1 : Nat) (i2 : Int32) (i3 : Int32), ∀ (g : gS) (i4 : Int32), lpx2 (l_X7_insert_23 r0 r1 i2 i3 Q) g i4 → ∀ (H : Heap) (locs : List Loc) (ls : Array Slot), gC D cA (gA g0 sz) s g H locs → lv_has ls 5 [(0, .ref r0), (1, .ref r1), (2, .int i2), (3, .int i3), (4, .int i4)] → W p l e r_X7_insert s m args below meth c H locs 0 0 (MQ below (gQv D cA g0 sz (Q)) args s 0 0 (gA g0 sz)) (F0 m 23 ls []) := by
    intro r0 r1 i2 i3
    refine lpx2_run (P := fun (g : gS) (i4 : Int32) => ∀ (H : Heap) (locs : List Loc) (ls : Array Slot), gC D cA (gA g0 sz) s g H locs → lv_has ls 5 [(0, .ref r0), (1, .ref r1), (2, .int i2), (3, .int i3), (4, .int i4)] → W p l e r_X7_insert s m args below meth c H locs 0 0 (MQ below (gQv D cA g0 sz (Q)) args s 0 0 (gA g0 sz)) (F0 m 23 ls [])) ?_
    intro k23 hk_23 g i4 h H locs ls hc hl
    unfold l_X7_insert_23 at h
    refine lv_iload hx hb dX7_insert_23 (lv_at hl 4 rfl) ?_
    refine lv_if_le (tgt := 95) hx hb dX7_insert_25 (by decide) (fun c26 => ?_) (fun c26 => ?_)
    · have h := h.1 c26
      exact hb_95 g r0 r1 i2 i3 i4 h _ _ _ hc (lv_sub hl [0, 1, 2, 3, 4] rfl)
    · have h := h.2 c26
      refine lv_aload_n hx hb dX7_insert_28 rfl (lv_at hl 0 rfl) ?_
      refine lv_aload_n hx hb dX7_insert_29 rfl (lv_at hl 1 rfl) ?_
      refine lv_iload_n hx hb dX7_insert_30 rfl (lv_at hl 3 rfl) ?_
      refine lv_iload hx hb dX7_insert_31 (lv_at hl 4 rfl) ?_
      refine lv_iconst (v := 1) hx hb dX7_insert_33 (by decide) ?_
      refine lv_isub hx hb dX7_insert_34 ?_
      obtain ⟨hk27, h⟩ := h
      refine g_calli (va_runV (As := [.ref r1, .int i3, .int (i4 - 1)]) (rest := []) CF (c_X7_isBetter h) (cwV 3 hts gX7_insert_X7_isBetter rfl rfl rfl (by decide +kernel) ⟨Nat.le_of_ble_eq_true rfl, Nat.le_of_ble_eq_true rfl⟩) (hc.preV hk27 rfl (by decide)) rfl rfl hl.1 rfl (lv_room (Nat.le_of_ble_eq_true rfl)) dX7_insert_35 ⟨Nat.le_of_ble_eq_true rfl, Nat.le_of_ble_eq_true rfl⟩) hc (fun x28 gq29 H locs hq hc => ?_)
      obtain ⟨rfl, h⟩ := hq
      refine lv_if_eq (tgt := 95) hx hb dX7_insert_38 (by decide) (fun c30 => ?_) (fun c30 => ?_)
      · have h := h.1 c30
        exact hb_95 g r0 r1 i2 i3 i4 h _ _ _ hc (lv_sub hl [0, 1, 2, 3, 4] rfl)
      · have h := h.2 c30
        refine lv_aload_n hx hb dX7_insert_41 rfl (lv_at hl 0 rfl) ?_
        obtain ⟨y31, e32, h⟩ := h
        refine g_getr CF hc hk27 rfl (by decide) (fun _ h9 => List.mem_cons_of_mem _ (List.mem_append_left _ (List.mem_append_right _ (h9)))) (k := 0) (by decide) (List.mem_cons_of_mem _ (List.mem_append_left _ (List.mem_append_left _ (List.mem_of_getElem? (i := 1) rfl)))) e32 rfl dX7_insert_42 ?_
        refine lv_iload hx hb dX7_insert_45 (lv_at hl 4 rfl) ?_
        refine lv_aload_n hx hb dX7_insert_47 rfl (lv_at hl 0 rfl) ?_
        obtain ⟨y33, e34, h⟩ := h
        refine g_getr CF hc hk27 rfl (by decide) (fun _ h9 => List.mem_cons_of_mem _ (List.mem_append_left _ (List.mem_append_right _ (h9)))) (k := 0) (by decide) (List.mem_cons_of_mem _ (List.mem_append_left _ (List.mem_append_left _ (List.mem_of_getElem? (i := 1) rfl)))) e34 rfl dX7_insert_48 ?_
        refine lv_iload hx hb dX7_insert_51 (lv_at hl 4 rfl) ?_
        refine lv_iconst (v := 1) hx hb dX7_insert_53 (by decide) ?_
        refine lv_isub hx hb dX7_insert_54 ?_
        obtain ⟨hk35, h⟩ := h
        obtain ⟨hi36, h⟩ := h
        refine g_aald CF hc (j := 1) hk35 (by decide) hi36 dX7_insert_55 ?_
        obtain ⟨o37, eo38⟩ : ∃ z, z = gR g y33 (Int32.toNatClampNeg (i4 - 1)) := ⟨_, rfl⟩
        rw [← eo38]
        replace h := h o37 eo38
        obtain ⟨hk39, h⟩ := h
        obtain ⟨hi40, h⟩ := h
        obtain ⟨y41, e42, hu43⟩ := h
        subst e42
        have h := hu43
        obtain ⟨hk44, h⟩ := h
        refine g_aast CF hc (j2 := 0) (ci := 2) (v := y41) hk39 (by decide) rfl (by decide) rfl hk44 hi40 dX7_insert_56 (fun H locs hc => ?_)
        obtain ⟨g45, eg46⟩ : ∃ z, z = sV g y31 (Int32.toNatClampNeg i4) (some y41) := ⟨_, rfl⟩
        have hc : gC D cA (gA g0 sz) s g45 H locs := by rw [eg46]; exact hc
        replace h := h g45 eg46
        refine lv_aload_n hx hb dX7_insert_57 rfl (lv_at hl 0 rfl) ?_
        obtain ⟨hk47, h⟩ := h
        obtain ⟨y48, e49, h⟩ := h
        refine g_getr CF hc hk47 rfl (by decide) (fun _ h9 => List.mem_cons_of_mem _ (List.mem_append_left _ (List.mem_append_right _ (h9)))) (k := 1) (by decide) (List.mem_cons_of_mem _ (List.mem_append_left _ (List.mem_append_left _ (List.mem_of_getElem? (i := 2) rfl)))) e49 rfl dX7_insert_58 ?_
        refine lv_iload hx hb dX7_insert_61 (lv_at hl 4 rfl) ?_
        refine lv_aload_n hx hb dX7_insert_63 rfl (lv_at hl 0 rfl) ?_
        obtain ⟨y50, e51, h⟩ := h
        refine g_getr CF hc hk47 rfl (by decide) (fun _ h9 => List.mem_cons_of_mem _ (List.mem_append_left _ (List.mem_append_right _ (h9)))) (k := 1) (by decide) (List.mem_cons_of_mem _ (List.mem_append_left _ (List.mem_append_left _ (List.mem_of_getElem? (i := 2) rfl)))) e51 rfl dX7_insert_64 ?_
        refine lv_iload hx hb dX7_insert_67 (lv_at hl 4 rfl) ?_
        refine lv_iconst (v := 1) hx hb dX7_insert_69 (by decide) ?_
        refine lv_isub hx hb dX7_insert_70 ?_
        obtain ⟨hk52, h⟩ := h
        obtain ⟨hi53, h⟩ := h
        refine g_iald CF hc hk52 hi53 dX7_insert_71 ?_
        obtain ⟨hk54, h⟩ := h
        obtain ⟨hi55, h⟩ := h
        refine g_iast CF hc hk54 (x := (gI g45 y50 (Int32.toNatClampNeg (i4 - 1)))) hi55 dX7_insert_72 (fun H locs hc => ?_)
        obtain ⟨g56, eg57⟩ : ∃ z, z = sU g45 y48 (Int32.toNatClampNeg i4) (gI g45 y50 (Int32.toNatClampNeg (i4 - 1))) := ⟨_, rfl⟩
        have hc : gC D cA (gA g0 sz) s g56 H locs := by rw [eg57]; exact hc
        replace h := h g56 eg57
        refine lv_aload_n hx hb dX7_insert_73 rfl (lv_at hl 0 rfl) ?_
        obtain ⟨hk58, h⟩ := h
        obtain ⟨y59, e60, h⟩ := h
        refine g_getr CF hc hk58 rfl (by decide) (fun _ h9 => List.mem_cons_of_mem _ (List.mem_append_left _ (List.mem_append_right _ (h9)))) (k := 2) (by decide) (List.mem_cons_of_mem _ (List.mem_append_left _ (List.mem_append_left _ (List.mem_of_getElem? (i := 3) rfl)))) e60 rfl dX7_insert_74 ?_
        refine lv_iload hx hb dX7_insert_77 (lv_at hl 4 rfl) ?_
        refine lv_aload_n hx hb dX7_insert_79 rfl (lv_at hl 0 rfl) ?_
        obtain ⟨y61, e62, h⟩ := h
        refine g_getr CF hc hk58 rfl (by decide) (fun _ h9 => List.mem_cons_of_mem _ (List.mem_append_left _ (List.mem_append_right _ (h9)))) (k := 2) (by decide) (List.mem_cons_of_mem _ (List.mem_append_left _ (List.mem_append_left _ (List.mem_of_getElem? (i := 3) rfl)))) e62 rfl dX7_insert_80 ?_
        refine lv_iload hx hb dX7_insert_83 (lv_at hl 4 rfl) ?_
        refine lv_iconst (v := 1) hx hb dX7_insert_85 (by decide) ?_
        refine lv_isub hx hb dX7_insert_86 ?_
        obtain ⟨hk63, h⟩ := h
        obtain ⟨hi64, h⟩ := h
        refine g_iald CF hc hk63 hi64 dX7_insert_87 ?_
        obtain ⟨hk65, h⟩ := h
        obtain ⟨hi66, h⟩ := h
        refine g_iast CF hc hk65 (x := (gI g56 y61 (Int32.toNatClampNeg (i4 - 1)))) hi66 dX7_insert_88 (fun H locs hc => ?_)
        obtain ⟨g67, eg68⟩ : ∃ z, z = sU g56 y59 (Int32.toNatClampNeg i4) (gI g56 y61 (Int32.toNatClampNeg (i4 - 1))) := ⟨_, rfl⟩
        have hc : gC D cA (gA g0 sz) s g67 H locs := by rw [eg68]; exact hc
        replace h := h g67 eg68
        refine lv_iinc (v := (i4 + (-1))) (lv' := [(4, .int (i4 + (-1))), (0, .ref r0), (1, .ref r1), (2, .int i2), (3, .int i3)]) hx hb dX7_insert_89 hl (k := 4) rfl rfl (by decide) rfl (fun ls hl => ?_)
        refine lv_goto (tgt := 23) hx hb dX7_insert_92 (by decide) ?_
        exact hk_23 g67 (i4 + (-1)) h _ _ _ hc (lv_sub hl [1, 2, 3, 4, 0] rfl)
  have hb_16 : ∀ (g : gS), b_X7_insert_16 g Q → ∀ (H : Heap) (locs : List Loc) (ls : Array Slot), gC D cA (gA g0 sz) s g H locs → lv_has ls 5 [] → W p l e r_X7_insert s m args below meth c H locs 0 0 (MQ below (gQv D cA g0 sz (Q)) args s 0 0 (gA g0 sz)) (F0 m 16 ls []) := by
    intro g h H locs ls hc hl
    unfold b_X7_insert_16 at h
    exact g_retv CF hr hlk hc h dX7_insert_16
  unfold w_X7_insert at h
  obtain ⟨H, hH0⟩ : ∃ z, z = s.heap := ⟨_, rfl⟩
  rw [← hH0] at hc ⊢
  obtain ⟨locs, hlc0⟩ : ∃ z : List Loc, z = [] := ⟨_, rfl⟩
  rw [← hlc0] at hc ⊢
  refine g_aload_nq CF dX7_insert_0 rfl (lv_at hl 1 rfl) ?_
  refine g_ifnull (tgt := 16) CF dX7_insert_1 (by decide) (fun e70 => ?_) (fun y69 e70 => ?_)
  · have hu76 := h.1 e70
    subst e70
    have h := hu76
    exact hb_16 g0 h _ _ _ hc (lv_sub hl [] rfl)
  · have hu76 := h.2 y69 e70
    subst e70
    have h := hu76
    refine lv_aload_n hx hb dX7_insert_4 rfl (lv_at hl 0 rfl) ?_
    obtain ⟨hk71, h⟩ := h
    refine g_get CF hc hk71 rfl (by decide) (fun _ h9 => List.mem_cons_of_mem _ (List.mem_append_left _ (List.mem_append_right _ (h9)))) (k := 3) (by decide) (List.mem_cons_of_mem _ (List.mem_append_left _ (List.mem_append_left _ (List.mem_of_getElem? (i := 0) rfl)))) rfl dX7_insert_5 ?_
    refine lv_aload_n hx hb dX7_insert_8 rfl (lv_at hl 0 rfl) ?_
    obtain ⟨y72, e73, h⟩ := h
    refine g_getr CF hc hk71 rfl (by decide) (fun _ h9 => List.mem_cons_of_mem _ (List.mem_append_left _ (List.mem_append_right _ (h9)))) (k := 0) (by decide) (List.mem_cons_of_mem _ (List.mem_append_left _ (List.mem_append_left _ (List.mem_of_getElem? (i := 1) rfl)))) e73 rfl dX7_insert_9 ?_
    obtain ⟨hk74, h⟩ := h
    refine g_alen CF hc (j := 4) hk74 (by decide) dX7_insert_12 ?_
    refine lv_icmp_lt (tgt := 17) hx hb dX7_insert_13 (by decide) (fun c75 => ?_) (fun c75 => ?_)
    · have h := h.1 c75
      refine lv_aload_n hx hb dX7_insert_17 rfl (lv_at hl 0 rfl) ?_
      refine g_get CF hc hk71 rfl (by decide) (fun _ h9 => List.mem_cons_of_mem _ (List.mem_append_left _ (List.mem_append_right _ (h9)))) (k := 3) (by decide) (List.mem_cons_of_mem _ (List.mem_append_left _ (List.mem_append_left _ (List.mem_of_getElem? (i := 0) rfl)))) rfl dX7_insert_18 ?_
      refine lv_istore (lv' := [(4, .int (gI g0 p0 3)), (0, .ref p0), (1, .ref y69), (2, .int p2), (3, .int p3)]) hx hb dX7_insert_21 hl (by decide) rfl (fun ls hl => ?_)
      exact hb_23 p0 y69 p2 p3 g0 (gI g0 p0 3) h _ _ _ hc (lv_sub hl [1, 2, 3, 4, 0] rfl)
    · have h := h.2 c75
      exact hb_16 g0 h _ _ _ hc (lv_sub hl [] rfl)
def b_X7_numberAt_27 (g : gS) (is0 : Int32) (Q : Int32 → Prop) : Prop :=
  Q is0
def b_X7_numberAt_17 (g : gS) (Q : Int32 → Prop) : Prop :=
  b_X7_numberAt_27 g (-1) Q
def w_X7_numberAt (g : gS) (p0 : Nat) (p1 : Int32) (Q : Int32 → Prop) : Prop :=
  gK g p0 = 8 ∧ (w_X7_hasPlace g p0 p1 (fun x2 => ((x2 = 0 → (b_X7_numberAt_17 g Q)) ∧ (¬ x2 = 0 → (∃ y5, gR g p0 1 = some y5 ∧ (gK g y5 = 21 ∧ ((p1 < (nI (gN g y5)) → (∃ y9, gR g p0 1 = some y9 ∧ (gK g y9 = 21 ∧ (vp_in p1 (gN g y9) ∧ (b_X7_numberAt_27 g (gI g y9 (Int32.toNatClampNeg p1)) Q))))) ∧ (¬ p1 < (nI (gN g y5)) → (b_X7_numberAt_17 g Q)))))))))
abbrev r_X7_numberAt : Room := { frames := 1, cells := 0, slots := 0, locals := 21 }
set_option maxHeartbeats 4000000 in
set_option maxRecDepth 100000 in
theorem c_X7_numberAt {l : Launch} {D : va_G} {cA : Nat → ClassId} {sz : Nat} {g : gS} {p0 : Nat} {p1 : Int32} {Q : Int32 → Prop} (h : w_X7_numberAt g p0 p1 Q) : Met l yX7_numberAt wsX7_numberAt r_X7_numberAt (va_Pc [.ref p0, .int p1] (gPre D cA g sz)) (gQi D cA g sz (fun r g2 => g = g2 ∧ Q r)) 0 0 (gA g sz) := by
  refine g_met (cc := cX7_numberAt) (maxL := 2) (ret := (some .int)) (own := RX7) (by decide) rfl rfl (Nat.le_of_ble_eq_true rfl) ?_
  intro p e s m args below meth c ls CF hr hlk hnm hc hl
  obtain ⟨hx, hb, hml, hown, hts⟩ := id CF
  have hl : lv_has ls 2 [(0, .ref p0), (1, .int p1)] := hl
  show W p l e r_X7_numberAt s m args below meth c s.heap [] 0 0 (MQ below (gQi D cA g sz (fun r g2 => g = g2 ∧ Q r)) args s 0 0 (gA g sz)) (F0 m 0 ls [])
  have hb_27 : ∀ (is0 : Int32), b_X7_numberAt_27 g is0 Q → ∀ (H : Heap) (locs : List Loc) (ls : Array Slot), gC D cA (gA g sz) s g H locs → lv_has ls 2 [] → W p l e r_X7_numberAt s m args below meth c H locs 0 0 (MQ below (gQi D cA g sz (fun r g2 => g = g2 ∧ Q r)) args s 0 0 (gA g sz)) (F0 m 27 ls [.int is0]) := by
    intro is0 h H locs ls hc hl
    unfold b_X7_numberAt_27 at h
    exact g_reti (r := is0) CF hr hlk hc rfl ⟨rfl, h⟩ dX7_numberAt_27
  have hb_17 : b_X7_numberAt_17 g Q → ∀ (H : Heap) (locs : List Loc) (ls : Array Slot), gC D cA (gA g sz) s g H locs → lv_has ls 2 [] → W p l e r_X7_numberAt s m args below meth c H locs 0 0 (MQ below (gQi D cA g sz (fun r g2 => g = g2 ∧ Q r)) args s 0 0 (gA g sz)) (F0 m 17 ls []) := by
    intro h H locs ls hc hl
    unfold b_X7_numberAt_17 at h
    refine lv_iconst (v := (-1)) hx hb dX7_numberAt_17 (by decide) ?_
    refine lv_goto (tgt := 27) hx hb dX7_numberAt_18 (by decide) ?_
    exact hb_27 (-1) h _ _ _ hc (lv_sub hl [] rfl)
  unfold w_X7_numberAt at h
  obtain ⟨H, hH0⟩ : ∃ z, z = s.heap := ⟨_, rfl⟩
  rw [← hH0] at hc ⊢
  obtain ⟨locs, hlc0⟩ : ∃ z : List Loc, z = [] := ⟨_, rfl⟩
  rw [← hlc0] at hc ⊢
  refine lv_aload_n hx hb dX7_numberAt_0 rfl (lv_at hl 0 rfl) ?_
  refine lv_iload_n hx hb dX7_numberAt_1 rfl (lv_at hl 1 rfl) ?_
  obtain ⟨hk1, h⟩ := h
  refine g_calli (va_runV (As := [.int p1]) (rest := []) CF (c_X7_hasPlace h) (cwV 1 hts gX7_numberAt_X7_hasPlace rfl rfl rfl (by decide +kernel) ⟨Nat.le_of_ble_eq_true rfl, Nat.le_of_ble_eq_true rfl⟩) (hc.preV hk1 rfl (by decide)) rfl rfl hl.1 rfl (lv_room (Nat.le_of_ble_eq_true rfl)) dX7_numberAt_2 ⟨Nat.le_of_ble_eq_true rfl, Nat.le_of_ble_eq_true rfl⟩) hc (fun x2 gq3 H locs hq hc => ?_)
  obtain ⟨rfl, h⟩ := hq
  refine lv_if_eq (tgt := 17) hx hb dX7_numberAt_5 (by decide) (fun c4 => ?_) (fun c4 => ?_)
  · have h := h.1 c4
    exact hb_17  h _ _ _ hc (lv_sub hl [] rfl)
  · have h := h.2 c4
    refine lv_iload_n hx hb dX7_numberAt_8 rfl (lv_at hl 1 rfl) ?_
    refine lv_aload_n hx hb dX7_numberAt_9 rfl (lv_at hl 0 rfl) ?_
    obtain ⟨y5, e6, h⟩ := h
    refine g_getr CF hc hk1 rfl (by decide) (fun _ h9 => List.mem_cons_of_mem _ (List.mem_append_right _ (h9))) (k := 1) (by decide) (List.mem_cons_of_mem _ (List.mem_append_left _ (List.mem_of_getElem? (i := 0) rfl))) e6 rfl dX7_numberAt_10 ?_
    obtain ⟨hk7, h⟩ := h
    refine g_alen CF hc (j := 0) hk7 (by decide) dX7_numberAt_13 ?_
    refine lv_icmp_lt (tgt := 21) hx hb dX7_numberAt_14 (by decide) (fun c8 => ?_) (fun c8 => ?_)
    · have h := h.1 c8
      refine lv_aload_n hx hb dX7_numberAt_21 rfl (lv_at hl 0 rfl) ?_
      obtain ⟨y9, e10, h⟩ := h
      refine g_getr CF hc hk1 rfl (by decide) (fun _ h9 => List.mem_cons_of_mem _ (List.mem_append_right _ (h9))) (k := 1) (by decide) (List.mem_cons_of_mem _ (List.mem_append_left _ (List.mem_of_getElem? (i := 0) rfl))) e10 rfl dX7_numberAt_22 ?_
      refine lv_iload_n hx hb dX7_numberAt_25 rfl (lv_at hl 1 rfl) ?_
      obtain ⟨hk11, h⟩ := h
      obtain ⟨hi12, h⟩ := h
      refine g_iald CF hc hk11 hi12 dX7_numberAt_26 ?_
      exact hb_27 (gI g y9 (Int32.toNatClampNeg p1)) h _ _ _ hc (lv_sub hl [] rfl)
    · have h := h.2 c8
      exact hb_17  h _ _ _ hc (lv_sub hl [] rfl)
def b_X7_countKind_36 (g : gS) (r0 : Nat) (i1 : Int32) (i2 : Int32) (i3 : Int32) (Q : Int32 → Prop) (k4 : Int32 → Int32 → Prop) : Prop :=
  k4 i2 (i3 + 1)
def l_X7_countKind_4 (g : gS) (r0 : Nat) (i1 : Int32) (Q : Int32 → Prop) (i2 : Int32) (i3 : Int32) (k4 : Int32 → Int32 → Prop) : Prop :=
  gK g r0 = 8 ∧ (((gI g r0 3) ≤ i3 → (Q i2)) ∧ (¬ (gI g r0 3) ≤ i3 → (w_X7_documentAt g r0 i3 (fun o3 => ((o3 = none → (b_X7_countKind_36 g r0 i1 i2 i3 Q k4)) ∧ (∀ y5, o3 = some y5 → (gK g y5 = 3 ∧ (((gI g y5 1) = i1 → (b_X7_countKind_36 g r0 i1 (i2 + 1) i3 Q k4)) ∧ (¬ (gI g y5 1) = i1 → (b_X7_countKind_36 g r0 i1 i2 i3 Q k4))))))))))
def w_X7_countKind (g : gS) (p0 : Nat) (p1 : Int32) (Q : Int32 → Prop) : Prop :=
  lpx2 (l_X7_countKind_4 g p0 p1 Q) 0 0
abbrev r_X7_countKind : Room := { frames := 2, cells := 0, slots := 0, locals := 42 }
set_option maxHeartbeats 4000000 in
set_option maxRecDepth 100000 in
theorem c_X7_countKind {l : Launch} {D : va_G} {cA : Nat → ClassId} {sz : Nat} {g : gS} {p0 : Nat} {p1 : Int32} {Q : Int32 → Prop} (h : w_X7_countKind g p0 p1 Q) : Met l yX7_countKind wsX7_countKind r_X7_countKind (va_Pc [.ref p0, .int p1] (gPre D cA g sz)) (gQi D cA g sz (fun r g2 => g = g2 ∧ Q r)) 0 0 (gA g sz) := by
  refine g_met (cc := cX7_countKind) (maxL := 5) (ret := (some .int)) (own := RX7) (by decide) rfl rfl (Nat.le_of_ble_eq_true rfl) ?_
  intro p e s m args below meth c ls CF hr hlk hnm hc hl
  obtain ⟨hx, hb, hml, hown, hts⟩ := id CF
  have hl : lv_has ls 5 [(0, .ref p0), (1, .int p1)] := hl
  show W p l e r_X7_countKind s m args below meth c s.heap [] 0 0 (MQ below (gQi D cA g sz (fun r g2 => g = g2 ∧ Q r)) args s 0 0 (gA g sz)) (F0 m 0 ls [])
  have hb_4 : ∀ (r0 : Nat) (i1 : Int32), ∀ (i2 : Int32) (i3 : Int32), lpx2 (l_X7_countKind_4 g r0 i1 Q) i2 i3 → ∀ (H : Heap) (locs : List Loc) (ls : Array Slot), gC D cA (gA g sz) s g H locs → lv_has ls 5 [(0, .ref r0), (1, .int i1), (2, .int i2), (3, .int i3)] → W p l e r_X7_countKind s m args below meth c H locs 0 0 (MQ below (gQi D cA g sz (fun r g2 => g = g2 ∧ Q r)) args s 0 0 (gA g sz)) (F0 m 4 ls []) := by
    intro r0 i1
    refine lpx2_run (P := fun (i2 : Int32) (i3 : Int32) => ∀ (H : Heap) (locs : List Loc) (ls : Array Slot), gC D cA (gA g sz) s g H locs → lv_has ls 5 [(0, .ref r0), (1, .int i1), (2, .int i2), (3, .int i3)] → W p l e r_X7_countKind s m args below meth c H locs 0 0 (MQ below (gQi D cA g sz (fun r g2 => g = g2 ∧ Q r)) args s 0 0 (gA g sz)) (F0 m 4 ls [])) ?_
    intro k4 hk_4 i2 i3 h H locs ls hc hl
    have hb_36 : ∀ (i2 : Int32) (i3 : Int32), b_X7_countKind_36 g r0 i1 i2 i3 Q k4 → ∀ (H : Heap) (locs : List Loc) (ls : Array Slot), gC D cA (gA g sz) s g H locs → lv_has ls 5 [(0, .ref r0), (1, .int i1), (2, .int i2), (3, .int i3)] → W p l e r_X7_countKind s m args below meth c H locs 0 0 (MQ below (gQi D cA g sz (fun r g2 => g = g2 ∧ Q r)) args s 0 0 (gA g sz)) (F0 m 36 ls []) := by
      intro i2 i3 h H locs ls hc hl
      unfold b_X7_countKind_36 at h
      refine lv_iinc (v := (i3 + 1)) (lv' := [(3, .int (i3 + 1)), (0, .ref r0), (1, .int i1), (2, .int i2)]) hx hb dX7_countKind_36 hl (k := 3) rfl rfl (by decide) rfl (fun ls hl => ?_)
      refine lv_goto (tgt := 4) hx hb dX7_countKind_39 (by decide) ?_
      exact hk_4 i2 (i3 + 1) h _ _ _ hc (lv_sub hl [1, 2, 3, 0] rfl)
    unfold l_X7_countKind_4 at h
    refine lv_iload_n hx hb dX7_countKind_4 rfl (lv_at hl 3 rfl) ?_
    refine lv_aload_n hx hb dX7_countKind_5 rfl (lv_at hl 0 rfl) ?_
    obtain ⟨hk1, h⟩ := h
    refine g_get CF hc hk1 rfl (by decide) (fun _ h9 => List.mem_cons_of_mem _ (List.mem_append_left _ (List.mem_append_right _ (h9)))) (k := 3) (by decide) (List.mem_cons_of_mem _ (List.mem_append_left _ (List.mem_append_left _ (List.mem_of_getElem? (i := 0) rfl)))) rfl dX7_countKind_6 ?_
    refine lv_icmp_ge (tgt := 42) hx hb dX7_countKind_9 (by decide) (fun c2 => ?_) (fun c2 => ?_)
    · have h := h.1 c2
      refine lv_iload_n hx hb dX7_countKind_42 rfl (lv_at hl 2 rfl) ?_
      exact g_reti (r := i2) CF hr hlk hc rfl ⟨rfl, h⟩ dX7_countKind_43
    · have h := h.2 c2
      refine lv_aload_n hx hb dX7_countKind_12 rfl (lv_at hl 0 rfl) ?_
      refine lv_iload_n hx hb dX7_countKind_13 rfl (lv_at hl 3 rfl) ?_
      refine g_callq (va_runV (As := [.int i3]) (rest := []) CF (c_X7_documentAt h) (cwV 1 hts gX7_countKind_X7_documentAt rfl rfl rfl (by decide +kernel) ⟨Nat.le_of_ble_eq_true rfl, Nat.le_of_ble_eq_true rfl⟩) (hc.preV hk1 rfl (by decide)) rfl rfl hl.1 rfl (lv_room (Nat.le_of_ble_eq_true rfl)) dX7_countKind_14 ⟨Nat.le_of_ble_eq_true rfl, Nat.le_of_ble_eq_true rfl⟩) hc (fun o3 gq4 H locs hq hc => ?_)
      obtain ⟨rfl, h⟩ := hq
      refine g_astoreq (lv' := [(4, va_rf o3), (0, .ref r0), (1, .int i1), (2, .int i2), (3, .int i3)]) CF dX7_countKind_17 hl (by decide) rfl (fun ls hl => ?_)
      refine g_aloadq CF dX7_countKind_19 (lv_at hl 0 rfl) ?_
      refine g_ifnull (tgt := 36) CF dX7_countKind_21 (by decide) (fun e6 => ?_) (fun y5 e6 => ?_)
      · have hu9 := h.1 e6
        subst e6
        have h := hu9
        exact hb_36 i2 i3 h _ _ _ hc (lv_sub hl [1, 2, 3, 4] rfl)
      · have hu9 := h.2 y5 e6
        subst e6
        have h := hu9
        refine lv_aload hx hb dX7_countKind_24 (lv_at hl 0 rfl) ?_
        obtain ⟨hk7, h⟩ := h
        refine g_get CF hc hk7 rfl (by decide) (fun _ h9 => List.mem_cons_of_mem _ (List.mem_append_right _ (h9))) (k := 1) (by decide) (List.mem_cons_of_mem _ (List.mem_append_left _ (List.mem_append_left _ (List.mem_of_getElem? (i := 1) rfl)))) rfl dX7_countKind_26 ?_
        refine lv_iload_n hx hb dX7_countKind_29 rfl (lv_at hl 2 rfl) ?_
        refine lv_icmp_ne (tgt := 36) hx hb dX7_countKind_30 (by decide) (fun c8 => ?_) (fun c8 => ?_)
        · have h := h.2 c8
          exact hb_36 i2 i3 h _ _ _ hc (lv_sub hl [1, 2, 3, 4] rfl)
        · have h := h.1 c8
          refine lv_iinc (v := (i2 + 1)) (lv' := [(2, .int (i2 + 1)), (4, .ref y5), (0, .ref r0), (1, .int i1), (3, .int i3)]) hx hb dX7_countKind_33 hl (k := 3) rfl rfl (by decide) rfl (fun ls hl => ?_)
          exact hb_36 (i2 + 1) i3 h _ _ _ hc (lv_sub hl [2, 3, 0, 4] rfl)
  unfold w_X7_countKind at h
  obtain ⟨H, hH0⟩ : ∃ z, z = s.heap := ⟨_, rfl⟩
  rw [← hH0] at hc ⊢
  obtain ⟨locs, hlc0⟩ : ∃ z : List Loc, z = [] := ⟨_, rfl⟩
  rw [← hlc0] at hc ⊢
  refine lv_iconst (v := 0) hx hb dX7_countKind_0 (by decide) ?_
  refine lv_istore_n (lv' := [(2, .int 0), (0, .ref p0), (1, .int p1)]) hx hb dX7_countKind_1 rfl hl (by decide) rfl (fun ls hl => ?_)
  refine lv_iconst (v := 0) hx hb dX7_countKind_2 (by decide) ?_
  refine lv_istore_n (lv' := [(3, .int 0), (2, .int 0), (0, .ref p0), (1, .int p1)]) hx hb dX7_countKind_3 rfl hl (by decide) rfl (fun ls hl => ?_)
  exact hb_4 p0 p1 0 0 h _ _ _ hc (lv_sub hl [2, 3, 1, 0] rfl)
def b_X7_countDates_48 (g : gS) (r0 : Nat) (i1 : Int32) (i2 : Int32) (i3 : Int32) (i4 : Int32) (Q : Int32 → Prop) (k5 : Int32 → Int32 → Prop) : Prop :=
  k5 i3 (i4 + 1)
def l_X7_countDates_5 (g : gS) (r0 : Nat) (i1 : Int32) (i2 : Int32) (Q : Int32 → Prop) (i3 : Int32) (i4 : Int32) (k5 : Int32 → Int32 → Prop) : Prop :=
  gK g r0 = 8 ∧ (((gI g r0 3) ≤ i4 → (Q i3)) ∧ (¬ (gI g r0 3) ≤ i4 → (w_X7_documentAt g r0 i4 (fun o3 => ((o3 = none → (b_X7_countDates_48 g r0 i1 i2 i3 i4 Q k5)) ∧ (∀ y5, o3 = some y5 → (gK g y5 = 3 ∧ (((gI g y5 0) < i1 → (b_X7_countDates_48 g r0 i1 i2 i3 i4 Q k5)) ∧ (¬ (gI g y5 0) < i1 → ((i2 < (gI g y5 0) → (b_X7_countDates_48 g r0 i1 i2 i3 i4 Q k5)) ∧ (¬ i2 < (gI g y5 0) → (b_X7_countDates_48 g r0 i1 i2 (i3 + 1) i4 Q k5))))))))))))
def w_X7_countDates (g : gS) (p0 : Nat) (p1 : Int32) (p2 : Int32) (Q : Int32 → Prop) : Prop :=
  lpx2 (l_X7_countDates_5 g p0 p1 p2 Q) 0 0
abbrev r_X7_countDates : Room := { frames := 2, cells := 0, slots := 0, locals := 42 }
set_option maxHeartbeats 4000000 in
set_option maxRecDepth 100000 in
theorem c_X7_countDates {l : Launch} {D : va_G} {cA : Nat → ClassId} {sz : Nat} {g : gS} {p0 : Nat} {p1 : Int32} {p2 : Int32} {Q : Int32 → Prop} (h : w_X7_countDates g p0 p1 p2 Q) : Met l yX7_countDates wsX7_countDates r_X7_countDates (va_Pc [.ref p0, .int p1, .int p2] (gPre D cA g sz)) (gQi D cA g sz (fun r g2 => g = g2 ∧ Q r)) 0 0 (gA g sz) := by
  refine g_met (cc := cX7_countDates) (maxL := 6) (ret := (some .int)) (own := RX7) (by decide) rfl rfl (Nat.le_of_ble_eq_true rfl) ?_
  intro p e s m args below meth c ls CF hr hlk hnm hc hl
  obtain ⟨hx, hb, hml, hown, hts⟩ := id CF
  have hl : lv_has ls 6 [(0, .ref p0), (1, .int p1), (2, .int p2)] := hl
  show W p l e r_X7_countDates s m args below meth c s.heap [] 0 0 (MQ below (gQi D cA g sz (fun r g2 => g = g2 ∧ Q r)) args s 0 0 (gA g sz)) (F0 m 0 ls [])
  have hb_5 : ∀ (r0 : Nat) (i1 : Int32) (i2 : Int32), ∀ (i3 : Int32) (i4 : Int32), lpx2 (l_X7_countDates_5 g r0 i1 i2 Q) i3 i4 → ∀ (H : Heap) (locs : List Loc) (ls : Array Slot), gC D cA (gA g sz) s g H locs → lv_has ls 6 [(0, .ref r0), (1, .int i1), (2, .int i2), (3, .int i3), (4, .int i4)] → W p l e r_X7_countDates s m args below meth c H locs 0 0 (MQ below (gQi D cA g sz (fun r g2 => g = g2 ∧ Q r)) args s 0 0 (gA g sz)) (F0 m 5 ls []) := by
    intro r0 i1 i2
    refine lpx2_run (P := fun (i3 : Int32) (i4 : Int32) => ∀ (H : Heap) (locs : List Loc) (ls : Array Slot), gC D cA (gA g sz) s g H locs → lv_has ls 6 [(0, .ref r0), (1, .int i1), (2, .int i2), (3, .int i3), (4, .int i4)] → W p l e r_X7_countDates s m args below meth c H locs 0 0 (MQ below (gQi D cA g sz (fun r g2 => g = g2 ∧ Q r)) args s 0 0 (gA g sz)) (F0 m 5 ls [])) ?_
    intro k5 hk_5 i3 i4 h H locs ls hc hl
    have hb_48 : ∀ (i3 : Int32) (i4 : Int32), b_X7_countDates_48 g r0 i1 i2 i3 i4 Q k5 → ∀ (H : Heap) (locs : List Loc) (ls : Array Slot), gC D cA (gA g sz) s g H locs → lv_has ls 6 [(0, .ref r0), (1, .int i1), (2, .int i2), (3, .int i3), (4, .int i4)] → W p l e r_X7_countDates s m args below meth c H locs 0 0 (MQ below (gQi D cA g sz (fun r g2 => g = g2 ∧ Q r)) args s 0 0 (gA g sz)) (F0 m 48 ls []) := by
      intro i3 i4 h H locs ls hc hl
      unfold b_X7_countDates_48 at h
      refine lv_iinc (v := (i4 + 1)) (lv' := [(4, .int (i4 + 1)), (0, .ref r0), (1, .int i1), (2, .int i2), (3, .int i3)]) hx hb dX7_countDates_48 hl (k := 4) rfl rfl (by decide) rfl (fun ls hl => ?_)
      refine lv_goto (tgt := 5) hx hb dX7_countDates_51 (by decide) ?_
      exact hk_5 i3 (i4 + 1) h _ _ _ hc (lv_sub hl [1, 2, 3, 4, 0] rfl)
    unfold l_X7_countDates_5 at h
    refine lv_iload hx hb dX7_countDates_5 (lv_at hl 4 rfl) ?_
    refine lv_aload_n hx hb dX7_countDates_7 rfl (lv_at hl 0 rfl) ?_
    obtain ⟨hk1, h⟩ := h
    refine g_get CF hc hk1 rfl (by decide) (fun _ h9 => List.mem_cons_of_mem _ (List.mem_append_left _ (List.mem_append_right _ (h9)))) (k := 3) (by decide) (List.mem_cons_of_mem _ (List.mem_append_left _ (List.mem_append_left _ (List.mem_of_getElem? (i := 0) rfl)))) rfl dX7_countDates_8 ?_
    refine lv_icmp_ge (tgt := 54) hx hb dX7_countDates_11 (by decide) (fun c2 => ?_) (fun c2 => ?_)
    · have h := h.1 c2
      refine lv_iload_n hx hb dX7_countDates_54 rfl (lv_at hl 3 rfl) ?_
      exact g_reti (r := i3) CF hr hlk hc rfl ⟨rfl, h⟩ dX7_countDates_55
    · have h := h.2 c2
      refine lv_aload_n hx hb dX7_countDates_14 rfl (lv_at hl 0 rfl) ?_
      refine lv_iload hx hb dX7_countDates_15 (lv_at hl 4 rfl) ?_
      refine g_callq (va_runV (As := [.int i4]) (rest := []) CF (c_X7_documentAt h) (cwV 1 hts gX7_countDates_X7_documentAt rfl rfl rfl (by decide +kernel) ⟨Nat.le_of_ble_eq_true rfl, Nat.le_of_ble_eq_true rfl⟩) (hc.preV hk1 rfl (by decide)) rfl rfl hl.1 rfl (lv_room (Nat.le_of_ble_eq_true rfl)) dX7_countDates_17 ⟨Nat.le_of_ble_eq_true rfl, Nat.le_of_ble_eq_true rfl⟩) hc (fun o3 gq4 H locs hq hc => ?_)
      obtain ⟨rfl, h⟩ := hq
      refine g_astoreq (lv' := [(5, va_rf o3), (0, .ref r0), (1, .int i1), (2, .int i2), (3, .int i3), (4, .int i4)]) CF dX7_countDates_20 hl (by decide) rfl (fun ls hl => ?_)
      refine g_aloadq CF dX7_countDates_22 (lv_at hl 0 rfl) ?_
      refine g_ifnull (tgt := 48) CF dX7_countDates_24 (by decide) (fun e6 => ?_) (fun y5 e6 => ?_)
      · have hu10 := h.1 e6
        subst e6
        have h := hu10
        exact hb_48 i3 i4 h _ _ _ hc (lv_sub hl [1, 2, 3, 4, 5] rfl)
      · have hu10 := h.2 y5 e6
        subst e6
        have h := hu10
        refine lv_aload hx hb dX7_countDates_27 (lv_at hl 0 rfl) ?_
        obtain ⟨hk7, h⟩ := h
        refine g_get CF hc hk7 rfl (by decide) (fun _ h9 => List.mem_cons_of_mem _ (List.mem_append_right _ (h9))) (k := 0) (by decide) (List.mem_cons_of_mem _ (List.mem_append_left _ (List.mem_append_left _ (List.mem_of_getElem? (i := 1) rfl)))) rfl dX7_countDates_29 ?_
        refine lv_iload_n hx hb dX7_countDates_32 rfl (lv_at hl 2 rfl) ?_
        refine lv_icmp_lt (tgt := 48) hx hb dX7_countDates_33 (by decide) (fun c8 => ?_) (fun c8 => ?_)
        · have h := h.1 c8
          exact hb_48 i3 i4 h _ _ _ hc (lv_sub hl [1, 2, 3, 4, 5] rfl)
        · have h := h.2 c8
          refine lv_aload hx hb dX7_countDates_36 (lv_at hl 0 rfl) ?_
          refine g_get CF hc hk7 rfl (by decide) (fun _ h9 => List.mem_cons_of_mem _ (List.mem_append_right _ (h9))) (k := 0) (by decide) (List.mem_cons_of_mem _ (List.mem_append_left _ (List.mem_append_left _ (List.mem_of_getElem? (i := 1) rfl)))) rfl dX7_countDates_38 ?_
          refine lv_iload_n hx hb dX7_countDates_41 rfl (lv_at hl 3 rfl) ?_
          refine lv_icmp_gt (tgt := 48) hx hb dX7_countDates_42 (by decide) (fun c9 => ?_) (fun c9 => ?_)
          · have h := h.1 c9
            exact hb_48 i3 i4 h _ _ _ hc (lv_sub hl [1, 2, 3, 4, 5] rfl)
          · have h := h.2 c9
            refine lv_iinc (v := (i3 + 1)) (lv' := [(3, .int (i3 + 1)), (5, .ref y5), (0, .ref r0), (1, .int i1), (2, .int i2), (4, .int i4)]) hx hb dX7_countDates_45 hl (k := 4) rfl rfl (by decide) rfl (fun ls hl => ?_)
            exact hb_48 (i3 + 1) i4 h _ _ _ hc (lv_sub hl [2, 3, 4, 0, 5] rfl)
  unfold w_X7_countDates at h
  obtain ⟨H, hH0⟩ : ∃ z, z = s.heap := ⟨_, rfl⟩
  rw [← hH0] at hc ⊢
  obtain ⟨locs, hlc0⟩ : ∃ z : List Loc, z = [] := ⟨_, rfl⟩
  rw [← hlc0] at hc ⊢
  refine lv_iconst (v := 0) hx hb dX7_countDates_0 (by decide) ?_
  refine lv_istore_n (lv' := [(3, .int 0), (0, .ref p0), (1, .int p1), (2, .int p2)]) hx hb dX7_countDates_1 rfl hl (by decide) rfl (fun ls hl => ?_)
  refine lv_iconst (v := 0) hx hb dX7_countDates_2 (by decide) ?_
  refine lv_istore (lv' := [(4, .int 0), (3, .int 0), (0, .ref p0), (1, .int p1), (2, .int p2)]) hx hb dX7_countDates_3 hl (by decide) rfl (fun ls hl => ?_)
  exact hb_5 p0 p1 p2 0 0 h _ _ _ hc (lv_sub hl [2, 3, 4, 1, 0] rfl)
def w_X8_init (g0 : gS) (p0 : Nat) (p1 : Nat) (p2 : Nat) (p3 : Nat) (p4 : Int32) (Q : gS → Prop) : Prop :=
  ∀ q1, gK g0 q1 = 0 → (∀ g3, g3 = sNew g0 q1 21 30 → (gK g3 p0 = 9 ∧ (∀ g6, g6 = sV g3 p0 4 (some q1) → (gK g6 p0 = 9 ∧ (∀ g9, g9 = sV g6 p0 0 (some p1) → (gK g9 p0 = 9 ∧ (∀ g12, g12 = sV g9 p0 1 (some p2) → (gK g12 p0 = 9 ∧ (∀ g15, g15 = sV g12 p0 2 (some p3) → (gK g15 p0 = 9 ∧ ((p4 = 0 ∨ p4 = 1) ∧ (∀ g19, g19 = sU g15 p0 3 p4 → (Q g19)))))))))))))
abbrev r_X8_init : Room := { frames := 1, cells := 1, slots := 30, locals := 12 }
set_option maxHeartbeats 4000000 in
set_option maxRecDepth 100000 in
theorem c_X8_init {l : Launch} {D : va_G} {cA : Nat → ClassId} {sz : Nat} {g0 : gS} {p0 : Nat} {p1 : Nat} {p2 : Nat} {p3 : Nat} {p4 : Int32} {Q : gS → Prop} (h : w_X8_init g0 p0 p1 p2 p3 p4 Q) : Met l yX8_init wsX8_init r_X8_init (va_Pc [.ref p0, .ref p1, .ref p2, .ref p3, .int p4] (gPre D cA g0 sz)) (gQv D cA g0 sz (Q)) 1 30 (gA g0 sz) := by
  refine g_met (cc := cX8_init) (maxL := 5) (ret := none) (own := RX8) (by decide) rfl rfl (Nat.le_of_ble_eq_true rfl) ?_
  intro p e s m args below meth c ls CF hr hlk hnm hc hl
  obtain ⟨hx, hb, hml, hown, hts⟩ := id CF
  have hl : lv_has ls 5 [(0, .ref p0), (1, .ref p1), (2, .ref p2), (3, .ref p3), (4, .int p4)] := hl
  show W p l e r_X8_init s m args below meth c s.heap [] 0 0 (MQ below (gQv D cA g0 sz (Q)) args s 1 30 (gA g0 sz)) (F0 m 0 ls [])
  unfold w_X8_init at h
  obtain ⟨H, hH0⟩ : ∃ z, z = s.heap := ⟨_, rfl⟩
  rw [← hH0] at hc ⊢
  obtain ⟨locs, hlc0⟩ : ∃ z : List Loc, z = [] := ⟨_, rfl⟩
  rw [← hlc0] at hc ⊢
  refine lv_aload_n hx hb dX8_init_0 rfl (lv_at hl 0 rfl) ?_
  refine W.objInit hx hb hown (hts _ (List.mem_cons_of_mem _ (List.mem_append_left _ (List.mem_of_getElem? (i := 0) rfl)))) (hts _ (List.mem_cons_of_mem _ (List.mem_append_left _ (List.mem_of_getElem? (i := 1) rfl)))) (hts _ (List.mem_cons_of_mem _ (List.mem_append_left _ (List.mem_of_getElem? (i := 2) rfl)))) rfl (by rw [hml]; exact hl.1) rfl dX8_init_1 (Nat.le_of_ble_eq_true rfl) (Nat.le_of_ble_eq_true rfl) ?_
  refine W.eq (g2 := F0 m 4 ls []) rfl ?_
  refine lv_aload_n hx hb dX8_init_4 rfl (lv_at hl 0 rfl) ?_
  refine lv_bipush (v := 30) hx hb dX8_init_5 (by decide) ?_
  refine g_newi CF hc (List.mem_cons_of_mem _ (List.mem_append_left _ (List.mem_of_getElem? (i := 3) rfl))) (n := 30) (N := 30) (by decide) (by decide) (by decide) (Nat.le_of_ble_eq_true rfl) (Nat.le_of_ble_eq_true rfl) dX8_init_7 (fun q1 H locs hq2 hc => ?_)
  replace h := h q1 hq2
  obtain ⟨g3, eg4⟩ : ∃ z, z = sNew g0 q1 21 30 := ⟨_, rfl⟩
  have hc : gC D cA (gA g0 sz) s g3 H locs := by rw [eg4]; exact hc
  replace h := h g3 eg4
  refine W.widen (k := 1) (n := 30) (Nat.le_of_ble_eq_true rfl) (Nat.le_of_ble_eq_true rfl) ?_
  obtain ⟨hk5, h⟩ := h
  refine g_putrF CF hc hk5 rfl (by decide) (fun _ h9 => List.mem_cons_of_mem _ (List.mem_append_right _ (h9))) tyX8 tyX8_ok nmX8 (k := 4) (by decide) (List.mem_cons_of_mem _ (List.mem_append_left _ (List.mem_of_getElem? (i := 4) rfl))) rfl hnm rfl (some q1) narrow_ra fits_ra rfl dX8_init_9 (fun H locs hc => ?_)
  obtain ⟨g6, eg7⟩ : ∃ z, z = sV g3 p0 4 (some q1) := ⟨_, rfl⟩
  have hc : gC D cA (gA g0 sz) s g6 H locs := by rw [eg7]; exact hc
  replace h := h g6 eg7
  refine lv_aload_n hx hb dX8_init_12 rfl (lv_at hl 0 rfl) ?_
  refine lv_aload_n hx hb dX8_init_13 rfl (lv_at hl 1 rfl) ?_
  obtain ⟨hk8, h⟩ := h
  refine g_putrF CF hc hk8 rfl (by decide) (fun _ h9 => List.mem_cons_of_mem _ (List.mem_append_right _ (h9))) tyX8 tyX8_ok nmX8 (k := 0) (by decide) (List.mem_cons_of_mem _ (List.mem_append_left _ (List.mem_of_getElem? (i := 5) rfl))) rfl hnm rfl (some p1) narrow_rf fits_rf rfl dX8_init_14 (fun H locs hc => ?_)
  obtain ⟨g9, eg10⟩ : ∃ z, z = sV g6 p0 0 (some p1) := ⟨_, rfl⟩
  have hc : gC D cA (gA g0 sz) s g9 H locs := by rw [eg10]; exact hc
  replace h := h g9 eg10
  refine lv_aload_n hx hb dX8_init_17 rfl (lv_at hl 0 rfl) ?_
  refine lv_aload_n hx hb dX8_init_18 rfl (lv_at hl 2 rfl) ?_
  obtain ⟨hk11, h⟩ := h
  refine g_putrF CF hc hk11 rfl (by decide) (fun _ h9 => List.mem_cons_of_mem _ (List.mem_append_right _ (h9))) tyX8 tyX8_ok nmX8 (k := 1) (by decide) (List.mem_cons_of_mem _ (List.mem_append_left _ (List.mem_of_getElem? (i := 6) rfl))) rfl hnm rfl (some p2) narrow_rf fits_rf rfl dX8_init_19 (fun H locs hc => ?_)
  obtain ⟨g12, eg13⟩ : ∃ z, z = sV g9 p0 1 (some p2) := ⟨_, rfl⟩
  have hc : gC D cA (gA g0 sz) s g12 H locs := by rw [eg13]; exact hc
  replace h := h g12 eg13
  refine lv_aload_n hx hb dX8_init_22 rfl (lv_at hl 0 rfl) ?_
  refine lv_aload_n hx hb dX8_init_23 rfl (lv_at hl 3 rfl) ?_
  obtain ⟨hk14, h⟩ := h
  refine g_putrF CF hc hk14 rfl (by decide) (fun _ h9 => List.mem_cons_of_mem _ (List.mem_append_right _ (h9))) tyX8 tyX8_ok nmX8 (k := 2) (by decide) (List.mem_cons_of_mem _ (List.mem_append_left _ (List.mem_of_getElem? (i := 7) rfl))) rfl hnm rfl (some p3) narrow_rf fits_rf rfl dX8_init_24 (fun H locs hc => ?_)
  obtain ⟨g15, eg16⟩ : ∃ z, z = sV g12 p0 2 (some p3) := ⟨_, rfl⟩
  have hc : gC D cA (gA g0 sz) s g15 H locs := by rw [eg16]; exact hc
  replace h := h g15 eg16
  refine lv_aload_n hx hb dX8_init_27 rfl (lv_at hl 0 rfl) ?_
  refine lv_iload hx hb dX8_init_28 (lv_at hl 4 rfl) ?_
  obtain ⟨hk17, h⟩ := h
  obtain ⟨hz18, h⟩ := h
  refine g_putiF CF hc hk17 rfl (by decide) (fun _ h9 => List.mem_cons_of_mem _ (List.mem_append_right _ (h9))) tyX8 tyX8_ok nmX8 (k := 3) (by decide) (List.mem_cons_of_mem _ (List.mem_append_left _ (List.mem_of_getElem? (i := 8) rfl))) rfl hnm rfl (v := p4) (narrow_01 hz18) (fits_01 hz18) rfl dX8_init_30 (fun H locs hc => ?_)
  obtain ⟨g19, eg20⟩ : ∃ z, z = sU g15 p0 3 p4 := ⟨_, rfl⟩
  have hc : gC D cA (gA g0 sz) s g19 H locs := by rw [eg20]; exact hc
  replace h := h g19 eg20
  exact g_retv CF hr hlk hc h dX8_init_33
def b_X8_taste_94 (g : gS) (is0 : Int32) (Q : Int32 → Prop) : Prop :=
  Q is0
def b_X8_taste_20 (g : gS) (Q : Int32 → Prop) : Prop :=
  Q 0
def w_X8_taste (g : gS) (p0 : Nat) (p1 : Int32) (p2 : Int32) (p3 : Int32) (p4 : Int32) (Q : Int32 → Prop) : Prop :=
  gK g p0 = 9 ∧ (∃ y2, gR g p0 2 = some y2 ∧ (gK g y2 = 2 ∧ (w_X1_lengthOf g y2 p4 (fun x5 => ((p2 ≤ 0 → (b_X8_taste_20 g Q)) ∧ (¬ p2 ≤ 0 → ((0 < x5 → (∃ y9, gR g p0 2 = some y9 ∧ (gK g y9 = 2 ∧ (¬ x5 = 0 ∧ (∃ y13, gR g p0 2 = some y13 ∧ (∃ y15, gR g p0 2 = some y15 ∧ (gK g y15 = 2 ∧ (w_X1_spreadOf g y15 p1 p4 (fun x18 => (gK g y13 = 2 ∧ (w_X1_rarityOf g y13 x18 (fun x21 => ((0 < (((10 * p2) + 3) + (((9 * p3) * (gI g y9 2)) / x5)) → (¬ (((10 * p2) + 3) + (((9 * p3) * (gI g y9 2)) / x5)) = 0 ∧ (∃ y25, gR g p0 1 = some y25 ∧ (gK g y25 = 5 ∧ (w_X4_weightOf g y25 p4 (fun x28 => (b_X8_taste_94 g ((((x21 * p2) * 20) / (((10 * p2) + 3) + (((9 * p3) * (gI g y9 2)) / x5))) * x28) Q))))))) ∧ (¬ 0 < (((10 * p2) + 3) + (((9 * p3) * (gI g y9 2)) / x5)) → (b_X8_taste_94 g 0 Q))))))))))))))) ∧ (¬ 0 < x5 → (b_X8_taste_20 g Q)))))))))
abbrev r_X8_taste : Room := { frames := 1, cells := 0, slots := 0, locals := 25 }
set_option maxHeartbeats 4000000 in
set_option maxRecDepth 100000 in
theorem c_X8_taste {l : Launch} {D : va_G} {cA : Nat → ClassId} {sz : Nat} {g : gS} {p0 : Nat} {p1 : Int32} {p2 : Int32} {p3 : Int32} {p4 : Int32} {Q : Int32 → Prop} (h : w_X8_taste g p0 p1 p2 p3 p4 Q) : Met l yX8_taste wsX8_taste r_X8_taste (va_Pc [.ref p0, .int p1, .int p2, .int p3, .int p4] (gPre D cA g sz)) (gQi D cA g sz (fun r g2 => g = g2 ∧ Q r)) 0 0 (gA g sz) := by
  refine g_met (cc := cX8_taste) (maxL := 8) (ret := (some .int)) (own := RX8) (by decide) rfl rfl (Nat.le_of_ble_eq_true rfl) ?_
  intro p e s m args below meth c ls CF hr hlk hnm hc hl
  obtain ⟨hx, hb, hml, hown, hts⟩ := id CF
  have hl : lv_has ls 8 [(0, .ref p0), (1, .int p1), (2, .int p2), (3, .int p3), (4, .int p4)] := hl
  show W p l e r_X8_taste s m args below meth c s.heap [] 0 0 (MQ below (gQi D cA g sz (fun r g2 => g = g2 ∧ Q r)) args s 0 0 (gA g sz)) (F0 m 0 ls [])
  have hb_94 : ∀ (is0 : Int32), b_X8_taste_94 g is0 Q → ∀ (H : Heap) (locs : List Loc) (ls : Array Slot), gC D cA (gA g sz) s g H locs → lv_has ls 8 [] → W p l e r_X8_taste s m args below meth c H locs 0 0 (MQ below (gQi D cA g sz (fun r g2 => g = g2 ∧ Q r)) args s 0 0 (gA g sz)) (F0 m 94 ls [.int is0]) := by
    intro is0 h H locs ls hc hl
    unfold b_X8_taste_94 at h
    exact g_reti (r := is0) CF hr hlk hc rfl ⟨rfl, h⟩ dX8_taste_94
  have hb_20 : b_X8_taste_20 g Q → ∀ (H : Heap) (locs : List Loc) (ls : Array Slot), gC D cA (gA g sz) s g H locs → lv_has ls 8 [] → W p l e r_X8_taste s m args below meth c H locs 0 0 (MQ below (gQi D cA g sz (fun r g2 => g = g2 ∧ Q r)) args s 0 0 (gA g sz)) (F0 m 20 ls []) := by
    intro h H locs ls hc hl
    unfold b_X8_taste_20 at h
    refine lv_iconst (v := 0) hx hb dX8_taste_20 (by decide) ?_
    exact g_reti (r := 0) CF hr hlk hc rfl ⟨rfl, h⟩ dX8_taste_21
  unfold w_X8_taste at h
  obtain ⟨H, hH0⟩ : ∃ z, z = s.heap := ⟨_, rfl⟩
  rw [← hH0] at hc ⊢
  obtain ⟨locs, hlc0⟩ : ∃ z : List Loc, z = [] := ⟨_, rfl⟩
  rw [← hlc0] at hc ⊢
  refine lv_aload_n hx hb dX8_taste_0 rfl (lv_at hl 0 rfl) ?_
  obtain ⟨hk1, h⟩ := h
  obtain ⟨y2, e3, h⟩ := h
  refine g_getr CF hc hk1 rfl (by decide) (fun _ h9 => List.mem_cons_of_mem _ (List.mem_append_left _ (List.mem_append_left _ (List.mem_append_right _ (h9))))) (k := 2) (by decide) (List.mem_cons_of_mem _ (List.mem_append_left _ (List.mem_append_left _ (List.mem_append_left _ (List.mem_append_left _ (List.mem_of_getElem? (i := 0) rfl)))))) e3 rfl dX8_taste_1 ?_
  refine lv_iload hx hb dX8_taste_4 (lv_at hl 4 rfl) ?_
  obtain ⟨hk4, h⟩ := h
  refine g_calli (va_runV (As := [.int p4]) (rest := []) CF (c_X1_lengthOf h) (cwV 1 hts gX8_taste_X1_lengthOf rfl rfl rfl (by decide +kernel) ⟨Nat.le_of_ble_eq_true rfl, Nat.le_of_ble_eq_true rfl⟩) (hc.preV hk4 rfl (by decide)) rfl rfl hl.1 rfl (lv_room (Nat.le_of_ble_eq_true rfl)) dX8_taste_6 ⟨Nat.le_of_ble_eq_true rfl, Nat.le_of_ble_eq_true rfl⟩) hc (fun x5 gq6 H locs hq hc => ?_)
  obtain ⟨rfl, h⟩ := hq
  refine lv_istore (lv' := [(5, .int x5), (0, .ref p0), (1, .int p1), (2, .int p2), (3, .int p3), (4, .int p4)]) hx hb dX8_taste_9 hl (by decide) rfl (fun ls hl => ?_)
  refine lv_iload_n hx hb dX8_taste_11 rfl (lv_at hl 3 rfl) ?_
  refine lv_if_le (tgt := 20) hx hb dX8_taste_12 (by decide) (fun c7 => ?_) (fun c7 => ?_)
  · have h := h.1 c7
    exact hb_20  h _ _ _ hc (lv_sub hl [] rfl)
  · have h := h.2 c7
    refine lv_iload hx hb dX8_taste_15 (lv_at hl 0 rfl) ?_
    refine lv_if_gt (tgt := 22) hx hb dX8_taste_17 (by decide) (fun c8 => ?_) (fun c8 => ?_)
    · have h := h.1 c8
      refine lv_bipush (v := 10) hx hb dX8_taste_22 (by decide) ?_
      refine lv_iload_n hx hb dX8_taste_24 rfl (lv_at hl 3 rfl) ?_
      refine lv_imul hx hb dX8_taste_25 ?_
      refine lv_iconst (v := 3) hx hb dX8_taste_26 (by decide) ?_
      refine lv_iadd hx hb dX8_taste_27 ?_
      refine lv_bipush (v := 9) hx hb dX8_taste_28 (by decide) ?_
      refine lv_iload_n hx hb dX8_taste_30 rfl (lv_at hl 4 rfl) ?_
      refine lv_imul hx hb dX8_taste_31 ?_
      refine lv_aload_n hx hb dX8_taste_32 rfl (lv_at hl 1 rfl) ?_
      obtain ⟨y9, e10, h⟩ := h
      refine g_getr CF hc hk1 rfl (by decide) (fun _ h9 => List.mem_cons_of_mem _ (List.mem_append_left _ (List.mem_append_left _ (List.mem_append_right _ (h9))))) (k := 2) (by decide) (List.mem_cons_of_mem _ (List.mem_append_left _ (List.mem_append_left _ (List.mem_append_left _ (List.mem_append_left _ (List.mem_of_getElem? (i := 0) rfl)))))) e10 rfl dX8_taste_33 ?_
      obtain ⟨hk11, h⟩ := h
      refine g_get CF hc hk11 rfl (by decide) (fun _ h9 => List.mem_cons_of_mem _ (List.mem_append_left _ (List.mem_append_right _ (h9)))) (k := 2) (by decide) (List.mem_cons_of_mem _ (List.mem_append_left _ (List.mem_append_left _ (List.mem_append_left _ (List.mem_append_left _ (List.mem_of_getElem? (i := 1) rfl)))))) rfl dX8_taste_36 ?_
      refine lv_imul hx hb dX8_taste_39 ?_
      refine lv_iload hx hb dX8_taste_40 (lv_at hl 0 rfl) ?_
      obtain ⟨hz12, h⟩ := h
      refine lv_idiv hx hb dX8_taste_42 hz12 ?_
      refine lv_iadd hx hb dX8_taste_43 ?_
      refine lv_istore (lv' := [(6, .int (((10 * p2) + 3) + (((9 * p3) * (gI g y9 2)) / x5))), (5, .int x5), (0, .ref p0), (1, .int p1), (2, .int p2), (3, .int p3), (4, .int p4)]) hx hb dX8_taste_44 hl (by decide) rfl (fun ls hl => ?_)
      refine lv_aload_n hx hb dX8_taste_46 rfl (lv_at hl 2 rfl) ?_
      obtain ⟨y13, e14, h⟩ := h
      refine g_getr CF hc hk1 rfl (by decide) (fun _ h9 => List.mem_cons_of_mem _ (List.mem_append_left _ (List.mem_append_left _ (List.mem_append_right _ (h9))))) (k := 2) (by decide) (List.mem_cons_of_mem _ (List.mem_append_left _ (List.mem_append_left _ (List.mem_append_left _ (List.mem_append_left _ (List.mem_of_getElem? (i := 0) rfl)))))) e14 rfl dX8_taste_47 ?_
      refine lv_aload_n hx hb dX8_taste_50 rfl (lv_at hl 2 rfl) ?_
      obtain ⟨y15, e16, h⟩ := h
      refine g_getr CF hc hk1 rfl (by decide) (fun _ h9 => List.mem_cons_of_mem _ (List.mem_append_left _ (List.mem_append_left _ (List.mem_append_right _ (h9))))) (k := 2) (by decide) (List.mem_cons_of_mem _ (List.mem_append_left _ (List.mem_append_left _ (List.mem_append_left _ (List.mem_append_left _ (List.mem_of_getElem? (i := 0) rfl)))))) e16 rfl dX8_taste_51 ?_
      refine lv_iload_n hx hb dX8_taste_54 rfl (lv_at hl 3 rfl) ?_
      refine lv_iload hx hb dX8_taste_55 (lv_at hl 6 rfl) ?_
      obtain ⟨hk17, h⟩ := h
      refine g_calli (va_runV (As := [.int p1, .int p4]) (rest := [.ref y13]) CF (c_X1_spreadOf h) (cwV 2 hts gX8_taste_X1_spreadOf rfl rfl rfl (by decide +kernel) ⟨Nat.le_of_ble_eq_true rfl, Nat.le_of_ble_eq_true rfl⟩) (hc.preV hk17 rfl (by decide)) rfl rfl hl.1 rfl (lv_room (Nat.le_of_ble_eq_true rfl)) dX8_taste_57 ⟨Nat.le_of_ble_eq_true rfl, Nat.le_of_ble_eq_true rfl⟩) hc (fun x18 gq19 H locs hq hc => ?_)
      obtain ⟨rfl, h⟩ := hq
      obtain ⟨hk20, h⟩ := h
      refine g_calli (va_runV (As := [.int x18]) (rest := []) CF (c_X1_rarityOf h) (cwV 1 hts gX8_taste_X1_rarityOf rfl rfl rfl (by decide +kernel) ⟨Nat.le_of_ble_eq_true rfl, Nat.le_of_ble_eq_true rfl⟩) (hc.preV hk20 rfl (by decide)) rfl rfl hl.1 rfl (lv_room (Nat.le_of_ble_eq_true rfl)) dX8_taste_60 ⟨Nat.le_of_ble_eq_true rfl, Nat.le_of_ble_eq_true rfl⟩) hc (fun x21 gq22 H locs hq hc => ?_)
      obtain ⟨rfl, h⟩ := hq
      refine lv_istore (lv' := [(7, .int x21), (6, .int (((10 * p2) + 3) + (((9 * p3) * (gI g y9 2)) / x5))), (5, .int x5), (0, .ref p0), (1, .int p1), (2, .int p2), (3, .int p3), (4, .int p4)]) hx hb dX8_taste_63 hl (by decide) rfl (fun ls hl => ?_)
      refine lv_iload hx hb dX8_taste_65 (lv_at hl 1 rfl) ?_
      refine lv_if_gt (tgt := 74) hx hb dX8_taste_67 (by decide) (fun c23 => ?_) (fun c23 => ?_)
      · have h := h.1 c23
        refine lv_iload hx hb dX8_taste_74 (lv_at hl 0 rfl) ?_
        refine lv_iload_n hx hb dX8_taste_76 rfl (lv_at hl 5 rfl) ?_
        refine lv_imul hx hb dX8_taste_77 ?_
        refine lv_bipush (v := 20) hx hb dX8_taste_78 (by decide) ?_
        refine lv_imul hx hb dX8_taste_80 ?_
        refine lv_iload hx hb dX8_taste_81 (lv_at hl 1 rfl) ?_
        obtain ⟨hz24, h⟩ := h
        refine lv_idiv hx hb dX8_taste_83 hz24 ?_
        refine lv_aload_n hx hb dX8_taste_84 rfl (lv_at hl 3 rfl) ?_
        obtain ⟨y25, e26, h⟩ := h
        refine g_getr CF hc hk1 rfl (by decide) (fun _ h9 => List.mem_cons_of_mem _ (List.mem_append_left _ (List.mem_append_left _ (List.mem_append_right _ (h9))))) (k := 1) (by decide) (List.mem_cons_of_mem _ (List.mem_append_left _ (List.mem_append_left _ (List.mem_append_left _ (List.mem_append_left _ (List.mem_of_getElem? (i := 2) rfl)))))) e26 rfl dX8_taste_85 ?_
        refine lv_iload hx hb dX8_taste_88 (lv_at hl 7 rfl) ?_
        obtain ⟨hk27, h⟩ := h
        refine g_calli (va_runV (As := [.int p4]) (rest := [.int (((x21 * p2) * 20) / (((10 * p2) + 3) + (((9 * p3) * (gI g y9 2)) / x5)))]) CF (c_X4_weightOf h) (cwV 1 hts gX8_taste_X4_weightOf rfl rfl rfl (by decide +kernel) ⟨Nat.le_of_ble_eq_true rfl, Nat.le_of_ble_eq_true rfl⟩) (hc.preV hk27 rfl (by decide)) rfl rfl hl.1 rfl (lv_room (Nat.le_of_ble_eq_true rfl)) dX8_taste_90 ⟨Nat.le_of_ble_eq_true rfl, Nat.le_of_ble_eq_true rfl⟩) hc (fun x28 gq29 H locs hq hc => ?_)
        obtain ⟨rfl, h⟩ := hq
        refine lv_imul hx hb dX8_taste_93 ?_
        exact hb_94 ((((x21 * p2) * 20) / (((10 * p2) + 3) + (((9 * p3) * (gI g y9 2)) / x5))) * x28) h _ _ _ hc (lv_sub hl [] rfl)
      · have h := h.2 c23
        refine lv_iconst (v := 0) hx hb dX8_taste_70 (by decide) ?_
        refine lv_goto (tgt := 94) hx hb dX8_taste_71 (by decide) ?_
        exact hb_94 0 h _ _ _ hc (lv_sub hl [] rfl)
    · have h := h.2 c8
      exact hb_20  h _ _ _ hc (lv_sub hl [] rfl)
