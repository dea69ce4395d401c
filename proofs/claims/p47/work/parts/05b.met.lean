def w_X0_init (g0 : gS) (p0 : Nat) (Q : gS → Prop) : Prop :=
  ∀ q1, gK g0 q1 = 0 → (∀ g3, g3 = sNew g0 q1 25 60 → (gK g3 p0 = 1 ∧ (∀ g6, g6 = sV g3 p0 0 (some q1) → (∀ q8, gK g6 q8 = 0 → (∀ g10, g10 = sNew g6 q8 21 60 → (gK g10 p0 = 1 ∧ (∀ g13, g13 = sV g10 p0 3 (some q8) → (∀ q15, gK g13 q15 = 0 → (∀ g17, g17 = sNew g13 q15 2 0 → (w_X1_init g17 q15 (fun g20 => (gK g20 p0 = 1 ∧ (∀ g23, g23 = sV g20 p0 5 (some q15) → (Q g23))))))))))))))
abbrev r_X0_init : Room := { frames := 2, cells := 8, slots := 729, locals := 32 }
set_option maxHeartbeats 4000000 in
set_option maxRecDepth 100000 in
theorem c_X0_init {l : Launch} {D : va_G} {cA : Nat → ClassId} {sz : Nat} {g0 : gS} {p0 : Nat} {Q : gS → Prop} (h : w_X0_init g0 p0 Q) : Met l yX0_init wsX0_init r_X0_init (va_Pc [.ref p0] (gPre D cA g0 sz)) (gQv D cA g0 sz (Q)) 8 729 (gA g0 sz) := by
  refine g_met (cc := cX0_init) (maxL := 1) (ret := none) (own := RX0) (by decide) rfl rfl (Nat.le_of_ble_eq_true rfl) ?_
  intro p e s m args below meth c ls CF hr hlk hnm hc hl
  obtain ⟨hx, hb, hml, hown, hts⟩ := id CF
  have hl : lv_has ls 1 [(0, .ref p0)] := hl
  show W p l e r_X0_init s m args below meth c s.heap [] 0 0 (MQ below (gQv D cA g0 sz (Q)) args s 8 729 (gA g0 sz)) (F0 m 0 ls [])
  unfold w_X0_init at h
  obtain ⟨H, hH0⟩ : ∃ z, z = s.heap := ⟨_, rfl⟩
  rw [← hH0] at hc ⊢
  obtain ⟨locs, hlc0⟩ : ∃ z : List Loc, z = [] := ⟨_, rfl⟩
  rw [← hlc0] at hc ⊢
  refine lv_aload_n hx hb dX0_init_0 rfl (lv_at hl 0 rfl) ?_
  refine W.objInit hx hb hown (hts _ (List.mem_cons_of_mem _ (List.mem_append_left _ (List.mem_append_left _ (List.mem_of_getElem? (i := 0) rfl))))) (hts _ (List.mem_cons_of_mem _ (List.mem_append_left _ (List.mem_append_left _ (List.mem_of_getElem? (i := 1) rfl))))) (hts _ (List.mem_cons_of_mem _ (List.mem_append_left _ (List.mem_append_left _ (List.mem_of_getElem? (i := 2) rfl))))) rfl (by rw [hml]; exact hl.1) rfl dX0_init_1 (Nat.le_of_ble_eq_true rfl) (Nat.le_of_ble_eq_true rfl) ?_
  refine W.eq (g2 := F0 m 4 ls []) rfl ?_
  refine lv_aload_n hx hb dX0_init_4 rfl (lv_at hl 0 rfl) ?_
  refine lv_bipush (v := 60) hx hb dX0_init_5 (by decide) ?_
  refine g_newq CF hc (j2 := 0) (by decide) hc.1.2.2.2.1 rfl (List.mem_cons_of_mem _ (List.mem_append_left _ (List.mem_append_left _ (List.mem_of_getElem? (i := 3) rfl)))) (n := 60) (N := 60) (by decide) (by decide) (by decide) (Nat.le_of_ble_eq_true rfl) (Nat.le_of_ble_eq_true rfl) dX0_init_7 (fun q1 H locs hq2 hc => ?_)
  replace h := h q1 hq2
  obtain ⟨g3, eg4⟩ : ∃ z, z = sNew g0 q1 25 60 := ⟨_, rfl⟩
  have hc : gC D cA (gA g0 sz) s g3 H locs := by rw [eg4]; exact hc
  replace h := h g3 eg4
  refine W.widen (k := 1) (n := 60) (Nat.le_of_ble_eq_true rfl) (Nat.le_of_ble_eq_true rfl) ?_
  obtain ⟨hk5, h⟩ := h
  refine g_putrF CF hc hk5 rfl (by decide) (fun _ h9 => List.mem_cons_of_mem _ (List.mem_append_left _ (List.mem_append_right _ (h9)))) tyX0 tyX0_ok nmX0 (k := 0) (by decide) (List.mem_cons_of_mem _ (List.mem_append_left _ (List.mem_append_left _ (List.mem_of_getElem? (i := 4) rfl)))) rfl hnm rfl (some q1) narrow_ra fits_ra rfl dX0_init_10 (fun H locs hc => ?_)
  obtain ⟨g6, eg7⟩ : ∃ z, z = sV g3 p0 0 (some q1) := ⟨_, rfl⟩
  have hc : gC D cA (gA g0 sz) s g6 H locs := by rw [eg7]; exact hc
  replace h := h g6 eg7
  refine lv_aload_n hx hb dX0_init_13 rfl (lv_at hl 0 rfl) ?_
  refine lv_bipush (v := 60) hx hb dX0_init_14 (by decide) ?_
  refine g_newi CF hc (List.mem_cons_of_mem _ (List.mem_append_left _ (List.mem_append_left _ (List.mem_of_getElem? (i := 5) rfl)))) (n := 60) (N := 60) (by decide) (by decide) (by decide) (Nat.le_of_ble_eq_true rfl) (Nat.le_of_ble_eq_true rfl) dX0_init_16 (fun q8 H locs hq9 hc => ?_)
  replace h := h q8 hq9
  obtain ⟨g10, eg11⟩ : ∃ z, z = sNew g6 q8 21 60 := ⟨_, rfl⟩
  have hc : gC D cA (gA g0 sz) s g10 H locs := by rw [eg11]; exact hc
  replace h := h g10 eg11
  refine W.widen (k := 2) (n := 120) (Nat.le_of_ble_eq_true rfl) (Nat.le_of_ble_eq_true rfl) ?_
  obtain ⟨hk12, h⟩ := h
  refine g_putrF CF hc hk12 rfl (by decide) (fun _ h9 => List.mem_cons_of_mem _ (List.mem_append_left _ (List.mem_append_right _ (h9)))) tyX0 tyX0_ok nmX0 (k := 3) (by decide) (List.mem_cons_of_mem _ (List.mem_append_left _ (List.mem_append_left _ (List.mem_of_getElem? (i := 6) rfl)))) rfl hnm rfl (some q8) narrow_ra fits_ra rfl dX0_init_18 (fun H locs hc => ?_)
  obtain ⟨g13, eg14⟩ : ∃ z, z = sV g10 p0 3 (some q8) := ⟨_, rfl⟩
  have hc : gC D cA (gA g0 sz) s g13 H locs := by rw [eg14]; exact hc
  replace h := h g13 eg14
  refine lv_aload_n hx hb dX0_init_21 rfl (lv_at hl 0 rfl) ?_
  refine g_new CF hc (ci := 1) rfl (by decide) (fun _ h9 => List.mem_cons_of_mem _ (List.mem_append_right _ (h9))) tyX1 tyX1_ok dfX1 (List.mem_cons_of_mem _ (List.mem_append_left _ (List.mem_append_left _ (List.mem_of_getElem? (i := 7) rfl)))) (List.mem_cons_of_mem _ (List.mem_append_left _ (List.mem_append_left _ (List.mem_of_getElem? (i := 8) rfl)))) (List.mem_cons_of_mem _ (List.mem_append_left _ (List.mem_append_left _ (List.mem_of_getElem? (i := 9) rfl)))) (Nat.le_of_ble_eq_true rfl) (Nat.le_of_ble_eq_true rfl) dX0_init_22 (fun q15 H locs hq16 hc => ?_)
  replace h := h q15 hq16
  obtain ⟨g17, eg18⟩ : ∃ z, z = sNew g13 q15 2 0 := ⟨_, rfl⟩
  have hc : gC D cA (gA g0 sz) s g17 H locs := by rw [eg18]; exact hc
  replace h := h g17 eg18
  refine W.widen (k := 3) (n := 123) (Nat.le_of_ble_eq_true rfl) (Nat.le_of_ble_eq_true rfl) ?_
  refine lv_dup hx hb dX0_init_25 rfl ?_
  refine g_callv (va_runIN (b := q15) (As := []) (rest := [.ref q15, .ref p0]) CF (c_X1_init h) ⟨va_cnB 0 hts gX0_init_X1_init_n23 rfl rfl rfl (hc.1.2.1 (.methodLinkNest RX0 23 yX1_init "QuarryIndex") (by decide +kernel)) (hts _ (List.mem_cons_of_mem _ (List.mem_append_left _ (List.mem_append_left _ (List.mem_of_getElem? (i := 9) rfl))))) (by decide +kernel) ⟨Nat.le_of_ble_eq_true rfl, Nat.le_of_ble_eq_true rfl⟩, rfl, hts _ (List.mem_cons_of_mem _ (List.mem_append_left _ (List.mem_append_left _ (List.mem_of_getElem? (i := 11) rfl))))⟩ (hc.preS (As := .ref q15 :: [])) rfl rfl hl.1 rfl (lv_room (Nat.le_of_ble_eq_true rfl)) dX0_init_26 ⟨Nat.le_of_ble_eq_true rfl, Nat.le_of_ble_eq_true rfl⟩) hc (fun g20 H locs hq hc => ?_)
  replace h := hq
  refine W.widen (k := 8) (n := 729) (Nat.le_of_ble_eq_true rfl) (Nat.le_of_ble_eq_true rfl) ?_
  obtain ⟨hk22, h⟩ := h
  refine g_putrF CF hc hk22 rfl (by decide) (fun _ h9 => List.mem_cons_of_mem _ (List.mem_append_left _ (List.mem_append_right _ (h9)))) tyX0 tyX0_ok nmX0 (k := 5) (by decide) (List.mem_cons_of_mem _ (List.mem_append_left _ (List.mem_append_left _ (List.mem_of_getElem? (i := 10) rfl)))) rfl hnm rfl (some q15) narrow_rf fits_rf rfl dX0_init_29 (fun H locs hc => ?_)
  obtain ⟨g23, eg24⟩ : ∃ z, z = sV g20 p0 5 (some q15) := ⟨_, rfl⟩
  have hc : gC D cA (gA g0 sz) s g23 H locs := by rw [eg24]; exact hc
  replace h := h g23 eg24
  exact g_retv CF hr hlk hc h dX0_init_32
def b_X0_isFull_17 (g : gS) (is0 : Int32) (Q : Int32 → Prop) : Prop :=
  (is0 = 0 ∨ is0 = 1) ∧ (Q is0)
def w_X0_isFull (g : gS) (p0 : Nat) (Q : Int32 → Prop) : Prop :=
  gK g p0 = 1 ∧ (∃ y3, gR g p0 0 = some y3 ∧ (gK g y3 = 25 ∧ (((gI g p0 1) < (nI (gN g y3)) → (b_X0_isFull_17 g 0 Q)) ∧ (¬ (gI g p0 1) < (nI (gN g y3)) → (b_X0_isFull_17 g 1 Q)))))
abbrev r_X0_isFull : Room := { frames := 0, cells := 0, slots := 0, locals := 0 }
set_option maxHeartbeats 4000000 in
set_option maxRecDepth 100000 in
theorem c_X0_isFull {l : Launch} {D : va_G} {cA : Nat → ClassId} {sz : Nat} {g : gS} {p0 : Nat} {Q : Int32 → Prop} (h : w_X0_isFull g p0 Q) : Met l yX0_isFull wsX0_isFull r_X0_isFull (va_Pc [.ref p0] (gPre D cA g sz)) (gQi D cA g sz (fun r g2 => g = g2 ∧ Q r)) 0 0 (gA g sz) := by
  refine g_met (cc := cX0_isFull) (maxL := 1) (ret := (some .boolean)) (own := RX0) (by decide) rfl rfl (Nat.le_of_ble_eq_true rfl) ?_
  intro p e s m args below meth c ls CF hr hlk hnm hc hl
  obtain ⟨hx, hb, hml, hown, hts⟩ := id CF
  have hl : lv_has ls 1 [(0, .ref p0)] := hl
  show W p l e r_X0_isFull s m args below meth c s.heap [] 0 0 (MQ below (gQi D cA g sz (fun r g2 => g = g2 ∧ Q r)) args s 0 0 (gA g sz)) (F0 m 0 ls [])
  have hb_17 : ∀ (is0 : Int32), b_X0_isFull_17 g is0 Q → ∀ (H : Heap) (locs : List Loc) (ls : Array Slot), gC D cA (gA g sz) s g H locs → lv_has ls 1 [] → W p l e r_X0_isFull s m args below meth c H locs 0 0 (MQ below (gQi D cA g sz (fun r g2 => g = g2 ∧ Q r)) args s 0 0 (gA g sz)) (F0 m 17 ls [.int is0]) := by
    intro is0 h H locs ls hc hl
    unfold b_X0_isFull_17 at h
    obtain ⟨hz1, h⟩ := h
    exact g_reti (r := is0) CF hr hlk hc (narrow_01 hz1) ⟨rfl, h⟩ dX0_isFull_17
  unfold w_X0_isFull at h
  obtain ⟨H, hH0⟩ : ∃ z, z = s.heap := ⟨_, rfl⟩
  rw [← hH0] at hc ⊢
  obtain ⟨locs, hlc0⟩ : ∃ z : List Loc, z = [] := ⟨_, rfl⟩
  rw [← hlc0] at hc ⊢
  refine lv_aload_n hx hb dX0_isFull_0 rfl (lv_at hl 0 rfl) ?_
  obtain ⟨hk2, h⟩ := h
  refine g_get CF hc hk2 rfl (by decide) (fun _ h9 => List.mem_cons_of_mem _ (List.mem_append_right _ (h9))) (k := 1) (by decide) (List.mem_cons_of_mem _ (List.mem_append_left _ (List.mem_of_getElem? (i := 0) rfl))) rfl dX0_isFull_1 ?_
  refine lv_aload_n hx hb dX0_isFull_4 rfl (lv_at hl 0 rfl) ?_
  obtain ⟨y3, e4, h⟩ := h
  refine g_getr CF hc hk2 rfl (by decide) (fun _ h9 => List.mem_cons_of_mem _ (List.mem_append_right _ (h9))) (k := 0) (by decide) (List.mem_cons_of_mem _ (List.mem_append_left _ (List.mem_of_getElem? (i := 1) rfl))) e4 rfl dX0_isFull_5 ?_
  obtain ⟨hk5, h⟩ := h
  refine g_alen CF hc (j := 4) hk5 (by decide) dX0_isFull_8 ?_
  refine lv_icmp_lt (tgt := 16) hx hb dX0_isFull_9 (by decide) (fun c6 => ?_) (fun c6 => ?_)
  · have h := h.1 c6
    refine lv_iconst (v := 0) hx hb dX0_isFull_16 (by decide) ?_
    exact hb_17 0 h _ _ _ hc (lv_sub hl [] rfl)
  · have h := h.2 c6
    refine lv_iconst (v := 1) hx hb dX0_isFull_12 (by decide) ?_
    refine lv_goto (tgt := 17) hx hb dX0_isFull_13 (by decide) ?_
    exact hb_17 1 h _ _ _ hc (lv_sub hl [] rfl)
def b_X0_takeIn_35 (g : gS) (Q : gS → Prop) : Prop :=
  Q g
def w_X0_takeIn (g0 : gS) (p0 : Nat) (Q : gS → Prop) : Prop :=
  gK g0 p0 = 1 ∧ (w_X0_isFull g0 p0 (fun x2 => ((x2 = 0 → (∃ y5, gR g0 p0 0 = some y5 ∧ (∀ o7, o7 = gR g0 p0 2 → (gK g0 y5 = 25 ∧ (vp_in (gI g0 p0 1) (gN g0 y5) ∧ (∃ y11, o7 = some y11 ∧ (gK g0 y11 = 3 ∧ (∀ g15, g15 = sV g0 y5 (Int32.toNatClampNeg (gI g0 p0 1)) (some y11) → (gK g15 p0 = 1 ∧ (∀ g18, g18 = sU g15 p0 1 ((gI g15 p0 1) + 1) → (gK g18 p0 = 1 ∧ (∀ g21, g21 = sV g18 p0 2 none → (b_X0_takeIn_35 g21 Q))))))))))))) ∧ (¬ x2 = 0 → (b_X0_takeIn_35 g0 Q)))))
abbrev r_X0_takeIn : Room := { frames := 1, cells := 0, slots := 0, locals := 20 }
set_option maxHeartbeats 4000000 in
set_option maxRecDepth 100000 in
theorem c_X0_takeIn {l : Launch} {D : va_G} {cA : Nat → ClassId} {sz : Nat} {g0 : gS} {p0 : Nat} {Q : gS → Prop} (h : w_X0_takeIn g0 p0 Q) : Met l yX0_takeIn wsX0_takeIn r_X0_takeIn (va_Pc [.ref p0] (gPre D cA g0 sz)) (gQv D cA g0 sz (Q)) 0 0 (gA g0 sz) := by
  refine g_met (cc := cX0_takeIn) (maxL := 1) (ret := none) (own := RX0) (by decide) rfl rfl (Nat.le_of_ble_eq_true rfl) ?_
  intro p e s m args below meth c ls CF hr hlk hnm hc hl
  obtain ⟨hx, hb, hml, hown, hts⟩ := id CF
  have hl : lv_has ls 1 [(0, .ref p0)] := hl
  show W p l e r_X0_takeIn s m args below meth c s.heap [] 0 0 (MQ below (gQv D cA g0 sz (Q)) args s 0 0 (gA g0 sz)) (F0 m 0 ls [])
  have hb_35 : ∀ (g : gS), b_X0_takeIn_35 g Q → ∀ (H : Heap) (locs : List Loc) (ls : Array Slot), gC D cA (gA g0 sz) s g H locs → lv_has ls 1 [] → W p l e r_X0_takeIn s m args below meth c H locs 0 0 (MQ below (gQv D cA g0 sz (Q)) args s 0 0 (gA g0 sz)) (F0 m 35 ls []) := by
    intro g h H locs ls hc hl
    unfold b_X0_takeIn_35 at h
    exact g_retv CF hr hlk hc h dX0_takeIn_35
  unfold w_X0_takeIn at h
  obtain ⟨H, hH0⟩ : ∃ z, z = s.heap := ⟨_, rfl⟩
  rw [← hH0] at hc ⊢
  obtain ⟨locs, hlc0⟩ : ∃ z : List Loc, z = [] := ⟨_, rfl⟩
  rw [← hlc0] at hc ⊢
  refine lv_aload_n hx hb dX0_takeIn_0 rfl (lv_at hl 0 rfl) ?_
  obtain ⟨hk1, h⟩ := h
  refine g_calli (va_runV (As := []) (rest := []) CF (c_X0_isFull h) (cwV 0 hts gX0_takeIn_X0_isFull rfl rfl rfl (by decide +kernel) ⟨Nat.le_of_ble_eq_true rfl, Nat.le_of_ble_eq_true rfl⟩) (hc.preV hk1 rfl (by decide)) rfl rfl hl.1 rfl (lv_room (Nat.le_of_ble_eq_true rfl)) dX0_takeIn_1 ⟨Nat.le_of_ble_eq_true rfl, Nat.le_of_ble_eq_true rfl⟩) hc (fun x2 gq3 H locs hq hc => ?_)
  obtain ⟨rfl, h⟩ := hq
  refine lv_if_ne (tgt := 35) hx hb dX0_takeIn_4 (by decide) (fun c4 => ?_) (fun c4 => ?_)
  · have h := h.2 c4
    exact hb_35 g0 h _ _ _ hc (lv_sub hl [] rfl)
  · have h := h.1 c4
    refine lv_aload_n hx hb dX0_takeIn_7 rfl (lv_at hl 0 rfl) ?_
    obtain ⟨y5, e6, h⟩ := h
    refine g_getr CF hc hk1 rfl (by decide) (fun _ h9 => List.mem_cons_of_mem _ (List.mem_append_right _ (h9))) (k := 0) (by decide) (List.mem_cons_of_mem _ (List.mem_append_left _ (List.mem_of_getElem? (i := 0) rfl))) e6 rfl dX0_takeIn_8 ?_
    refine lv_aload_n hx hb dX0_takeIn_11 rfl (lv_at hl 0 rfl) ?_
    refine g_get CF hc hk1 rfl (by decide) (fun _ h9 => List.mem_cons_of_mem _ (List.mem_append_right _ (h9))) (k := 1) (by decide) (List.mem_cons_of_mem _ (List.mem_append_left _ (List.mem_of_getElem? (i := 1) rfl))) rfl dX0_takeIn_12 ?_
    refine lv_aload_n hx hb dX0_takeIn_15 rfl (lv_at hl 0 rfl) ?_
    refine g_get CF hc hk1 rfl (by decide) (fun _ h9 => List.mem_cons_of_mem _ (List.mem_append_right _ (h9))) (k := 2) (by decide) (List.mem_cons_of_mem _ (List.mem_append_left _ (List.mem_of_getElem? (i := 2) rfl))) rfl dX0_takeIn_16 ?_
    obtain ⟨o7, eo8⟩ : ∃ z, z = gR g0 p0 2 := ⟨_, rfl⟩
    rw [← eo8]
    replace h := h o7 eo8
    obtain ⟨hk9, h⟩ := h
    obtain ⟨hi10, h⟩ := h
    obtain ⟨y11, e12, hu13⟩ := h
    subst e12
    have h := hu13
    obtain ⟨hk14, h⟩ := h
    refine g_aast CF hc (j2 := 0) (ci := 2) (v := y11) hk9 (by decide) rfl (by decide) rfl hk14 hi10 dX0_takeIn_19 (fun H locs hc => ?_)
    obtain ⟨g15, eg16⟩ : ∃ z, z = sV g0 y5 (Int32.toNatClampNeg (gI g0 p0 1)) (some y11) := ⟨_, rfl⟩
    have hc : gC D cA (gA g0 sz) s g15 H locs := by rw [eg16]; exact hc
    replace h := h g15 eg16
    refine lv_aload_n hx hb dX0_takeIn_20 rfl (lv_at hl 0 rfl) ?_
    refine lv_dup hx hb dX0_takeIn_21 rfl ?_
    obtain ⟨hk17, h⟩ := h
    refine g_get CF hc hk17 rfl (by decide) (fun _ h9 => List.mem_cons_of_mem _ (List.mem_append_right _ (h9))) (k := 1) (by decide) (List.mem_cons_of_mem _ (List.mem_append_left _ (List.mem_of_getElem? (i := 1) rfl))) rfl dX0_takeIn_22 ?_
    refine lv_iconst (v := 1) hx hb dX0_takeIn_25 (by decide) ?_
    refine lv_iadd hx hb dX0_takeIn_26 ?_
    refine g_puti CF hc hk17 rfl (by decide) (fun _ h9 => List.mem_cons_of_mem _ (List.mem_append_right _ (h9))) tyX0 tyX0_ok nmX0 (k := 1) (by decide) (List.mem_cons_of_mem _ (List.mem_append_left _ (List.mem_of_getElem? (i := 1) rfl))) rfl (v := ((gI g15 p0 1) + 1)) rfl rfl rfl dX0_takeIn_27 (fun H locs hc => ?_)
    obtain ⟨g18, eg19⟩ : ∃ z, z = sU g15 p0 1 ((gI g15 p0 1) + 1) := ⟨_, rfl⟩
    have hc : gC D cA (gA g0 sz) s g18 H locs := by rw [eg19]; exact hc
    replace h := h g18 eg19
    refine lv_aload_n hx hb dX0_takeIn_30 rfl (lv_at hl 0 rfl) ?_
    refine lv_null hx hb dX0_takeIn_31 ?_
    obtain ⟨hk20, h⟩ := h
    refine g_putr CF hc hk20 rfl (by decide) (fun _ h9 => List.mem_cons_of_mem _ (List.mem_append_right _ (h9))) tyX0 tyX0_ok nmX0 (k := 2) (by decide) (List.mem_cons_of_mem _ (List.mem_append_left _ (List.mem_of_getElem? (i := 2) rfl))) rfl none narrow_rf fits_rf rfl dX0_takeIn_32 (fun H locs hc => ?_)
    obtain ⟨g21, eg22⟩ : ∃ z, z = sV g18 p0 2 none := ⟨_, rfl⟩
    have hc : gC D cA (gA g0 sz) s g21 H locs := by rw [eg22]; exact hc
    replace h := h g21 eg22
    exact hb_35 g21 h _ _ _ hc (lv_sub hl [] rfl)
def b_X0_documentAt_31 (g : gS) (os0 : Option Nat) (Q : Option Nat → Prop) : Prop :=
  Q os0
def b_X0_documentAt_21 (g : gS) (Q : Option Nat → Prop) : Prop :=
  b_X0_documentAt_31 g none Q
def w_X0_documentAt (g : gS) (p0 : Nat) (p1 : Int32) (Q : Option Nat → Prop) : Prop :=
  (p1 < 0 → (b_X0_documentAt_21 g Q)) ∧ (¬ p1 < 0 → (gK g p0 = 1 ∧ (((gI g p0 1) ≤ p1 → (b_X0_documentAt_21 g Q)) ∧ (¬ (gI g p0 1) ≤ p1 → (∃ y4, gR g p0 0 = some y4 ∧ (gK g y4 = 25 ∧ ((p1 < (nI (gN g y4)) → (∃ y8, gR g p0 0 = some y8 ∧ (gK g y8 = 25 ∧ (vp_in p1 (gN g y8) ∧ (∀ o12, o12 = gR g y8 (Int32.toNatClampNeg p1) → (b_X0_documentAt_31 g o12 Q)))))) ∧ (¬ p1 < (nI (gN g y4)) → (b_X0_documentAt_21 g Q)))))))))
abbrev r_X0_documentAt : Room := { frames := 0, cells := 0, slots := 0, locals := 0 }
set_option maxHeartbeats 4000000 in
set_option maxRecDepth 100000 in
theorem c_X0_documentAt {l : Launch} {D : va_G} {cA : Nat → ClassId} {sz : Nat} {g : gS} {p0 : Nat} {p1 : Int32} {Q : Option Nat → Prop} (h : w_X0_documentAt g p0 p1 Q) : Met l yX0_documentAt wsX0_documentAt r_X0_documentAt (va_Pc [.ref p0, .int p1] (gPre D cA g sz)) (gQq D cA g sz (fun r g2 => g = g2 ∧ Q r)) 0 0 (gA g sz) := by
  refine g_met (cc := cX0_documentAt) (maxL := 2) (ret := (some (.object "QuarryIndex$Document"))) (own := RX0) (by decide) rfl rfl (Nat.le_of_ble_eq_true rfl) ?_
  intro p e s m args below meth c ls CF hr hlk hnm hc hl
  obtain ⟨hx, hb, hml, hown, hts⟩ := id CF
  have hl : lv_has ls 2 [(0, .ref p0), (1, .int p1)] := hl
  show W p l e r_X0_documentAt s m args below meth c s.heap [] 0 0 (MQ below (gQq D cA g sz (fun r g2 => g = g2 ∧ Q r)) args s 0 0 (gA g sz)) (F0 m 0 ls [])
  have hb_31 : ∀ (os0 : Option Nat), b_X0_documentAt_31 g os0 Q → ∀ (H : Heap) (locs : List Loc) (ls : Array Slot), gC D cA (gA g sz) s g H locs → lv_has ls 2 [] → W p l e r_X0_documentAt s m args below meth c H locs 0 0 (MQ below (gQq D cA g sz (fun r g2 => g = g2 ∧ Q r)) args s 0 0 (gA g sz)) (F0 m 31 ls [va_rf os0]) := by
    intro os0 h H locs ls hc hl
    unfold b_X0_documentAt_31 at h
    exact g_retq (r := os0) CF hr hlk hc ⟨rfl, h⟩ dX0_documentAt_31
  have hb_21 : b_X0_documentAt_21 g Q → ∀ (H : Heap) (locs : List Loc) (ls : Array Slot), gC D cA (gA g sz) s g H locs → lv_has ls 2 [] → W p l e r_X0_documentAt s m args below meth c H locs 0 0 (MQ below (gQq D cA g sz (fun r g2 => g = g2 ∧ Q r)) args s 0 0 (gA g sz)) (F0 m 21 ls []) := by
    intro h H locs ls hc hl
    unfold b_X0_documentAt_21 at h
    refine lv_null hx hb dX0_documentAt_21 ?_
    refine lv_goto (tgt := 31) hx hb dX0_documentAt_22 (by decide) ?_
    exact hb_31 none h _ _ _ hc (lv_sub hl [] rfl)
  unfold w_X0_documentAt at h
  obtain ⟨H, hH0⟩ : ∃ z, z = s.heap := ⟨_, rfl⟩
  rw [← hH0] at hc ⊢
  obtain ⟨locs, hlc0⟩ : ∃ z : List Loc, z = [] := ⟨_, rfl⟩
  rw [← hlc0] at hc ⊢
  refine lv_iload_n hx hb dX0_documentAt_0 rfl (lv_at hl 1 rfl) ?_
  refine lv_if_lt (tgt := 21) hx hb dX0_documentAt_1 (by decide) (fun c1 => ?_) (fun c1 => ?_)
  · have h := h.1 c1
    exact hb_21  h _ _ _ hc (lv_sub hl [] rfl)
  · have h := h.2 c1
    refine lv_iload_n hx hb dX0_documentAt_4 rfl (lv_at hl 1 rfl) ?_
    refine lv_aload_n hx hb dX0_documentAt_5 rfl (lv_at hl 0 rfl) ?_
    obtain ⟨hk2, h⟩ := h
    refine g_get CF hc hk2 rfl (by decide) (fun _ h9 => List.mem_cons_of_mem _ (List.mem_append_right _ (h9))) (k := 1) (by decide) (List.mem_cons_of_mem _ (List.mem_append_left _ (List.mem_of_getElem? (i := 0) rfl))) rfl dX0_documentAt_6 ?_
    refine lv_icmp_ge (tgt := 21) hx hb dX0_documentAt_9 (by decide) (fun c3 => ?_) (fun c3 => ?_)
    · have h := h.1 c3
      exact hb_21  h _ _ _ hc (lv_sub hl [] rfl)
    · have h := h.2 c3
      refine lv_iload_n hx hb dX0_documentAt_12 rfl (lv_at hl 1 rfl) ?_
      refine lv_aload_n hx hb dX0_documentAt_13 rfl (lv_at hl 0 rfl) ?_
      obtain ⟨y4, e5, h⟩ := h
      refine g_getr CF hc hk2 rfl (by decide) (fun _ h9 => List.mem_cons_of_mem _ (List.mem_append_right _ (h9))) (k := 0) (by decide) (List.mem_cons_of_mem _ (List.mem_append_left _ (List.mem_of_getElem? (i := 1) rfl))) e5 rfl dX0_documentAt_14 ?_
      obtain ⟨hk6, h⟩ := h
      refine g_alen CF hc (j := 4) hk6 (by decide) dX0_documentAt_17 ?_
      refine lv_icmp_lt (tgt := 25) hx hb dX0_documentAt_18 (by decide) (fun c7 => ?_) (fun c7 => ?_)
      · have h := h.1 c7
        refine lv_aload_n hx hb dX0_documentAt_25 rfl (lv_at hl 0 rfl) ?_
        obtain ⟨y8, e9, h⟩ := h
        refine g_getr CF hc hk2 rfl (by decide) (fun _ h9 => List.mem_cons_of_mem _ (List.mem_append_right _ (h9))) (k := 0) (by decide) (List.mem_cons_of_mem _ (List.mem_append_left _ (List.mem_of_getElem? (i := 1) rfl))) e9 rfl dX0_documentAt_26 ?_
        refine lv_iload_n hx hb dX0_documentAt_29 rfl (lv_at hl 1 rfl) ?_
        obtain ⟨hk10, h⟩ := h
        obtain ⟨hi11, h⟩ := h
        refine g_aald CF hc (j := 1) hk10 (by decide) hi11 dX0_documentAt_30 ?_
        obtain ⟨o12, eo13⟩ : ∃ z, z = gR g y8 (Int32.toNatClampNeg p1) := ⟨_, rfl⟩
        rw [← eo13]
        replace h := h o12 eo13
        exact hb_31 o12 h _ _ _ hc (lv_sub hl [] rfl)
      · have h := h.2 c7
        exact hb_21  h _ _ _ hc (lv_sub hl [] rfl)
def b_X0_countAt_36 (g : gS) (r0 : Nat) (i1 : Int32) (i2 : Int32) (i3 : Int32) (Q : Int32 → Prop) (k4 : Int32 → Int32 → Prop) : Prop :=
  k4 i2 (i3 + 1)
def l_X0_countAt_4 (g : gS) (r0 : Nat) (i1 : Int32) (Q : Int32 → Prop) (i2 : Int32) (i3 : Int32) (k4 : Int32 → Int32 → Prop) : Prop :=
  gK g r0 = 1 ∧ (((gI g r0 1) ≤ i3 → (Q i2)) ∧ (¬ (gI g r0 1) ≤ i3 → (w_X0_documentAt g r0 i3 (fun o3 => ((o3 = none → (b_X0_countAt_36 g r0 i1 i2 i3 Q k4)) ∧ (∀ y5, o3 = some y5 → (gK g y5 = 3 ∧ (((gI g y5 3) = i1 → (b_X0_countAt_36 g r0 i1 (i2 + 1) i3 Q k4)) ∧ (¬ (gI g y5 3) = i1 → (b_X0_countAt_36 g r0 i1 i2 i3 Q k4))))))))))
def w_X0_countAt (g : gS) (p0 : Nat) (p1 : Int32) (Q : Int32 → Prop) : Prop :=
  lpx2 (l_X0_countAt_4 g p0 p1 Q) 0 0
abbrev r_X0_countAt : Room := { frames := 1, cells := 0, slots := 0, locals := 21 }
set_option maxHeartbeats 4000000 in
set_option maxRecDepth 100000 in
theorem c_X0_countAt {l : Launch} {D : va_G} {cA : Nat → ClassId} {sz : Nat} {g : gS} {p0 : Nat} {p1 : Int32} {Q : Int32 → Prop} (h : w_X0_countAt g p0 p1 Q) : Met l yX0_countAt wsX0_countAt r_X0_countAt (va_Pc [.ref p0, .int p1] (gPre D cA g sz)) (gQi D cA g sz (fun r g2 => g = g2 ∧ Q r)) 0 0 (gA g sz) := by
  refine g_met (cc := cX0_countAt) (maxL := 5) (ret := (some .int)) (own := RX0) (by decide) rfl rfl (Nat.le_of_ble_eq_true rfl) ?_
  intro p e s m args below meth c ls CF hr hlk hnm hc hl
  obtain ⟨hx, hb, hml, hown, hts⟩ := id CF
  have hl : lv_has ls 5 [(0, .ref p0), (1, .int p1)] := hl
  show W p l e r_X0_countAt s m args below meth c s.heap [] 0 0 (MQ below (gQi D cA g sz (fun r g2 => g = g2 ∧ Q r)) args s 0 0 (gA g sz)) (F0 m 0 ls [])
  have hb_4 : ∀ (r0 : Nat) (i1 : Int32), ∀ (i2 : Int32) (i3 : Int32), lpx2 (l_X0_countAt_4 g r0 i1 Q) i2 i3 → ∀ (H : Heap) (locs : List Loc) (ls : Array Slot), gC D cA (gA g sz) s g H locs → lv_has ls 5 [(0, .ref r0), (1, .int i1), (2, .int i2), (3, .int i3)] → W p l e r_X0_countAt s m args below meth c H locs 0 0 (MQ below (gQi D cA g sz (fun r g2 => g = g2 ∧ Q r)) args s 0 0 (gA g sz)) (F0 m 4 ls []) := by
    intro r0 i1
    refine lpx2_run (P := fun (i2 : Int32) (i3 : Int32) => ∀ (H : Heap) (locs : List Loc) (ls : Array Slot), gC D cA (gA g sz) s g H locs → lv_has ls 5 [(0, .ref r0), (1, .int i1), (2, .int i2), (3, .int i3)] → W p l e r_X0_countAt s m args below meth c H locs 0 0 (MQ below (gQi D cA g sz (fun r g2 => g = g2 ∧ Q r)) args s 0 0 (gA g sz)) (F0 m 4 ls [])) ?_
    intro k4 hk_4 i2 i3 h H locs ls hc hl
    have hb_36 : ∀ (i2 : Int32) (i3 : Int32), b_X0_countAt_36 g r0 i1 i2 i3 Q k4 → ∀ (H : Heap) (locs : List Loc) (ls : Array Slot), gC D cA (gA g sz) s g H locs → lv_has ls 5 [(0, .ref r0), (1, .int i1), (2, .int i2), (3, .int i3)] → W p l e r_X0_countAt s m args below meth c H locs 0 0 (MQ below (gQi D cA g sz (fun r g2 => g = g2 ∧ Q r)) args s 0 0 (gA g sz)) (F0 m 36 ls []) := by
      intro i2 i3 h H locs ls hc hl
      unfold b_X0_countAt_36 at h
      refine lv_iinc (v := (i3 + 1)) (lv' := [(3, .int (i3 + 1)), (0, .ref r0), (1, .int i1), (2, .int i2)]) hx hb dX0_countAt_36 hl (k := 3) rfl rfl (by decide) rfl (fun ls hl => ?_)
      refine lv_goto (tgt := 4) hx hb dX0_countAt_39 (by decide) ?_
      exact hk_4 i2 (i3 + 1) h _ _ _ hc (lv_sub hl [1, 2, 3, 0] rfl)
    unfold l_X0_countAt_4 at h
    refine lv_iload_n hx hb dX0_countAt_4 rfl (lv_at hl 3 rfl) ?_
    refine lv_aload_n hx hb dX0_countAt_5 rfl (lv_at hl 0 rfl) ?_
    obtain ⟨hk1, h⟩ := h
    refine g_get CF hc hk1 rfl (by decide) (fun _ h9 => List.mem_cons_of_mem _ (List.mem_append_left _ (List.mem_append_right _ (h9)))) (k := 1) (by decide) (List.mem_cons_of_mem _ (List.mem_append_left _ (List.mem_append_left _ (List.mem_of_getElem? (i := 0) rfl)))) rfl dX0_countAt_6 ?_
    refine lv_icmp_ge (tgt := 42) hx hb dX0_countAt_9 (by decide) (fun c2 => ?_) (fun c2 => ?_)
    · have h := h.1 c2
      refine lv_iload_n hx hb dX0_countAt_42 rfl (lv_at hl 2 rfl) ?_
      exact g_reti (r := i2) CF hr hlk hc rfl ⟨rfl, h⟩ dX0_countAt_43
    · have h := h.2 c2
      refine lv_aload_n hx hb dX0_countAt_12 rfl (lv_at hl 0 rfl) ?_
      refine lv_iload_n hx hb dX0_countAt_13 rfl (lv_at hl 3 rfl) ?_
      refine g_callq (va_runV (As := [.int i3]) (rest := []) CF (c_X0_documentAt h) (cwV 1 hts gX0_countAt_X0_documentAt rfl rfl rfl (by decide +kernel) ⟨Nat.le_of_ble_eq_true rfl, Nat.le_of_ble_eq_true rfl⟩) (hc.preV hk1 rfl (by decide)) rfl rfl hl.1 rfl (lv_room (Nat.le_of_ble_eq_true rfl)) dX0_countAt_14 ⟨Nat.le_of_ble_eq_true rfl, Nat.le_of_ble_eq_true rfl⟩) hc (fun o3 gq4 H locs hq hc => ?_)
      obtain ⟨rfl, h⟩ := hq
      refine g_astoreq (lv' := [(4, va_rf o3), (0, .ref r0), (1, .int i1), (2, .int i2), (3, .int i3)]) CF dX0_countAt_17 hl (by decide) rfl (fun ls hl => ?_)
      refine g_aloadq CF dX0_countAt_19 (lv_at hl 0 rfl) ?_
      refine g_ifnull (tgt := 36) CF dX0_countAt_21 (by decide) (fun e6 => ?_) (fun y5 e6 => ?_)
      · have hu9 := h.1 e6
        subst e6
        have h := hu9
        exact hb_36 i2 i3 h _ _ _ hc (lv_sub hl [1, 2, 3, 4] rfl)
      · have hu9 := h.2 y5 e6
        subst e6
        have h := hu9
        refine lv_aload hx hb dX0_countAt_24 (lv_at hl 0 rfl) ?_
        obtain ⟨hk7, h⟩ := h
        refine g_get CF hc hk7 rfl (by decide) (fun _ h9 => List.mem_cons_of_mem _ (List.mem_append_right _ (h9))) (k := 3) (by decide) (List.mem_cons_of_mem _ (List.mem_append_left _ (List.mem_append_left _ (List.mem_of_getElem? (i := 1) rfl)))) rfl dX0_countAt_26 ?_
        refine lv_iload_n hx hb dX0_countAt_29 rfl (lv_at hl 2 rfl) ?_
        refine lv_icmp_ne (tgt := 36) hx hb dX0_countAt_30 (by decide) (fun c8 => ?_) (fun c8 => ?_)
        · have h := h.2 c8
          exact hb_36 i2 i3 h _ _ _ hc (lv_sub hl [1, 2, 3, 4] rfl)
        · have h := h.1 c8
          refine lv_iinc (v := (i2 + 1)) (lv' := [(2, .int (i2 + 1)), (4, .ref y5), (0, .ref r0), (1, .int i1), (3, .int i3)]) hx hb dX0_countAt_33 hl (k := 3) rfl rfl (by decide) rfl (fun ls hl => ?_)
          exact hb_36 (i2 + 1) i3 h _ _ _ hc (lv_sub hl [2, 3, 0, 4] rfl)
  unfold w_X0_countAt at h
  obtain ⟨H, hH0⟩ : ∃ z, z = s.heap := ⟨_, rfl⟩
  rw [← hH0] at hc ⊢
  obtain ⟨locs, hlc0⟩ : ∃ z : List Loc, z = [] := ⟨_, rfl⟩
  rw [← hlc0] at hc ⊢
  refine lv_iconst (v := 0) hx hb dX0_countAt_0 (by decide) ?_
  refine lv_istore_n (lv' := [(2, .int 0), (0, .ref p0), (1, .int p1)]) hx hb dX0_countAt_1 rfl hl (by decide) rfl (fun ls hl => ?_)
  refine lv_iconst (v := 0) hx hb dX0_countAt_2 (by decide) ?_
  refine lv_istore_n (lv' := [(3, .int 0), (2, .int 0), (0, .ref p0), (1, .int p1)]) hx hb dX0_countAt_3 rfl hl (by decide) rfl (fun ls hl => ?_)
  exact hb_4 p0 p1 0 0 h _ _ _ hc (lv_sub hl [2, 3, 1, 0] rfl)
def w_X0_bufferSize (g : gS) (p0 : Nat) (Q : Int32 → Prop) : Prop :=
  gK g p0 = 1 ∧ (w_X0_countAt g p0 (-1) (fun x2 => (Q x2)))
abbrev r_X0_bufferSize : Room := { frames := 2, cells := 0, slots := 0, locals := 45 }
set_option maxHeartbeats 4000000 in
set_option maxRecDepth 100000 in
theorem c_X0_bufferSize {l : Launch} {D : va_G} {cA : Nat → ClassId} {sz : Nat} {g : gS} {p0 : Nat} {Q : Int32 → Prop} (h : w_X0_bufferSize g p0 Q) : Met l yX0_bufferSize wsX0_bufferSize r_X0_bufferSize (va_Pc [.ref p0] (gPre D cA g sz)) (gQi D cA g sz (fun r g2 => g = g2 ∧ Q r)) 0 0 (gA g sz) := by
  refine g_met (cc := cX0_bufferSize) (maxL := 1) (ret := (some .int)) (own := RX0) (by decide) rfl rfl (Nat.le_of_ble_eq_true rfl) ?_
  intro p e s m args below meth c ls CF hr hlk hnm hc hl
  obtain ⟨hx, hb, hml, hown, hts⟩ := id CF
  have hl : lv_has ls 1 [(0, .ref p0)] := hl
  show W p l e r_X0_bufferSize s m args below meth c s.heap [] 0 0 (MQ below (gQi D cA g sz (fun r g2 => g = g2 ∧ Q r)) args s 0 0 (gA g sz)) (F0 m 0 ls [])
  unfold w_X0_bufferSize at h
  obtain ⟨H, hH0⟩ : ∃ z, z = s.heap := ⟨_, rfl⟩
  rw [← hH0] at hc ⊢
  obtain ⟨locs, hlc0⟩ : ∃ z : List Loc, z = [] := ⟨_, rfl⟩
  rw [← hlc0] at hc ⊢
  refine lv_aload_n hx hb dX0_bufferSize_0 rfl (lv_at hl 0 rfl) ?_
  refine lv_iconst (v := (-1)) hx hb dX0_bufferSize_1 (by decide) ?_
  obtain ⟨hk1, h⟩ := h
  refine g_calli (va_runV (As := [.int (-1)]) (rest := []) CF (c_X0_countAt h) (cwV 1 hts gX0_bufferSize_X0_countAt rfl rfl rfl (by decide +kernel) ⟨Nat.le_of_ble_eq_true rfl, Nat.le_of_ble_eq_true rfl⟩) (hc.preV hk1 rfl (by decide)) rfl rfl hl.1 rfl (lv_room (Nat.le_of_ble_eq_true rfl)) dX0_bufferSize_2 ⟨Nat.le_of_ble_eq_true rfl, Nat.le_of_ble_eq_true rfl⟩) hc (fun x2 gq3 H locs hq hc => ?_)
  obtain ⟨rfl, h⟩ := hq
  exact g_reti (r := x2) CF hr hlk hc rfl ⟨rfl, h⟩ dX0_bufferSize_5
def b_X0_goneInSegments_39 (g : gS) (r0 : Nat) (i1 : Int32) (i2 : Int32) (Q : Int32 → Prop) (k4 : Int32 → Int32 → Prop) : Prop :=
  k4 i1 (i2 + 1)
def l_X0_goneInSegments_4 (g : gS) (r0 : Nat) (Q : Int32 → Prop) (i1 : Int32) (i2 : Int32) (k4 : Int32 → Int32 → Prop) : Prop :=
  gK g r0 = 1 ∧ (((gI g r0 1) ≤ i2 → (Q i1)) ∧ (¬ (gI g r0 1) ≤ i2 → (w_X0_documentAt g r0 i2 (fun o3 => ((o3 = none → (b_X0_goneInSegments_39 g r0 i1 i2 Q k4)) ∧ (∀ y5, o3 = some y5 → (gK g y5 = 3 ∧ (((gI g y5 4) = 0 → (b_X0_goneInSegments_39 g r0 i1 i2 Q k4)) ∧ (¬ (gI g y5 4) = 0 → (w_X2_liesInSegment g y5 (fun x9 => ((x9 = 0 → (b_X0_goneInSegments_39 g r0 i1 i2 Q k4)) ∧ (¬ x9 = 0 → (b_X0_goneInSegments_39 g r0 (i1 + 1) i2 Q k4))))))))))))))
def w_X0_goneInSegments (g : gS) (p0 : Nat) (Q : Int32 → Prop) : Prop :=
  lpx2 (l_X0_goneInSegments_4 g p0 Q) 0 0
abbrev r_X0_goneInSegments : Room := { frames := 1, cells := 0, slots := 0, locals := 21 }
set_option maxHeartbeats 4000000 in
set_option maxRecDepth 100000 in
theorem c_X0_goneInSegments {l : Launch} {D : va_G} {cA : Nat → ClassId} {sz : Nat} {g : gS} {p0 : Nat} {Q : Int32 → Prop} (h : w_X0_goneInSegments g p0 Q) : Met l yX0_goneInSegments wsX0_goneInSegments r_X0_goneInSegments (va_Pc [.ref p0] (gPre D cA g sz)) (gQi D cA g sz (fun r g2 => g = g2 ∧ Q r)) 0 0 (gA g sz) := by
  refine g_met (cc := cX0_goneInSegments) (maxL := 4) (ret := (some .int)) (own := RX0) (by decide) rfl rfl (Nat.le_of_ble_eq_true rfl) ?_
  intro p e s m args below meth c ls CF hr hlk hnm hc hl
  obtain ⟨hx, hb, hml, hown, hts⟩ := id CF
  have hl : lv_has ls 4 [(0, .ref p0)] := hl
  show W p l e r_X0_goneInSegments s m args below meth c s.heap [] 0 0 (MQ below (gQi D cA g sz (fun r g2 => g = g2 ∧ Q r)) args s 0 0 (gA g sz)) (F0 m 0 ls [])
  have hb_4 : ∀ (r0 : Nat), ∀ (i1 : Int32) (i2 : Int32), lpx2 (l_X0_goneInSegments_4 g r0 Q) i1 i2 → ∀ (H : Heap) (locs : List Loc) (ls : Array Slot), gC D cA (gA g sz) s g H locs → lv_has ls 4 [(0, .ref r0), (1, .int i1), (2, .int i2)] → W p l e r_X0_goneInSegments s m args below meth c H locs 0 0 (MQ below (gQi D cA g sz (fun r g2 => g = g2 ∧ Q r)) args s 0 0 (gA g sz)) (F0 m 4 ls []) := by
    intro r0
    refine lpx2_run (P := fun (i1 : Int32) (i2 : Int32) => ∀ (H : Heap) (locs : List Loc) (ls : Array Slot), gC D cA (gA g sz) s g H locs → lv_has ls 4 [(0, .ref r0), (1, .int i1), (2, .int i2)] → W p l e r_X0_goneInSegments s m args below meth c H locs 0 0 (MQ below (gQi D cA g sz (fun r g2 => g = g2 ∧ Q r)) args s 0 0 (gA g sz)) (F0 m 4 ls [])) ?_
    intro k4 hk_4 i1 i2 h H locs ls hc hl
    have hb_39 : ∀ (i1 : Int32) (i2 : Int32), b_X0_goneInSegments_39 g r0 i1 i2 Q k4 → ∀ (H : Heap) (locs : List Loc) (ls : Array Slot), gC D cA (gA g sz) s g H locs → lv_has ls 4 [(0, .ref r0), (1, .int i1), (2, .int i2)] → W p l e r_X0_goneInSegments s m args below meth c H locs 0 0 (MQ below (gQi D cA g sz (fun r g2 => g = g2 ∧ Q r)) args s 0 0 (gA g sz)) (F0 m 39 ls []) := by
      intro i1 i2 h H locs ls hc hl
      unfold b_X0_goneInSegments_39 at h
      refine lv_iinc (v := (i2 + 1)) (lv' := [(2, .int (i2 + 1)), (0, .ref r0), (1, .int i1)]) hx hb dX0_goneInSegments_39 hl (k := 2) rfl rfl (by decide) rfl (fun ls hl => ?_)
      refine lv_goto (tgt := 4) hx hb dX0_goneInSegments_42 (by decide) ?_
      exact hk_4 i1 (i2 + 1) h _ _ _ hc (lv_sub hl [1, 2, 0] rfl)
    unfold l_X0_goneInSegments_4 at h
    refine lv_iload_n hx hb dX0_goneInSegments_4 rfl (lv_at hl 2 rfl) ?_
    refine lv_aload_n hx hb dX0_goneInSegments_5 rfl (lv_at hl 0 rfl) ?_
    obtain ⟨hk1, h⟩ := h
    refine g_get CF hc hk1 rfl (by decide) (fun _ h9 => List.mem_cons_of_mem _ (List.mem_append_left _ (List.mem_append_right _ (h9)))) (k := 1) (by decide) (List.mem_cons_of_mem _ (List.mem_append_left _ (List.mem_append_left _ (List.mem_of_getElem? (i := 0) rfl)))) rfl dX0_goneInSegments_6 ?_
    refine lv_icmp_ge (tgt := 45) hx hb dX0_goneInSegments_9 (by decide) (fun c2 => ?_) (fun c2 => ?_)
    · have h := h.1 c2
      refine lv_iload_n hx hb dX0_goneInSegments_45 rfl (lv_at hl 1 rfl) ?_
      exact g_reti (r := i1) CF hr hlk hc rfl ⟨rfl, h⟩ dX0_goneInSegments_46
    · have h := h.2 c2
      refine lv_aload_n hx hb dX0_goneInSegments_12 rfl (lv_at hl 0 rfl) ?_
      refine lv_iload_n hx hb dX0_goneInSegments_13 rfl (lv_at hl 2 rfl) ?_
      refine g_callq (va_runV (As := [.int i2]) (rest := []) CF (c_X0_documentAt h) (cwV 1 hts gX0_goneInSegments_X0_documentAt rfl rfl rfl (by decide +kernel) ⟨Nat.le_of_ble_eq_true rfl, Nat.le_of_ble_eq_true rfl⟩) (hc.preV hk1 rfl (by decide)) rfl rfl hl.1 rfl (lv_room (Nat.le_of_ble_eq_true rfl)) dX0_goneInSegments_14 ⟨Nat.le_of_ble_eq_true rfl, Nat.le_of_ble_eq_true rfl⟩) hc (fun o3 gq4 H locs hq hc => ?_)
      obtain ⟨rfl, h⟩ := hq
      refine g_astore_nq (lv' := [(3, va_rf o3), (0, .ref r0), (1, .int i1), (2, .int i2)]) CF dX0_goneInSegments_17 rfl hl (by decide) rfl (fun ls hl => ?_)
      refine g_aload_nq CF dX0_goneInSegments_18 rfl (lv_at hl 0 rfl) ?_
      refine g_ifnull (tgt := 39) CF dX0_goneInSegments_19 (by decide) (fun e6 => ?_) (fun y5 e6 => ?_)
      · have hu12 := h.1 e6
        subst e6
        have h := hu12
        exact hb_39 i1 i2 h _ _ _ hc (lv_sub hl [1, 2, 3] rfl)
      · have hu12 := h.2 y5 e6
        subst e6
        have h := hu12
        refine lv_aload_n hx hb dX0_goneInSegments_22 rfl (lv_at hl 0 rfl) ?_
        obtain ⟨hk7, h⟩ := h
        refine g_get CF hc hk7 rfl (by decide) (fun _ h9 => List.mem_cons_of_mem _ (List.mem_append_right _ (h9))) (k := 4) (by decide) (List.mem_cons_of_mem _ (List.mem_append_left _ (List.mem_append_left _ (List.mem_of_getElem? (i := 1) rfl)))) rfl dX0_goneInSegments_23 ?_
        refine lv_if_eq (tgt := 39) hx hb dX0_goneInSegments_26 (by decide) (fun c8 => ?_) (fun c8 => ?_)
        · have h := h.1 c8
          exact hb_39 i1 i2 h _ _ _ hc (lv_sub hl [1, 2, 3] rfl)
        · have h := h.2 c8
          refine lv_aload_n hx hb dX0_goneInSegments_29 rfl (lv_at hl 0 rfl) ?_
          refine g_calli (va_runV (As := []) (rest := []) CF (c_X2_liesInSegment h) (cwV 0 hts gX0_goneInSegments_X2_liesInSegment rfl rfl rfl (by decide +kernel) ⟨Nat.le_of_ble_eq_true rfl, Nat.le_of_ble_eq_true rfl⟩) (hc.preV hk7 rfl (by decide)) rfl rfl hl.1 rfl (lv_room (Nat.le_of_ble_eq_true rfl)) dX0_goneInSegments_30 ⟨Nat.le_of_ble_eq_true rfl, Nat.le_of_ble_eq_true rfl⟩) hc (fun x9 gq10 H locs hq hc => ?_)
          obtain ⟨rfl, h⟩ := hq
          refine lv_if_eq (tgt := 39) hx hb dX0_goneInSegments_33 (by decide) (fun c11 => ?_) (fun c11 => ?_)
          · have h := h.1 c11
            exact hb_39 i1 i2 h _ _ _ hc (lv_sub hl [1, 2, 3] rfl)
          · have h := h.2 c11
            refine lv_iinc (v := (i1 + 1)) (lv' := [(1, .int (i1 + 1)), (3, .ref y5), (0, .ref r0), (2, .int i2)]) hx hb dX0_goneInSegments_36 hl (k := 2) rfl rfl (by decide) rfl (fun ls hl => ?_)
            exact hb_39 (i1 + 1) i2 h _ _ _ hc (lv_sub hl [2, 0, 3] rfl)
  unfold w_X0_goneInSegments at h
  obtain ⟨H, hH0⟩ : ∃ z, z = s.heap := ⟨_, rfl⟩
  rw [← hH0] at hc ⊢
  obtain ⟨locs, hlc0⟩ : ∃ z : List Loc, z = [] := ⟨_, rfl⟩
  rw [← hlc0] at hc ⊢
  refine lv_iconst (v := 0) hx hb dX0_goneInSegments_0 (by decide) ?_
  refine lv_istore_n (lv' := [(1, .int 0), (0, .ref p0)]) hx hb dX0_goneInSegments_1 rfl hl (by decide) rfl (fun ls hl => ?_)
  refine lv_iconst (v := 0) hx hb dX0_goneInSegments_2 (by decide) ?_
  refine lv_istore_n (lv' := [(2, .int 0), (1, .int 0), (0, .ref p0)]) hx hb dX0_goneInSegments_3 rfl hl (by decide) rfl (fun ls hl => ?_)
  exact hb_4 p0 0 0 h _ _ _ hc (lv_sub hl [2, 1, 0] rfl)
def b_X0_hasSegment_17 (g : gS) (is0 : Int32) (Q : Int32 → Prop) : Prop :=
  (is0 = 0 ∨ is0 = 1) ∧ (Q is0)
def b_X0_hasSegment_16 (g : gS) (Q : Int32 → Prop) : Prop :=
  b_X0_hasSegment_17 g 0 Q
def w_X0_hasSegment (g : gS) (p0 : Nat) (p1 : Int32) (Q : Int32 → Prop) : Prop :=
  (p1 < 0 → (b_X0_hasSegment_16 g Q)) ∧ (¬ p1 < 0 → (gK g p0 = 1 ∧ (((gI g p0 4) ≤ p1 → (b_X0_hasSegment_16 g Q)) ∧ (¬ (gI g p0 4) ≤ p1 → (b_X0_hasSegment_17 g 1 Q)))))
abbrev r_X0_hasSegment : Room := { frames := 0, cells := 0, slots := 0, locals := 0 }
set_option maxHeartbeats 4000000 in
set_option maxRecDepth 100000 in
theorem c_X0_hasSegment {l : Launch} {D : va_G} {cA : Nat → ClassId} {sz : Nat} {g : gS} {p0 : Nat} {p1 : Int32} {Q : Int32 → Prop} (h : w_X0_hasSegment g p0 p1 Q) : Met l yX0_hasSegment wsX0_hasSegment r_X0_hasSegment (va_Pc [.ref p0, .int p1] (gPre D cA g sz)) (gQi D cA g sz (fun r g2 => g = g2 ∧ Q r)) 0 0 (gA g sz) := by
  refine g_met (cc := cX0_hasSegment) (maxL := 2) (ret := (some .boolean)) (own := RX0) (by decide) rfl rfl (Nat.le_of_ble_eq_true rfl) ?_
  intro p e s m args below meth c ls CF hr hlk hnm hc hl
  obtain ⟨hx, hb, hml, hown, hts⟩ := id CF
  have hl : lv_has ls 2 [(0, .ref p0), (1, .int p1)] := hl
  show W p l e r_X0_hasSegment s m args below meth c s.heap [] 0 0 (MQ below (gQi D cA g sz (fun r g2 => g = g2 ∧ Q r)) args s 0 0 (gA g sz)) (F0 m 0 ls [])
  have hb_17 : ∀ (is0 : Int32), b_X0_hasSegment_17 g is0 Q → ∀ (H : Heap) (locs : List Loc) (ls : Array Slot), gC D cA (gA g sz) s g H locs → lv_has ls 2 [] → W p l e r_X0_hasSegment s m args below meth c H locs 0 0 (MQ below (gQi D cA g sz (fun r g2 => g = g2 ∧ Q r)) args s 0 0 (gA g sz)) (F0 m 17 ls [.int is0]) := by
    intro is0 h H locs ls hc hl
    unfold b_X0_hasSegment_17 at h
    obtain ⟨hz1, h⟩ := h
    exact g_reti (r := is0) CF hr hlk hc (narrow_01 hz1) ⟨rfl, h⟩ dX0_hasSegment_17
  have hb_16 : b_X0_hasSegment_16 g Q → ∀ (H : Heap) (locs : List Loc) (ls : Array Slot), gC D cA (gA g sz) s g H locs → lv_has ls 2 [] → W p l e r_X0_hasSegment s m args below meth c H locs 0 0 (MQ below (gQi D cA g sz (fun r g2 => g = g2 ∧ Q r)) args s 0 0 (gA g sz)) (F0 m 16 ls []) := by
    intro h H locs ls hc hl
    unfold b_X0_hasSegment_16 at h
    refine lv_iconst (v := 0) hx hb dX0_hasSegment_16 (by decide) ?_
    exact hb_17 0 h _ _ _ hc (lv_sub hl [] rfl)
  unfold w_X0_hasSegment at h
  obtain ⟨H, hH0⟩ : ∃ z, z = s.heap := ⟨_, rfl⟩
  rw [← hH0] at hc ⊢
  obtain ⟨locs, hlc0⟩ : ∃ z : List Loc, z = [] := ⟨_, rfl⟩
  rw [← hlc0] at hc ⊢
  refine lv_iload_n hx hb dX0_hasSegment_0 rfl (lv_at hl 1 rfl) ?_
  refine lv_if_lt (tgt := 16) hx hb dX0_hasSegment_1 (by decide) (fun c2 => ?_) (fun c2 => ?_)
  · have h := h.1 c2
    exact hb_16  h _ _ _ hc (lv_sub hl [] rfl)
  · have h := h.2 c2
    refine lv_iload_n hx hb dX0_hasSegment_4 rfl (lv_at hl 1 rfl) ?_
    refine lv_aload_n hx hb dX0_hasSegment_5 rfl (lv_at hl 0 rfl) ?_
    obtain ⟨hk3, h⟩ := h
    refine g_get CF hc hk3 rfl (by decide) (fun _ h9 => List.mem_cons_of_mem _ (List.mem_append_right _ (h9))) (k := 4) (by decide) (List.mem_cons_of_mem _ (List.mem_append_left _ (List.mem_of_getElem? (i := 0) rfl))) rfl dX0_hasSegment_6 ?_
    refine lv_icmp_ge (tgt := 16) hx hb dX0_hasSegment_9 (by decide) (fun c4 => ?_) (fun c4 => ?_)
    · have h := h.1 c4
      exact hb_16  h _ _ _ hc (lv_sub hl [] rfl)
    · have h := h.2 c4
      refine lv_iconst (v := 1) hx hb dX0_hasSegment_12 (by decide) ?_
      refine lv_goto (tgt := 17) hx hb dX0_hasSegment_13 (by decide) ?_
      exact hb_17 1 h _ _ _ hc (lv_sub hl [] rfl)
def b_X0_tierAt_27 (g : gS) (is0 : Int32) (Q : Int32 → Prop) : Prop :=
  Q is0
def b_X0_tierAt_17 (g : gS) (Q : Int32 → Prop) : Prop :=
  b_X0_tierAt_27 g (-1) Q
def w_X0_tierAt (g : gS) (p0 : Nat) (p1 : Int32) (Q : Int32 → Prop) : Prop :=
  gK g p0 = 1 ∧ (w_X0_hasSegment g p0 p1 (fun x2 => ((x2 = 0 → (b_X0_tierAt_17 g Q)) ∧ (¬ x2 = 0 → (∃ y5, gR g p0 3 = some y5 ∧ (gK g y5 = 21 ∧ ((p1 < (nI (gN g y5)) → (∃ y9, gR g p0 3 = some y9 ∧ (gK g y9 = 21 ∧ (vp_in p1 (gN g y9) ∧ (b_X0_tierAt_27 g (gI g y9 (Int32.toNatClampNeg p1)) Q))))) ∧ (¬ p1 < (nI (gN g y5)) → (b_X0_tierAt_17 g Q)))))))))
abbrev r_X0_tierAt : Room := { frames := 1, cells := 0, slots := 0, locals := 21 }
set_option maxHeartbeats 4000000 in
set_option maxRecDepth 100000 in
theorem c_X0_tierAt {l : Launch} {D : va_G} {cA : Nat → ClassId} {sz : Nat} {g : gS} {p0 : Nat} {p1 : Int32} {Q : Int32 → Prop} (h : w_X0_tierAt g p0 p1 Q) : Met l yX0_tierAt wsX0_tierAt r_X0_tierAt (va_Pc [.ref p0, .int p1] (gPre D cA g sz)) (gQi D cA g sz (fun r g2 => g = g2 ∧ Q r)) 0 0 (gA g sz) := by
  refine g_met (cc := cX0_tierAt) (maxL := 2) (ret := (some .int)) (own := RX0) (by decide) rfl rfl (Nat.le_of_ble_eq_true rfl) ?_
  intro p e s m args below meth c ls CF hr hlk hnm hc hl
  obtain ⟨hx, hb, hml, hown, hts⟩ := id CF
  have hl : lv_has ls 2 [(0, .ref p0), (1, .int p1)] := hl
  show W p l e r_X0_tierAt s m args below meth c s.heap [] 0 0 (MQ below (gQi D cA g sz (fun r g2 => g = g2 ∧ Q r)) args s 0 0 (gA g sz)) (F0 m 0 ls [])
  have hb_27 : ∀ (is0 : Int32), b_X0_tierAt_27 g is0 Q → ∀ (H : Heap) (locs : List Loc) (ls : Array Slot), gC D cA (gA g sz) s g H locs → lv_has ls 2 [] → W p l e r_X0_tierAt s m args below meth c H locs 0 0 (MQ below (gQi D cA g sz (fun r g2 => g = g2 ∧ Q r)) args s 0 0 (gA g sz)) (F0 m 27 ls [.int is0]) := by
    intro is0 h H locs ls hc hl
    unfold b_X0_tierAt_27 at h
    exact g_reti (r := is0) CF hr hlk hc rfl ⟨rfl, h⟩ dX0_tierAt_27
  have hb_17 : b_X0_tierAt_17 g Q → ∀ (H : Heap) (locs : List Loc) (ls : Array Slot), gC D cA (gA g sz) s g H locs → lv_has ls 2 [] → W p l e r_X0_tierAt s m args below meth c H locs 0 0 (MQ below (gQi D cA g sz (fun r g2 => g = g2 ∧ Q r)) args s 0 0 (gA g sz)) (F0 m 17 ls []) := by
    intro h H locs ls hc hl
    unfold b_X0_tierAt_17 at h
    refine lv_iconst (v := (-1)) hx hb dX0_tierAt_17 (by decide) ?_
    refine lv_goto (tgt := 27) hx hb dX0_tierAt_18 (by decide) ?_
    exact hb_27 (-1) h _ _ _ hc (lv_sub hl [] rfl)
  unfold w_X0_tierAt at h
  obtain ⟨H, hH0⟩ : ∃ z, z = s.heap := ⟨_, rfl⟩
  rw [← hH0] at hc ⊢
  obtain ⟨locs, hlc0⟩ : ∃ z : List Loc, z = [] := ⟨_, rfl⟩
  rw [← hlc0] at hc ⊢
  refine lv_aload_n hx hb dX0_tierAt_0 rfl (lv_at hl 0 rfl) ?_
  refine lv_iload_n hx hb dX0_tierAt_1 rfl (lv_at hl 1 rfl) ?_
  obtain ⟨hk1, h⟩ := h
  refine g_calli (va_runV (As := [.int p1]) (rest := []) CF (c_X0_hasSegment h) (cwV 1 hts gX0_tierAt_X0_hasSegment rfl rfl rfl (by decide +kernel) ⟨Nat.le_of_ble_eq_true rfl, Nat.le_of_ble_eq_true rfl⟩) (hc.preV hk1 rfl (by decide)) rfl rfl hl.1 rfl (lv_room (Nat.le_of_ble_eq_true rfl)) dX0_tierAt_2 ⟨Nat.le_of_ble_eq_true rfl, Nat.le_of_ble_eq_true rfl⟩) hc (fun x2 gq3 H locs hq hc => ?_)
  obtain ⟨rfl, h⟩ := hq
  refine lv_if_eq (tgt := 17) hx hb dX0_tierAt_5 (by decide) (fun c4 => ?_) (fun c4 => ?_)
  · have h := h.1 c4
    exact hb_17  h _ _ _ hc (lv_sub hl [] rfl)
  · have h := h.2 c4
    refine lv_iload_n hx hb dX0_tierAt_8 rfl (lv_at hl 1 rfl) ?_
    refine lv_aload_n hx hb dX0_tierAt_9 rfl (lv_at hl 0 rfl) ?_
    obtain ⟨y5, e6, h⟩ := h
    refine g_getr CF hc hk1 rfl (by decide) (fun _ h9 => List.mem_cons_of_mem _ (List.mem_append_right _ (h9))) (k := 3) (by decide) (List.mem_cons_of_mem _ (List.mem_append_left _ (List.mem_of_getElem? (i := 0) rfl))) e6 rfl dX0_tierAt_10 ?_
    obtain ⟨hk7, h⟩ := h
    refine g_alen CF hc (j := 0) hk7 (by decide) dX0_tierAt_13 ?_
    refine lv_icmp_lt (tgt := 21) hx hb dX0_tierAt_14 (by decide) (fun c8 => ?_) (fun c8 => ?_)
    · have h := h.1 c8
      refine lv_aload_n hx hb dX0_tierAt_21 rfl (lv_at hl 0 rfl) ?_
      obtain ⟨y9, e10, h⟩ := h
      refine g_getr CF hc hk1 rfl (by decide) (fun _ h9 => List.mem_cons_of_mem _ (List.mem_append_right _ (h9))) (k := 3) (by decide) (List.mem_cons_of_mem _ (List.mem_append_left _ (List.mem_of_getElem? (i := 0) rfl))) e10 rfl dX0_tierAt_22 ?_
      refine lv_iload_n hx hb dX0_tierAt_25 rfl (lv_at hl 1 rfl) ?_
      obtain ⟨hk11, h⟩ := h
      obtain ⟨hi12, h⟩ := h
      refine g_iald CF hc hk11 hi12 dX0_tierAt_26 ?_
      exact hb_27 (gI g y9 (Int32.toNatClampNeg p1)) h _ _ _ hc (lv_sub hl [] rfl)
    · have h := h.2 c8
      exact hb_17  h _ _ _ hc (lv_sub hl [] rfl)
def b_X0_appendSegment_49 (g : gS) (r0 : Nat) (i1 : Int32) (Q : gS → Prop) (k15 : gS → Int32 → Prop) : Prop :=
  k15 g (i1 + 1)
def l_X0_appendSegment_15 (r0 : Nat) (Q : gS → Prop) (g : gS) (i1 : Int32) (k15 : gS → Int32 → Prop) : Prop :=
  gK g r0 = 1 ∧ (((gI g r0 1) ≤ i1 → (∃ y3, gR g r0 3 = some y3 ∧ (gK g y3 = 21 ∧ (vp_in (gI g r0 4) (gN g y3) ∧ (∀ g7, g7 = sU g y3 (Int32.toNatClampNeg (gI g r0 4)) 0 → (gK g7 r0 = 1 ∧ (∀ g10, g10 = sU g7 r0 4 ((gI g7 r0 4) + 1) → (Q g10)))))))) ∧ (¬ (gI g r0 1) ≤ i1 → (w_X0_documentAt g r0 i1 (fun o12 => ((o12 = none → (b_X0_appendSegment_49 g r0 i1 Q k15)) ∧ (∀ y14, o12 = some y14 → (gK g y14 = 3 ∧ (((gI g y14 3) = (-1) → (∀ g18, g18 = sU g y14 3 (gI g r0 4) → (b_X0_appendSegment_49 g18 r0 i1 Q k15))) ∧ (¬ (gI g y14 3) = (-1) → (b_X0_appendSegment_49 g r0 i1 Q k15))))))))))
def w_X0_appendSegment (g0 : gS) (p0 : Nat) (Q : gS → Prop) : Prop :=
  gK g0 p0 = 1 ∧ (∃ y22, gR g0 p0 3 = some y22 ∧ (gK g0 y22 = 21 ∧ (((gI g0 p0 4) < (nI (gN g0 y22)) → (lpx2 (l_X0_appendSegment_15 p0 Q) g0 0)) ∧ (¬ (gI g0 p0 4) < (nI (gN g0 y22)) → (Q g0)))))
abbrev r_X0_appendSegment : Room := { frames := 1, cells := 0, slots := 0, locals := 21 }
set_option maxHeartbeats 4000000 in
set_option maxRecDepth 100000 in
theorem c_X0_appendSegment {l : Launch} {D : va_G} {cA : Nat → ClassId} {sz : Nat} {g0 : gS} {p0 : Nat} {Q : gS → Prop} (h : w_X0_appendSegment g0 p0 Q) : Met l yX0_appendSegment wsX0_appendSegment r_X0_appendSegment (va_Pc [.ref p0] (gPre D cA g0 sz)) (gQv D cA g0 sz (Q)) 0 0 (gA g0 sz) := by
  refine g_met (cc := cX0_appendSegment) (maxL := 3) (ret := none) (own := RX0) (by decide) rfl rfl (Nat.le_of_ble_eq_true rfl) ?_
  intro p e s m args below meth c ls CF hr hlk hnm hc hl
  obtain ⟨hx, hb, hml, hown, hts⟩ := id CF
  have hl : lv_has ls 3 [(0, .ref p0)] := hl
  show W p l e r_X0_appendSegment s m args below meth c s.heap [] 0 0 (MQ below (gQv D cA g0 sz (Q)) args s 0 0 (gA g0 sz)) (F0 m 0 ls [])
  have hb_15 : ∀ (r0 : Nat), ∀ (g : gS) (i1 : Int32), lpx2 (l_X0_appendSegment_15 r0 Q) g i1 → ∀ (H : Heap) (locs : List Loc) (ls : Array Slot), gC D cA (gA g0 sz) s g H locs → lv_has ls 3 [(0, .ref r0), (1, .int i1)] → W p l e r_X0_appendSegment s m args below meth c H locs 0 0 (MQ below (gQv D cA g0 sz (Q)) args s 0 0 (gA g0 sz)) (F0 m 15 ls []) := by
    intro r0
    refine lpx2_run (P := fun (g : gS) (i1 : Int32) => ∀ (H : Heap) (locs : List Loc) (ls : Array Slot), gC D cA (gA g0 sz) s g H locs → lv_has ls 3 [(0, .ref r0), (1, .int i1)] → W p l e r_X0_appendSegment s m args below meth c H locs 0 0 (MQ below (gQv D cA g0 sz (Q)) args s 0 0 (gA g0 sz)) (F0 m 15 ls [])) ?_
    intro k15 hk_15 g i1 h H locs ls hc hl
    have hb_49 : ∀ (g : gS) (i1 : Int32), b_X0_appendSegment_49 g r0 i1 Q k15 → ∀ (H : Heap) (locs : List Loc) (ls : Array Slot), gC D cA (gA g0 sz) s g H locs → lv_has ls 3 [(0, .ref r0), (1, .int i1)] → W p l e r_X0_appendSegment s m args below meth c H locs 0 0 (MQ below (gQv D cA g0 sz (Q)) args s 0 0 (gA g0 sz)) (F0 m 49 ls []) := by
      intro g i1 h H locs ls hc hl
      unfold b_X0_appendSegment_49 at h
      refine lv_iinc (v := (i1 + 1)) (lv' := [(1, .int (i1 + 1)), (0, .ref r0)]) hx hb dX0_appendSegment_49 hl (k := 1) rfl rfl (by decide) rfl (fun ls hl => ?_)
      refine lv_goto (tgt := 15) hx hb dX0_appendSegment_52 (by decide) ?_
      exact hk_15 g (i1 + 1) h _ _ _ hc (lv_sub hl [1, 0] rfl)
    unfold l_X0_appendSegment_15 at h
    refine lv_iload_n hx hb dX0_appendSegment_15 rfl (lv_at hl 1 rfl) ?_
    refine lv_aload_n hx hb dX0_appendSegment_16 rfl (lv_at hl 0 rfl) ?_
    obtain ⟨hk1, h⟩ := h
    refine g_get CF hc hk1 rfl (by decide) (fun _ h9 => List.mem_cons_of_mem _ (List.mem_append_left _ (List.mem_append_right _ (h9)))) (k := 1) (by decide) (List.mem_cons_of_mem _ (List.mem_append_left _ (List.mem_append_left _ (List.mem_of_getElem? (i := 2) rfl)))) rfl dX0_appendSegment_17 ?_
    refine lv_icmp_ge (tgt := 55) hx hb dX0_appendSegment_20 (by decide) (fun c2 => ?_) (fun c2 => ?_)
    · have h := h.1 c2
      refine lv_aload_n hx hb dX0_appendSegment_55 rfl (lv_at hl 0 rfl) ?_
      obtain ⟨y3, e4, h⟩ := h
      refine g_getr CF hc hk1 rfl (by decide) (fun _ h9 => List.mem_cons_of_mem _ (List.mem_append_left _ (List.mem_append_right _ (h9)))) (k := 3) (by decide) (List.mem_cons_of_mem _ (List.mem_append_left _ (List.mem_append_left _ (List.mem_of_getElem? (i := 1) rfl)))) e4 rfl dX0_appendSegment_56 ?_
      refine lv_aload_n hx hb dX0_appendSegment_59 rfl (lv_at hl 0 rfl) ?_
      refine g_get CF hc hk1 rfl (by decide) (fun _ h9 => List.mem_cons_of_mem _ (List.mem_append_left _ (List.mem_append_right _ (h9)))) (k := 4) (by decide) (List.mem_cons_of_mem _ (List.mem_append_left _ (List.mem_append_left _ (List.mem_of_getElem? (i := 0) rfl)))) rfl dX0_appendSegment_60 ?_
      refine lv_iconst (v := 0) hx hb dX0_appendSegment_63 (by decide) ?_
      obtain ⟨hk5, h⟩ := h
      obtain ⟨hi6, h⟩ := h
      refine g_iast CF hc hk5 (x := 0) hi6 dX0_appendSegment_64 (fun H locs hc => ?_)
      obtain ⟨g7, eg8⟩ : ∃ z, z = sU g y3 (Int32.toNatClampNeg (gI g r0 4)) 0 := ⟨_, rfl⟩
      have hc : gC D cA (gA g0 sz) s g7 H locs := by rw [eg8]; exact hc
      replace h := h g7 eg8
      refine lv_aload_n hx hb dX0_appendSegment_65 rfl (lv_at hl 0 rfl) ?_
      refine lv_dup hx hb dX0_appendSegment_66 rfl ?_
      obtain ⟨hk9, h⟩ := h
      refine g_get CF hc hk9 rfl (by decide) (fun _ h9 => List.mem_cons_of_mem _ (List.mem_append_left _ (List.mem_append_right _ (h9)))) (k := 4) (by decide) (List.mem_cons_of_mem _ (List.mem_append_left _ (List.mem_append_left _ (List.mem_of_getElem? (i := 0) rfl)))) rfl dX0_appendSegment_67 ?_
      refine lv_iconst (v := 1) hx hb dX0_appendSegment_70 (by decide) ?_
      refine lv_iadd hx hb dX0_appendSegment_71 ?_
      refine g_puti CF hc hk9 rfl (by decide) (fun _ h9 => List.mem_cons_of_mem _ (List.mem_append_left _ (List.mem_append_right _ (h9)))) tyX0 tyX0_ok nmX0 (k := 4) (by decide) (List.mem_cons_of_mem _ (List.mem_append_left _ (List.mem_append_left _ (List.mem_of_getElem? (i := 0) rfl)))) rfl (v := ((gI g7 r0 4) + 1)) rfl rfl rfl dX0_appendSegment_72 (fun H locs hc => ?_)
      obtain ⟨g10, eg11⟩ : ∃ z, z = sU g7 r0 4 ((gI g7 r0 4) + 1) := ⟨_, rfl⟩
      have hc : gC D cA (gA g0 sz) s g10 H locs := by rw [eg11]; exact hc
      replace h := h g10 eg11
      exact g_retv CF hr hlk hc h dX0_appendSegment_75
    · have h := h.2 c2
      refine lv_aload_n hx hb dX0_appendSegment_23 rfl (lv_at hl 0 rfl) ?_
      refine lv_iload_n hx hb dX0_appendSegment_24 rfl (lv_at hl 1 rfl) ?_
      refine g_callq (va_runV (As := [.int i1]) (rest := []) CF (c_X0_documentAt h) (cwV 1 hts gX0_appendSegment_X0_documentAt rfl rfl rfl (by decide +kernel) ⟨Nat.le_of_ble_eq_true rfl, Nat.le_of_ble_eq_true rfl⟩) (hc.preV hk1 rfl (by decide)) rfl rfl hl.1 rfl (lv_room (Nat.le_of_ble_eq_true rfl)) dX0_appendSegment_25 ⟨Nat.le_of_ble_eq_true rfl, Nat.le_of_ble_eq_true rfl⟩) hc (fun o12 gq13 H locs hq hc => ?_)
      obtain ⟨rfl, h⟩ := hq
      refine g_astore_nq (lv' := [(2, va_rf o12), (0, .ref r0), (1, .int i1)]) CF dX0_appendSegment_28 rfl hl (by decide) rfl (fun ls hl => ?_)
      refine g_aload_nq CF dX0_appendSegment_29 rfl (lv_at hl 0 rfl) ?_
      refine g_ifnull (tgt := 49) CF dX0_appendSegment_30 (by decide) (fun e15 => ?_) (fun y14 e15 => ?_)
      · have hu20 := h.1 e15
        subst e15
        have h := hu20
        exact hb_49 g i1 h _ _ _ hc (lv_sub hl [1, 2] rfl)
      · have hu20 := h.2 y14 e15
        subst e15
        have h := hu20
        refine lv_aload_n hx hb dX0_appendSegment_33 rfl (lv_at hl 0 rfl) ?_
        obtain ⟨hk16, h⟩ := h
        refine g_get CF hc hk16 rfl (by decide) (fun _ h9 => List.mem_cons_of_mem _ (List.mem_append_right _ (h9))) (k := 3) (by decide) (List.mem_cons_of_mem _ (List.mem_append_left _ (List.mem_append_left _ (List.mem_of_getElem? (i := 3) rfl)))) rfl dX0_appendSegment_34 ?_
        refine lv_iconst (v := (-1)) hx hb dX0_appendSegment_37 (by decide) ?_
        refine lv_icmp_ne (tgt := 49) hx hb dX0_appendSegment_38 (by decide) (fun c17 => ?_) (fun c17 => ?_)
        · have h := h.2 c17
          exact hb_49 g i1 h _ _ _ hc (lv_sub hl [1, 2] rfl)
        · have h := h.1 c17
          refine lv_aload_n hx hb dX0_appendSegment_41 rfl (lv_at hl 0 rfl) ?_
          refine lv_aload_n hx hb dX0_appendSegment_42 rfl (lv_at hl 1 rfl) ?_
          refine g_get CF hc hk1 rfl (by decide) (fun _ h9 => List.mem_cons_of_mem _ (List.mem_append_left _ (List.mem_append_right _ (h9)))) (k := 4) (by decide) (List.mem_cons_of_mem _ (List.mem_append_left _ (List.mem_append_left _ (List.mem_of_getElem? (i := 0) rfl)))) rfl dX0_appendSegment_43 ?_
          refine g_puti CF hc hk16 rfl (by decide) (fun _ h9 => List.mem_cons_of_mem _ (List.mem_append_right _ (h9))) tyX2 tyX2_ok nmX2 (k := 3) (by decide) (List.mem_cons_of_mem _ (List.mem_append_left _ (List.mem_append_left _ (List.mem_of_getElem? (i := 3) rfl)))) rfl (v := (gI g r0 4)) rfl rfl rfl dX0_appendSegment_46 (fun H locs hc => ?_)
          obtain ⟨g18, eg19⟩ : ∃ z, z = sU g y14 3 (gI g r0 4) := ⟨_, rfl⟩
          have hc : gC D cA (gA g0 sz) s g18 H locs := by rw [eg19]; exact hc
          replace h := h g18 eg19
          exact hb_49 g18 i1 h _ _ _ hc (lv_sub hl [1, 2] rfl)
  unfold w_X0_appendSegment at h
  obtain ⟨H, hH0⟩ : ∃ z, z = s.heap := ⟨_, rfl⟩
  rw [← hH0] at hc ⊢
  obtain ⟨locs, hlc0⟩ : ∃ z : List Loc, z = [] := ⟨_, rfl⟩
  rw [← hlc0] at hc ⊢
  refine lv_aload_n hx hb dX0_appendSegment_0 rfl (lv_at hl 0 rfl) ?_
  obtain ⟨hk21, h⟩ := h
  refine g_get CF hc hk21 rfl (by decide) (fun _ h9 => List.mem_cons_of_mem _ (List.mem_append_left _ (List.mem_append_right _ (h9)))) (k := 4) (by decide) (List.mem_cons_of_mem _ (List.mem_append_left _ (List.mem_append_left _ (List.mem_of_getElem? (i := 0) rfl)))) rfl dX0_appendSegment_1 ?_
  refine lv_aload_n hx hb dX0_appendSegment_4 rfl (lv_at hl 0 rfl) ?_
  obtain ⟨y22, e23, h⟩ := h
  refine g_getr CF hc hk21 rfl (by decide) (fun _ h9 => List.mem_cons_of_mem _ (List.mem_append_left _ (List.mem_append_right _ (h9)))) (k := 3) (by decide) (List.mem_cons_of_mem _ (List.mem_append_left _ (List.mem_append_left _ (List.mem_of_getElem? (i := 1) rfl)))) e23 rfl dX0_appendSegment_5 ?_
  obtain ⟨hk24, h⟩ := h
  refine g_alen CF hc (j := 0) hk24 (by decide) dX0_appendSegment_8 ?_
  refine lv_icmp_lt (tgt := 13) hx hb dX0_appendSegment_9 (by decide) (fun c25 => ?_) (fun c25 => ?_)
  · have h := h.1 c25
    refine lv_iconst (v := 0) hx hb dX0_appendSegment_13 (by decide) ?_
    refine lv_istore_n (lv' := [(1, .int 0), (0, .ref p0)]) hx hb dX0_appendSegment_14 rfl hl (by decide) rfl (fun ls hl => ?_)
    exact hb_15 p0 g0 0 h _ _ _ hc (lv_sub hl [1, 0] rfl)
  · have h := h.2 c25
    exact g_retv CF hr hlk hc h dX0_appendSegment_12
def b_X0_lastThreeAreAlike_47 (g : gS) (is0 : Int32) (Q : Int32 → Prop) : Prop :=
  (is0 = 0 ∨ is0 = 1) ∧ (Q is0)
def b_X0_lastThreeAreAlike_46 (g : gS) (Q : Int32 → Prop) : Prop :=
  b_X0_lastThreeAreAlike_47 g 0 Q
def w_X0_lastThreeAreAlike (g : gS) (p0 : Nat) (Q : Int32 → Prop) : Prop :=
  gK g p0 = 1 ∧ ((((gI g p0 4) - 1) < 2 → (b_X0_lastThreeAreAlike_46 g Q)) ∧ (¬ ((gI g p0 4) - 1) < 2 → (w_X0_tierAt g p0 ((gI g p0 4) - 1) (fun x4 => (w_X0_tierAt g p0 (((gI g p0 4) - 1) - 1) (fun x6 => ((x4 = x6 → (w_X0_tierAt g p0 ((gI g p0 4) - 1) (fun x9 => (w_X0_tierAt g p0 (((gI g p0 4) - 1) - 2) (fun x11 => ((x9 = x11 → (b_X0_lastThreeAreAlike_47 g 1 Q)) ∧ (¬ x9 = x11 → (b_X0_lastThreeAreAlike_46 g Q)))))))) ∧ (¬ x4 = x6 → (b_X0_lastThreeAreAlike_46 g Q)))))))))
abbrev r_X0_lastThreeAreAlike : Room := { frames := 2, cells := 0, slots := 0, locals := 42 }
set_option maxHeartbeats 4000000 in
set_option maxRecDepth 100000 in
theorem c_X0_lastThreeAreAlike {l : Launch} {D : va_G} {cA : Nat → ClassId} {sz : Nat} {g : gS} {p0 : Nat} {Q : Int32 → Prop} (h : w_X0_lastThreeAreAlike g p0 Q) : Met l yX0_lastThreeAreAlike wsX0_lastThreeAreAlike r_X0_lastThreeAreAlike (va_Pc [.ref p0] (gPre D cA g sz)) (gQi D cA g sz (fun r g2 => g = g2 ∧ Q r)) 0 0 (gA g sz) := by
  refine g_met (cc := cX0_lastThreeAreAlike) (maxL := 2) (ret := (some .boolean)) (own := RX0) (by decide) rfl rfl (Nat.le_of_ble_eq_true rfl) ?_
  intro p e s m args below meth c ls CF hr hlk hnm hc hl
  obtain ⟨hx, hb, hml, hown, hts⟩ := id CF
  have hl : lv_has ls 2 [(0, .ref p0)] := hl
  show W p l e r_X0_lastThreeAreAlike s m args below meth c s.heap [] 0 0 (MQ below (gQi D cA g sz (fun r g2 => g = g2 ∧ Q r)) args s 0 0 (gA g sz)) (F0 m 0 ls [])
  have hb_47 : ∀ (is0 : Int32), b_X0_lastThreeAreAlike_47 g is0 Q → ∀ (H : Heap) (locs : List Loc) (ls : Array Slot), gC D cA (gA g sz) s g H locs → lv_has ls 2 [] → W p l e r_X0_lastThreeAreAlike s m args below meth c H locs 0 0 (MQ below (gQi D cA g sz (fun r g2 => g = g2 ∧ Q r)) args s 0 0 (gA g sz)) (F0 m 47 ls [.int is0]) := by
    intro is0 h H locs ls hc hl
    unfold b_X0_lastThreeAreAlike_47 at h
    obtain ⟨hz1, h⟩ := h
    exact g_reti (r := is0) CF hr hlk hc (narrow_01 hz1) ⟨rfl, h⟩ dX0_lastThreeAreAlike_47
  have hb_46 : b_X0_lastThreeAreAlike_46 g Q → ∀ (H : Heap) (locs : List Loc) (ls : Array Slot), gC D cA (gA g sz) s g H locs → lv_has ls 2 [] → W p l e r_X0_lastThreeAreAlike s m args below meth c H locs 0 0 (MQ below (gQi D cA g sz (fun r g2 => g = g2 ∧ Q r)) args s 0 0 (gA g sz)) (F0 m 46 ls []) := by
    intro h H locs ls hc hl
    unfold b_X0_lastThreeAreAlike_46 at h
    refine lv_iconst (v := 0) hx hb dX0_lastThreeAreAlike_46 (by decide) ?_
    exact hb_47 0 h _ _ _ hc (lv_sub hl [] rfl)
  unfold w_X0_lastThreeAreAlike at h
  obtain ⟨H, hH0⟩ : ∃ z, z = s.heap := ⟨_, rfl⟩
  rw [← hH0] at hc ⊢
  obtain ⟨locs, hlc0⟩ : ∃ z : List Loc, z = [] := ⟨_, rfl⟩
  rw [← hlc0] at hc ⊢
  refine lv_aload_n hx hb dX0_lastThreeAreAlike_0 rfl (lv_at hl 0 rfl) ?_
  obtain ⟨hk2, h⟩ := h
  refine g_get CF hc hk2 rfl (by decide) (fun _ h9 => List.mem_cons_of_mem _ (List.mem_append_right _ (h9))) (k := 4) (by decide) (List.mem_cons_of_mem _ (List.mem_append_left _ (List.mem_of_getElem? (i := 0) rfl))) rfl dX0_lastThreeAreAlike_1 ?_
  refine lv_iconst (v := 1) hx hb dX0_lastThreeAreAlike_4 (by decide) ?_
  refine lv_isub hx hb dX0_lastThreeAreAlike_5 ?_
  refine lv_istore_n (lv' := [(1, .int ((gI g p0 4) - 1)), (0, .ref p0)]) hx hb dX0_lastThreeAreAlike_6 rfl hl (by decide) rfl (fun ls hl => ?_)
  refine lv_iload_n hx hb dX0_lastThreeAreAlike_7 rfl (lv_at hl 0 rfl) ?_
  refine lv_iconst (v := 2) hx hb dX0_lastThreeAreAlike_8 (by decide) ?_
  refine lv_icmp_lt (tgt := 46) hx hb dX0_lastThreeAreAlike_9 (by decide) (fun c3 => ?_) (fun c3 => ?_)
  · have h := h.1 c3
    exact hb_46  h _ _ _ hc (lv_sub hl [] rfl)
  · have h := h.2 c3
    refine lv_aload_n hx hb dX0_lastThreeAreAlike_12 rfl (lv_at hl 1 rfl) ?_
    refine lv_iload_n hx hb dX0_lastThreeAreAlike_13 rfl (lv_at hl 0 rfl) ?_
    refine g_calli (va_runV (As := [.int ((gI g p0 4) - 1)]) (rest := []) CF (c_X0_tierAt h) (cwV 1 hts gX0_lastThreeAreAlike_X0_tierAt rfl rfl rfl (by decide +kernel) ⟨Nat.le_of_ble_eq_true rfl, Nat.le_of_ble_eq_true rfl⟩) (hc.preV hk2 rfl (by decide)) rfl rfl hl.1 rfl (lv_room (Nat.le_of_ble_eq_true rfl)) dX0_lastThreeAreAlike_14 ⟨Nat.le_of_ble_eq_true rfl, Nat.le_of_ble_eq_true rfl⟩) hc (fun x4 gq5 H locs hq hc => ?_)
    obtain ⟨rfl, h⟩ := hq
    refine lv_aload_n hx hb dX0_lastThreeAreAlike_17 rfl (lv_at hl 1 rfl) ?_
    refine lv_iload_n hx hb dX0_lastThreeAreAlike_18 rfl (lv_at hl 0 rfl) ?_
    refine lv_iconst (v := 1) hx hb dX0_lastThreeAreAlike_19 (by decide) ?_
    refine lv_isub hx hb dX0_lastThreeAreAlike_20 ?_
    refine g_calli (va_runV (As := [.int (((gI g p0 4) - 1) - 1)]) (rest := [.int x4]) CF (c_X0_tierAt h) (cwV 1 hts gX0_lastThreeAreAlike_X0_tierAt rfl rfl rfl (by decide +kernel) ⟨Nat.le_of_ble_eq_true rfl, Nat.le_of_ble_eq_true rfl⟩) (hc.preV hk2 rfl (by decide)) rfl rfl hl.1 rfl (lv_room (Nat.le_of_ble_eq_true rfl)) dX0_lastThreeAreAlike_21 ⟨Nat.le_of_ble_eq_true rfl, Nat.le_of_ble_eq_true rfl⟩) hc (fun x6 gq7 H locs hq hc => ?_)
    obtain ⟨rfl, h⟩ := hq
    refine lv_icmp_ne (tgt := 46) hx hb dX0_lastThreeAreAlike_24 (by decide) (fun c8 => ?_) (fun c8 => ?_)
    · have h := h.2 c8
      exact hb_46  h _ _ _ hc (lv_sub hl [] rfl)
    · have h := h.1 c8
      refine lv_aload_n hx hb dX0_lastThreeAreAlike_27 rfl (lv_at hl 1 rfl) ?_
      refine lv_iload_n hx hb dX0_lastThreeAreAlike_28 rfl (lv_at hl 0 rfl) ?_
      refine g_calli (va_runV (As := [.int ((gI g p0 4) - 1)]) (rest := []) CF (c_X0_tierAt h) (cwV 1 hts gX0_lastThreeAreAlike_X0_tierAt rfl rfl rfl (by decide +kernel) ⟨Nat.le_of_ble_eq_true rfl, Nat.le_of_ble_eq_true rfl⟩) (hc.preV hk2 rfl (by decide)) rfl rfl hl.1 rfl (lv_room (Nat.le_of_ble_eq_true rfl)) dX0_lastThreeAreAlike_29 ⟨Nat.le_of_ble_eq_true rfl, Nat.le_of_ble_eq_true rfl⟩) hc (fun x9 gq10 H locs hq hc => ?_)
      obtain ⟨rfl, h⟩ := hq
      refine lv_aload_n hx hb dX0_lastThreeAreAlike_32 rfl (lv_at hl 1 rfl) ?_
      refine lv_iload_n hx hb dX0_lastThreeAreAlike_33 rfl (lv_at hl 0 rfl) ?_
      refine lv_iconst (v := 2) hx hb dX0_lastThreeAreAlike_34 (by decide) ?_
      refine lv_isub hx hb dX0_lastThreeAreAlike_35 ?_
      refine g_calli (va_runV (As := [.int (((gI g p0 4) - 1) - 2)]) (rest := [.int x9]) CF (c_X0_tierAt h) (cwV 1 hts gX0_lastThreeAreAlike_X0_tierAt rfl rfl rfl (by decide +kernel) ⟨Nat.le_of_ble_eq_true rfl, Nat.le_of_ble_eq_true rfl⟩) (hc.preV hk2 rfl (by decide)) rfl rfl hl.1 rfl (lv_room (Nat.le_of_ble_eq_true rfl)) dX0_lastThreeAreAlike_36 ⟨Nat.le_of_ble_eq_true rfl, Nat.le_of_ble_eq_true rfl⟩) hc (fun x11 gq12 H locs hq hc => ?_)
      obtain ⟨rfl, h⟩ := hq
      refine lv_icmp_ne (tgt := 46) hx hb dX0_lastThreeAreAlike_39 (by decide) (fun c13 => ?_) (fun c13 => ?_)
      · have h := h.2 c13
        exact hb_46  h _ _ _ hc (lv_sub hl [] rfl)
      · have h := h.1 c13
        refine lv_iconst (v := 1) hx hb dX0_lastThreeAreAlike_42 (by decide) ?_
        refine lv_goto (tgt := 47) hx hb dX0_lastThreeAreAlike_43 (by decide) ?_
        exact hb_47 1 h _ _ _ hc (lv_sub hl [] rfl)
def b_X0_mergeFrom_118 (g : gS) (i3 : Int32) (Q : Int32 → gS → Prop) : Prop :=
  Q i3 g
def b_X0_mergeFrom_72 (g : gS) (r0 : Nat) (i1 : Int32) (i2 : Int32) (i3 : Int32) (i4 : Int32) (i5 : Int32) (Q : Int32 → gS → Prop) (k8 : gS → Int32 → Int32 → Int32 → Prop) : Prop :=
  k8 g i3 i4 (i5 + 1)
def l_X0_mergeFrom_8 (r0 : Nat) (i1 : Int32) (i2 : Int32) (Q : Int32 → gS → Prop) (g : gS) (i3 : Int32) (i4 : Int32) (i5 : Int32) (k8 : gS → Int32 → Int32 → Int32 → Prop) : Prop :=
  gK g r0 = 1 ∧ (((gI g r0 1) ≤ i5 → (∀ g3, g3 = sU g r0 4 i1 → ((i4 ≤ 0 → (b_X0_mergeFrom_118 g3 i3 Q)) ∧ (¬ i4 ≤ 0 → ((i1 < 0 → (b_X0_mergeFrom_118 g3 i3 Q)) ∧ (¬ i1 < 0 → (gK g3 r0 = 1 ∧ (∃ y8, gR g3 r0 3 = some y8 ∧ (gK g3 y8 = 21 ∧ (((nI (gN g3 y8)) ≤ i1 → (b_X0_mergeFrom_118 g3 i3 Q)) ∧ (¬ (nI (gN g3 y8)) ≤ i1 → (∃ y12, gR g3 r0 3 = some y12 ∧ (gK g3 y12 = 21 ∧ (vp_in i1 (gN g3 y12) ∧ (∀ g16, g16 = sU g3 y12 (Int32.toNatClampNeg i1) i2 → (gK g16 r0 = 1 ∧ (∀ g19, g19 = sU g16 r0 4 ((gI g16 r0 4) + 1) → (b_X0_mergeFrom_118 g19 i3 Q)))))))))))))))))) ∧ (¬ (gI g r0 1) ≤ i5 → (w_X0_documentAt g r0 i5 (fun o21 => ((o21 = none → (b_X0_mergeFrom_72 g r0 i1 i2 i3 i4 i5 Q k8)) ∧ (∀ y23, o21 = some y23 → (gK g y23 = 3 ∧ ((i1 ≤ (gI g y23 3) → (((gI g y23 4) = 0 → (∀ g28, g28 = sU g y23 3 i1 → (b_X0_mergeFrom_72 g28 r0 i1 i2 i3 (i4 + 1) i5 Q k8))) ∧ (¬ (gI g y23 4) = 0 → (∀ g30, g30 = sU g y23 3 (-2) → (b_X0_mergeFrom_72 g30 r0 i1 i2 (i3 + 1) i4 i5 Q k8))))) ∧ (¬ i1 ≤ (gI g y23 3) → (b_X0_mergeFrom_72 g r0 i1 i2 i3 i4 i5 Q k8))))))))))
def w_X0_mergeFrom (g0 : gS) (p0 : Nat) (p1 : Int32) (p2 : Int32) (Q : Int32 → gS → Prop) : Prop :=
  lpx4 (l_X0_mergeFrom_8 p0 p1 p2 Q) g0 0 0 0
abbrev r_X0_mergeFrom : Room := { frames := 1, cells := 0, slots := 0, locals := 21 }
set_option maxHeartbeats 4000000 in
set_option maxRecDepth 100000 in
theorem c_X0_mergeFrom {l : Launch} {D : va_G} {cA : Nat → ClassId} {sz : Nat} {g0 : gS} {p0 : Nat} {p1 : Int32} {p2 : Int32} {Q : Int32 → gS → Prop} (h : w_X0_mergeFrom g0 p0 p1 p2 Q) : Met l yX0_mergeFrom wsX0_mergeFrom r_X0_mergeFrom (va_Pc [.ref p0, .int p1, .int p2] (gPre D cA g0 sz)) (gQi D cA g0 sz (Q)) 0 0 (gA g0 sz) := by
  refine g_met (cc := cX0_mergeFrom) (maxL := 7) (ret := (some .int)) (own := RX0) (by decide) rfl rfl (Nat.le_of_ble_eq_true rfl) ?_
  intro p e s m args below meth c ls CF hr hlk hnm hc hl
  obtain ⟨hx, hb, hml, hown, hts⟩ := id CF
  have hl : lv_has ls 7 [(0, .ref p0), (1, .int p1), (2, .int p2)] := hl
  show W p l e r_X0_mergeFrom s m args below meth c s.heap [] 0 0 (MQ below (gQi D cA g0 sz (Q)) args s 0 0 (gA g0 sz)) (F0 m 0 ls [])
  have hb_118 : ∀ (g : gS) (i3 : Int32), b_X0_mergeFrom_118 g i3 Q → ∀ (H : Heap) (locs : List Loc) (ls : Array Slot), gC D cA (gA g0 sz) s g H locs → lv_has ls 7 [(3, .int i3)] → W p l e r_X0_mergeFrom s m args below meth c H locs 0 0 (MQ below (gQi D cA g0 sz (Q)) args s 0 0 (gA g0 sz)) (F0 m 118 ls []) := by
    intro g i3 h H locs ls hc hl
    unfold b_X0_mergeFrom_118 at h
    refine lv_iload_n hx hb dX0_mergeFrom_118 rfl (lv_at hl 0 rfl) ?_
    exact g_reti (r := i3) CF hr hlk hc rfl h dX0_mergeFrom_119
  have hb_8 : ∀ (r0 : Nat) (i1 : Int32) (i2 : Int32), ∀ (g : gS) (i3 : Int32) (i4 : Int32) (i5 : Int32), lpx4 (l_X0_mergeFrom_8 r0 i1 i2 Q) g i3 i4 i5 → ∀ (H : Heap) (locs : List Loc) (ls : Array Slot), gC D cA (gA g0 sz) s g H locs → lv_has ls 7 [(0, .ref r0), (1, .int i1), (2, .int i2), (3, .int i3), (4, .int i4), (5, .int i5)] → W p l e r_X0_mergeFrom s m args below meth c H locs 0 0 (MQ below (gQi D cA g0 sz (Q)) args s 0 0 (gA g0 sz)) (F0 m 8 ls []) := by
    intro r0 i1 i2
    refine lpx4_run (P := fun (g : gS) (i3 : Int32) (i4 : Int32) (i5 : Int32) => ∀ (H : Heap) (locs : List Loc) (ls : Array Slot), gC D cA (gA g0 sz) s g H locs → lv_has ls 7 [(0, .ref r0), (1, .int i1), (2, .int i2), (3, .int i3), (4, .int i4), (5, .int i5)] → W p l e r_X0_mergeFrom s m args below meth c H locs 0 0 (MQ below (gQi D cA g0 sz (Q)) args s 0 0 (gA g0 sz)) (F0 m 8 ls [])) ?_
    intro k8 hk_8 g i3 i4 i5 h H locs ls hc hl
    have hb_72 : ∀ (g : gS) (i3 : Int32) (i4 : Int32) (i5 : Int32), b_X0_mergeFrom_72 g r0 i1 i2 i3 i4 i5 Q k8 → ∀ (H : Heap) (locs : List Loc) (ls : Array Slot), gC D cA (gA g0 sz) s g H locs → lv_has ls 7 [(0, .ref r0), (1, .int i1), (2, .int i2), (3, .int i3), (4, .int i4), (5, .int i5)] → W p l e r_X0_mergeFrom s m args below meth c H locs 0 0 (MQ below (gQi D cA g0 sz (Q)) args s 0 0 (gA g0 sz)) (F0 m 72 ls []) := by
      intro g i3 i4 i5 h H locs ls hc hl
      unfold b_X0_mergeFrom_72 at h
      refine lv_iinc (v := (i5 + 1)) (lv' := [(5, .int (i5 + 1)), (0, .ref r0), (1, .int i1), (2, .int i2), (3, .int i3), (4, .int i4)]) hx hb dX0_mergeFrom_72 hl (k := 5) rfl rfl (by decide) rfl (fun ls hl => ?_)
      refine lv_goto (tgt := 8) hx hb dX0_mergeFrom_75 (by decide) ?_
      exact hk_8 g i3 i4 (i5 + 1) h _ _ _ hc (lv_sub hl [1, 2, 3, 4, 5, 0] rfl)
    unfold l_X0_mergeFrom_8 at h
    refine lv_iload hx hb dX0_mergeFrom_8 (lv_at hl 5 rfl) ?_
    refine lv_aload_n hx hb dX0_mergeFrom_10 rfl (lv_at hl 0 rfl) ?_
    obtain ⟨hk1, h⟩ := h
    refine g_get CF hc hk1 rfl (by decide) (fun _ h9 => List.mem_cons_of_mem _ (List.mem_append_left _ (List.mem_append_right _ (h9)))) (k := 1) (by decide) (List.mem_cons_of_mem _ (List.mem_append_left _ (List.mem_append_left _ (List.mem_of_getElem? (i := 0) rfl)))) rfl dX0_mergeFrom_11 ?_
    refine lv_icmp_ge (tgt := 78) hx hb dX0_mergeFrom_14 (by decide) (fun c2 => ?_) (fun c2 => ?_)
    · have h := h.1 c2
      refine lv_aload_n hx hb dX0_mergeFrom_78 rfl (lv_at hl 0 rfl) ?_
      refine lv_iload_n hx hb dX0_mergeFrom_79 rfl (lv_at hl 1 rfl) ?_
      refine g_puti CF hc hk1 rfl (by decide) (fun _ h9 => List.mem_cons_of_mem _ (List.mem_append_left _ (List.mem_append_right _ (h9)))) tyX0 tyX0_ok nmX0 (k := 4) (by decide) (List.mem_cons_of_mem _ (List.mem_append_left _ (List.mem_append_left _ (List.mem_of_getElem? (i := 3) rfl)))) rfl (v := i1) rfl rfl rfl dX0_mergeFrom_80 (fun H locs hc => ?_)
      obtain ⟨g3, eg4⟩ : ∃ z, z = sU g r0 4 i1 := ⟨_, rfl⟩
      have hc : gC D cA (gA g0 sz) s g3 H locs := by rw [eg4]; exact hc
      replace h := h g3 eg4
      refine lv_iload hx hb dX0_mergeFrom_83 (lv_at hl 4 rfl) ?_
      refine lv_if_le (tgt := 118) hx hb dX0_mergeFrom_85 (by decide) (fun c5 => ?_) (fun c5 => ?_)
      · have h := h.1 c5
        exact hb_118 g3 i3 h _ _ _ hc (lv_sub hl [3] rfl)
      · have h := h.2 c5
        refine lv_iload_n hx hb dX0_mergeFrom_88 rfl (lv_at hl 1 rfl) ?_
        refine lv_if_lt (tgt := 118) hx hb dX0_mergeFrom_89 (by decide) (fun c6 => ?_) (fun c6 => ?_)
        · have h := h.1 c6
          exact hb_118 g3 i3 h _ _ _ hc (lv_sub hl [3] rfl)
        · have h := h.2 c6
          refine lv_iload_n hx hb dX0_mergeFrom_92 rfl (lv_at hl 1 rfl) ?_
          refine lv_aload_n hx hb dX0_mergeFrom_93 rfl (lv_at hl 0 rfl) ?_
          obtain ⟨hk7, h⟩ := h
          obtain ⟨y8, e9, h⟩ := h
          refine g_getr CF hc hk7 rfl (by decide) (fun _ h9 => List.mem_cons_of_mem _ (List.mem_append_left _ (List.mem_append_right _ (h9)))) (k := 3) (by decide) (List.mem_cons_of_mem _ (List.mem_append_left _ (List.mem_append_left _ (List.mem_of_getElem? (i := 4) rfl)))) e9 rfl dX0_mergeFrom_94 ?_
          obtain ⟨hk10, h⟩ := h
          refine g_alen CF hc (j := 0) hk10 (by decide) dX0_mergeFrom_97 ?_
          refine lv_icmp_ge (tgt := 118) hx hb dX0_mergeFrom_98 (by decide) (fun c11 => ?_) (fun c11 => ?_)
          · have h := h.1 c11
            exact hb_118 g3 i3 h _ _ _ hc (lv_sub hl [3] rfl)
          · have h := h.2 c11
            refine lv_aload_n hx hb dX0_mergeFrom_101 rfl (lv_at hl 0 rfl) ?_
            obtain ⟨y12, e13, h⟩ := h
            refine g_getr CF hc hk7 rfl (by decide) (fun _ h9 => List.mem_cons_of_mem _ (List.mem_append_left _ (List.mem_append_right _ (h9)))) (k := 3) (by decide) (List.mem_cons_of_mem _ (List.mem_append_left _ (List.mem_append_left _ (List.mem_of_getElem? (i := 4) rfl)))) e13 rfl dX0_mergeFrom_102 ?_
            refine lv_iload_n hx hb dX0_mergeFrom_105 rfl (lv_at hl 1 rfl) ?_
            refine lv_iload_n hx hb dX0_mergeFrom_106 rfl (lv_at hl 2 rfl) ?_
            obtain ⟨hk14, h⟩ := h
            obtain ⟨hi15, h⟩ := h
            refine g_iast CF hc hk14 (x := i2) hi15 dX0_mergeFrom_107 (fun H locs hc => ?_)
            obtain ⟨g16, eg17⟩ : ∃ z, z = sU g3 y12 (Int32.toNatClampNeg i1) i2 := ⟨_, rfl⟩
            have hc : gC D cA (gA g0 sz) s g16 H locs := by rw [eg17]; exact hc
            replace h := h g16 eg17
            refine lv_aload_n hx hb dX0_mergeFrom_108 rfl (lv_at hl 0 rfl) ?_
            refine lv_dup hx hb dX0_mergeFrom_109 rfl ?_
            obtain ⟨hk18, h⟩ := h
            refine g_get CF hc hk18 rfl (by decide) (fun _ h9 => List.mem_cons_of_mem _ (List.mem_append_left _ (List.mem_append_right _ (h9)))) (k := 4) (by decide) (List.mem_cons_of_mem _ (List.mem_append_left _ (List.mem_append_left _ (List.mem_of_getElem? (i := 3) rfl)))) rfl dX0_mergeFrom_110 ?_
            refine lv_iconst (v := 1) hx hb dX0_mergeFrom_113 (by decide) ?_
            refine lv_iadd hx hb dX0_mergeFrom_114 ?_
            refine g_puti CF hc hk18 rfl (by decide) (fun _ h9 => List.mem_cons_of_mem _ (List.mem_append_left _ (List.mem_append_right _ (h9)))) tyX0 tyX0_ok nmX0 (k := 4) (by decide) (List.mem_cons_of_mem _ (List.mem_append_left _ (List.mem_append_left _ (List.mem_of_getElem? (i := 3) rfl)))) rfl (v := ((gI g16 r0 4) + 1)) rfl rfl rfl dX0_mergeFrom_115 (fun H locs hc => ?_)
            obtain ⟨g19, eg20⟩ : ∃ z, z = sU g16 r0 4 ((gI g16 r0 4) + 1) := ⟨_, rfl⟩
            have hc : gC D cA (gA g0 sz) s g19 H locs := by rw [eg20]; exact hc
            replace h := h g19 eg20
            exact hb_118 g19 i3 h _ _ _ hc (lv_sub hl [3] rfl)
    · have h := h.2 c2
      refine lv_aload_n hx hb dX0_mergeFrom_17 rfl (lv_at hl 0 rfl) ?_
      refine lv_iload hx hb dX0_mergeFrom_18 (lv_at hl 5 rfl) ?_
      refine g_callq (va_runV (As := [.int i5]) (rest := []) CF (c_X0_documentAt h) (cwV 1 hts gX0_mergeFrom_X0_documentAt rfl rfl rfl (by decide +kernel) ⟨Nat.le_of_ble_eq_true rfl, Nat.le_of_ble_eq_true rfl⟩) (hc.preV hk1 rfl (by decide)) rfl rfl hl.1 rfl (lv_room (Nat.le_of_ble_eq_true rfl)) dX0_mergeFrom_20 ⟨Nat.le_of_ble_eq_true rfl, Nat.le_of_ble_eq_true rfl⟩) hc (fun o21 gq22 H locs hq hc => ?_)
      obtain ⟨rfl, h⟩ := hq
      refine g_astoreq (lv' := [(6, va_rf o21), (0, .ref r0), (1, .int i1), (2, .int i2), (3, .int i3), (4, .int i4), (5, .int i5)]) CF dX0_mergeFrom_23 hl (by decide) rfl (fun ls hl => ?_)
      refine g_aloadq CF dX0_mergeFrom_25 (lv_at hl 0 rfl) ?_
      refine g_ifnull (tgt := 72) CF dX0_mergeFrom_27 (by decide) (fun e24 => ?_) (fun y23 e24 => ?_)
      · have hu32 := h.1 e24
        subst e24
        have h := hu32
        exact hb_72 g i3 i4 i5 h _ _ _ hc (lv_sub hl [1, 2, 3, 4, 5, 6] rfl)
      · have hu32 := h.2 y23 e24
        subst e24
        have h := hu32
        refine lv_aload hx hb dX0_mergeFrom_30 (lv_at hl 0 rfl) ?_
        obtain ⟨hk25, h⟩ := h
        refine g_get CF hc hk25 rfl (by decide) (fun _ h9 => List.mem_cons_of_mem _ (List.mem_append_right _ (h9))) (k := 3) (by decide) (List.mem_cons_of_mem _ (List.mem_append_left _ (List.mem_append_left _ (List.mem_of_getElem? (i := 1) rfl)))) rfl dX0_mergeFrom_32 ?_
        refine lv_iload_n hx hb dX0_mergeFrom_35 rfl (lv_at hl 2 rfl) ?_
        refine lv_icmp_ge (tgt := 42) hx hb dX0_mergeFrom_36 (by decide) (fun c26 => ?_) (fun c26 => ?_)
        · have h := h.1 c26
          refine lv_aload hx hb dX0_mergeFrom_42 (lv_at hl 0 rfl) ?_
          refine g_get CF hc hk25 rfl (by decide) (fun _ h9 => List.mem_cons_of_mem _ (List.mem_append_right _ (h9))) (k := 4) (by decide) (List.mem_cons_of_mem _ (List.mem_append_left _ (List.mem_append_left _ (List.mem_of_getElem? (i := 2) rfl)))) rfl dX0_mergeFrom_44 ?_
          refine lv_if_eq (tgt := 63) hx hb dX0_mergeFrom_47 (by decide) (fun c27 => ?_) (fun c27 => ?_)
          · have h := h.1 c27
            refine lv_aload hx hb dX0_mergeFrom_63 (lv_at hl 0 rfl) ?_
            refine lv_iload_n hx hb dX0_mergeFrom_65 rfl (lv_at hl 2 rfl) ?_
            refine g_puti CF hc hk25 rfl (by decide) (fun _ h9 => List.mem_cons_of_mem _ (List.mem_append_right _ (h9))) tyX2 tyX2_ok nmX2 (k := 3) (by decide) (List.mem_cons_of_mem _ (List.mem_append_left _ (List.mem_append_left _ (List.mem_of_getElem? (i := 1) rfl)))) rfl (v := i1) rfl rfl rfl dX0_mergeFrom_66 (fun H locs hc => ?_)
            obtain ⟨g28, eg29⟩ : ∃ z, z = sU g y23 3 i1 := ⟨_, rfl⟩
            have hc : gC D cA (gA g0 sz) s g28 H locs := by rw [eg29]; exact hc
            replace h := h g28 eg29
            refine lv_iinc (v := (i4 + 1)) (lv' := [(4, .int (i4 + 1)), (6, .ref y23), (0, .ref r0), (1, .int i1), (2, .int i2), (3, .int i3), (5, .int i5)]) hx hb dX0_mergeFrom_69 hl (k := 5) rfl rfl (by decide) rfl (fun ls hl => ?_)
            exact hb_72 g28 i3 (i4 + 1) i5 h _ _ _ hc (lv_sub hl [2, 3, 4, 5, 0, 6] rfl)
          · have h := h.2 c27
            refine lv_aload hx hb dX0_mergeFrom_50 (lv_at hl 0 rfl) ?_
            refine lv_bipush (v := (-2)) hx hb dX0_mergeFrom_52 (by decide) ?_
            refine g_puti CF hc hk25 rfl (by decide) (fun _ h9 => List.mem_cons_of_mem _ (List.mem_append_right _ (h9))) tyX2 tyX2_ok nmX2 (k := 3) (by decide) (List.mem_cons_of_mem _ (List.mem_append_left _ (List.mem_append_left _ (List.mem_of_getElem? (i := 1) rfl)))) rfl (v := (-2)) rfl rfl rfl dX0_mergeFrom_54 (fun H locs hc => ?_)
            obtain ⟨g30, eg31⟩ : ∃ z, z = sU g y23 3 (-2) := ⟨_, rfl⟩
            have hc : gC D cA (gA g0 sz) s g30 H locs := by rw [eg31]; exact hc
            replace h := h g30 eg31
            refine lv_iinc (v := (i3 + 1)) (lv' := [(3, .int (i3 + 1)), (6, .ref y23), (0, .ref r0), (1, .int i1), (2, .int i2), (4, .int i4), (5, .int i5)]) hx hb dX0_mergeFrom_57 hl (k := 4) rfl rfl (by decide) rfl (fun ls hl => ?_)
            refine lv_goto (tgt := 72) hx hb dX0_mergeFrom_60 (by decide) ?_
            exact hb_72 g30 (i3 + 1) i4 i5 h _ _ _ hc (lv_sub hl [2, 3, 4, 0, 5, 6] rfl)
        · have h := h.2 c26
          refine lv_goto (tgt := 72) hx hb dX0_mergeFrom_39 (by decide) ?_
          exact hb_72 g i3 i4 i5 h _ _ _ hc (lv_sub hl [1, 2, 3, 4, 5, 6] rfl)
  unfold w_X0_mergeFrom at h
  obtain ⟨H, hH0⟩ : ∃ z, z = s.heap := ⟨_, rfl⟩
  rw [← hH0] at hc ⊢
  obtain ⟨locs, hlc0⟩ : ∃ z : List Loc, z = [] := ⟨_, rfl⟩
  rw [← hlc0] at hc ⊢
  refine lv_iconst (v := 0) hx hb dX0_mergeFrom_0 (by decide) ?_
  refine lv_istore_n (lv' := [(3, .int 0), (0, .ref p0), (1, .int p1), (2, .int p2)]) hx hb dX0_mergeFrom_1 rfl hl (by decide) rfl (fun ls hl => ?_)
  refine lv_iconst (v := 0) hx hb dX0_mergeFrom_2 (by decide) ?_
  refine lv_istore (lv' := [(4, .int 0), (3, .int 0), (0, .ref p0), (1, .int p1), (2, .int p2)]) hx hb dX0_mergeFrom_3 hl (by decide) rfl (fun ls hl => ?_)
  refine lv_iconst (v := 0) hx hb dX0_mergeFrom_5 (by decide) ?_
  refine lv_istore (lv' := [(5, .int 0), (4, .int 0), (3, .int 0), (0, .ref p0), (1, .int p1), (2, .int p2)]) hx hb dX0_mergeFrom_6 hl (by decide) rfl (fun ls hl => ?_)
  exact hb_8 p0 p1 p2 g0 0 0 0 h _ _ _ hc (lv_sub hl [3, 4, 5, 2, 1, 0] rfl)
def b_X0_recount_42 (g : gS) (r0 : Nat) (i1 : Int32) (Q : gS → Prop) (k9 : gS → Int32 → Prop) : Prop :=
  k9 g (i1 + 1)
def l_X0_recount_9 (r0 : Nat) (Q : gS → Prop) (g : gS) (i1 : Int32) (k9 : gS → Int32 → Prop) : Prop :=
  gK g r0 = 1 ∧ (((gI g r0 1) ≤ i1 → (Q g)) ∧ (¬ (gI g r0 1) ≤ i1 → (w_X0_documentAt g r0 i1 (fun o3 => ((o3 = none → (b_X0_recount_42 g r0 i1 Q k9)) ∧ (∀ y5, o3 = some y5 → (gK g y5 = 3 ∧ (w_X2_liesInSegment g y5 (fun x8 => ((x8 = 0 → (b_X0_recount_42 g r0 i1 Q k9)) ∧ (¬ x8 = 0 → (∃ y11, gR g r0 5 = some y11 ∧ (gK g y11 = 2 ∧ (w_X1_count g y11 y5 (fun g15 => (b_X0_recount_42 g15 r0 i1 Q k9))))))))))))))))
def w_X0_recount (g0 : gS) (p0 : Nat) (Q : gS → Prop) : Prop :=
  gK g0 p0 = 1 ∧ (∃ y19, gR g0 p0 5 = some y19 ∧ (gK g0 y19 = 2 ∧ (w_X1_reset g0 y19 (fun g23 => (lpx2 (l_X0_recount_9 p0 Q) g23 0)))))
abbrev r_X0_recount : Room := { frames := 3, cells := 0, slots := 0, locals := 67 }
set_option maxHeartbeats 4000000 in
set_option maxRecDepth 100000 in
theorem c_X0_recount {l : Launch} {D : va_G} {cA : Nat → ClassId} {sz : Nat} {g0 : gS} {p0 : Nat} {Q : gS → Prop} (h : w_X0_recount g0 p0 Q) : Met l yX0_recount wsX0_recount r_X0_recount (va_Pc [.ref p0] (gPre D cA g0 sz)) (gQv D cA g0 sz (Q)) 0 0 (gA g0 sz) := by
  refine g_met (cc := cX0_recount) (maxL := 3) (ret := none) (own := RX0) (by decide) rfl rfl (Nat.le_of_ble_eq_true rfl) ?_
  intro p e s m args below meth c ls CF hr hlk hnm hc hl
  obtain ⟨hx, hb, hml, hown, hts⟩ := id CF
  have hl : lv_has ls 3 [(0, .ref p0)] := hl
  show W p l e r_X0_recount s m args below meth c s.heap [] 0 0 (MQ below (gQv D cA g0 sz (Q)) args s 0 0 (gA g0 sz)) (F0 m 0 ls [])
  have hb_9 : ∀ (r0 : Nat), ∀ (g : gS) (i1 : Int32), lpx2 (l_X0_recount_9 r0 Q) g i1 → ∀ (H : Heap) (locs : List Loc) (ls : Array Slot), gC D cA (gA g0 sz) s g H locs → lv_has ls 3 [(0, .ref r0), (1, .int i1)] → W p l e r_X0_recount s m args below meth c H locs 0 0 (MQ below (gQv D cA g0 sz (Q)) args s 0 0 (gA g0 sz)) (F0 m 9 ls []) := by
    intro r0
    refine lpx2_run (P := fun (g : gS) (i1 : Int32) => ∀ (H : Heap) (locs : List Loc) (ls : Array Slot), gC D cA (gA g0 sz) s g H locs → lv_has ls 3 [(0, .ref r0), (1, .int i1)] → W p l e r_X0_recount s m args below meth c H locs 0 0 (MQ below (gQv D cA g0 sz (Q)) args s 0 0 (gA g0 sz)) (F0 m 9 ls [])) ?_
    intro k9 hk_9 g i1 h H locs ls hc hl
    have hb_42 : ∀ (g : gS) (i1 : Int32), b_X0_recount_42 g r0 i1 Q k9 → ∀ (H : Heap) (locs : List Loc) (ls : Array Slot), gC D cA (gA g0 sz) s g H locs → lv_has ls 3 [(0, .ref r0), (1, .int i1)] → W p l e r_X0_recount s m args below meth c H locs 0 0 (MQ below (gQv D cA g0 sz (Q)) args s 0 0 (gA g0 sz)) (F0 m 42 ls []) := by
      intro g i1 h H locs ls hc hl
      unfold b_X0_recount_42 at h
      refine lv_iinc (v := (i1 + 1)) (lv' := [(1, .int (i1 + 1)), (0, .ref r0)]) hx hb dX0_recount_42 hl (k := 1) rfl rfl (by decide) rfl (fun ls hl => ?_)
      refine lv_goto (tgt := 9) hx hb dX0_recount_45 (by decide) ?_
      exact hk_9 g (i1 + 1) h _ _ _ hc (lv_sub hl [1, 0] rfl)
    unfold l_X0_recount_9 at h
    refine lv_iload_n hx hb dX0_recount_9 rfl (lv_at hl 1 rfl) ?_
    refine lv_aload_n hx hb dX0_recount_10 rfl (lv_at hl 0 rfl) ?_
    obtain ⟨hk1, h⟩ := h
    refine g_get CF hc hk1 rfl (by decide) (fun _ h9 => List.mem_cons_of_mem _ (List.mem_append_left _ (List.mem_append_left _ (List.mem_append_left _ (List.mem_append_right _ (h9)))))) (k := 1) (by decide) (List.mem_cons_of_mem _ (List.mem_append_left _ (List.mem_append_left _ (List.mem_append_left _ (List.mem_append_left _ (List.mem_append_left _ (List.mem_of_getElem? (i := 1) rfl))))))) rfl dX0_recount_11 ?_
    refine lv_icmp_ge (tgt := 48) hx hb dX0_recount_14 (by decide) (fun c2 => ?_) (fun c2 => ?_)
    · have h := h.1 c2
      exact g_retv CF hr hlk hc h dX0_recount_48
    · have h := h.2 c2
      refine lv_aload_n hx hb dX0_recount_17 rfl (lv_at hl 0 rfl) ?_
      refine lv_iload_n hx hb dX0_recount_18 rfl (lv_at hl 1 rfl) ?_
      refine g_callq (va_runV (As := [.int i1]) (rest := []) CF (c_X0_documentAt h) (cwV 1 hts gX0_recount_X0_documentAt rfl rfl rfl (by decide +kernel) ⟨Nat.le_of_ble_eq_true rfl, Nat.le_of_ble_eq_true rfl⟩) (hc.preV hk1 rfl (by decide)) rfl rfl hl.1 rfl (lv_room (Nat.le_of_ble_eq_true rfl)) dX0_recount_19 ⟨Nat.le_of_ble_eq_true rfl, Nat.le_of_ble_eq_true rfl⟩) hc (fun o3 gq4 H locs hq hc => ?_)
      obtain ⟨rfl, h⟩ := hq
      refine g_astore_nq (lv' := [(2, va_rf o3), (0, .ref r0), (1, .int i1)]) CF dX0_recount_22 rfl hl (by decide) rfl (fun ls hl => ?_)
      refine g_aload_nq CF dX0_recount_23 rfl (lv_at hl 0 rfl) ?_
      refine g_ifnull (tgt := 42) CF dX0_recount_24 (by decide) (fun e6 => ?_) (fun y5 e6 => ?_)
      · have hu17 := h.1 e6
        subst e6
        have h := hu17
        exact hb_42 g i1 h _ _ _ hc (lv_sub hl [1, 2] rfl)
      · have hu17 := h.2 y5 e6
        subst e6
        have h := hu17
        refine lv_aload_n hx hb dX0_recount_27 rfl (lv_at hl 0 rfl) ?_
        obtain ⟨hk7, h⟩ := h
        refine g_calli (va_runV (As := []) (rest := []) CF (c_X2_liesInSegment h) (cwV 0 hts gX0_recount_X2_liesInSegment rfl rfl rfl (by decide +kernel) ⟨Nat.le_of_ble_eq_true rfl, Nat.le_of_ble_eq_true rfl⟩) (hc.preV hk7 rfl (by decide)) rfl rfl hl.1 rfl (lv_room (Nat.le_of_ble_eq_true rfl)) dX0_recount_28 ⟨Nat.le_of_ble_eq_true rfl, Nat.le_of_ble_eq_true rfl⟩) hc (fun x8 gq9 H locs hq hc => ?_)
        obtain ⟨rfl, h⟩ := hq
        refine lv_if_eq (tgt := 42) hx hb dX0_recount_31 (by decide) (fun c10 => ?_) (fun c10 => ?_)
        · have h := h.1 c10
          exact hb_42 g i1 h _ _ _ hc (lv_sub hl [1, 2] rfl)
        · have h := h.2 c10
          refine lv_aload_n hx hb dX0_recount_34 rfl (lv_at hl 1 rfl) ?_
          obtain ⟨y11, e12, h⟩ := h
          refine g_getr CF hc hk1 rfl (by decide) (fun _ h9 => List.mem_cons_of_mem _ (List.mem_append_left _ (List.mem_append_left _ (List.mem_append_left _ (List.mem_append_right _ (h9)))))) (k := 5) (by decide) (List.mem_cons_of_mem _ (List.mem_append_left _ (List.mem_append_left _ (List.mem_append_left _ (List.mem_append_left _ (List.mem_append_left _ (List.mem_of_getElem? (i := 0) rfl))))))) e12 rfl dX0_recount_35 ?_
          refine lv_aload_n hx hb dX0_recount_38 rfl (lv_at hl 0 rfl) ?_
          obtain ⟨hk13, h⟩ := h
          refine g_callv (va_runV (As := [.ref y5]) (rest := []) CF (c_X1_count h) (cwV 1 hts gX0_recount_X1_count rfl rfl rfl (by decide +kernel) ⟨Nat.le_of_ble_eq_true rfl, Nat.le_of_ble_eq_true rfl⟩) (hc.preV hk13 rfl (by decide)) rfl rfl hl.1 rfl (lv_room (Nat.le_of_ble_eq_true rfl)) dX0_recount_39 ⟨Nat.le_of_ble_eq_true rfl, Nat.le_of_ble_eq_true rfl⟩) hc (fun g15 H locs hq hc => ?_)
          replace h := hq
          exact hb_42 g15 i1 h _ _ _ hc (lv_sub hl [1, 2] rfl)
  unfold w_X0_recount at h
  obtain ⟨H, hH0⟩ : ∃ z, z = s.heap := ⟨_, rfl⟩
  rw [← hH0] at hc ⊢
  obtain ⟨locs, hlc0⟩ : ∃ z : List Loc, z = [] := ⟨_, rfl⟩
  rw [← hlc0] at hc ⊢
  refine lv_aload_n hx hb dX0_recount_0 rfl (lv_at hl 0 rfl) ?_
  obtain ⟨hk18, h⟩ := h
  obtain ⟨y19, e20, h⟩ := h
  refine g_getr CF hc hk18 rfl (by decide) (fun _ h9 => List.mem_cons_of_mem _ (List.mem_append_left _ (List.mem_append_left _ (List.mem_append_left _ (List.mem_append_right _ (h9)))))) (k := 5) (by decide) (List.mem_cons_of_mem _ (List.mem_append_left _ (List.mem_append_left _ (List.mem_append_left _ (List.mem_append_left _ (List.mem_append_left _ (List.mem_of_getElem? (i := 0) rfl))))))) e20 rfl dX0_recount_1 ?_
  obtain ⟨hk21, h⟩ := h
  refine g_callv (va_runV (As := []) (rest := []) CF (c_X1_reset h) (cwV 0 hts gX0_recount_X1_reset rfl rfl rfl (by decide +kernel) ⟨Nat.le_of_ble_eq_true rfl, Nat.le_of_ble_eq_true rfl⟩) (hc.preV hk21 rfl (by decide)) rfl rfl hl.1 rfl (lv_room (Nat.le_of_ble_eq_true rfl)) dX0_recount_4 ⟨Nat.le_of_ble_eq_true rfl, Nat.le_of_ble_eq_true rfl⟩) hc (fun g23 H locs hq hc => ?_)
  replace h := hq
  refine lv_iconst (v := 0) hx hb dX0_recount_7 (by decide) ?_
  refine lv_istore_n (lv' := [(1, .int 0), (0, .ref p0)]) hx hb dX0_recount_8 rfl hl (by decide) rfl (fun ls hl => ?_)
  exact hb_9 p0 g23 0 h _ _ _ hc (lv_sub hl [1, 0] rfl)
def b_X0_flushBuffer_57 (g : gS) (r0 : Nat) (i1 : Int32) (Q : Int32 → gS → Prop) : Prop :=
  gK g r0 = 1 ∧ (w_X0_recount g r0 (fun g3 => (Q i1 g3)))
def l_X0_flushBuffer_15 (r0 : Nat) (i1 : Int32) (Q : Int32 → gS → Prop) (g : gS) (i2 : Int32) (k15 : gS → Int32 → Prop) : Prop :=
  (60 ≤ i2 → (b_X0_flushBuffer_57 g r0 i1 Q)) ∧ (¬ 60 ≤ i2 → (gK g r0 = 1 ∧ (w_X0_lastThreeAreAlike g r0 (fun x7 => ((x7 = 0 → (b_X0_flushBuffer_57 g r0 i1 Q)) ∧ (¬ x7 = 0 → (w_X0_tierAt g r0 ((gI g r0 4) - 1) (fun x10 => (w_X0_mergeFrom g r0 ((gI g r0 4) - 3) (x10 + 1) (fun x12 g13 => (k15 g13 (i2 + 1))))))))))))
def b_X0_flushBuffer_13 (g : gS) (r0 : Nat) (i1 : Int32) (Q : Int32 → gS → Prop) : Prop :=
  lpx2 (l_X0_flushBuffer_15 r0 i1 Q) g 0
def w_X0_flushBuffer (g0 : gS) (p0 : Nat) (Q : Int32 → gS → Prop) : Prop :=
  gK g0 p0 = 1 ∧ (w_X0_bufferSize g0 p0 (fun x16 => ((x16 ≤ 0 → (b_X0_flushBuffer_13 g0 p0 x16 Q)) ∧ (¬ x16 ≤ 0 → (w_X0_appendSegment g0 p0 (fun g20 => (b_X0_flushBuffer_13 g20 p0 x16 Q)))))))
abbrev r_X0_flushBuffer : Room := { frames := 4, cells := 0, slots := 0, locals := 89 }
set_option maxHeartbeats 4000000 in
set_option maxRecDepth 100000 in
theorem c_X0_flushBuffer {l : Launch} {D : va_G} {cA : Nat → ClassId} {sz : Nat} {g0 : gS} {p0 : Nat} {Q : Int32 → gS → Prop} (h : w_X0_flushBuffer g0 p0 Q) : Met l yX0_flushBuffer wsX0_flushBuffer r_X0_flushBuffer (va_Pc [.ref p0] (gPre D cA g0 sz)) (gQi D cA g0 sz (Q)) 0 0 (gA g0 sz) := by
  refine g_met (cc := cX0_flushBuffer) (maxL := 3) (ret := (some .int)) (own := RX0) (by decide) rfl rfl (Nat.le_of_ble_eq_true rfl) ?_
  intro p e s m args below meth c ls CF hr hlk hnm hc hl
  obtain ⟨hx, hb, hml, hown, hts⟩ := id CF
  have hl : lv_has ls 3 [(0, .ref p0)] := hl
  show W p l e r_X0_flushBuffer s m args below meth c s.heap [] 0 0 (MQ below (gQi D cA g0 sz (Q)) args s 0 0 (gA g0 sz)) (F0 m 0 ls [])
  have hb_57 : ∀ (g : gS) (r0 : Nat) (i1 : Int32), b_X0_flushBuffer_57 g r0 i1 Q → ∀ (H : Heap) (locs : List Loc) (ls : Array Slot), gC D cA (gA g0 sz) s g H locs → lv_has ls 3 [(0, .ref r0), (1, .int i1)] → W p l e r_X0_flushBuffer s m args below meth c H locs 0 0 (MQ below (gQi D cA g0 sz (Q)) args s 0 0 (gA g0 sz)) (F0 m 57 ls []) := by
    intro g r0 i1 h H locs ls hc hl
    unfold b_X0_flushBuffer_57 at h
    refine lv_aload_n hx hb dX0_flushBuffer_57 rfl (lv_at hl 0 rfl) ?_
    obtain ⟨hk1, h⟩ := h
    refine g_callv (va_runV (As := []) (rest := []) CF (c_X0_recount h) (cwV 0 hts gX0_flushBuffer_X0_recount rfl rfl rfl (by decide +kernel) ⟨Nat.le_of_ble_eq_true rfl, Nat.le_of_ble_eq_true rfl⟩) (hc.preV hk1 rfl (by decide)) rfl rfl hl.1 rfl (lv_room (Nat.le_of_ble_eq_true rfl)) dX0_flushBuffer_58 ⟨Nat.le_of_ble_eq_true rfl, Nat.le_of_ble_eq_true rfl⟩) hc (fun g3 H locs hq hc => ?_)
    replace h := hq
    refine lv_iload_n hx hb dX0_flushBuffer_61 rfl (lv_at hl 1 rfl) ?_
    exact g_reti (r := i1) CF hr hlk hc rfl h dX0_flushBuffer_62
  have hb_15 : ∀ (r0 : Nat) (i1 : Int32), ∀ (g : gS) (i2 : Int32), lpx2 (l_X0_flushBuffer_15 r0 i1 Q) g i2 → ∀ (H : Heap) (locs : List Loc) (ls : Array Slot), gC D cA (gA g0 sz) s g H locs → lv_has ls 3 [(0, .ref r0), (1, .int i1), (2, .int i2)] → W p l e r_X0_flushBuffer s m args below meth c H locs 0 0 (MQ below (gQi D cA g0 sz (Q)) args s 0 0 (gA g0 sz)) (F0 m 15 ls []) := by
    intro r0 i1
    refine lpx2_run (P := fun (g : gS) (i2 : Int32) => ∀ (H : Heap) (locs : List Loc) (ls : Array Slot), gC D cA (gA g0 sz) s g H locs → lv_has ls 3 [(0, .ref r0), (1, .int i1), (2, .int i2)] → W p l e r_X0_flushBuffer s m args below meth c H locs 0 0 (MQ below (gQi D cA g0 sz (Q)) args s 0 0 (gA g0 sz)) (F0 m 15 ls [])) ?_
    intro k15 hk_15 g i2 h H locs ls hc hl
    unfold l_X0_flushBuffer_15 at h
    refine lv_iload_n hx hb dX0_flushBuffer_15 rfl (lv_at hl 2 rfl) ?_
    refine lv_bipush (v := 60) hx hb dX0_flushBuffer_16 (by decide) ?_
    refine lv_icmp_ge (tgt := 57) hx hb dX0_flushBuffer_18 (by decide) (fun c5 => ?_) (fun c5 => ?_)
    · have h := h.1 c5
      exact hb_57 g r0 i1 h _ _ _ hc (lv_sub hl [0, 1] rfl)
    · have h := h.2 c5
      refine lv_aload_n hx hb dX0_flushBuffer_21 rfl (lv_at hl 0 rfl) ?_
      obtain ⟨hk6, h⟩ := h
      refine g_calli (va_runV (As := []) (rest := []) CF (c_X0_lastThreeAreAlike h) (cwV 0 hts gX0_flushBuffer_X0_lastThreeAreAlike rfl rfl rfl (by decide +kernel) ⟨Nat.le_of_ble_eq_true rfl, Nat.le_of_ble_eq_true rfl⟩) (hc.preV hk6 rfl (by decide)) rfl rfl hl.1 rfl (lv_room (Nat.le_of_ble_eq_true rfl)) dX0_flushBuffer_22 ⟨Nat.le_of_ble_eq_true rfl, Nat.le_of_ble_eq_true rfl⟩) hc (fun x7 gq8 H locs hq hc => ?_)
      obtain ⟨rfl, h⟩ := hq
      refine lv_if_eq (tgt := 57) hx hb dX0_flushBuffer_25 (by decide) (fun c9 => ?_) (fun c9 => ?_)
      · have h := h.1 c9
        exact hb_57 g r0 i1 h _ _ _ hc (lv_sub hl [0, 1] rfl)
      · have h := h.2 c9
        refine lv_aload_n hx hb dX0_flushBuffer_28 rfl (lv_at hl 0 rfl) ?_
        refine lv_aload_n hx hb dX0_flushBuffer_29 rfl (lv_at hl 0 rfl) ?_
        refine g_get CF hc hk6 rfl (by decide) (fun _ h9 => List.mem_cons_of_mem _ (List.mem_append_left _ (List.mem_append_left _ (List.mem_append_left _ (List.mem_append_right _ (h9)))))) (k := 4) (by decide) (List.mem_cons_of_mem _ (List.mem_append_left _ (List.mem_append_left _ (List.mem_append_left _ (List.mem_append_left _ (List.mem_append_left _ (List.mem_of_getElem? (i := 0) rfl))))))) rfl dX0_flushBuffer_30 ?_
        refine lv_iconst (v := 3) hx hb dX0_flushBuffer_33 (by decide) ?_
        refine lv_isub hx hb dX0_flushBuffer_34 ?_
        refine lv_aload_n hx hb dX0_flushBuffer_35 rfl (lv_at hl 0 rfl) ?_
        refine lv_aload_n hx hb dX0_flushBuffer_36 rfl (lv_at hl 0 rfl) ?_
        refine g_get CF hc hk6 rfl (by decide) (fun _ h9 => List.mem_cons_of_mem _ (List.mem_append_left _ (List.mem_append_left _ (List.mem_append_left _ (List.mem_append_right _ (h9)))))) (k := 4) (by decide) (List.mem_cons_of_mem _ (List.mem_append_left _ (List.mem_append_left _ (List.mem_append_left _ (List.mem_append_left _ (List.mem_append_left _ (List.mem_of_getElem? (i := 0) rfl))))))) rfl dX0_flushBuffer_37 ?_
        refine lv_iconst (v := 1) hx hb dX0_flushBuffer_40 (by decide) ?_
        refine lv_isub hx hb dX0_flushBuffer_41 ?_
        refine g_calli (va_runV (As := [.int ((gI g r0 4) - 1)]) (rest := [.int ((gI g r0 4) - 3), .ref r0]) CF (c_X0_tierAt h) (cwV 1 hts gX0_flushBuffer_X0_tierAt rfl rfl rfl (by decide +kernel) ⟨Nat.le_of_ble_eq_true rfl, Nat.le_of_ble_eq_true rfl⟩) (hc.preV hk6 rfl (by decide)) rfl rfl hl.1 rfl (lv_room (Nat.le_of_ble_eq_true rfl)) dX0_flushBuffer_42 ⟨Nat.le_of_ble_eq_true rfl, Nat.le_of_ble_eq_true rfl⟩) hc (fun x10 gq11 H locs hq hc => ?_)
        obtain ⟨rfl, h⟩ := hq
        refine lv_iconst (v := 1) hx hb dX0_flushBuffer_45 (by decide) ?_
        refine lv_iadd hx hb dX0_flushBuffer_46 ?_
        refine g_calli (va_runV (As := [.int ((gI g r0 4) - 3), .int (x10 + 1)]) (rest := []) CF (c_X0_mergeFrom h) (cwV 2 hts gX0_flushBuffer_X0_mergeFrom rfl rfl rfl (by decide +kernel) ⟨Nat.le_of_ble_eq_true rfl, Nat.le_of_ble_eq_true rfl⟩) (hc.preV hk6 rfl (by decide)) rfl rfl hl.1 rfl (lv_room (Nat.le_of_ble_eq_true rfl)) dX0_flushBuffer_47 ⟨Nat.le_of_ble_eq_true rfl, Nat.le_of_ble_eq_true rfl⟩) hc (fun x12 g13 H locs hq hc => ?_)
        replace h := hq
        refine lv_pop hx hb dX0_flushBuffer_50 rfl ?_
        refine lv_iinc (v := (i2 + 1)) (lv' := [(2, .int (i2 + 1)), (0, .ref r0), (1, .int i1)]) hx hb dX0_flushBuffer_51 hl (k := 2) rfl rfl (by decide) rfl (fun ls hl => ?_)
        refine lv_goto (tgt := 15) hx hb dX0_flushBuffer_54 (by decide) ?_
        exact hk_15 g13 (i2 + 1) h _ _ _ hc (lv_sub hl [1, 2, 0] rfl)
  have hb_13 : ∀ (g : gS) (r0 : Nat) (i1 : Int32), b_X0_flushBuffer_13 g r0 i1 Q → ∀ (H : Heap) (locs : List Loc) (ls : Array Slot), gC D cA (gA g0 sz) s g H locs → lv_has ls 3 [(0, .ref r0), (1, .int i1)] → W p l e r_X0_flushBuffer s m args below meth c H locs 0 0 (MQ below (gQi D cA g0 sz (Q)) args s 0 0 (gA g0 sz)) (F0 m 13 ls []) := by
    intro g r0 i1 h H locs ls hc hl
    unfold b_X0_flushBuffer_13 at h
    refine lv_iconst (v := 0) hx hb dX0_flushBuffer_13 (by decide) ?_
    refine lv_istore_n (lv' := [(2, .int 0), (0, .ref r0), (1, .int i1)]) hx hb dX0_flushBuffer_14 rfl hl (by decide) rfl (fun ls hl => ?_)
    exact hb_15 r0 i1 g 0 h _ _ _ hc (lv_sub hl [1, 2, 0] rfl)
  unfold w_X0_flushBuffer at h
  obtain ⟨H, hH0⟩ : ∃ z, z = s.heap := ⟨_, rfl⟩
  rw [← hH0] at hc ⊢
  obtain ⟨locs, hlc0⟩ : ∃ z : List Loc, z = [] := ⟨_, rfl⟩
  rw [← hlc0] at hc ⊢
  refine lv_aload_n hx hb dX0_flushBuffer_0 rfl (lv_at hl 0 rfl) ?_
  obtain ⟨hk15, h⟩ := h
  refine g_calli (va_runV (As := []) (rest := []) CF (c_X0_bufferSize h) (cwV 0 hts gX0_flushBuffer_X0_bufferSize rfl rfl rfl (by decide +kernel) ⟨Nat.le_of_ble_eq_true rfl, Nat.le_of_ble_eq_true rfl⟩) (hc.preV hk15 rfl (by decide)) rfl rfl hl.1 rfl (lv_room (Nat.le_of_ble_eq_true rfl)) dX0_flushBuffer_1 ⟨Nat.le_of_ble_eq_true rfl, Nat.le_of_ble_eq_true rfl⟩) hc (fun x16 gq17 H locs hq hc => ?_)
  obtain ⟨rfl, h⟩ := hq
  refine lv_istore_n (lv' := [(1, .int x16), (0, .ref p0)]) hx hb dX0_flushBuffer_4 rfl hl (by decide) rfl (fun ls hl => ?_)
  refine lv_iload_n hx hb dX0_flushBuffer_5 rfl (lv_at hl 0 rfl) ?_
  refine lv_if_le (tgt := 13) hx hb dX0_flushBuffer_6 (by decide) (fun c18 => ?_) (fun c18 => ?_)
  · have h := h.1 c18
    exact hb_13 g0 p0 x16 h _ _ _ hc (lv_sub hl [1, 0] rfl)
  · have h := h.2 c18
    refine lv_aload_n hx hb dX0_flushBuffer_9 rfl (lv_at hl 1 rfl) ?_
    refine g_callv (va_runV (As := []) (rest := []) CF (c_X0_appendSegment h) (cwV 0 hts gX0_flushBuffer_X0_appendSegment rfl rfl rfl (by decide +kernel) ⟨Nat.le_of_ble_eq_true rfl, Nat.le_of_ble_eq_true rfl⟩) (hc.preV hk15 rfl (by decide)) rfl rfl hl.1 rfl (lv_room (Nat.le_of_ble_eq_true rfl)) dX0_flushBuffer_10 ⟨Nat.le_of_ble_eq_true rfl, Nat.le_of_ble_eq_true rfl⟩) hc (fun g20 H locs hq hc => ?_)
    replace h := hq
    exact hb_13 g20 p0 x16 h _ _ _ hc (lv_sub hl [1, 0] rfl)
def l_X0_mergeAll_13 (g : gS) (r0 : Nat) (Q : Int32 → gS → Prop) (i1 : Int32) (i2 : Int32) (k13 : Int32 → Int32 → Prop) : Prop :=
  gK g r0 = 1 ∧ (((gI g r0 4) ≤ i2 → (w_X0_mergeFrom g r0 0 i1 (fun x3 g4 => (gK g4 r0 = 1 ∧ (w_X0_recount g4 r0 (fun g8 => (Q x3 g8))))))) ∧ (¬ (gI g r0 4) ≤ i2 → (w_X0_tierAt g r0 i2 (fun x10 => (k13 (if i1 < x10 then x10 else i1) (i2 + 1))))))
def w_X0_mergeAll (g0 : gS) (p0 : Nat) (Q : Int32 → gS → Prop) : Prop :=
  gK g0 p0 = 1 ∧ (((gI g0 p0 4) = 0 → (Q 0 g0)) ∧ (¬ (gI g0 p0 4) = 0 → (lpx2 (l_X0_mergeAll_13 g0 p0 Q) 0 0)))
abbrev r_X0_mergeAll : Room := { frames := 4, cells := 0, slots := 0, locals := 89 }
set_option maxHeartbeats 4000000 in
set_option maxRecDepth 100000 in
theorem c_X0_mergeAll {l : Launch} {D : va_G} {cA : Nat → ClassId} {sz : Nat} {g0 : gS} {p0 : Nat} {Q : Int32 → gS → Prop} (h : w_X0_mergeAll g0 p0 Q) : Met l yX0_mergeAll wsX0_mergeAll r_X0_mergeAll (va_Pc [.ref p0] (gPre D cA g0 sz)) (gQi D cA g0 sz (Q)) 0 0 (gA g0 sz) := by
  refine g_met (cc := cX0_mergeAll) (maxL := 3) (ret := (some .int)) (own := RX0) (by decide) rfl rfl (Nat.le_of_ble_eq_true rfl) ?_
  intro p e s m args below meth c ls CF hr hlk hnm hc hl
  obtain ⟨hx, hb, hml, hown, hts⟩ := id CF
  have hl : lv_has ls 3 [(0, .ref p0)] := hl
  show W p l e r_X0_mergeAll s m args below meth c s.heap [] 0 0 (MQ below (gQi D cA g0 sz (Q)) args s 0 0 (gA g0 sz)) (F0 m 0 ls [])
  have hb_13 : ∀ (g : gS) (r0 : Nat), ∀ (i1 : Int32) (i2 : Int32), lpx2 (l_X0_mergeAll_13 g r0 Q) i1 i2 → ∀ (H : Heap) (locs : List Loc) (ls : Array Slot), gC D cA (gA g0 sz) s g H locs → lv_has ls 3 [(0, .ref r0), (1, .int i1), (2, .int i2)] → W p l e r_X0_mergeAll s m args below meth c H locs 0 0 (MQ below (gQi D cA g0 sz (Q)) args s 0 0 (gA g0 sz)) (F0 m 13 ls []) := by
    intro g r0
    refine lpx2_run (P := fun (i1 : Int32) (i2 : Int32) => ∀ (H : Heap) (locs : List Loc) (ls : Array Slot), gC D cA (gA g0 sz) s g H locs → lv_has ls 3 [(0, .ref r0), (1, .int i1), (2, .int i2)] → W p l e r_X0_mergeAll s m args below meth c H locs 0 0 (MQ below (gQi D cA g0 sz (Q)) args s 0 0 (gA g0 sz)) (F0 m 13 ls [])) ?_
    intro k13 hk_13 i1 i2 h H locs ls hc hl
    unfold l_X0_mergeAll_13 at h
    refine lv_iload_n hx hb dX0_mergeAll_13 rfl (lv_at hl 2 rfl) ?_
    refine lv_aload_n hx hb dX0_mergeAll_14 rfl (lv_at hl 0 rfl) ?_
    obtain ⟨hk1, h⟩ := h
    refine g_get CF hc hk1 rfl (by decide) (fun _ h9 => List.mem_cons_of_mem _ (List.mem_append_left _ (List.mem_append_left _ (List.mem_append_left _ (List.mem_append_right _ (h9)))))) (k := 4) (by decide) (List.mem_cons_of_mem _ (List.mem_append_left _ (List.mem_append_left _ (List.mem_append_left _ (List.mem_append_left _ (List.mem_append_left _ (List.mem_of_getElem? (i := 0) rfl))))))) rfl dX0_mergeAll_15 ?_
    refine lv_icmp_ge (tgt := 37) hx hb dX0_mergeAll_18 (by decide) (fun c2 => ?_) (fun c2 => ?_)
    · have h := h.1 c2
      refine lv_aload_n hx hb dX0_mergeAll_37 rfl (lv_at hl 0 rfl) ?_
      refine lv_iconst (v := 0) hx hb dX0_mergeAll_38 (by decide) ?_
      refine lv_iload_n hx hb dX0_mergeAll_39 rfl (lv_at hl 1 rfl) ?_
      refine g_calli (va_runV (As := [.int 0, .int i1]) (rest := []) CF (c_X0_mergeFrom h) (cwV 2 hts gX0_mergeAll_X0_mergeFrom rfl rfl rfl (by decide +kernel) ⟨Nat.le_of_ble_eq_true rfl, Nat.le_of_ble_eq_true rfl⟩) (hc.preV hk1 rfl (by decide)) rfl rfl hl.1 rfl (lv_room (Nat.le_of_ble_eq_true rfl)) dX0_mergeAll_40 ⟨Nat.le_of_ble_eq_true rfl, Nat.le_of_ble_eq_true rfl⟩) hc (fun x3 g4 H locs hq hc => ?_)
      replace h := hq
      refine lv_istore_n (lv' := [(2, .int x3), (0, .ref r0), (1, .int i1)]) hx hb dX0_mergeAll_43 rfl hl (by decide) rfl (fun ls hl => ?_)
      refine lv_aload_n hx hb dX0_mergeAll_44 rfl (lv_at hl 1 rfl) ?_
      obtain ⟨hk6, h⟩ := h
      refine g_callv (va_runV (As := []) (rest := []) CF (c_X0_recount h) (cwV 0 hts gX0_mergeAll_X0_recount rfl rfl rfl (by decide +kernel) ⟨Nat.le_of_ble_eq_true rfl, Nat.le_of_ble_eq_true rfl⟩) (hc.preV hk6 rfl (by decide)) rfl rfl hl.1 rfl (lv_room (Nat.le_of_ble_eq_true rfl)) dX0_mergeAll_45 ⟨Nat.le_of_ble_eq_true rfl, Nat.le_of_ble_eq_true rfl⟩) hc (fun g8 H locs hq hc => ?_)
      replace h := hq
      refine lv_iload_n hx hb dX0_mergeAll_48 rfl (lv_at hl 0 rfl) ?_
      exact g_reti (r := x3) CF hr hlk hc rfl h dX0_mergeAll_49
    · have h := h.2 c2
      refine lv_iload_n hx hb dX0_mergeAll_21 rfl (lv_at hl 1 rfl) ?_
      refine lv_aload_n hx hb dX0_mergeAll_22 rfl (lv_at hl 0 rfl) ?_
      refine lv_iload_n hx hb dX0_mergeAll_23 rfl (lv_at hl 2 rfl) ?_
      refine g_calli (va_runV (As := [.int i2]) (rest := [.int i1]) CF (c_X0_tierAt h) (cwV 1 hts gX0_mergeAll_X0_tierAt rfl rfl rfl (by decide +kernel) ⟨Nat.le_of_ble_eq_true rfl, Nat.le_of_ble_eq_true rfl⟩) (hc.preV hk1 rfl (by decide)) rfl rfl hl.1 rfl (lv_room (Nat.le_of_ble_eq_true rfl)) dX0_mergeAll_24 ⟨Nat.le_of_ble_eq_true rfl, Nat.le_of_ble_eq_true rfl⟩) hc (fun x10 gq11 H locs hq hc => ?_)
      obtain ⟨rfl, h⟩ := hq
      refine va_mmax hx hb (hml.trans hl.1.symm) hown (hts _ (List.mem_cons_of_mem _ (List.mem_append_left _ (List.mem_append_left _ (List.mem_append_left _ (List.mem_append_left _ (List.mem_append_left _ (List.mem_of_getElem? (i := 1) rfl)))))))) (hts _ (List.mem_cons_of_mem _ (List.mem_append_left _ (List.mem_append_left _ (List.mem_append_left _ (List.mem_append_left _ (List.mem_append_left _ (List.mem_of_getElem? (i := 2) rfl)))))))) (hts _ (List.mem_cons_of_mem _ (List.mem_append_left _ (List.mem_append_left _ (List.mem_append_left _ (List.mem_append_left _ (List.mem_append_left _ (List.mem_of_getElem? (i := 3) rfl)))))))) (hts _ (List.mem_cons_of_mem _ (List.mem_append_left _ (List.mem_append_left _ (List.mem_append_left _ (List.mem_append_left _ (List.mem_append_left _ (List.mem_of_getElem? (i := 4) rfl)))))))) (Nat.le_of_ble_eq_true rfl) (Nat.le_of_ble_eq_true rfl) (Nat.le_of_ble_eq_true rfl) (Nat.le_of_ble_eq_true rfl) dX0_mergeAll_27 ?_
      refine lv_istore_n (lv' := [(1, .int (if i1 < x10 then x10 else i1)), (0, .ref r0), (2, .int i2)]) hx hb dX0_mergeAll_30 rfl hl (by decide) rfl (fun ls hl => ?_)
      refine lv_iinc (v := (i2 + 1)) (lv' := [(2, .int (i2 + 1)), (1, .int (if i1 < x10 then x10 else i1)), (0, .ref r0)]) hx hb dX0_mergeAll_31 hl (k := 2) rfl rfl (by decide) rfl (fun ls hl => ?_)
      refine lv_goto (tgt := 13) hx hb dX0_mergeAll_34 (by decide) ?_
      exact hk_13 (if i1 < x10 then x10 else i1) (i2 + 1) h _ _ _ hc (lv_sub hl [2, 1, 0] rfl)
  unfold w_X0_mergeAll at h
  obtain ⟨H, hH0⟩ : ∃ z, z = s.heap := ⟨_, rfl⟩
  rw [← hH0] at hc ⊢
  obtain ⟨locs, hlc0⟩ : ∃ z : List Loc, z = [] := ⟨_, rfl⟩
  rw [← hlc0] at hc ⊢
  refine lv_aload_n hx hb dX0_mergeAll_0 rfl (lv_at hl 0 rfl) ?_
  obtain ⟨hk12, h⟩ := h
  refine g_get CF hc hk12 rfl (by decide) (fun _ h9 => List.mem_cons_of_mem _ (List.mem_append_left _ (List.mem_append_left _ (List.mem_append_left _ (List.mem_append_right _ (h9)))))) (k := 4) (by decide) (List.mem_cons_of_mem _ (List.mem_append_left _ (List.mem_append_left _ (List.mem_append_left _ (List.mem_append_left _ (List.mem_append_left _ (List.mem_of_getElem? (i := 0) rfl))))))) rfl dX0_mergeAll_1 ?_
  refine lv_if_ne (tgt := 9) hx hb dX0_mergeAll_4 (by decide) (fun c13 => ?_) (fun c13 => ?_)
  · have h := h.2 c13
    refine lv_iconst (v := 0) hx hb dX0_mergeAll_9 (by decide) ?_
    refine lv_istore_n (lv' := [(1, .int 0), (0, .ref p0)]) hx hb dX0_mergeAll_10 rfl hl (by decide) rfl (fun ls hl => ?_)
    refine lv_iconst (v := 0) hx hb dX0_mergeAll_11 (by decide) ?_
    refine lv_istore_n (lv' := [(2, .int 0), (1, .int 0), (0, .ref p0)]) hx hb dX0_mergeAll_12 rfl hl (by decide) rfl (fun ls hl => ?_)
    exact hb_13 g0 p0 0 0 h _ _ _ hc (lv_sub hl [2, 1, 0] rfl)
  · have h := h.1 c13
    refine lv_iconst (v := 0) hx hb dX0_mergeAll_7 (by decide) ?_
    exact g_reti (r := 0) CF hr hlk hc rfl h dX0_mergeAll_8
def b_X0_countSurvivors_36 (g : gS) (r0 : Nat) (r1 : Nat) (i2 : Int32) (Q : gS → Prop) (k6 : gS → Int32 → Prop) : Prop :=
  k6 g (i2 + 1)
def l_X0_countSurvivors_6 (r0 : Nat) (r1 : Nat) (Q : gS → Prop) (g : gS) (i2 : Int32) (k6 : gS → Int32 → Prop) : Prop :=
  gK g r0 = 1 ∧ (((gI g r0 1) ≤ i2 → (Q g)) ∧ (¬ (gI g r0 1) ≤ i2 → (w_X0_documentAt g r0 i2 (fun o3 => ((o3 = none → (b_X0_countSurvivors_36 g r0 r1 i2 Q k6)) ∧ (∀ y5, o3 = some y5 → (gK g y5 = 3 ∧ (((gI g y5 4) = 0 → (gK g r1 = 2 ∧ (w_X1_count g r1 y5 (fun g11 => (b_X0_countSurvivors_36 g11 r0 r1 i2 Q k6))))) ∧ (¬ (gI g y5 4) = 0 → (b_X0_countSurvivors_36 g r0 r1 i2 Q k6))))))))))
def w_X0_countSurvivors (g0 : gS) (p0 : Nat) (p1 : Nat) (Q : gS → Prop) : Prop :=
  gK g0 p1 = 2 ∧ (w_X1_reset g0 p1 (fun g16 => (lpx2 (l_X0_countSurvivors_6 p0 p1 Q) g16 0)))
abbrev r_X0_countSurvivors : Room := { frames := 3, cells := 0, slots := 0, locals := 67 }
set_option maxHeartbeats 4000000 in
set_option maxRecDepth 100000 in
theorem c_X0_countSurvivors {l : Launch} {D : va_G} {cA : Nat → ClassId} {sz : Nat} {g0 : gS} {p0 : Nat} {p1 : Nat} {Q : gS → Prop} (h : w_X0_countSurvivors g0 p0 p1 Q) : Met l yX0_countSurvivors wsX0_countSurvivors r_X0_countSurvivors (va_Pc [.ref p0, .ref p1] (gPre D cA g0 sz)) (gQv D cA g0 sz (Q)) 0 0 (gA g0 sz) := by
  refine g_met (cc := cX0_countSurvivors) (maxL := 4) (ret := none) (own := RX0) (by decide) rfl rfl (Nat.le_of_ble_eq_true rfl) ?_
  intro p e s m args below meth c ls CF hr hlk hnm hc hl
  obtain ⟨hx, hb, hml, hown, hts⟩ := id CF
  have hl : lv_has ls 4 [(0, .ref p0), (1, .ref p1)] := hl
  show W p l e r_X0_countSurvivors s m args below meth c s.heap [] 0 0 (MQ below (gQv D cA g0 sz (Q)) args s 0 0 (gA g0 sz)) (F0 m 0 ls [])
  have hb_6 : ∀ (r0 : Nat) (r1 : Nat), ∀ (g : gS) (i2 : Int32), lpx2 (l_X0_countSurvivors_6 r0 r1 Q) g i2 → ∀ (H : Heap) (locs : List Loc) (ls : Array Slot), gC D cA (gA g0 sz) s g H locs → lv_has ls 4 [(0, .ref r0), (1, .ref r1), (2, .int i2)] → W p l e r_X0_countSurvivors s m args below meth c H locs 0 0 (MQ below (gQv D cA g0 sz (Q)) args s 0 0 (gA g0 sz)) (F0 m 6 ls []) := by
    intro r0 r1
    refine lpx2_run (P := fun (g : gS) (i2 : Int32) => ∀ (H : Heap) (locs : List Loc) (ls : Array Slot), gC D cA (gA g0 sz) s g H locs → lv_has ls 4 [(0, .ref r0), (1, .ref r1), (2, .int i2)] → W p l e r_X0_countSurvivors s m args below meth c H locs 0 0 (MQ below (gQv D cA g0 sz (Q)) args s 0 0 (gA g0 sz)) (F0 m 6 ls [])) ?_
    intro k6 hk_6 g i2 h H locs ls hc hl
    have hb_36 : ∀ (g : gS) (i2 : Int32), b_X0_countSurvivors_36 g r0 r1 i2 Q k6 → ∀ (H : Heap) (locs : List Loc) (ls : Array Slot), gC D cA (gA g0 sz) s g H locs → lv_has ls 4 [(0, .ref r0), (1, .ref r1), (2, .int i2)] → W p l e r_X0_countSurvivors s m args below meth c H locs 0 0 (MQ below (gQv D cA g0 sz (Q)) args s 0 0 (gA g0 sz)) (F0 m 36 ls []) := by
      intro g i2 h H locs ls hc hl
      unfold b_X0_countSurvivors_36 at h
      refine lv_iinc (v := (i2 + 1)) (lv' := [(2, .int (i2 + 1)), (0, .ref r0), (1, .ref r1)]) hx hb dX0_countSurvivors_36 hl (k := 2) rfl rfl (by decide) rfl (fun ls hl => ?_)
      refine lv_goto (tgt := 6) hx hb dX0_countSurvivors_39 (by decide) ?_
      exact hk_6 g (i2 + 1) h _ _ _ hc (lv_sub hl [1, 2, 0] rfl)
    unfold l_X0_countSurvivors_6 at h
    refine lv_iload_n hx hb dX0_countSurvivors_6 rfl (lv_at hl 2 rfl) ?_
    refine lv_aload_n hx hb dX0_countSurvivors_7 rfl (lv_at hl 0 rfl) ?_
    obtain ⟨hk1, h⟩ := h
    refine g_get CF hc hk1 rfl (by decide) (fun _ h9 => List.mem_cons_of_mem _ (List.mem_append_left _ (List.mem_append_left _ (List.mem_append_left _ (List.mem_append_right _ (h9)))))) (k := 1) (by decide) (List.mem_cons_of_mem _ (List.mem_append_left _ (List.mem_append_left _ (List.mem_append_left _ (List.mem_append_left _ (List.mem_append_left _ (List.mem_of_getElem? (i := 0) rfl))))))) rfl dX0_countSurvivors_8 ?_
    refine lv_icmp_ge (tgt := 42) hx hb dX0_countSurvivors_11 (by decide) (fun c2 => ?_) (fun c2 => ?_)
    · have h := h.1 c2
      exact g_retv CF hr hlk hc h dX0_countSurvivors_42
    · have h := h.2 c2
      refine lv_aload_n hx hb dX0_countSurvivors_14 rfl (lv_at hl 0 rfl) ?_
      refine lv_iload_n hx hb dX0_countSurvivors_15 rfl (lv_at hl 2 rfl) ?_
      refine g_callq (va_runV (As := [.int i2]) (rest := []) CF (c_X0_documentAt h) (cwV 1 hts gX0_countSurvivors_X0_documentAt rfl rfl rfl (by decide +kernel) ⟨Nat.le_of_ble_eq_true rfl, Nat.le_of_ble_eq_true rfl⟩) (hc.preV hk1 rfl (by decide)) rfl rfl hl.1 rfl (lv_room (Nat.le_of_ble_eq_true rfl)) dX0_countSurvivors_16 ⟨Nat.le_of_ble_eq_true rfl, Nat.le_of_ble_eq_true rfl⟩) hc (fun o3 gq4 H locs hq hc => ?_)
      obtain ⟨rfl, h⟩ := hq
      refine g_astore_nq (lv' := [(3, va_rf o3), (0, .ref r0), (1, .ref r1), (2, .int i2)]) CF dX0_countSurvivors_19 rfl hl (by decide) rfl (fun ls hl => ?_)
      refine g_aload_nq CF dX0_countSurvivors_20 rfl (lv_at hl 0 rfl) ?_
      refine g_ifnull (tgt := 36) CF dX0_countSurvivors_21 (by decide) (fun e6 => ?_) (fun y5 e6 => ?_)
      · have hu13 := h.1 e6
        subst e6
        have h := hu13
        exact hb_36 g i2 h _ _ _ hc (lv_sub hl [1, 2, 3] rfl)
      · have hu13 := h.2 y5 e6
        subst e6
        have h := hu13
        refine lv_aload_n hx hb dX0_countSurvivors_24 rfl (lv_at hl 0 rfl) ?_
        obtain ⟨hk7, h⟩ := h
        refine g_get CF hc hk7 rfl (by decide) (fun _ h9 => List.mem_cons_of_mem _ (List.mem_append_left _ (List.mem_append_left _ (List.mem_append_right _ (h9))))) (k := 4) (by decide) (List.mem_cons_of_mem _ (List.mem_append_left _ (List.mem_append_left _ (List.mem_append_left _ (List.mem_append_left _ (List.mem_append_left _ (List.mem_of_getElem? (i := 1) rfl))))))) rfl dX0_countSurvivors_25 ?_
        refine lv_if_ne (tgt := 36) hx hb dX0_countSurvivors_28 (by decide) (fun c8 => ?_) (fun c8 => ?_)
        · have h := h.2 c8
          exact hb_36 g i2 h _ _ _ hc (lv_sub hl [1, 2, 3] rfl)
        · have h := h.1 c8
          refine lv_aload_n hx hb dX0_countSurvivors_31 rfl (lv_at hl 2 rfl) ?_
          refine lv_aload_n hx hb dX0_countSurvivors_32 rfl (lv_at hl 0 rfl) ?_
          obtain ⟨hk9, h⟩ := h
          refine g_callv (va_runV (As := [.ref y5]) (rest := []) CF (c_X1_count h) (cwV 1 hts gX0_countSurvivors_X1_count rfl rfl rfl (by decide +kernel) ⟨Nat.le_of_ble_eq_true rfl, Nat.le_of_ble_eq_true rfl⟩) (hc.preV hk9 rfl (by decide)) rfl rfl hl.1 rfl (lv_room (Nat.le_of_ble_eq_true rfl)) dX0_countSurvivors_33 ⟨Nat.le_of_ble_eq_true rfl, Nat.le_of_ble_eq_true rfl⟩) hc (fun g11 H locs hq hc => ?_)
          replace h := hq
          exact hb_36 g11 i2 h _ _ _ hc (lv_sub hl [1, 2, 3] rfl)
  unfold w_X0_countSurvivors at h
  obtain ⟨H, hH0⟩ : ∃ z, z = s.heap := ⟨_, rfl⟩
  rw [← hH0] at hc ⊢
  obtain ⟨locs, hlc0⟩ : ∃ z : List Loc, z = [] := ⟨_, rfl⟩
  rw [← hlc0] at hc ⊢
  refine lv_aload_n hx hb dX0_countSurvivors_0 rfl (lv_at hl 1 rfl) ?_
  obtain ⟨hk14, h⟩ := h
  refine g_callv (va_runV (As := []) (rest := []) CF (c_X1_reset h) (cwV 0 hts gX0_countSurvivors_X1_reset rfl rfl rfl (by decide +kernel) ⟨Nat.le_of_ble_eq_true rfl, Nat.le_of_ble_eq_true rfl⟩) (hc.preV hk14 rfl (by decide)) rfl rfl hl.1 rfl (lv_room (Nat.le_of_ble_eq_true rfl)) dX0_countSurvivors_1 ⟨Nat.le_of_ble_eq_true rfl, Nat.le_of_ble_eq_true rfl⟩) hc (fun g16 H locs hq hc => ?_)
  replace h := hq
  refine lv_iconst (v := 0) hx hb dX0_countSurvivors_4 (by decide) ?_
  refine lv_istore_n (lv' := [(2, .int 0), (0, .ref p0), (1, .ref p1)]) hx hb dX0_countSurvivors_5 rfl hl (by decide) rfl (fun ls hl => ?_)
  exact hb_6 p0 p1 g16 0 h _ _ _ hc (lv_sub hl [1, 2, 0] rfl)
def w_X4_init (g0 : gS) (p0 : Nat) (Q : gS → Prop) : Prop :=
  ∀ q1, gK g0 q1 = 0 → (∀ g3, g3 = sNew g0 q1 22 200 → (gK g3 p0 = 5 ∧ (∀ g6, g6 = sV g3 p0 0 (some q1) → (∀ q8, gK g6 q8 = 0 → (∀ g10, g10 = sNew g6 q8 21 200 → (gK g10 p0 = 5 ∧ (∀ g13, g13 = sV g10 p0 1 (some q8) → (∀ q15, gK g13 q15 = 0 → (∀ g17, g17 = sNew g13 q15 21 3 → (gK g17 p0 = 5 ∧ (∀ g20, g20 = sV g17 p0 2 (some q15) → (gK g20 p0 = 5 ∧ (∃ y23, gR g20 p0 1 = some y23 ∧ (w_J7_fill_53178 g20 y23 (-1) (fun g26 => (gK g26 p0 = 5 ∧ (∃ y29, gR g26 p0 2 = some y29 ∧ (w_J7_fill_53178 g26 y29 1 (fun g32 => (Q g32))))))))))))))))))))
abbrev r_X4_init : Room := { frames := 1, cells := 3, slots := 403, locals := 23 }
set_option maxHeartbeats 4000000 in
set_option maxRecDepth 100000 in
theorem c_X4_init {l : Launch} {D : va_G} {cA : Nat → ClassId} {sz : Nat} {g0 : gS} {p0 : Nat} {Q : gS → Prop} (h : w_X4_init g0 p0 Q) : Met l yX4_init wsX4_init r_X4_init (va_Pc [.ref p0] (gPre D cA g0 sz)) (gQv D cA g0 sz (Q)) 3 403 (gA g0 sz) := by
  refine g_met (cc := cX4_init) (maxL := 1) (ret := none) (own := RX4) (by decide) rfl rfl (Nat.le_of_ble_eq_true rfl) ?_
  intro p e s m args below meth c ls CF hr hlk hnm hc hl
  obtain ⟨hx, hb, hml, hown, hts⟩ := id CF
  have hl : lv_has ls 1 [(0, .ref p0)] := hl
  show W p l e r_X4_init s m args below meth c s.heap [] 0 0 (MQ below (gQv D cA g0 sz (Q)) args s 3 403 (gA g0 sz)) (F0 m 0 ls [])
  unfold w_X4_init at h
  obtain ⟨H, hH0⟩ : ∃ z, z = s.heap := ⟨_, rfl⟩
  rw [← hH0] at hc ⊢
  obtain ⟨locs, hlc0⟩ : ∃ z : List Loc, z = [] := ⟨_, rfl⟩
  rw [← hlc0] at hc ⊢
  refine lv_aload_n hx hb dX4_init_0 rfl (lv_at hl 0 rfl) ?_
  refine W.objInit hx hb hown (hts _ (List.mem_cons_of_mem _ (List.mem_append_left _ (List.mem_of_getElem? (i := 0) rfl)))) (hts _ (List.mem_cons_of_mem _ (List.mem_append_left _ (List.mem_of_getElem? (i := 1) rfl)))) (hts _ (List.mem_cons_of_mem _ (List.mem_append_left _ (List.mem_of_getElem? (i := 2) rfl)))) rfl (by rw [hml]; exact hl.1) rfl dX4_init_1 (Nat.le_of_ble_eq_true rfl) (Nat.le_of_ble_eq_true rfl) ?_
  refine W.eq (g2 := F0 m 4 ls []) rfl ?_
  refine lv_aload_n hx hb dX4_init_4 rfl (lv_at hl 0 rfl) ?_
  refine lv_sipush (v := 200) hx hb dX4_init_5 (by decide) ?_
  refine g_newz CF hc (List.mem_cons_of_mem _ (List.mem_append_left _ (List.mem_of_getElem? (i := 3) rfl))) (n := 200) (N := 200) (by decide) (by decide) (by decide) (Nat.le_of_ble_eq_true rfl) (Nat.le_of_ble_eq_true rfl) dX4_init_8 (fun q1 H locs hq2 hc => ?_)
  replace h := h q1 hq2
  obtain ⟨g3, eg4⟩ : ∃ z, z = sNew g0 q1 22 200 := ⟨_, rfl⟩
  have hc : gC D cA (gA g0 sz) s g3 H locs := by rw [eg4]; exact hc
  replace h := h g3 eg4
  refine W.widen (k := 1) (n := 200) (Nat.le_of_ble_eq_true rfl) (Nat.le_of_ble_eq_true rfl) ?_
  obtain ⟨hk5, h⟩ := h
  refine g_putrF CF hc hk5 rfl (by decide) (fun _ h9 => List.mem_cons_of_mem _ (List.mem_append_right _ (h9))) tyX4 tyX4_ok nmX4 (k := 0) (by decide) (List.mem_cons_of_mem _ (List.mem_append_left _ (List.mem_of_getElem? (i := 4) rfl))) rfl hnm rfl (some q1) narrow_ra fits_ra rfl dX4_init_10 (fun H locs hc => ?_)
  obtain ⟨g6, eg7⟩ : ∃ z, z = sV g3 p0 0 (some q1) := ⟨_, rfl⟩
  have hc : gC D cA (gA g0 sz) s g6 H locs := by rw [eg7]; exact hc
  replace h := h g6 eg7
  refine lv_aload_n hx hb dX4_init_13 rfl (lv_at hl 0 rfl) ?_
  refine lv_sipush (v := 200) hx hb dX4_init_14 (by decide) ?_
  refine g_newi CF hc (List.mem_cons_of_mem _ (List.mem_append_left _ (List.mem_of_getElem? (i := 5) rfl))) (n := 200) (N := 200) (by decide) (by decide) (by decide) (Nat.le_of_ble_eq_true rfl) (Nat.le_of_ble_eq_true rfl) dX4_init_17 (fun q8 H locs hq9 hc => ?_)
  replace h := h q8 hq9
  obtain ⟨g10, eg11⟩ : ∃ z, z = sNew g6 q8 21 200 := ⟨_, rfl⟩
  have hc : gC D cA (gA g0 sz) s g10 H locs := by rw [eg11]; exact hc
  replace h := h g10 eg11
  refine W.widen (k := 2) (n := 400) (Nat.le_of_ble_eq_true rfl) (Nat.le_of_ble_eq_true rfl) ?_
  obtain ⟨hk12, h⟩ := h
  refine g_putrF CF hc hk12 rfl (by decide) (fun _ h9 => List.mem_cons_of_mem _ (List.mem_append_right _ (h9))) tyX4 tyX4_ok nmX4 (k := 1) (by decide) (List.mem_cons_of_mem _ (List.mem_append_left _ (List.mem_of_getElem? (i := 6) rfl))) rfl hnm rfl (some q8) narrow_ra fits_ra rfl dX4_init_19 (fun H locs hc => ?_)
  obtain ⟨g13, eg14⟩ : ∃ z, z = sV g10 p0 1 (some q8) := ⟨_, rfl⟩
  have hc : gC D cA (gA g0 sz) s g13 H locs := by rw [eg14]; exact hc
  replace h := h g13 eg14
  refine lv_aload_n hx hb dX4_init_22 rfl (lv_at hl 0 rfl) ?_
  refine lv_iconst (v := 3) hx hb dX4_init_23 (by decide) ?_
  refine g_newi CF hc (List.mem_cons_of_mem _ (List.mem_append_left _ (List.mem_of_getElem? (i := 5) rfl))) (n := 3) (N := 3) (by decide) (by decide) (by decide) (Nat.le_of_ble_eq_true rfl) (Nat.le_of_ble_eq_true rfl) dX4_init_24 (fun q15 H locs hq16 hc => ?_)
  replace h := h q15 hq16
  obtain ⟨g17, eg18⟩ : ∃ z, z = sNew g13 q15 21 3 := ⟨_, rfl⟩
  have hc : gC D cA (gA g0 sz) s g17 H locs := by rw [eg18]; exact hc
  replace h := h g17 eg18
  refine W.widen (k := 3) (n := 403) (Nat.le_of_ble_eq_true rfl) (Nat.le_of_ble_eq_true rfl) ?_
  obtain ⟨hk19, h⟩ := h
  refine g_putrF CF hc hk19 rfl (by decide) (fun _ h9 => List.mem_cons_of_mem _ (List.mem_append_right _ (h9))) tyX4 tyX4_ok nmX4 (k := 2) (by decide) (List.mem_cons_of_mem _ (List.mem_append_left _ (List.mem_of_getElem? (i := 7) rfl))) rfl hnm rfl (some q15) narrow_ra fits_ra rfl dX4_init_26 (fun H locs hc => ?_)
  obtain ⟨g20, eg21⟩ : ∃ z, z = sV g17 p0 2 (some q15) := ⟨_, rfl⟩
  have hc : gC D cA (gA g0 sz) s g20 H locs := by rw [eg21]; exact hc
  replace h := h g20 eg21
  refine lv_aload_n hx hb dX4_init_29 rfl (lv_at hl 0 rfl) ?_
  obtain ⟨hk22, h⟩ := h
  obtain ⟨y23, e24, h⟩ := h
  refine g_getr CF hc hk22 rfl (by decide) (fun _ h9 => List.mem_cons_of_mem _ (List.mem_append_right _ (h9))) (k := 1) (by decide) (List.mem_cons_of_mem _ (List.mem_append_left _ (List.mem_of_getElem? (i := 6) rfl))) e24 rfl dX4_init_30 ?_
  refine lv_iconst (v := (-1)) hx hb dX4_init_33 (by decide) ?_
  refine g_callv (va_runS (As := [.ref y23, .int (-1)]) (rest := []) CF (c_J7_fill_53178 h) (va_cwS 2 hts gX4_init_J7_fill_53178 rfl rfl rfl (by decide +kernel) ⟨Nat.le_of_ble_eq_true rfl, Nat.le_of_ble_eq_true rfl⟩) hc.preS rfl rfl hl.1 rfl (lv_room (Nat.le_of_ble_eq_true rfl)) dX4_init_34 ⟨Nat.le_of_ble_eq_true rfl, Nat.le_of_ble_eq_true rfl⟩) hc (fun g26 H locs hq hc => ?_)
  replace h := hq
  refine lv_aload_n hx hb dX4_init_37 rfl (lv_at hl 0 rfl) ?_
  obtain ⟨hk28, h⟩ := h
  obtain ⟨y29, e30, h⟩ := h
  refine g_getr CF hc hk28 rfl (by decide) (fun _ h9 => List.mem_cons_of_mem _ (List.mem_append_right _ (h9))) (k := 2) (by decide) (List.mem_cons_of_mem _ (List.mem_append_left _ (List.mem_of_getElem? (i := 7) rfl))) e30 rfl dX4_init_38 ?_
  refine lv_iconst (v := 1) hx hb dX4_init_41 (by decide) ?_
  refine g_callv (va_runS (As := [.ref y29, .int 1]) (rest := []) CF (c_J7_fill_53178 h) (va_cwS 2 hts gX4_init_J7_fill_53178 rfl rfl rfl (by decide +kernel) ⟨Nat.le_of_ble_eq_true rfl, Nat.le_of_ble_eq_true rfl⟩) hc.preS rfl rfl hl.1 rfl (lv_room (Nat.le_of_ble_eq_true rfl)) dX4_init_42 ⟨Nat.le_of_ble_eq_true rfl, Nat.le_of_ble_eq_true rfl⟩) hc (fun g32 H locs hq hc => ?_)
  replace h := hq
  exact g_retv CF hr hlk hc h dX4_init_45
def b_X4_isMuted_27 (g : gS) (is0 : Int32) (Q : Int32 → Prop) : Prop :=
  (is0 = 0 ∨ is0 = 1) ∧ (Q is0)
def b_X4_isMuted_26 (g : gS) (Q : Int32 → Prop) : Prop :=
  b_X4_isMuted_27 g 0 Q
def w_X4_isMuted (g : gS) (p0 : Nat) (p1 : Int32) (Q : Int32 → Prop) : Prop :=
  (p1 < 0 → (b_X4_isMuted_26 g Q)) ∧ (¬ p1 < 0 → (gK g p0 = 5 ∧ (∃ y4, gR g p0 0 = some y4 ∧ (gK g y4 = 22 ∧ (((nI (gN g y4)) ≤ p1 → (b_X4_isMuted_26 g Q)) ∧ (¬ (nI (gN g y4)) ≤ p1 → (∃ y8, gR g p0 0 = some y8 ∧ (gK g y8 = 22 ∧ (vp_in p1 (gN g y8) ∧ (((gI g y8 (Int32.toNatClampNeg p1)) = 0 → (b_X4_isMuted_26 g Q)) ∧ (¬ (gI g y8 (Int32.toNatClampNeg p1)) = 0 → (b_X4_isMuted_27 g 1 Q))))))))))))
abbrev r_X4_isMuted : Room := { frames := 0, cells := 0, slots := 0, locals := 0 }
set_option maxHeartbeats 4000000 in
set_option maxRecDepth 100000 in
theorem c_X4_isMuted {l : Launch} {D : va_G} {cA : Nat → ClassId} {sz : Nat} {g : gS} {p0 : Nat} {p1 : Int32} {Q : Int32 → Prop} (h : w_X4_isMuted g p0 p1 Q) : Met l yX4_isMuted wsX4_isMuted r_X4_isMuted (va_Pc [.ref p0, .int p1] (gPre D cA g sz)) (gQi D cA g sz (fun r g2 => g = g2 ∧ Q r)) 0 0 (gA g sz) := by
  refine g_met (cc := cX4_isMuted) (maxL := 2) (ret := (some .boolean)) (own := RX4) (by decide) rfl rfl (Nat.le_of_ble_eq_true rfl) ?_
  intro p e s m args below meth c ls CF hr hlk hnm hc hl
  obtain ⟨hx, hb, hml, hown, hts⟩ := id CF
  have hl : lv_has ls 2 [(0, .ref p0), (1, .int p1)] := hl
  show W p l e r_X4_isMuted s m args below meth c s.heap [] 0 0 (MQ below (gQi D cA g sz (fun r g2 => g = g2 ∧ Q r)) args s 0 0 (gA g sz)) (F0 m 0 ls [])
  have hb_27 : ∀ (is0 : Int32), b_X4_isMuted_27 g is0 Q → ∀ (H : Heap) (locs : List Loc) (ls : Array Slot), gC D cA (gA g sz) s g H locs → lv_has ls 2 [] → W p l e r_X4_isMuted s m args below meth c H locs 0 0 (MQ below (gQi D cA g sz (fun r g2 => g = g2 ∧ Q r)) args s 0 0 (gA g sz)) (F0 m 27 ls [.int is0]) := by
    intro is0 h H locs ls hc hl
    unfold b_X4_isMuted_27 at h
    obtain ⟨hz1, h⟩ := h
    exact g_reti (r := is0) CF hr hlk hc (narrow_01 hz1) ⟨rfl, h⟩ dX4_isMuted_27
  have hb_26 : b_X4_isMuted_26 g Q → ∀ (H : Heap) (locs : List Loc) (ls : Array Slot), gC D cA (gA g sz) s g H locs → lv_has ls 2 [] → W p l e r_X4_isMuted s m args below meth c H locs 0 0 (MQ below (gQi D cA g sz (fun r g2 => g = g2 ∧ Q r)) args s 0 0 (gA g sz)) (F0 m 26 ls []) := by
    intro h H locs ls hc hl
    unfold b_X4_isMuted_26 at h
    refine lv_iconst (v := 0) hx hb dX4_isMuted_26 (by decide) ?_
    exact hb_27 0 h _ _ _ hc (lv_sub hl [] rfl)
  unfold w_X4_isMuted at h
  obtain ⟨H, hH0⟩ : ∃ z, z = s.heap := ⟨_, rfl⟩
  rw [← hH0] at hc ⊢
  obtain ⟨locs, hlc0⟩ : ∃ z : List Loc, z = [] := ⟨_, rfl⟩
  rw [← hlc0] at hc ⊢
  refine lv_iload_n hx hb dX4_isMuted_0 rfl (lv_at hl 1 rfl) ?_
  refine lv_if_lt (tgt := 26) hx hb dX4_isMuted_1 (by decide) (fun c2 => ?_) (fun c2 => ?_)
  · have h := h.1 c2
    exact hb_26  h _ _ _ hc (lv_sub hl [] rfl)
  · have h := h.2 c2
    refine lv_iload_n hx hb dX4_isMuted_4 rfl (lv_at hl 1 rfl) ?_
    refine lv_aload_n hx hb dX4_isMuted_5 rfl (lv_at hl 0 rfl) ?_
    obtain ⟨hk3, h⟩ := h
    obtain ⟨y4, e5, h⟩ := h
    refine g_getr CF hc hk3 rfl (by decide) (fun _ h9 => List.mem_cons_of_mem _ (List.mem_append_right _ (h9))) (k := 0) (by decide) (List.mem_cons_of_mem _ (List.mem_append_left _ (List.mem_of_getElem? (i := 0) rfl))) e5 rfl dX4_isMuted_6 ?_
    obtain ⟨hk6, h⟩ := h
    refine g_alen CF hc (j := 1) hk6 (by decide) dX4_isMuted_9 ?_
    refine lv_icmp_ge (tgt := 26) hx hb dX4_isMuted_10 (by decide) (fun c7 => ?_) (fun c7 => ?_)
    · have h := h.1 c7
      exact hb_26  h _ _ _ hc (lv_sub hl [] rfl)
    · have h := h.2 c7
      refine lv_aload_n hx hb dX4_isMuted_13 rfl (lv_at hl 0 rfl) ?_
      obtain ⟨y8, e9, h⟩ := h
      refine g_getr CF hc hk3 rfl (by decide) (fun _ h9 => List.mem_cons_of_mem _ (List.mem_append_right _ (h9))) (k := 0) (by decide) (List.mem_cons_of_mem _ (List.mem_append_left _ (List.mem_of_getElem? (i := 0) rfl))) e9 rfl dX4_isMuted_14 ?_
      refine lv_iload_n hx hb dX4_isMuted_17 rfl (lv_at hl 1 rfl) ?_
      obtain ⟨hk10, h⟩ := h
      obtain ⟨hi11, h⟩ := h
      refine g_zald CF hc hk10 hi11 dX4_isMuted_18 ?_
      refine lv_if_eq (tgt := 26) hx hb dX4_isMuted_19 (by decide) (fun c12 => ?_) (fun c12 => ?_)
      · have h := h.1 c12
        exact hb_26  h _ _ _ hc (lv_sub hl [] rfl)
      · have h := h.2 c12
        refine lv_iconst (v := 1) hx hb dX4_isMuted_22 (by decide) ?_
        refine lv_goto (tgt := 27) hx hb dX4_isMuted_23 (by decide) ?_
        exact hb_27 1 h _ _ _ hc (lv_sub hl [] rfl)
def b_X4_aliasOf_23 (g : gS) (is0 : Int32) (Q : Int32 → Prop) : Prop :=
  Q is0
def b_X4_aliasOf_13 (g : gS) (Q : Int32 → Prop) : Prop :=
  b_X4_aliasOf_23 g (-1) Q
def w_X4_aliasOf (g : gS) (p0 : Nat) (p1 : Int32) (Q : Int32 → Prop) : Prop :=
  (p1 < 0 → (b_X4_aliasOf_13 g Q)) ∧ (¬ p1 < 0 → (gK g p0 = 5 ∧ (∃ y3, gR g p0 1 = some y3 ∧ (gK g y3 = 21 ∧ ((p1 < (nI (gN g y3)) → (∃ y7, gR g p0 1 = some y7 ∧ (gK g y7 = 21 ∧ (vp_in p1 (gN g y7) ∧ (b_X4_aliasOf_23 g (gI g y7 (Int32.toNatClampNeg p1)) Q))))) ∧ (¬ p1 < (nI (gN g y3)) → (b_X4_aliasOf_13 g Q)))))))
abbrev r_X4_aliasOf : Room := { frames := 0, cells := 0, slots := 0, locals := 0 }
set_option maxHeartbeats 4000000 in
set_option maxRecDepth 100000 in
theorem c_X4_aliasOf {l : Launch} {D : va_G} {cA : Nat → ClassId} {sz : Nat} {g : gS} {p0 : Nat} {p1 : Int32} {Q : Int32 → Prop} (h : w_X4_aliasOf g p0 p1 Q) : Met l yX4_aliasOf wsX4_aliasOf r_X4_aliasOf (va_Pc [.ref p0, .int p1] (gPre D cA g sz)) (gQi D cA g sz (fun r g2 => g = g2 ∧ Q r)) 0 0 (gA g sz) := by
  refine g_met (cc := cX4_aliasOf) (maxL := 2) (ret := (some .int)) (own := RX4) (by decide) rfl rfl (Nat.le_of_ble_eq_true rfl) ?_
  intro p e s m args below meth c ls CF hr hlk hnm hc hl
  obtain ⟨hx, hb, hml, hown, hts⟩ := id CF
  have hl : lv_has ls 2 [(0, .ref p0), (1, .int p1)] := hl
  show W p l e r_X4_aliasOf s m args below meth c s.heap [] 0 0 (MQ below (gQi D cA g sz (fun r g2 => g = g2 ∧ Q r)) args s 0 0 (gA g sz)) (F0 m 0 ls [])
  have hb_23 : ∀ (is0 : Int32), b_X4_aliasOf_23 g is0 Q → ∀ (H : Heap) (locs : List Loc) (ls : Array Slot), gC D cA (gA g sz) s g H locs → lv_has ls 2 [] → W p l e r_X4_aliasOf s m args below meth c H locs 0 0 (MQ below (gQi D cA g sz (fun r g2 => g = g2 ∧ Q r)) args s 0 0 (gA g sz)) (F0 m 23 ls [.int is0]) := by
    intro is0 h H locs ls hc hl
    unfold b_X4_aliasOf_23 at h
    exact g_reti (r := is0) CF hr hlk hc rfl ⟨rfl, h⟩ dX4_aliasOf_23
  have hb_13 : b_X4_aliasOf_13 g Q → ∀ (H : Heap) (locs : List Loc) (ls : Array Slot), gC D cA (gA g sz) s g H locs → lv_has ls 2 [] → W p l e r_X4_aliasOf s m args below meth c H locs 0 0 (MQ below (gQi D cA g sz (fun r g2 => g = g2 ∧ Q r)) args s 0 0 (gA g sz)) (F0 m 13 ls []) := by
    intro h H locs ls hc hl
    unfold b_X4_aliasOf_13 at h
    refine lv_iconst (v := (-1)) hx hb dX4_aliasOf_13 (by decide) ?_
    refine lv_goto (tgt := 23) hx hb dX4_aliasOf_14 (by decide) ?_
    exact hb_23 (-1) h _ _ _ hc (lv_sub hl [] rfl)
  unfold w_X4_aliasOf at h
  obtain ⟨H, hH0⟩ : ∃ z, z = s.heap := ⟨_, rfl⟩
  rw [← hH0] at hc ⊢
  obtain ⟨locs, hlc0⟩ : ∃ z : List Loc, z = [] := ⟨_, rfl⟩
  rw [← hlc0] at hc ⊢
  refine lv_iload_n hx hb dX4_aliasOf_0 rfl (lv_at hl 1 rfl) ?_
  refine lv_if_lt (tgt := 13) hx hb dX4_aliasOf_1 (by decide) (fun c1 => ?_) (fun c1 => ?_)
  · have h := h.1 c1
    exact hb_13  h _ _ _ hc (lv_sub hl [] rfl)
  · have h := h.2 c1
    refine lv_iload_n hx hb dX4_aliasOf_4 rfl (lv_at hl 1 rfl) ?_
    refine lv_aload_n hx hb dX4_aliasOf_5 rfl (lv_at hl 0 rfl) ?_
    obtain ⟨hk2, h⟩ := h
    obtain ⟨y3, e4, h⟩ := h
    refine g_getr CF hc hk2 rfl (by decide) (fun _ h9 => List.mem_cons_of_mem _ (List.mem_append_right _ (h9))) (k := 1) (by decide) (List.mem_cons_of_mem _ (List.mem_append_left _ (List.mem_of_getElem? (i := 0) rfl))) e4 rfl dX4_aliasOf_6 ?_
    obtain ⟨hk5, h⟩ := h
    refine g_alen CF hc (j := 0) hk5 (by decide) dX4_aliasOf_9 ?_
    refine lv_icmp_lt (tgt := 17) hx hb dX4_aliasOf_10 (by decide) (fun c6 => ?_) (fun c6 => ?_)
    · have h := h.1 c6
      refine lv_aload_n hx hb dX4_aliasOf_17 rfl (lv_at hl 0 rfl) ?_
      obtain ⟨y7, e8, h⟩ := h
      refine g_getr CF hc hk2 rfl (by decide) (fun _ h9 => List.mem_cons_of_mem _ (List.mem_append_right _ (h9))) (k := 1) (by decide) (List.mem_cons_of_mem _ (List.mem_append_left _ (List.mem_of_getElem? (i := 0) rfl))) e8 rfl dX4_aliasOf_18 ?_
      refine lv_iload_n hx hb dX4_aliasOf_21 rfl (lv_at hl 1 rfl) ?_
      obtain ⟨hk9, h⟩ := h
      obtain ⟨hi10, h⟩ := h
      refine g_iald CF hc hk9 hi10 dX4_aliasOf_22 ?_
      exact hb_23 (gI g y7 (Int32.toNatClampNeg p1)) h _ _ _ hc (lv_sub hl [] rfl)
    · have h := h.2 c6
      exact hb_13  h _ _ _ hc (lv_sub hl [] rfl)
def b_X4_weightOf_23 (g : gS) (is0 : Int32) (Q : Int32 → Prop) : Prop :=
  Q is0
def b_X4_weightOf_13 (g : gS) (Q : Int32 → Prop) : Prop :=
  b_X4_weightOf_23 g 0 Q
def w_X4_weightOf (g : gS) (p0 : Nat) (p1 : Int32) (Q : Int32 → Prop) : Prop :=
  (p1 < 0 → (b_X4_weightOf_13 g Q)) ∧ (¬ p1 < 0 → (gK g p0 = 5 ∧ (∃ y3, gR g p0 2 = some y3 ∧ (gK g y3 = 21 ∧ ((p1 < (nI (gN g y3)) → (∃ y7, gR g p0 2 = some y7 ∧ (gK g y7 = 21 ∧ (vp_in p1 (gN g y7) ∧ (b_X4_weightOf_23 g (gI g y7 (Int32.toNatClampNeg p1)) Q))))) ∧ (¬ p1 < (nI (gN g y3)) → (b_X4_weightOf_13 g Q)))))))
abbrev r_X4_weightOf : Room := { frames := 0, cells := 0, slots := 0, locals := 0 }
set_option maxHeartbeats 4000000 in
set_option maxRecDepth 100000 in
theorem c_X4_weightOf {l : Launch} {D : va_G} {cA : Nat → ClassId} {sz : Nat} {g : gS} {p0 : Nat} {p1 : Int32} {Q : Int32 → Prop} (h : w_X4_weightOf g p0 p1 Q) : Met l yX4_weightOf wsX4_weightOf r_X4_weightOf (va_Pc [.ref p0, .int p1] (gPre D cA g sz)) (gQi D cA g sz (fun r g2 => g = g2 ∧ Q r)) 0 0 (gA g sz) := by
  refine g_met (cc := cX4_weightOf) (maxL := 2) (ret := (some .int)) (own := RX4) (by decide) rfl rfl (Nat.le_of_ble_eq_true rfl) ?_
  intro p e s m args below meth c ls CF hr hlk hnm hc hl
  obtain ⟨hx, hb, hml, hown, hts⟩ := id CF
  have hl : lv_has ls 2 [(0, .ref p0), (1, .int p1)] := hl
  show W p l e r_X4_weightOf s m args below meth c s.heap [] 0 0 (MQ below (gQi D cA g sz (fun r g2 => g = g2 ∧ Q r)) args s 0 0 (gA g sz)) (F0 m 0 ls [])
  have hb_23 : ∀ (is0 : Int32), b_X4_weightOf_23 g is0 Q → ∀ (H : Heap) (locs : List Loc) (ls : Array Slot), gC D cA (gA g sz) s g H locs → lv_has ls 2 [] → W p l e r_X4_weightOf s m args below meth c H locs 0 0 (MQ below (gQi D cA g sz (fun r g2 => g = g2 ∧ Q r)) args s 0 0 (gA g sz)) (F0 m 23 ls [.int is0]) := by
    intro is0 h H locs ls hc hl
    unfold b_X4_weightOf_23 at h
    exact g_reti (r := is0) CF hr hlk hc rfl ⟨rfl, h⟩ dX4_weightOf_23
  have hb_13 : b_X4_weightOf_13 g Q → ∀ (H : Heap) (locs : List Loc) (ls : Array Slot), gC D cA (gA g sz) s g H locs → lv_has ls 2 [] → W p l e r_X4_weightOf s m args below meth c H locs 0 0 (MQ below (gQi D cA g sz (fun r g2 => g = g2 ∧ Q r)) args s 0 0 (gA g sz)) (F0 m 13 ls []) := by
    intro h H locs ls hc hl
    unfold b_X4_weightOf_13 at h
    refine lv_iconst (v := 0) hx hb dX4_weightOf_13 (by decide) ?_
    refine lv_goto (tgt := 23) hx hb dX4_weightOf_14 (by decide) ?_
    exact hb_23 0 h _ _ _ hc (lv_sub hl [] rfl)
  unfold w_X4_weightOf at h
  obtain ⟨H, hH0⟩ : ∃ z, z = s.heap := ⟨_, rfl⟩
  rw [← hH0] at hc ⊢
  obtain ⟨locs, hlc0⟩ : ∃ z : List Loc, z = [] := ⟨_, rfl⟩
  rw [← hlc0] at hc ⊢
  refine lv_iload_n hx hb dX4_weightOf_0 rfl (lv_at hl 1 rfl) ?_
  refine lv_if_lt (tgt := 13) hx hb dX4_weightOf_1 (by decide) (fun c1 => ?_) (fun c1 => ?_)
  · have h := h.1 c1
    exact hb_13  h _ _ _ hc (lv_sub hl [] rfl)
  · have h := h.2 c1
    refine lv_iload_n hx hb dX4_weightOf_4 rfl (lv_at hl 1 rfl) ?_
    refine lv_aload_n hx hb dX4_weightOf_5 rfl (lv_at hl 0 rfl) ?_
    obtain ⟨hk2, h⟩ := h
    obtain ⟨y3, e4, h⟩ := h
    refine g_getr CF hc hk2 rfl (by decide) (fun _ h9 => List.mem_cons_of_mem _ (List.mem_append_right _ (h9))) (k := 2) (by decide) (List.mem_cons_of_mem _ (List.mem_append_left _ (List.mem_of_getElem? (i := 0) rfl))) e4 rfl dX4_weightOf_6 ?_
    obtain ⟨hk5, h⟩ := h
    refine g_alen CF hc (j := 0) hk5 (by decide) dX4_weightOf_9 ?_
    refine lv_icmp_lt (tgt := 17) hx hb dX4_weightOf_10 (by decide) (fun c6 => ?_) (fun c6 => ?_)
    · have h := h.1 c6
      refine lv_aload_n hx hb dX4_weightOf_17 rfl (lv_at hl 0 rfl) ?_
      obtain ⟨y7, e8, h⟩ := h
      refine g_getr CF hc hk2 rfl (by decide) (fun _ h9 => List.mem_cons_of_mem _ (List.mem_append_right _ (h9))) (k := 2) (by decide) (List.mem_cons_of_mem _ (List.mem_append_left _ (List.mem_of_getElem? (i := 0) rfl))) e8 rfl dX4_weightOf_18 ?_
      refine lv_iload_n hx hb dX4_weightOf_21 rfl (lv_at hl 1 rfl) ?_
      obtain ⟨hk9, h⟩ := h
      obtain ⟨hi10, h⟩ := h
      refine g_iald CF hc hk9 hi10 dX4_weightOf_22 ?_
      exact hb_23 (gI g y7 (Int32.toNatClampNeg p1)) h _ _ _ hc (lv_sub hl [] rfl)
    · have h := h.2 c6
      exact hb_13  h _ _ _ hc (lv_sub hl [] rfl)
def b_X4_unmuted_13 (g : gS) (is0 : Int32) (Q : Int32 → Prop) : Prop :=
  Q is0
def w_X4_unmuted (g : gS) (p0 : Nat) (p1 : Int32) (Q : Int32 → Prop) : Prop :=
  gK g p0 = 5 ∧ (w_X4_isMuted g p0 p1 (fun x2 => ((x2 = 0 → (b_X4_unmuted_13 g p1 Q)) ∧ (¬ x2 = 0 → (b_X4_unmuted_13 g (-1) Q)))))
abbrev r_X4_unmuted : Room := { frames := 1, cells := 0, slots := 0, locals := 21 }
set_option maxHeartbeats 4000000 in
set_option maxRecDepth 100000 in
theorem c_X4_unmuted {l : Launch} {D : va_G} {cA : Nat → ClassId} {sz : Nat} {g : gS} {p0 : Nat} {p1 : Int32} {Q : Int32 → Prop} (h : w_X4_unmuted g p0 p1 Q) : Met l yX4_unmuted wsX4_unmuted r_X4_unmuted (va_Pc [.ref p0, .int p1] (gPre D cA g sz)) (gQi D cA g sz (fun r g2 => g = g2 ∧ Q r)) 0 0 (gA g sz) := by
  refine g_met (cc := cX4_unmuted) (maxL := 2) (ret := (some .int)) (own := RX4) (by decide) rfl rfl (Nat.le_of_ble_eq_true rfl) ?_
  intro p e s m args below meth c ls CF hr hlk hnm hc hl
  obtain ⟨hx, hb, hml, hown, hts⟩ := id CF
  have hl : lv_has ls 2 [(0, .ref p0), (1, .int p1)] := hl
  show W p l e r_X4_unmuted s m args below meth c s.heap [] 0 0 (MQ below (gQi D cA g sz (fun r g2 => g = g2 ∧ Q r)) args s 0 0 (gA g sz)) (F0 m 0 ls [])
  have hb_13 : ∀ (is0 : Int32), b_X4_unmuted_13 g is0 Q → ∀ (H : Heap) (locs : List Loc) (ls : Array Slot), gC D cA (gA g sz) s g H locs → lv_has ls 2 [] → W p l e r_X4_unmuted s m args below meth c H locs 0 0 (MQ below (gQi D cA g sz (fun r g2 => g = g2 ∧ Q r)) args s 0 0 (gA g sz)) (F0 m 13 ls [.int is0]) := by
    intro is0 h H locs ls hc hl
    unfold b_X4_unmuted_13 at h
    exact g_reti (r := is0) CF hr hlk hc rfl ⟨rfl, h⟩ dX4_unmuted_13
  unfold w_X4_unmuted at h
  obtain ⟨H, hH0⟩ : ∃ z, z = s.heap := ⟨_, rfl⟩
  rw [← hH0] at hc ⊢
  obtain ⟨locs, hlc0⟩ : ∃ z : List Loc, z = [] := ⟨_, rfl⟩
  rw [← hlc0] at hc ⊢
  refine lv_aload_n hx hb dX4_unmuted_0 rfl (lv_at hl 0 rfl) ?_
  refine lv_iload_n hx hb dX4_unmuted_1 rfl (lv_at hl 1 rfl) ?_
  obtain ⟨hk1, h⟩ := h
  refine g_calli (va_runV (As := [.int p1]) (rest := []) CF (c_X4_isMuted h) (cwV 1 hts gX4_unmuted_X4_isMuted rfl rfl rfl (by decide +kernel) ⟨Nat.le_of_ble_eq_true rfl, Nat.le_of_ble_eq_true rfl⟩) (hc.preV hk1 rfl (by decide)) rfl rfl hl.1 rfl (lv_room (Nat.le_of_ble_eq_true rfl)) dX4_unmuted_2 ⟨Nat.le_of_ble_eq_true rfl, Nat.le_of_ble_eq_true rfl⟩) hc (fun x2 gq3 H locs hq hc => ?_)
  obtain ⟨rfl, h⟩ := hq
  refine lv_if_eq (tgt := 12) hx hb dX4_unmuted_5 (by decide) (fun c4 => ?_) (fun c4 => ?_)
  · have h := h.1 c4
    refine lv_iload_n hx hb dX4_unmuted_12 rfl (lv_at hl 1 rfl) ?_
    exact hb_13 p1 h _ _ _ hc (lv_sub hl [] rfl)
  · have h := h.2 c4
    refine lv_iconst (v := (-1)) hx hb dX4_unmuted_8 (by decide) ?_
    refine lv_goto (tgt := 13) hx hb dX4_unmuted_9 (by decide) ?_
    exact hb_13 (-1) h _ _ _ hc (lv_sub hl [] rfl)
