def l_J7_fill_53178_5 (r0 : Nat) (i1 : Int32) (i3 : Int32) (Q : gS → Prop) (g : gS) (i2 : Int32) (k5 : gS → Int32 → Prop) : Prop :=
  (i3 ≤ i2 → (Q g)) ∧ (¬ i3 ≤ i2 → (gK g r0 = 21 ∧ (vp_in i2 (gN g r0) ∧ (∀ g4, g4 = sU g r0 (Int32.toNatClampNeg i2) i1 → (k5 g4 (i2 + 1))))))
def w_J7_fill_53178 (g0 : gS) (p0 : Nat) (p1 : Int32) (Q : gS → Prop) : Prop :=
  gK g0 p0 = 21 ∧ (lpx2 (l_J7_fill_53178_5 p0 p1 (nI (gN g0 p0)) Q) g0 0)
abbrev r_J7_fill_53178 : Room := { frames := 0, cells := 0, slots := 0, locals := 0 }
set_option maxHeartbeats 4000000 in
set_option maxRecDepth 100000 in
theorem c_J7_fill_53178 {l : Launch} {D : va_G} {cA : Nat → ClassId} {sz : Nat} {g0 : gS} {p0 : Nat} {p1 : Int32} {Q : gS → Prop} (h : w_J7_fill_53178 g0 p0 p1 Q) : Met l yJ7_fill_53178 wsJ7_fill_53178 r_J7_fill_53178 (va_Pc [.ref p0, .int p1] (gPre D cA g0 sz)) (gQv D cA g0 sz (Q)) 0 0 (gA g0 sz) := by
  refine g_met (cc := cJ7_fill_53178) (maxL := 4) (ret := none) (own := RJ7) (by decide) rfl rfl (Nat.le_of_ble_eq_true rfl) ?_
  intro p e s m args below meth c ls CF hr hlk hnm hc hl
  obtain ⟨hx, hb, hml, hown, hts⟩ := id CF
  have hl : lv_has ls 4 [(0, .ref p0), (1, .int p1)] := hl
  show W p l e r_J7_fill_53178 s m args below meth c s.heap [] 0 0 (MQ below (gQv D cA g0 sz (Q)) args s 0 0 (gA g0 sz)) (F0 m 0 ls [])
  have hb_5 : ∀ (r0 : Nat) (i1 : Int32) (i3 : Int32), ∀ (g : gS) (i2 : Int32), lpx2 (l_J7_fill_53178_5 r0 i1 i3 Q) g i2 → ∀ (H : Heap) (locs : List Loc) (ls : Array Slot), gC D cA (gA g0 sz) s g H locs → lv_has ls 4 [(0, .ref r0), (1, .int i1), (2, .int i2), (3, .int i3)] → W p l e r_J7_fill_53178 s m args below meth c H locs 0 0 (MQ below (gQv D cA g0 sz (Q)) args s 0 0 (gA g0 sz)) (F0 m 5 ls []) := by
    intro r0 i1 i3
    refine lpx2_run (P := fun (g : gS) (i2 : Int32) => ∀ (H : Heap) (locs : List Loc) (ls : Array Slot), gC D cA (gA g0 sz) s g H locs → lv_has ls 4 [(0, .ref r0), (1, .int i1), (2, .int i2), (3, .int i3)] → W p l e r_J7_fill_53178 s m args below meth c H locs 0 0 (MQ below (gQv D cA g0 sz (Q)) args s 0 0 (gA g0 sz)) (F0 m 5 ls [])) ?_
    intro k5 hk_5 g i2 h H locs ls hc hl
    unfold l_J7_fill_53178_5 at h
    refine lv_iload_n hx hb dJ7_fill_53178_5 rfl (lv_at hl 2 rfl) ?_
    refine lv_iload_n hx hb dJ7_fill_53178_6 rfl (lv_at hl 3 rfl) ?_
    refine lv_icmp_ge (tgt := 20) hx hb dJ7_fill_53178_7 (by decide) (fun c1 => ?_) (fun c1 => ?_)
    · have h := h.1 c1
      exact g_retv CF hr hlk hc h dJ7_fill_53178_20
    · have h := h.2 c1
      refine lv_aload_n hx hb dJ7_fill_53178_10 rfl (lv_at hl 0 rfl) ?_
      refine lv_iload_n hx hb dJ7_fill_53178_11 rfl (lv_at hl 2 rfl) ?_
      refine lv_iload_n hx hb dJ7_fill_53178_12 rfl (lv_at hl 1 rfl) ?_
      obtain ⟨hk2, h⟩ := h
      obtain ⟨hi3, h⟩ := h
      refine g_iast CF hc hk2 (x := i1) hi3 dJ7_fill_53178_13 (fun H locs hc => ?_)
      obtain ⟨g4, eg5⟩ : ∃ z, z = sU g r0 (Int32.toNatClampNeg i2) i1 := ⟨_, rfl⟩
      have hc : gC D cA (gA g0 sz) s g4 H locs := by rw [eg5]; exact hc
      replace h := h g4 eg5
      refine lv_iinc (v := (i2 + 1)) (lv' := [(2, .int (i2 + 1)), (0, .ref r0), (1, .int i1), (3, .int i3)]) hx hb dJ7_fill_53178_14 hl (k := 2) rfl rfl (by decide) rfl (fun ls hl => ?_)
      refine lv_goto (tgt := 5) hx hb dJ7_fill_53178_17 (by decide) ?_
      exact hk_5 g4 (i2 + 1) h _ _ _ hc (lv_sub hl [1, 2, 0, 3] rfl)
  unfold w_J7_fill_53178 at h
  obtain ⟨H, hH0⟩ : ∃ z, z = s.heap := ⟨_, rfl⟩
  rw [← hH0] at hc ⊢
  obtain ⟨locs, hlc0⟩ : ∃ z : List Loc, z = [] := ⟨_, rfl⟩
  rw [← hlc0] at hc ⊢
  refine lv_iconst (v := 0) hx hb dJ7_fill_53178_0 (by decide) ?_
  refine lv_istore_n (lv' := [(2, .int 0), (0, .ref p0), (1, .int p1)]) hx hb dJ7_fill_53178_1 rfl hl (by decide) rfl (fun ls hl => ?_)
  refine lv_aload_n hx hb dJ7_fill_53178_2 rfl (lv_at hl 1 rfl) ?_
  obtain ⟨hk6, h⟩ := h
  refine g_alen CF hc (j := 0) hk6 (by decide) dJ7_fill_53178_3 ?_
  refine lv_istore_n (lv' := [(3, .int (nI (gN g0 p0))), (2, .int 0), (0, .ref p0), (1, .int p1)]) hx hb dJ7_fill_53178_4 rfl hl (by decide) rfl (fun ls hl => ?_)
  exact hb_5 p0 p1 (nI (gN g0 p0)) g0 0 h _ _ _ hc (lv_sub hl [2, 3, 1, 0] rfl)
def w_X9_init (g0 : gS) (p0 : Nat) (Q : gS → Prop) : Prop :=
  ∀ q1, gK g0 q1 = 0 → (∀ g3, g3 = sNew g0 q1 21 12 → (gK g3 p0 = 10 ∧ (∀ g6, g6 = sV g3 p0 0 (some q1) → (∀ q8, gK g6 q8 = 0 → (∀ g10, g10 = sNew g6 q8 21 12 → (gK g10 p0 = 10 ∧ (∀ g13, g13 = sV g10 p0 1 (some q8) → (∀ q15, gK g13 q15 = 0 → (∀ g17, g17 = sNew g13 q15 21 12 → (gK g17 p0 = 10 ∧ (∀ g20, g20 = sV g17 p0 2 (some q15) → (Q g20))))))))))))
abbrev r_X9_init : Room := { frames := 1, cells := 3, slots := 36, locals := 12 }
set_option maxHeartbeats 4000000 in
set_option maxRecDepth 100000 in
theorem c_X9_init {l : Launch} {D : va_G} {cA : Nat → ClassId} {sz : Nat} {g0 : gS} {p0 : Nat} {Q : gS → Prop} (h : w_X9_init g0 p0 Q) : Met l yX9_init wsX9_init r_X9_init (va_Pc [.ref p0] (gPre D cA g0 sz)) (gQv D cA g0 sz (Q)) 3 36 (gA g0 sz) := by
  refine g_met (cc := cX9_init) (maxL := 1) (ret := none) (own := RX9) (by decide) rfl rfl (Nat.le_of_ble_eq_true rfl) ?_
  intro p e s m args below meth c ls CF hr hlk hnm hc hl
  obtain ⟨hx, hb, hml, hown, hts⟩ := id CF
  have hl : lv_has ls 1 [(0, .ref p0)] := hl
  show W p l e r_X9_init s m args below meth c s.heap [] 0 0 (MQ below (gQv D cA g0 sz (Q)) args s 3 36 (gA g0 sz)) (F0 m 0 ls [])
  unfold w_X9_init at h
  obtain ⟨H, hH0⟩ : ∃ z, z = s.heap := ⟨_, rfl⟩
  rw [← hH0] at hc ⊢
  obtain ⟨locs, hlc0⟩ : ∃ z : List Loc, z = [] := ⟨_, rfl⟩
  rw [← hlc0] at hc ⊢
  refine lv_aload_n hx hb dX9_init_0 rfl (lv_at hl 0 rfl) ?_
  refine W.objInit hx hb hown (hts _ (List.mem_cons_of_mem _ (List.mem_append_left _ (List.mem_of_getElem? (i := 0) rfl)))) (hts _ (List.mem_cons_of_mem _ (List.mem_append_left _ (List.mem_of_getElem? (i := 1) rfl)))) (hts _ (List.mem_cons_of_mem _ (List.mem_append_left _ (List.mem_of_getElem? (i := 2) rfl)))) rfl (by rw [hml]; exact hl.1) rfl dX9_init_1 (Nat.le_of_ble_eq_true rfl) (Nat.le_of_ble_eq_true rfl) ?_
  refine W.eq (g2 := F0 m 4 ls []) rfl ?_
  refine lv_aload_n hx hb dX9_init_4 rfl (lv_at hl 0 rfl) ?_
  refine lv_bipush (v := 12) hx hb dX9_init_5 (by decide) ?_
  refine g_newi CF hc (List.mem_cons_of_mem _ (List.mem_append_left _ (List.mem_of_getElem? (i := 3) rfl))) (n := 12) (N := 12) (by decide) (by decide) (by decide) (Nat.le_of_ble_eq_true rfl) (Nat.le_of_ble_eq_true rfl) dX9_init_7 (fun q1 H locs hq2 hc => ?_)
  replace h := h q1 hq2
  obtain ⟨g3, eg4⟩ : ∃ z, z = sNew g0 q1 21 12 := ⟨_, rfl⟩
  have hc : gC D cA (gA g0 sz) s g3 H locs := by rw [eg4]; exact hc
  replace h := h g3 eg4
  refine W.widen (k := 1) (n := 12) (Nat.le_of_ble_eq_true rfl) (Nat.le_of_ble_eq_true rfl) ?_
  obtain ⟨hk5, h⟩ := h
  refine g_putrF CF hc hk5 rfl (by decide) (fun _ h9 => List.mem_cons_of_mem _ (List.mem_append_right _ (h9))) tyX9 tyX9_ok nmX9 (k := 0) (by decide) (List.mem_cons_of_mem _ (List.mem_append_left _ (List.mem_of_getElem? (i := 4) rfl))) rfl hnm rfl (some q1) narrow_ra fits_ra rfl dX9_init_9 (fun H locs hc => ?_)
  obtain ⟨g6, eg7⟩ : ∃ z, z = sV g3 p0 0 (some q1) := ⟨_, rfl⟩
  have hc : gC D cA (gA g0 sz) s g6 H locs := by rw [eg7]; exact hc
  replace h := h g6 eg7
  refine lv_aload_n hx hb dX9_init_12 rfl (lv_at hl 0 rfl) ?_
  refine lv_bipush (v := 12) hx hb dX9_init_13 (by decide) ?_
  refine g_newi CF hc (List.mem_cons_of_mem _ (List.mem_append_left _ (List.mem_of_getElem? (i := 3) rfl))) (n := 12) (N := 12) (by decide) (by decide) (by decide) (Nat.le_of_ble_eq_true rfl) (Nat.le_of_ble_eq_true rfl) dX9_init_15 (fun q8 H locs hq9 hc => ?_)
  replace h := h q8 hq9
  obtain ⟨g10, eg11⟩ : ∃ z, z = sNew g6 q8 21 12 := ⟨_, rfl⟩
  have hc : gC D cA (gA g0 sz) s g10 H locs := by rw [eg11]; exact hc
  replace h := h g10 eg11
  refine W.widen (k := 2) (n := 24) (Nat.le_of_ble_eq_true rfl) (Nat.le_of_ble_eq_true rfl) ?_
  obtain ⟨hk12, h⟩ := h
  refine g_putrF CF hc hk12 rfl (by decide) (fun _ h9 => List.mem_cons_of_mem _ (List.mem_append_right _ (h9))) tyX9 tyX9_ok nmX9 (k := 1) (by decide) (List.mem_cons_of_mem _ (List.mem_append_left _ (List.mem_of_getElem? (i := 5) rfl))) rfl hnm rfl (some q8) narrow_ra fits_ra rfl dX9_init_17 (fun H locs hc => ?_)
  obtain ⟨g13, eg14⟩ : ∃ z, z = sV g10 p0 1 (some q8) := ⟨_, rfl⟩
  have hc : gC D cA (gA g0 sz) s g13 H locs := by rw [eg14]; exact hc
  replace h := h g13 eg14
  refine lv_aload_n hx hb dX9_init_20 rfl (lv_at hl 0 rfl) ?_
  refine lv_bipush (v := 12) hx hb dX9_init_21 (by decide) ?_
  refine g_newi CF hc (List.mem_cons_of_mem _ (List.mem_append_left _ (List.mem_of_getElem? (i := 3) rfl))) (n := 12) (N := 12) (by decide) (by decide) (by decide) (Nat.le_of_ble_eq_true rfl) (Nat.le_of_ble_eq_true rfl) dX9_init_23 (fun q15 H locs hq16 hc => ?_)
  replace h := h q15 hq16
  obtain ⟨g17, eg18⟩ : ∃ z, z = sNew g13 q15 21 12 := ⟨_, rfl⟩
  have hc : gC D cA (gA g0 sz) s g17 H locs := by rw [eg18]; exact hc
  replace h := h g17 eg18
  refine W.widen (k := 3) (n := 36) (Nat.le_of_ble_eq_true rfl) (Nat.le_of_ble_eq_true rfl) ?_
  obtain ⟨hk19, h⟩ := h
  refine g_putrF CF hc hk19 rfl (by decide) (fun _ h9 => List.mem_cons_of_mem _ (List.mem_append_right _ (h9))) tyX9 tyX9_ok nmX9 (k := 2) (by decide) (List.mem_cons_of_mem _ (List.mem_append_left _ (List.mem_of_getElem? (i := 6) rfl))) rfl hnm rfl (some q15) narrow_ra fits_ra rfl dX9_init_25 (fun H locs hc => ?_)
  obtain ⟨g20, eg21⟩ : ∃ z, z = sV g17 p0 2 (some q15) := ⟨_, rfl⟩
  have hc : gC D cA (gA g0 sz) s g20 H locs := by rw [eg21]; exact hc
  replace h := h g20 eg21
  exact g_retv CF hr hlk hc h dX9_init_28
def b_X9_isFull_17 (g : gS) (is0 : Int32) (Q : Int32 → Prop) : Prop :=
  (is0 = 0 ∨ is0 = 1) ∧ (Q is0)
def w_X9_isFull (g : gS) (p0 : Nat) (Q : Int32 → Prop) : Prop :=
  gK g p0 = 10 ∧ (∃ y3, gR g p0 0 = some y3 ∧ (gK g y3 = 21 ∧ (((gI g p0 3) < (nI (gN g y3)) → (b_X9_isFull_17 g 0 Q)) ∧ (¬ (gI g p0 3) < (nI (gN g y3)) → (b_X9_isFull_17 g 1 Q)))))
abbrev r_X9_isFull : Room := { frames := 0, cells := 0, slots := 0, locals := 0 }
set_option maxHeartbeats 4000000 in
set_option maxRecDepth 100000 in
theorem c_X9_isFull {l : Launch} {D : va_G} {cA : Nat → ClassId} {sz : Nat} {g : gS} {p0 : Nat} {Q : Int32 → Prop} (h : w_X9_isFull g p0 Q) : Met l yX9_isFull wsX9_isFull r_X9_isFull (va_Pc [.ref p0] (gPre D cA g sz)) (gQi D cA g sz (fun r g2 => g = g2 ∧ Q r)) 0 0 (gA g sz) := by
  refine g_met (cc := cX9_isFull) (maxL := 1) (ret := (some .boolean)) (own := RX9) (by decide) rfl rfl (Nat.le_of_ble_eq_true rfl) ?_
  intro p e s m args below meth c ls CF hr hlk hnm hc hl
  obtain ⟨hx, hb, hml, hown, hts⟩ := id CF
  have hl : lv_has ls 1 [(0, .ref p0)] := hl
  show W p l e r_X9_isFull s m args below meth c s.heap [] 0 0 (MQ below (gQi D cA g sz (fun r g2 => g = g2 ∧ Q r)) args s 0 0 (gA g sz)) (F0 m 0 ls [])
  have hb_17 : ∀ (is0 : Int32), b_X9_isFull_17 g is0 Q → ∀ (H : Heap) (locs : List Loc) (ls : Array Slot), gC D cA (gA g sz) s g H locs → lv_has ls 1 [] → W p l e r_X9_isFull s m args below meth c H locs 0 0 (MQ below (gQi D cA g sz (fun r g2 => g = g2 ∧ Q r)) args s 0 0 (gA g sz)) (F0 m 17 ls [.int is0]) := by
    intro is0 h H locs ls hc hl
    unfold b_X9_isFull_17 at h
    obtain ⟨hz1, h⟩ := h
    exact g_reti (r := is0) CF hr hlk hc (narrow_01 hz1) ⟨rfl, h⟩ dX9_isFull_17
  unfold w_X9_isFull at h
  obtain ⟨H, hH0⟩ : ∃ z, z = s.heap := ⟨_, rfl⟩
  rw [← hH0] at hc ⊢
  obtain ⟨locs, hlc0⟩ : ∃ z : List Loc, z = [] := ⟨_, rfl⟩
  rw [← hlc0] at hc ⊢
  refine lv_aload_n hx hb dX9_isFull_0 rfl (lv_at hl 0 rfl) ?_
  obtain ⟨hk2, h⟩ := h
  refine g_get CF hc hk2 rfl (by decide) (fun _ h9 => List.mem_cons_of_mem _ (List.mem_append_right _ (h9))) (k := 3) (by decide) (List.mem_cons_of_mem _ (List.mem_append_left _ (List.mem_of_getElem? (i := 0) rfl))) rfl dX9_isFull_1 ?_
  refine lv_aload_n hx hb dX9_isFull_4 rfl (lv_at hl 0 rfl) ?_
  obtain ⟨y3, e4, h⟩ := h
  refine g_getr CF hc hk2 rfl (by decide) (fun _ h9 => List.mem_cons_of_mem _ (List.mem_append_right _ (h9))) (k := 0) (by decide) (List.mem_cons_of_mem _ (List.mem_append_left _ (List.mem_of_getElem? (i := 1) rfl))) e4 rfl dX9_isFull_5 ?_
  obtain ⟨hk5, h⟩ := h
  refine g_alen CF hc (j := 0) hk5 (by decide) dX9_isFull_8 ?_
  refine lv_icmp_lt (tgt := 16) hx hb dX9_isFull_9 (by decide) (fun c6 => ?_) (fun c6 => ?_)
  · have h := h.1 c6
    refine lv_iconst (v := 0) hx hb dX9_isFull_16 (by decide) ?_
    exact hb_17 0 h _ _ _ hc (lv_sub hl [] rfl)
  · have h := h.2 c6
    refine lv_iconst (v := 1) hx hb dX9_isFull_12 (by decide) ?_
    refine lv_goto (tgt := 17) hx hb dX9_isFull_13 (by decide) ?_
    exact hb_17 1 h _ _ _ hc (lv_sub hl [] rfl)
def b_X9_indexOf_37 (g : gS) (Q : Int32 → Prop) : Prop :=
  Q (-1)
def l_X9_indexOf_2 (g : gS) (r0 : Nat) (i1 : Int32) (Q : Int32 → Prop) (i2 : Int32) (k2 : Int32 → Prop) : Prop :=
  gK g r0 = 10 ∧ (((gI g r0 4) ≤ i2 → (b_X9_indexOf_37 g Q)) ∧ (¬ (gI g r0 4) ≤ i2 → (∃ y3, gR g r0 1 = some y3 ∧ (gK g y3 = 21 ∧ (((nI (gN g y3)) ≤ i2 → (b_X9_indexOf_37 g Q)) ∧ (¬ (nI (gN g y3)) ≤ i2 → (∃ y7, gR g r0 1 = some y7 ∧ (gK g y7 = 21 ∧ (vp_in i2 (gN g y7) ∧ (((gI g y7 (Int32.toNatClampNeg i2)) = i1 → (Q i2)) ∧ (¬ (gI g y7 (Int32.toNatClampNeg i2)) = i1 → (k2 (i2 + 1)))))))))))))
def w_X9_indexOf (g : gS) (p0 : Nat) (p1 : Int32) (Q : Int32 → Prop) : Prop :=
  lpx1 (l_X9_indexOf_2 g p0 p1 Q) 0
abbrev r_X9_indexOf : Room := { frames := 0, cells := 0, slots := 0, locals := 0 }
set_option maxHeartbeats 4000000 in
set_option maxRecDepth 100000 in
theorem c_X9_indexOf {l : Launch} {D : va_G} {cA : Nat → ClassId} {sz : Nat} {g : gS} {p0 : Nat} {p1 : Int32} {Q : Int32 → Prop} (h : w_X9_indexOf g p0 p1 Q) : Met l yX9_indexOf wsX9_indexOf r_X9_indexOf (va_Pc [.ref p0, .int p1] (gPre D cA g sz)) (gQi D cA g sz (fun r g2 => g = g2 ∧ Q r)) 0 0 (gA g sz) := by
  refine g_met (cc := cX9_indexOf) (maxL := 3) (ret := (some .int)) (own := RX9) (by decide) rfl rfl (Nat.le_of_ble_eq_true rfl) ?_
  intro p e s m args below meth c ls CF hr hlk hnm hc hl
  obtain ⟨hx, hb, hml, hown, hts⟩ := id CF
  have hl : lv_has ls 3 [(0, .ref p0), (1, .int p1)] := hl
  show W p l e r_X9_indexOf s m args below meth c s.heap [] 0 0 (MQ below (gQi D cA g sz (fun r g2 => g = g2 ∧ Q r)) args s 0 0 (gA g sz)) (F0 m 0 ls [])
  have hb_37 : b_X9_indexOf_37 g Q → ∀ (H : Heap) (locs : List Loc) (ls : Array Slot), gC D cA (gA g sz) s g H locs → lv_has ls 3 [] → W p l e r_X9_indexOf s m args below meth c H locs 0 0 (MQ below (gQi D cA g sz (fun r g2 => g = g2 ∧ Q r)) args s 0 0 (gA g sz)) (F0 m 37 ls []) := by
    intro h H locs ls hc hl
    unfold b_X9_indexOf_37 at h
    refine lv_iconst (v := (-1)) hx hb dX9_indexOf_37 (by decide) ?_
    exact g_reti (r := (-1)) CF hr hlk hc rfl ⟨rfl, h⟩ dX9_indexOf_38
  have hb_2 : ∀ (r0 : Nat) (i1 : Int32), ∀ (i2 : Int32), lpx1 (l_X9_indexOf_2 g r0 i1 Q) i2 → ∀ (H : Heap) (locs : List Loc) (ls : Array Slot), gC D cA (gA g sz) s g H locs → lv_has ls 3 [(0, .ref r0), (1, .int i1), (2, .int i2)] → W p l e r_X9_indexOf s m args below meth c H locs 0 0 (MQ below (gQi D cA g sz (fun r g2 => g = g2 ∧ Q r)) args s 0 0 (gA g sz)) (F0 m 2 ls []) := by
    intro r0 i1
    refine lpx1_run (P := fun (i2 : Int32) => ∀ (H : Heap) (locs : List Loc) (ls : Array Slot), gC D cA (gA g sz) s g H locs → lv_has ls 3 [(0, .ref r0), (1, .int i1), (2, .int i2)] → W p l e r_X9_indexOf s m args below meth c H locs 0 0 (MQ below (gQi D cA g sz (fun r g2 => g = g2 ∧ Q r)) args s 0 0 (gA g sz)) (F0 m 2 ls [])) ?_
    intro k2 hk_2 i2 h H locs ls hc hl
    unfold l_X9_indexOf_2 at h
    refine lv_iload_n hx hb dX9_indexOf_2 rfl (lv_at hl 2 rfl) ?_
    refine lv_aload_n hx hb dX9_indexOf_3 rfl (lv_at hl 0 rfl) ?_
    obtain ⟨hk1, h⟩ := h
    refine g_get CF hc hk1 rfl (by decide) (fun _ h9 => List.mem_cons_of_mem _ (List.mem_append_right _ (h9))) (k := 4) (by decide) (List.mem_cons_of_mem _ (List.mem_append_left _ (List.mem_of_getElem? (i := 0) rfl))) rfl dX9_indexOf_4 ?_
    refine lv_icmp_ge (tgt := 37) hx hb dX9_indexOf_7 (by decide) (fun c2 => ?_) (fun c2 => ?_)
    · have h := h.1 c2
      exact hb_37  h _ _ _ hc (lv_sub hl [] rfl)
    · have h := h.2 c2
      refine lv_iload_n hx hb dX9_indexOf_10 rfl (lv_at hl 2 rfl) ?_
      refine lv_aload_n hx hb dX9_indexOf_11 rfl (lv_at hl 0 rfl) ?_
      obtain ⟨y3, e4, h⟩ := h
      refine g_getr CF hc hk1 rfl (by decide) (fun _ h9 => List.mem_cons_of_mem _ (List.mem_append_right _ (h9))) (k := 1) (by decide) (List.mem_cons_of_mem _ (List.mem_append_left _ (List.mem_of_getElem? (i := 1) rfl))) e4 rfl dX9_indexOf_12 ?_
      obtain ⟨hk5, h⟩ := h
      refine g_alen CF hc (j := 0) hk5 (by decide) dX9_indexOf_15 ?_
      refine lv_icmp_ge (tgt := 37) hx hb dX9_indexOf_16 (by decide) (fun c6 => ?_) (fun c6 => ?_)
      · have h := h.1 c6
        exact hb_37  h _ _ _ hc (lv_sub hl [] rfl)
      · have h := h.2 c6
        refine lv_aload_n hx hb dX9_indexOf_19 rfl (lv_at hl 0 rfl) ?_
        obtain ⟨y7, e8, h⟩ := h
        refine g_getr CF hc hk1 rfl (by decide) (fun _ h9 => List.mem_cons_of_mem _ (List.mem_append_right _ (h9))) (k := 1) (by decide) (List.mem_cons_of_mem _ (List.mem_append_left _ (List.mem_of_getElem? (i := 1) rfl))) e8 rfl dX9_indexOf_20 ?_
        refine lv_iload_n hx hb dX9_indexOf_23 rfl (lv_at hl 2 rfl) ?_
        obtain ⟨hk9, h⟩ := h
        obtain ⟨hi10, h⟩ := h
        refine g_iald CF hc hk9 hi10 dX9_indexOf_24 ?_
        refine lv_iload_n hx hb dX9_indexOf_25 rfl (lv_at hl 1 rfl) ?_
        refine lv_icmp_ne (tgt := 31) hx hb dX9_indexOf_26 (by decide) (fun c11 => ?_) (fun c11 => ?_)
        · have h := h.2 c11
          refine lv_iinc (v := (i2 + 1)) (lv' := [(2, .int (i2 + 1)), (0, .ref r0), (1, .int i1)]) hx hb dX9_indexOf_31 hl (k := 2) rfl rfl (by decide) rfl (fun ls hl => ?_)
          refine lv_goto (tgt := 2) hx hb dX9_indexOf_34 (by decide) ?_
          exact hk_2 (i2 + 1) h _ _ _ hc (lv_sub hl [1, 2, 0] rfl)
        · have h := h.1 c11
          refine lv_iload_n hx hb dX9_indexOf_29 rfl (lv_at hl 2 rfl) ?_
          exact g_reti (r := i2) CF hr hlk hc rfl ⟨rfl, h⟩ dX9_indexOf_30
  unfold w_X9_indexOf at h
  obtain ⟨H, hH0⟩ : ∃ z, z = s.heap := ⟨_, rfl⟩
  rw [← hH0] at hc ⊢
  obtain ⟨locs, hlc0⟩ : ∃ z : List Loc, z = [] := ⟨_, rfl⟩
  rw [← hlc0] at hc ⊢
  refine lv_iconst (v := 0) hx hb dX9_indexOf_0 (by decide) ?_
  refine lv_istore_n (lv' := [(2, .int 0), (0, .ref p0), (1, .int p1)]) hx hb dX9_indexOf_1 rfl hl (by decide) rfl (fun ls hl => ?_)
  exact hb_2 p0 p1 0 h _ _ _ hc (lv_sub hl [1, 2, 0] rfl)
def b_X9_append_102 (g : gS) (Q : gS → Prop) : Prop :=
  Q g
def b_X9_append_60 (g : gS) (r0 : Nat) (i1 : Int32) (Q : gS → Prop) : Prop :=
  gK g r0 = 10 ∧ (∃ y2, gR g r0 1 = some y2 ∧ (gK g y2 = 21 ∧ (((nI (gN g y2)) ≤ (gI g r0 4) → (b_X9_append_102 g Q)) ∧ (¬ (nI (gN g y2)) ≤ (gI g r0 4) → (∃ y6, gR g r0 1 = some y6 ∧ (gK g y6 = 21 ∧ (vp_in (gI g r0 4) (gN g y6) ∧ (∀ g10, g10 = sU g y6 (Int32.toNatClampNeg (gI g r0 4)) i1 → (gK g10 r0 = 10 ∧ (∃ y13, gR g10 r0 2 = some y13 ∧ (gK g10 y13 = 21 ∧ (vp_in (gI g10 r0 4) (gN g10 y13) ∧ (∀ g17, g17 = sU g10 y13 (Int32.toNatClampNeg (gI g10 r0 4)) 1 → (gK g17 r0 = 10 ∧ (∀ g20, g20 = sU g17 r0 4 ((gI g17 r0 4) + 1) → (b_X9_append_102 g20 Q))))))))))))))))
def w_X9_append (g0 : gS) (p0 : Nat) (p1 : Int32) (Q : gS → Prop) : Prop :=
  gK g0 p0 = 10 ∧ (w_X9_isFull g0 p0 (fun x23 => ((x23 = 0 → (∃ y26, gR g0 p0 0 = some y26 ∧ (gK g0 y26 = 21 ∧ (vp_in (gI g0 p0 3) (gN g0 y26) ∧ (∀ g30, g30 = sU g0 y26 (Int32.toNatClampNeg (gI g0 p0 3)) p1 → (gK g30 p0 = 10 ∧ (∀ g33, g33 = sU g30 p0 3 ((gI g30 p0 3) + 1) → (gK g33 p0 = 10 ∧ (w_X9_indexOf g33 p0 p1 (fun x36 => ((x36 < 0 → (b_X9_append_60 g33 p0 p1 Q)) ∧ (¬ x36 < 0 → (∃ y39, gR g33 p0 2 = some y39 ∧ (gK g33 y39 = 21 ∧ (((nI (gN g33 y39)) ≤ x36 → (b_X9_append_60 g33 p0 p1 Q)) ∧ (¬ (nI (gN g33 y39)) ≤ x36 → (∃ y43, gR g33 p0 2 = some y43 ∧ (gK g33 y43 = 21 ∧ (vp_in x36 (gN g33 y43) ∧ (vp_in x36 (gN g33 y43) ∧ (∀ g48, g48 = sU g33 y43 (Int32.toNatClampNeg x36) ((gI g33 y43 (Int32.toNatClampNeg x36)) + 1) → (b_X9_append_102 g48 Q)))))))))))))))))))))) ∧ (¬ x23 = 0 → (Q g0)))))
abbrev r_X9_append : Room := { frames := 1, cells := 0, slots := 0, locals := 22 }
set_option maxHeartbeats 4000000 in
set_option maxRecDepth 100000 in
theorem c_X9_append {l : Launch} {D : va_G} {cA : Nat → ClassId} {sz : Nat} {g0 : gS} {p0 : Nat} {p1 : Int32} {Q : gS → Prop} (h : w_X9_append g0 p0 p1 Q) : Met l yX9_append wsX9_append r_X9_append (va_Pc [.ref p0, .int p1] (gPre D cA g0 sz)) (gQv D cA g0 sz (Q)) 0 0 (gA g0 sz) := by
  refine g_met (cc := cX9_append) (maxL := 3) (ret := none) (own := RX9) (by decide) rfl rfl (Nat.le_of_ble_eq_true rfl) ?_
  intro p e s m args below meth c ls CF hr hlk hnm hc hl
  obtain ⟨hx, hb, hml, hown, hts⟩ := id CF
  have hl : lv_has ls 3 [(0, .ref p0), (1, .int p1)] := hl
  show W p l e r_X9_append s m args below meth c s.heap [] 0 0 (MQ below (gQv D cA g0 sz (Q)) args s 0 0 (gA g0 sz)) (F0 m 0 ls [])
  have hb_102 : ∀ (g : gS), b_X9_append_102 g Q → ∀ (H : Heap) (locs : List Loc) (ls : Array Slot), gC D cA (gA g0 sz) s g H locs → lv_has ls 3 [] → W p l e r_X9_append s m args below meth c H locs 0 0 (MQ below (gQv D cA g0 sz (Q)) args s 0 0 (gA g0 sz)) (F0 m 102 ls []) := by
    intro g h H locs ls hc hl
    unfold b_X9_append_102 at h
    exact g_retv CF hr hlk hc h dX9_append_102
  have hb_60 : ∀ (g : gS) (r0 : Nat) (i1 : Int32), b_X9_append_60 g r0 i1 Q → ∀ (H : Heap) (locs : List Loc) (ls : Array Slot), gC D cA (gA g0 sz) s g H locs → lv_has ls 3 [(0, .ref r0), (1, .int i1)] → W p l e r_X9_append s m args below meth c H locs 0 0 (MQ below (gQv D cA g0 sz (Q)) args s 0 0 (gA g0 sz)) (F0 m 60 ls []) := by
    intro g r0 i1 h H locs ls hc hl
    unfold b_X9_append_60 at h
    refine lv_aload_n hx hb dX9_append_60 rfl (lv_at hl 0 rfl) ?_
    obtain ⟨hk1, h⟩ := h
    refine g_get CF hc hk1 rfl (by decide) (fun _ h9 => List.mem_cons_of_mem _ (List.mem_append_right _ (h9))) (k := 4) (by decide) (List.mem_cons_of_mem _ (List.mem_append_left _ (List.mem_of_getElem? (i := 3) rfl))) rfl dX9_append_61 ?_
    refine lv_aload_n hx hb dX9_append_64 rfl (lv_at hl 0 rfl) ?_
    obtain ⟨y2, e3, h⟩ := h
    refine g_getr CF hc hk1 rfl (by decide) (fun _ h9 => List.mem_cons_of_mem _ (List.mem_append_right _ (h9))) (k := 1) (by decide) (List.mem_cons_of_mem _ (List.mem_append_left _ (List.mem_of_getElem? (i := 4) rfl))) e3 rfl dX9_append_65 ?_
    obtain ⟨hk4, h⟩ := h
    refine g_alen CF hc (j := 0) hk4 (by decide) dX9_append_68 ?_
    refine lv_icmp_ge (tgt := 102) hx hb dX9_append_69 (by decide) (fun c5 => ?_) (fun c5 => ?_)
    · have h := h.1 c5
      exact hb_102 g h _ _ _ hc (lv_sub hl [] rfl)
    · have h := h.2 c5
      refine lv_aload_n hx hb dX9_append_72 rfl (lv_at hl 0 rfl) ?_
      obtain ⟨y6, e7, h⟩ := h
      refine g_getr CF hc hk1 rfl (by decide) (fun _ h9 => List.mem_cons_of_mem _ (List.mem_append_right _ (h9))) (k := 1) (by decide) (List.mem_cons_of_mem _ (List.mem_append_left _ (List.mem_of_getElem? (i := 4) rfl))) e7 rfl dX9_append_73 ?_
      refine lv_aload_n hx hb dX9_append_76 rfl (lv_at hl 0 rfl) ?_
      refine g_get CF hc hk1 rfl (by decide) (fun _ h9 => List.mem_cons_of_mem _ (List.mem_append_right _ (h9))) (k := 4) (by decide) (List.mem_cons_of_mem _ (List.mem_append_left _ (List.mem_of_getElem? (i := 3) rfl))) rfl dX9_append_77 ?_
      refine lv_iload_n hx hb dX9_append_80 rfl (lv_at hl 1 rfl) ?_
      obtain ⟨hk8, h⟩ := h
      obtain ⟨hi9, h⟩ := h
      refine g_iast CF hc hk8 (x := i1) hi9 dX9_append_81 (fun H locs hc => ?_)
      obtain ⟨g10, eg11⟩ : ∃ z, z = sU g y6 (Int32.toNatClampNeg (gI g r0 4)) i1 := ⟨_, rfl⟩
      have hc : gC D cA (gA g0 sz) s g10 H locs := by rw [eg11]; exact hc
      replace h := h g10 eg11
      refine lv_aload_n hx hb dX9_append_82 rfl (lv_at hl 0 rfl) ?_
      obtain ⟨hk12, h⟩ := h
      obtain ⟨y13, e14, h⟩ := h
      refine g_getr CF hc hk12 rfl (by decide) (fun _ h9 => List.mem_cons_of_mem _ (List.mem_append_right _ (h9))) (k := 2) (by decide) (List.mem_cons_of_mem _ (List.mem_append_left _ (List.mem_of_getElem? (i := 2) rfl))) e14 rfl dX9_append_83 ?_
      refine lv_aload_n hx hb dX9_append_86 rfl (lv_at hl 0 rfl) ?_
      refine g_get CF hc hk12 rfl (by decide) (fun _ h9 => List.mem_cons_of_mem _ (List.mem_append_right _ (h9))) (k := 4) (by decide) (List.mem_cons_of_mem _ (List.mem_append_left _ (List.mem_of_getElem? (i := 3) rfl))) rfl dX9_append_87 ?_
      refine lv_iconst (v := 1) hx hb dX9_append_90 (by decide) ?_
      obtain ⟨hk15, h⟩ := h
      obtain ⟨hi16, h⟩ := h
      refine g_iast CF hc hk15 (x := 1) hi16 dX9_append_91 (fun H locs hc => ?_)
      obtain ⟨g17, eg18⟩ : ∃ z, z = sU g10 y13 (Int32.toNatClampNeg (gI g10 r0 4)) 1 := ⟨_, rfl⟩
      have hc : gC D cA (gA g0 sz) s g17 H locs := by rw [eg18]; exact hc
      replace h := h g17 eg18
      refine lv_aload_n hx hb dX9_append_92 rfl (lv_at hl 0 rfl) ?_
      refine lv_dup hx hb dX9_append_93 rfl ?_
      obtain ⟨hk19, h⟩ := h
      refine g_get CF hc hk19 rfl (by decide) (fun _ h9 => List.mem_cons_of_mem _ (List.mem_append_right _ (h9))) (k := 4) (by decide) (List.mem_cons_of_mem _ (List.mem_append_left _ (List.mem_of_getElem? (i := 3) rfl))) rfl dX9_append_94 ?_
      refine lv_iconst (v := 1) hx hb dX9_append_97 (by decide) ?_
      refine lv_iadd hx hb dX9_append_98 ?_
      refine g_puti CF hc hk19 rfl (by decide) (fun _ h9 => List.mem_cons_of_mem _ (List.mem_append_right _ (h9))) tyX9 tyX9_ok nmX9 (k := 4) (by decide) (List.mem_cons_of_mem _ (List.mem_append_left _ (List.mem_of_getElem? (i := 3) rfl))) rfl (v := ((gI g17 r0 4) + 1)) rfl rfl rfl dX9_append_99 (fun H locs hc => ?_)
      obtain ⟨g20, eg21⟩ : ∃ z, z = sU g17 r0 4 ((gI g17 r0 4) + 1) := ⟨_, rfl⟩
      have hc : gC D cA (gA g0 sz) s g20 H locs := by rw [eg21]; exact hc
      replace h := h g20 eg21
      exact hb_102 g20 h _ _ _ hc (lv_sub hl [] rfl)
  unfold w_X9_append at h
  obtain ⟨H, hH0⟩ : ∃ z, z = s.heap := ⟨_, rfl⟩
  rw [← hH0] at hc ⊢
  obtain ⟨locs, hlc0⟩ : ∃ z : List Loc, z = [] := ⟨_, rfl⟩
  rw [← hlc0] at hc ⊢
  refine lv_aload_n hx hb dX9_append_0 rfl (lv_at hl 0 rfl) ?_
  obtain ⟨hk22, h⟩ := h
  refine g_calli (va_runV (As := []) (rest := []) CF (c_X9_isFull h) (cwV 0 hts gX9_append_X9_isFull rfl rfl rfl (by decide +kernel) ⟨Nat.le_of_ble_eq_true rfl, Nat.le_of_ble_eq_true rfl⟩) (hc.preV hk22 rfl (by decide)) rfl rfl hl.1 rfl (lv_room (Nat.le_of_ble_eq_true rfl)) dX9_append_1 ⟨Nat.le_of_ble_eq_true rfl, Nat.le_of_ble_eq_true rfl⟩) hc (fun x23 gq24 H locs hq hc => ?_)
  obtain ⟨rfl, h⟩ := hq
  refine lv_if_eq (tgt := 8) hx hb dX9_append_4 (by decide) (fun c25 => ?_) (fun c25 => ?_)
  · have h := h.1 c25
    refine lv_aload_n hx hb dX9_append_8 rfl (lv_at hl 0 rfl) ?_
    obtain ⟨y26, e27, h⟩ := h
    refine g_getr CF hc hk22 rfl (by decide) (fun _ h9 => List.mem_cons_of_mem _ (List.mem_append_right _ (h9))) (k := 0) (by decide) (List.mem_cons_of_mem _ (List.mem_append_left _ (List.mem_of_getElem? (i := 0) rfl))) e27 rfl dX9_append_9 ?_
    refine lv_aload_n hx hb dX9_append_12 rfl (lv_at hl 0 rfl) ?_
    refine g_get CF hc hk22 rfl (by decide) (fun _ h9 => List.mem_cons_of_mem _ (List.mem_append_right _ (h9))) (k := 3) (by decide) (List.mem_cons_of_mem _ (List.mem_append_left _ (List.mem_of_getElem? (i := 1) rfl))) rfl dX9_append_13 ?_
    refine lv_iload_n hx hb dX9_append_16 rfl (lv_at hl 1 rfl) ?_
    obtain ⟨hk28, h⟩ := h
    obtain ⟨hi29, h⟩ := h
    refine g_iast CF hc hk28 (x := p1) hi29 dX9_append_17 (fun H locs hc => ?_)
    obtain ⟨g30, eg31⟩ : ∃ z, z = sU g0 y26 (Int32.toNatClampNeg (gI g0 p0 3)) p1 := ⟨_, rfl⟩
    have hc : gC D cA (gA g0 sz) s g30 H locs := by rw [eg31]; exact hc
    replace h := h g30 eg31
    refine lv_aload_n hx hb dX9_append_18 rfl (lv_at hl 0 rfl) ?_
    refine lv_dup hx hb dX9_append_19 rfl ?_
    obtain ⟨hk32, h⟩ := h
    refine g_get CF hc hk32 rfl (by decide) (fun _ h9 => List.mem_cons_of_mem _ (List.mem_append_right _ (h9))) (k := 3) (by decide) (List.mem_cons_of_mem _ (List.mem_append_left _ (List.mem_of_getElem? (i := 1) rfl))) rfl dX9_append_20 ?_
    refine lv_iconst (v := 1) hx hb dX9_append_23 (by decide) ?_
    refine lv_iadd hx hb dX9_append_24 ?_
    refine g_puti CF hc hk32 rfl (by decide) (fun _ h9 => List.mem_cons_of_mem _ (List.mem_append_right _ (h9))) tyX9 tyX9_ok nmX9 (k := 3) (by decide) (List.mem_cons_of_mem _ (List.mem_append_left _ (List.mem_of_getElem? (i := 1) rfl))) rfl (v := ((gI g30 p0 3) + 1)) rfl rfl rfl dX9_append_25 (fun H locs hc => ?_)
    obtain ⟨g33, eg34⟩ : ∃ z, z = sU g30 p0 3 ((gI g30 p0 3) + 1) := ⟨_, rfl⟩
    have hc : gC D cA (gA g0 sz) s g33 H locs := by rw [eg34]; exact hc
    replace h := h g33 eg34
    refine lv_aload_n hx hb dX9_append_28 rfl (lv_at hl 0 rfl) ?_
    refine lv_iload_n hx hb dX9_append_29 rfl (lv_at hl 1 rfl) ?_
    obtain ⟨hk35, h⟩ := h
    refine g_calli (va_runV (As := [.int p1]) (rest := []) CF (c_X9_indexOf h) (cwV 1 hts gX9_append_X9_indexOf rfl rfl rfl (by decide +kernel) ⟨Nat.le_of_ble_eq_true rfl, Nat.le_of_ble_eq_true rfl⟩) (hc.preV hk35 rfl (by decide)) rfl rfl hl.1 rfl (lv_room (Nat.le_of_ble_eq_true rfl)) dX9_append_30 ⟨Nat.le_of_ble_eq_true rfl, Nat.le_of_ble_eq_true rfl⟩) hc (fun x36 gq37 H locs hq hc => ?_)
    obtain ⟨rfl, h⟩ := hq
    refine lv_istore_n (lv' := [(2, .int x36), (0, .ref p0), (1, .int p1)]) hx hb dX9_append_33 rfl hl (by decide) rfl (fun ls hl => ?_)
    refine lv_iload_n hx hb dX9_append_34 rfl (lv_at hl 0 rfl) ?_
    refine lv_if_lt (tgt := 60) hx hb dX9_append_35 (by decide) (fun c38 => ?_) (fun c38 => ?_)
    · have h := h.1 c38
      exact hb_60 g33 p0 p1 h _ _ _ hc (lv_sub hl [1, 2] rfl)
    · have h := h.2 c38
      refine lv_iload_n hx hb dX9_append_38 rfl (lv_at hl 0 rfl) ?_
      refine lv_aload_n hx hb dX9_append_39 rfl (lv_at hl 1 rfl) ?_
      obtain ⟨y39, e40, h⟩ := h
      refine g_getr CF hc hk35 rfl (by decide) (fun _ h9 => List.mem_cons_of_mem _ (List.mem_append_right _ (h9))) (k := 2) (by decide) (List.mem_cons_of_mem _ (List.mem_append_left _ (List.mem_of_getElem? (i := 2) rfl))) e40 rfl dX9_append_40 ?_
      obtain ⟨hk41, h⟩ := h
      refine g_alen CF hc (j := 0) hk41 (by decide) dX9_append_43 ?_
      refine lv_icmp_ge (tgt := 60) hx hb dX9_append_44 (by decide) (fun c42 => ?_) (fun c42 => ?_)
      · have h := h.1 c42
        exact hb_60 g33 p0 p1 h _ _ _ hc (lv_sub hl [1, 2] rfl)
      · have h := h.2 c42
        refine lv_aload_n hx hb dX9_append_47 rfl (lv_at hl 1 rfl) ?_
        obtain ⟨y43, e44, h⟩ := h
        refine g_getr CF hc hk35 rfl (by decide) (fun _ h9 => List.mem_cons_of_mem _ (List.mem_append_right _ (h9))) (k := 2) (by decide) (List.mem_cons_of_mem _ (List.mem_append_left _ (List.mem_of_getElem? (i := 2) rfl))) e44 rfl dX9_append_48 ?_
        refine lv_iload_n hx hb dX9_append_51 rfl (lv_at hl 0 rfl) ?_
        refine lv_dup2_11 hx hb dX9_append_52 rfl rfl ?_
        obtain ⟨hk45, h⟩ := h
        obtain ⟨hi46, h⟩ := h
        refine g_iald CF hc hk45 hi46 dX9_append_53 ?_
        refine lv_iconst (v := 1) hx hb dX9_append_54 (by decide) ?_
        refine lv_iadd hx hb dX9_append_55 ?_
        obtain ⟨hi47, h⟩ := h
        refine g_iast CF hc hk45 (x := ((gI g33 y43 (Int32.toNatClampNeg x36)) + 1)) hi47 dX9_append_56 (fun H locs hc => ?_)
        obtain ⟨g48, eg49⟩ : ∃ z, z = sU g33 y43 (Int32.toNatClampNeg x36) ((gI g33 y43 (Int32.toNatClampNeg x36)) + 1) := ⟨_, rfl⟩
        have hc : gC D cA (gA g0 sz) s g48 H locs := by rw [eg49]; exact hc
        replace h := h g48 eg49
        refine lv_goto (tgt := 102) hx hb dX9_append_57 (by decide) ?_
        exact hb_102 g48 h _ _ _ hc (lv_sub hl [] rfl)
  · have h := h.2 c25
    exact g_retv CF hr hlk hc h dX9_append_7
def b_X9_termOn_31 (g : gS) (is0 : Int32) (Q : Int32 → Prop) : Prop :=
  Q is0
def b_X9_termOn_21 (g : gS) (Q : Int32 → Prop) : Prop :=
  b_X9_termOn_31 g (-1) Q
def w_X9_termOn (g : gS) (p0 : Nat) (p1 : Int32) (Q : Int32 → Prop) : Prop :=
  (p1 < 0 → (b_X9_termOn_21 g Q)) ∧ (¬ p1 < 0 → (gK g p0 = 10 ∧ (((gI g p0 3) ≤ p1 → (b_X9_termOn_21 g Q)) ∧ (¬ (gI g p0 3) ≤ p1 → (∃ y4, gR g p0 0 = some y4 ∧ (gK g y4 = 21 ∧ ((p1 < (nI (gN g y4)) → (∃ y8, gR g p0 0 = some y8 ∧ (gK g y8 = 21 ∧ (vp_in p1 (gN g y8) ∧ (b_X9_termOn_31 g (gI g y8 (Int32.toNatClampNeg p1)) Q))))) ∧ (¬ p1 < (nI (gN g y4)) → (b_X9_termOn_21 g Q)))))))))
abbrev r_X9_termOn : Room := { frames := 0, cells := 0, slots := 0, locals := 0 }
set_option maxHeartbeats 4000000 in
set_option maxRecDepth 100000 in
theorem c_X9_termOn {l : Launch} {D : va_G} {cA : Nat → ClassId} {sz : Nat} {g : gS} {p0 : Nat} {p1 : Int32} {Q : Int32 → Prop} (h : w_X9_termOn g p0 p1 Q) : Met l yX9_termOn wsX9_termOn r_X9_termOn (va_Pc [.ref p0, .int p1] (gPre D cA g sz)) (gQi D cA g sz (fun r g2 => g = g2 ∧ Q r)) 0 0 (gA g sz) := by
  refine g_met (cc := cX9_termOn) (maxL := 2) (ret := (some .int)) (own := RX9) (by decide) rfl rfl (Nat.le_of_ble_eq_true rfl) ?_
  intro p e s m args below meth c ls CF hr hlk hnm hc hl
  obtain ⟨hx, hb, hml, hown, hts⟩ := id CF
  have hl : lv_has ls 2 [(0, .ref p0), (1, .int p1)] := hl
  show W p l e r_X9_termOn s m args below meth c s.heap [] 0 0 (MQ below (gQi D cA g sz (fun r g2 => g = g2 ∧ Q r)) args s 0 0 (gA g sz)) (F0 m 0 ls [])
  have hb_31 : ∀ (is0 : Int32), b_X9_termOn_31 g is0 Q → ∀ (H : Heap) (locs : List Loc) (ls : Array Slot), gC D cA (gA g sz) s g H locs → lv_has ls 2 [] → W p l e r_X9_termOn s m args below meth c H locs 0 0 (MQ below (gQi D cA g sz (fun r g2 => g = g2 ∧ Q r)) args s 0 0 (gA g sz)) (F0 m 31 ls [.int is0]) := by
    intro is0 h H locs ls hc hl
    unfold b_X9_termOn_31 at h
    exact g_reti (r := is0) CF hr hlk hc rfl ⟨rfl, h⟩ dX9_termOn_31
  have hb_21 : b_X9_termOn_21 g Q → ∀ (H : Heap) (locs : List Loc) (ls : Array Slot), gC D cA (gA g sz) s g H locs → lv_has ls 2 [] → W p l e r_X9_termOn s m args below meth c H locs 0 0 (MQ below (gQi D cA g sz (fun r g2 => g = g2 ∧ Q r)) args s 0 0 (gA g sz)) (F0 m 21 ls []) := by
    intro h H locs ls hc hl
    unfold b_X9_termOn_21 at h
    refine lv_iconst (v := (-1)) hx hb dX9_termOn_21 (by decide) ?_
    refine lv_goto (tgt := 31) hx hb dX9_termOn_22 (by decide) ?_
    exact hb_31 (-1) h _ _ _ hc (lv_sub hl [] rfl)
  unfold w_X9_termOn at h
  obtain ⟨H, hH0⟩ : ∃ z, z = s.heap := ⟨_, rfl⟩
  rw [← hH0] at hc ⊢
  obtain ⟨locs, hlc0⟩ : ∃ z : List Loc, z = [] := ⟨_, rfl⟩
  rw [← hlc0] at hc ⊢
  refine lv_iload_n hx hb dX9_termOn_0 rfl (lv_at hl 1 rfl) ?_
  refine lv_if_lt (tgt := 21) hx hb dX9_termOn_1 (by decide) (fun c1 => ?_) (fun c1 => ?_)
  · have h := h.1 c1
    exact hb_21  h _ _ _ hc (lv_sub hl [] rfl)
  · have h := h.2 c1
    refine lv_iload_n hx hb dX9_termOn_4 rfl (lv_at hl 1 rfl) ?_
    refine lv_aload_n hx hb dX9_termOn_5 rfl (lv_at hl 0 rfl) ?_
    obtain ⟨hk2, h⟩ := h
    refine g_get CF hc hk2 rfl (by decide) (fun _ h9 => List.mem_cons_of_mem _ (List.mem_append_right _ (h9))) (k := 3) (by decide) (List.mem_cons_of_mem _ (List.mem_append_left _ (List.mem_of_getElem? (i := 0) rfl))) rfl dX9_termOn_6 ?_
    refine lv_icmp_ge (tgt := 21) hx hb dX9_termOn_9 (by decide) (fun c3 => ?_) (fun c3 => ?_)
    · have h := h.1 c3
      exact hb_21  h _ _ _ hc (lv_sub hl [] rfl)
    · have h := h.2 c3
      refine lv_iload_n hx hb dX9_termOn_12 rfl (lv_at hl 1 rfl) ?_
      refine lv_aload_n hx hb dX9_termOn_13 rfl (lv_at hl 0 rfl) ?_
      obtain ⟨y4, e5, h⟩ := h
      refine g_getr CF hc hk2 rfl (by decide) (fun _ h9 => List.mem_cons_of_mem _ (List.mem_append_right _ (h9))) (k := 0) (by decide) (List.mem_cons_of_mem _ (List.mem_append_left _ (List.mem_of_getElem? (i := 1) rfl))) e5 rfl dX9_termOn_14 ?_
      obtain ⟨hk6, h⟩ := h
      refine g_alen CF hc (j := 0) hk6 (by decide) dX9_termOn_17 ?_
      refine lv_icmp_lt (tgt := 25) hx hb dX9_termOn_18 (by decide) (fun c7 => ?_) (fun c7 => ?_)
      · have h := h.1 c7
        refine lv_aload_n hx hb dX9_termOn_25 rfl (lv_at hl 0 rfl) ?_
        obtain ⟨y8, e9, h⟩ := h
        refine g_getr CF hc hk2 rfl (by decide) (fun _ h9 => List.mem_cons_of_mem _ (List.mem_append_right _ (h9))) (k := 0) (by decide) (List.mem_cons_of_mem _ (List.mem_append_left _ (List.mem_of_getElem? (i := 1) rfl))) e9 rfl dX9_termOn_26 ?_
        refine lv_iload_n hx hb dX9_termOn_29 rfl (lv_at hl 1 rfl) ?_
        obtain ⟨hk10, h⟩ := h
        obtain ⟨hi11, h⟩ := h
        refine g_iald CF hc hk10 hi11 dX9_termOn_30 ?_
        exact hb_31 (gI g y8 (Int32.toNatClampNeg p1)) h _ _ _ hc (lv_sub hl [] rfl)
      · have h := h.2 c7
        exact hb_21  h _ _ _ hc (lv_sub hl [] rfl)
def b_X9_differentTermOn_31 (g : gS) (is0 : Int32) (Q : Int32 → Prop) : Prop :=
  Q is0
def b_X9_differentTermOn_21 (g : gS) (Q : Int32 → Prop) : Prop :=
  b_X9_differentTermOn_31 g (-1) Q
def w_X9_differentTermOn (g : gS) (p0 : Nat) (p1 : Int32) (Q : Int32 → Prop) : Prop :=
  (p1 < 0 → (b_X9_differentTermOn_21 g Q)) ∧ (¬ p1 < 0 → (gK g p0 = 10 ∧ (((gI g p0 4) ≤ p1 → (b_X9_differentTermOn_21 g Q)) ∧ (¬ (gI g p0 4) ≤ p1 → (∃ y4, gR g p0 1 = some y4 ∧ (gK g y4 = 21 ∧ ((p1 < (nI (gN g y4)) → (∃ y8, gR g p0 1 = some y8 ∧ (gK g y8 = 21 ∧ (vp_in p1 (gN g y8) ∧ (b_X9_differentTermOn_31 g (gI g y8 (Int32.toNatClampNeg p1)) Q))))) ∧ (¬ p1 < (nI (gN g y4)) → (b_X9_differentTermOn_21 g Q)))))))))
abbrev r_X9_differentTermOn : Room := { frames := 0, cells := 0, slots := 0, locals := 0 }
set_option maxHeartbeats 4000000 in
set_option maxRecDepth 100000 in
theorem c_X9_differentTermOn {l : Launch} {D : va_G} {cA : Nat → ClassId} {sz : Nat} {g : gS} {p0 : Nat} {p1 : Int32} {Q : Int32 → Prop} (h : w_X9_differentTermOn g p0 p1 Q) : Met l yX9_differentTermOn wsX9_differentTermOn r_X9_differentTermOn (va_Pc [.ref p0, .int p1] (gPre D cA g sz)) (gQi D cA g sz (fun r g2 => g = g2 ∧ Q r)) 0 0 (gA g sz) := by
  refine g_met (cc := cX9_differentTermOn) (maxL := 2) (ret := (some .int)) (own := RX9) (by decide) rfl rfl (Nat.le_of_ble_eq_true rfl) ?_
  intro p e s m args below meth c ls CF hr hlk hnm hc hl
  obtain ⟨hx, hb, hml, hown, hts⟩ := id CF
  have hl : lv_has ls 2 [(0, .ref p0), (1, .int p1)] := hl
  show W p l e r_X9_differentTermOn s m args below meth c s.heap [] 0 0 (MQ below (gQi D cA g sz (fun r g2 => g = g2 ∧ Q r)) args s 0 0 (gA g sz)) (F0 m 0 ls [])
  have hb_31 : ∀ (is0 : Int32), b_X9_differentTermOn_31 g is0 Q → ∀ (H : Heap) (locs : List Loc) (ls : Array Slot), gC D cA (gA g sz) s g H locs → lv_has ls 2 [] → W p l e r_X9_differentTermOn s m args below meth c H locs 0 0 (MQ below (gQi D cA g sz (fun r g2 => g = g2 ∧ Q r)) args s 0 0 (gA g sz)) (F0 m 31 ls [.int is0]) := by
    intro is0 h H locs ls hc hl
    unfold b_X9_differentTermOn_31 at h
    exact g_reti (r := is0) CF hr hlk hc rfl ⟨rfl, h⟩ dX9_differentTermOn_31
  have hb_21 : b_X9_differentTermOn_21 g Q → ∀ (H : Heap) (locs : List Loc) (ls : Array Slot), gC D cA (gA g sz) s g H locs → lv_has ls 2 [] → W p l e r_X9_differentTermOn s m args below meth c H locs 0 0 (MQ below (gQi D cA g sz (fun r g2 => g = g2 ∧ Q r)) args s 0 0 (gA g sz)) (F0 m 21 ls []) := by
    intro h H locs ls hc hl
    unfold b_X9_differentTermOn_21 at h
    refine lv_iconst (v := (-1)) hx hb dX9_differentTermOn_21 (by decide) ?_
    refine lv_goto (tgt := 31) hx hb dX9_differentTermOn_22 (by decide) ?_
    exact hb_31 (-1) h _ _ _ hc (lv_sub hl [] rfl)
  unfold w_X9_differentTermOn at h
  obtain ⟨H, hH0⟩ : ∃ z, z = s.heap := ⟨_, rfl⟩
  rw [← hH0] at hc ⊢
  obtain ⟨locs, hlc0⟩ : ∃ z : List Loc, z = [] := ⟨_, rfl⟩
  rw [← hlc0] at hc ⊢
  refine lv_iload_n hx hb dX9_differentTermOn_0 rfl (lv_at hl 1 rfl) ?_
  refine lv_if_lt (tgt := 21) hx hb dX9_differentTermOn_1 (by decide) (fun c1 => ?_) (fun c1 => ?_)
  · have h := h.1 c1
    exact hb_21  h _ _ _ hc (lv_sub hl [] rfl)
  · have h := h.2 c1
    refine lv_iload_n hx hb dX9_differentTermOn_4 rfl (lv_at hl 1 rfl) ?_
    refine lv_aload_n hx hb dX9_differentTermOn_5 rfl (lv_at hl 0 rfl) ?_
    obtain ⟨hk2, h⟩ := h
    refine g_get CF hc hk2 rfl (by decide) (fun _ h9 => List.mem_cons_of_mem _ (List.mem_append_right _ (h9))) (k := 4) (by decide) (List.mem_cons_of_mem _ (List.mem_append_left _ (List.mem_of_getElem? (i := 0) rfl))) rfl dX9_differentTermOn_6 ?_
    refine lv_icmp_ge (tgt := 21) hx hb dX9_differentTermOn_9 (by decide) (fun c3 => ?_) (fun c3 => ?_)
    · have h := h.1 c3
      exact hb_21  h _ _ _ hc (lv_sub hl [] rfl)
    · have h := h.2 c3
      refine lv_iload_n hx hb dX9_differentTermOn_12 rfl (lv_at hl 1 rfl) ?_
      refine lv_aload_n hx hb dX9_differentTermOn_13 rfl (lv_at hl 0 rfl) ?_
      obtain ⟨y4, e5, h⟩ := h
      refine g_getr CF hc hk2 rfl (by decide) (fun _ h9 => List.mem_cons_of_mem _ (List.mem_append_right _ (h9))) (k := 1) (by decide) (List.mem_cons_of_mem _ (List.mem_append_left _ (List.mem_of_getElem? (i := 1) rfl))) e5 rfl dX9_differentTermOn_14 ?_
      obtain ⟨hk6, h⟩ := h
      refine g_alen CF hc (j := 0) hk6 (by decide) dX9_differentTermOn_17 ?_
      refine lv_icmp_lt (tgt := 25) hx hb dX9_differentTermOn_18 (by decide) (fun c7 => ?_) (fun c7 => ?_)
      · have h := h.1 c7
        refine lv_aload_n hx hb dX9_differentTermOn_25 rfl (lv_at hl 0 rfl) ?_
        obtain ⟨y8, e9, h⟩ := h
        refine g_getr CF hc hk2 rfl (by decide) (fun _ h9 => List.mem_cons_of_mem _ (List.mem_append_right _ (h9))) (k := 1) (by decide) (List.mem_cons_of_mem _ (List.mem_append_left _ (List.mem_of_getElem? (i := 1) rfl))) e9 rfl dX9_differentTermOn_26 ?_
        refine lv_iload_n hx hb dX9_differentTermOn_29 rfl (lv_at hl 1 rfl) ?_
        obtain ⟨hk10, h⟩ := h
        obtain ⟨hi11, h⟩ := h
        refine g_iald CF hc hk10 hi11 dX9_differentTermOn_30 ?_
        exact hb_31 (gI g y8 (Int32.toNatClampNeg p1)) h _ _ _ hc (lv_sub hl [] rfl)
      · have h := h.2 c7
        exact hb_21  h _ _ _ hc (lv_sub hl [] rfl)
def b_X9_countOf_29 (g : gS) (is0 : Int32) (Q : Int32 → Prop) : Prop :=
  Q is0
def b_X9_countOf_19 (g : gS) (Q : Int32 → Prop) : Prop :=
  b_X9_countOf_29 g 0 Q
def w_X9_countOf (g : gS) (p0 : Nat) (p1 : Int32) (Q : Int32 → Prop) : Prop :=
  gK g p0 = 10 ∧ (w_X9_indexOf g p0 p1 (fun x2 => ((x2 < 0 → (b_X9_countOf_19 g Q)) ∧ (¬ x2 < 0 → (∃ y5, gR g p0 2 = some y5 ∧ (gK g y5 = 21 ∧ ((x2 < (nI (gN g y5)) → (∃ y9, gR g p0 2 = some y9 ∧ (gK g y9 = 21 ∧ (vp_in x2 (gN g y9) ∧ (b_X9_countOf_29 g (gI g y9 (Int32.toNatClampNeg x2)) Q))))) ∧ (¬ x2 < (nI (gN g y5)) → (b_X9_countOf_19 g Q)))))))))
abbrev r_X9_countOf : Room := { frames := 1, cells := 0, slots := 0, locals := 22 }
set_option maxHeartbeats 4000000 in
set_option maxRecDepth 100000 in
theorem c_X9_countOf {l : Launch} {D : va_G} {cA : Nat → ClassId} {sz : Nat} {g : gS} {p0 : Nat} {p1 : Int32} {Q : Int32 → Prop} (h : w_X9_countOf g p0 p1 Q) : Met l yX9_countOf wsX9_countOf r_X9_countOf (va_Pc [.ref p0, .int p1] (gPre D cA g sz)) (gQi D cA g sz (fun r g2 => g = g2 ∧ Q r)) 0 0 (gA g sz) := by
  refine g_met (cc := cX9_countOf) (maxL := 3) (ret := (some .int)) (own := RX9) (by decide) rfl rfl (Nat.le_of_ble_eq_true rfl) ?_
  intro p e s m args below meth c ls CF hr hlk hnm hc hl
  obtain ⟨hx, hb, hml, hown, hts⟩ := id CF
  have hl : lv_has ls 3 [(0, .ref p0), (1, .int p1)] := hl
  show W p l e r_X9_countOf s m args below meth c s.heap [] 0 0 (MQ below (gQi D cA g sz (fun r g2 => g = g2 ∧ Q r)) args s 0 0 (gA g sz)) (F0 m 0 ls [])
  have hb_29 : ∀ (is0 : Int32), b_X9_countOf_29 g is0 Q → ∀ (H : Heap) (locs : List Loc) (ls : Array Slot), gC D cA (gA g sz) s g H locs → lv_has ls 3 [] → W p l e r_X9_countOf s m args below meth c H locs 0 0 (MQ below (gQi D cA g sz (fun r g2 => g = g2 ∧ Q r)) args s 0 0 (gA g sz)) (F0 m 29 ls [.int is0]) := by
    intro is0 h H locs ls hc hl
    unfold b_X9_countOf_29 at h
    exact g_reti (r := is0) CF hr hlk hc rfl ⟨rfl, h⟩ dX9_countOf_29
  have hb_19 : b_X9_countOf_19 g Q → ∀ (H : Heap) (locs : List Loc) (ls : Array Slot), gC D cA (gA g sz) s g H locs → lv_has ls 3 [] → W p l e r_X9_countOf s m args below meth c H locs 0 0 (MQ below (gQi D cA g sz (fun r g2 => g = g2 ∧ Q r)) args s 0 0 (gA g sz)) (F0 m 19 ls []) := by
    intro h H locs ls hc hl
    unfold b_X9_countOf_19 at h
    refine lv_iconst (v := 0) hx hb dX9_countOf_19 (by decide) ?_
    refine lv_goto (tgt := 29) hx hb dX9_countOf_20 (by decide) ?_
    exact hb_29 0 h _ _ _ hc (lv_sub hl [] rfl)
  unfold w_X9_countOf at h
  obtain ⟨H, hH0⟩ : ∃ z, z = s.heap := ⟨_, rfl⟩
  rw [← hH0] at hc ⊢
  obtain ⟨locs, hlc0⟩ : ∃ z : List Loc, z = [] := ⟨_, rfl⟩
  rw [← hlc0] at hc ⊢
  refine lv_aload_n hx hb dX9_countOf_0 rfl (lv_at hl 0 rfl) ?_
  refine lv_iload_n hx hb dX9_countOf_1 rfl (lv_at hl 1 rfl) ?_
  obtain ⟨hk1, h⟩ := h
  refine g_calli (va_runV (As := [.int p1]) (rest := []) CF (c_X9_indexOf h) (cwV 1 hts gX9_countOf_X9_indexOf rfl rfl rfl (by decide +kernel) ⟨Nat.le_of_ble_eq_true rfl, Nat.le_of_ble_eq_true rfl⟩) (hc.preV hk1 rfl (by decide)) rfl rfl hl.1 rfl (lv_room (Nat.le_of_ble_eq_true rfl)) dX9_countOf_2 ⟨Nat.le_of_ble_eq_true rfl, Nat.le_of_ble_eq_true rfl⟩) hc (fun x2 gq3 H locs hq hc => ?_)
  obtain ⟨rfl, h⟩ := hq
  refine lv_istore_n (lv' := [(2, .int x2), (0, .ref p0), (1, .int p1)]) hx hb dX9_countOf_5 rfl hl (by decide) rfl (fun ls hl => ?_)
  refine lv_iload_n hx hb dX9_countOf_6 rfl (lv_at hl 0 rfl) ?_
  refine lv_if_lt (tgt := 19) hx hb dX9_countOf_7 (by decide) (fun c4 => ?_) (fun c4 => ?_)
  · have h := h.1 c4
    exact hb_19  h _ _ _ hc (lv_sub hl [] rfl)
  · have h := h.2 c4
    refine lv_iload_n hx hb dX9_countOf_10 rfl (lv_at hl 0 rfl) ?_
    refine lv_aload_n hx hb dX9_countOf_11 rfl (lv_at hl 1 rfl) ?_
    obtain ⟨y5, e6, h⟩ := h
    refine g_getr CF hc hk1 rfl (by decide) (fun _ h9 => List.mem_cons_of_mem _ (List.mem_append_right _ (h9))) (k := 2) (by decide) (List.mem_cons_of_mem _ (List.mem_append_left _ (List.mem_of_getElem? (i := 0) rfl))) e6 rfl dX9_countOf_12 ?_
    obtain ⟨hk7, h⟩ := h
    refine g_alen CF hc (j := 0) hk7 (by decide) dX9_countOf_15 ?_
    refine lv_icmp_lt (tgt := 23) hx hb dX9_countOf_16 (by decide) (fun c8 => ?_) (fun c8 => ?_)
    · have h := h.1 c8
      refine lv_aload_n hx hb dX9_countOf_23 rfl (lv_at hl 1 rfl) ?_
      obtain ⟨y9, e10, h⟩ := h
      refine g_getr CF hc hk1 rfl (by decide) (fun _ h9 => List.mem_cons_of_mem _ (List.mem_append_right _ (h9))) (k := 2) (by decide) (List.mem_cons_of_mem _ (List.mem_append_left _ (List.mem_of_getElem? (i := 0) rfl))) e10 rfl dX9_countOf_24 ?_
      refine lv_iload_n hx hb dX9_countOf_27 rfl (lv_at hl 0 rfl) ?_
      obtain ⟨hk11, h⟩ := h
      obtain ⟨hi12, h⟩ := h
      refine g_iald CF hc hk11 hi12 dX9_countOf_28 ?_
      exact hb_29 (gI g y9 (Int32.toNatClampNeg x2)) h _ _ _ hc (lv_sub hl [] rfl)
    · have h := h.2 c8
      exact hb_19  h _ _ _ hc (lv_sub hl [] rfl)
def w_X2_init (g0 : gS) (p0 : Nat) (p1 : Int32) (p2 : Int32) (Q : gS → Prop) : Prop :=
  ∀ q1, gK g0 q1 = 0 → (∀ g3, g3 = sNew g0 q1 26 3 → (gK g3 p0 = 3 ∧ (∀ g6, g6 = sV g3 p0 2 (some q1) → (gK g6 p0 = 3 ∧ (∀ g9, g9 = sU g6 p0 3 (-1) → (gK g9 p0 = 3 ∧ (∀ g12, g12 = sU g9 p0 0 p1 → (gK g12 p0 = 3 ∧ (∀ g15, g15 = sU g12 p0 1 p2 → (gK g15 p0 = 3 ∧ (∃ y18, gR g15 p0 2 = some y18 ∧ (gK g15 y18 = 26 ∧ (((nI (gN g15 y18)) ≤ 0 → (Q g15)) ∧ (¬ (nI (gN g15 y18)) ≤ 0 → (∃ y22, gR g15 p0 2 = some y22 ∧ (∀ q24, gK g15 q24 = 0 → (∀ g26, g26 = sNew g15 q24 10 0 → (w_X9_init g26 q24 (fun g29 => (gK g29 y22 = 26 ∧ (vp_in 0 (gN g29 y22) ∧ (gK g29 q24 = 10 ∧ (∀ g34, g34 = sV g29 y22 (Int32.toNatClampNeg 0) (some q24) → (gK g34 p0 = 3 ∧ (∃ y37, gR g34 p0 2 = some y37 ∧ (gK g34 y37 = 26 ∧ (((nI (gN g34 y37)) ≤ (0 + 1) → (Q g34)) ∧ (¬ (nI (gN g34 y37)) ≤ (0 + 1) → (∃ y41, gR g34 p0 2 = some y41 ∧ (∀ q43, gK g34 q43 = 0 → (∀ g45, g45 = sNew g34 q43 10 0 → (w_X9_init g45 q43 (fun g48 => (gK g48 y41 = 26 ∧ (vp_in (0 + 1) (gN g48 y41) ∧ (gK g48 q43 = 10 ∧ (∀ g53, g53 = sV g48 y41 (Int32.toNatClampNeg (0 + 1)) (some q43) → (gK g53 p0 = 3 ∧ (∃ y56, gR g53 p0 2 = some y56 ∧ (gK g53 y56 = 26 ∧ (((nI (gN g53 y56)) ≤ ((0 + 1) + 1) → (Q g53)) ∧ (¬ (nI (gN g53 y56)) ≤ ((0 + 1) + 1) → (∃ y60, gR g53 p0 2 = some y60 ∧ (∀ q62, gK g53 q62 = 0 → (∀ g64, g64 = sNew g53 q62 10 0 → (w_X9_init g64 q62 (fun g67 => (gK g67 y60 = 26 ∧ (vp_in ((0 + 1) + 1) (gN g67 y60) ∧ (gK g67 q62 = 10 ∧ (∀ g72, g72 = sV g67 y60 (Int32.toNatClampNeg ((0 + 1) + 1)) (some q62) → (gK g72 p0 = 3 ∧ (∃ y75, gR g72 p0 2 = some y75 ∧ (gK g72 y75 = 26 ∧ (((nI (gN g72 y75)) ≤ (((0 + 1) + 1) + 1) → (Q g72)) ∧ (¬ (nI (gN g72 y75)) ≤ (((0 + 1) + 1) + 1) → (False)))))))))))))))))))))))))))))))))))))))))))))))))))))))))
abbrev r_X2_init : Room := { frames := 2, cells := 13, slots := 126, locals := 32 }
set_option maxHeartbeats 4000000 in
set_option maxRecDepth 100000 in
theorem c_X2_init {l : Launch} {D : va_G} {cA : Nat → ClassId} {sz : Nat} {g0 : gS} {p0 : Nat} {p1 : Int32} {p2 : Int32} {Q : gS → Prop} (h : w_X2_init g0 p0 p1 p2 Q) : Met l yX2_init wsX2_init r_X2_init (va_Pc [.ref p0, .int p1, .int p2] (gPre D cA g0 sz)) (gQv D cA g0 sz (Q)) 13 126 (gA g0 sz) := by
  refine g_met (cc := cX2_init) (maxL := 4) (ret := none) (own := RX2) (by decide) rfl rfl (Nat.le_of_ble_eq_true rfl) ?_
  intro p e s m args below meth c ls CF hr hlk hnm hc hl
  obtain ⟨hx, hb, hml, hown, hts⟩ := id CF
  have hl : lv_has ls 4 [(0, .ref p0), (1, .int p1), (2, .int p2)] := hl
  show W p l e r_X2_init s m args below meth c s.heap [] 0 0 (MQ below (gQv D cA g0 sz (Q)) args s 13 126 (gA g0 sz)) (F0 m 0 ls [])
  unfold w_X2_init at h
  obtain ⟨H, hH0⟩ : ∃ z, z = s.heap := ⟨_, rfl⟩
  rw [← hH0] at hc ⊢
  obtain ⟨locs, hlc0⟩ : ∃ z : List Loc, z = [] := ⟨_, rfl⟩
  rw [← hlc0] at hc ⊢
  refine lv_aload_n hx hb dX2_init_0 rfl (lv_at hl 0 rfl) ?_
  refine W.objInit hx hb hown (hts _ (List.mem_cons_of_mem _ (List.mem_append_left _ (List.mem_append_left _ (List.mem_of_getElem? (i := 0) rfl))))) (hts _ (List.mem_cons_of_mem _ (List.mem_append_left _ (List.mem_append_left _ (List.mem_of_getElem? (i := 1) rfl))))) (hts _ (List.mem_cons_of_mem _ (List.mem_append_left _ (List.mem_append_left _ (List.mem_of_getElem? (i := 2) rfl))))) rfl (by rw [hml]; exact hl.1) rfl dX2_init_1 (Nat.le_of_ble_eq_true rfl) (Nat.le_of_ble_eq_true rfl) ?_
  refine W.eq (g2 := F0 m 4 ls []) rfl ?_
  refine lv_aload_n hx hb dX2_init_4 rfl (lv_at hl 0 rfl) ?_
  refine lv_iconst (v := 3) hx hb dX2_init_5 (by decide) ?_
  refine g_newq CF hc (j2 := 1) (by decide) hc.1.2.2.2.2.1 rfl (List.mem_cons_of_mem _ (List.mem_append_left _ (List.mem_append_left _ (List.mem_of_getElem? (i := 3) rfl)))) (n := 3) (N := 3) (by decide) (by decide) (by decide) (Nat.le_of_ble_eq_true rfl) (Nat.le_of_ble_eq_true rfl) dX2_init_6 (fun q1 H locs hq2 hc => ?_)
  replace h := h q1 hq2
  obtain ⟨g3, eg4⟩ : ∃ z, z = sNew g0 q1 26 3 := ⟨_, rfl⟩
  have hc : gC D cA (gA g0 sz) s g3 H locs := by rw [eg4]; exact hc
  replace h := h g3 eg4
  refine W.widen (k := 1) (n := 3) (Nat.le_of_ble_eq_true rfl) (Nat.le_of_ble_eq_true rfl) ?_
  obtain ⟨hk5, h⟩ := h
  refine g_putrF CF hc hk5 rfl (by decide) (fun _ h9 => List.mem_cons_of_mem _ (List.mem_append_left _ (List.mem_append_right _ (h9)))) tyX2 tyX2_ok nmX2 (k := 2) (by decide) (List.mem_cons_of_mem _ (List.mem_append_left _ (List.mem_append_left _ (List.mem_of_getElem? (i := 4) rfl)))) rfl hnm rfl (some q1) narrow_ra fits_ra rfl dX2_init_9 (fun H locs hc => ?_)
  obtain ⟨g6, eg7⟩ : ∃ z, z = sV g3 p0 2 (some q1) := ⟨_, rfl⟩
  have hc : gC D cA (gA g0 sz) s g6 H locs := by rw [eg7]; exact hc
  replace h := h g6 eg7
  refine lv_aload_n hx hb dX2_init_12 rfl (lv_at hl 0 rfl) ?_
  refine lv_iconst (v := (-1)) hx hb dX2_init_13 (by decide) ?_
  obtain ⟨hk8, h⟩ := h
  refine g_puti CF hc hk8 rfl (by decide) (fun _ h9 => List.mem_cons_of_mem _ (List.mem_append_left _ (List.mem_append_right _ (h9)))) tyX2 tyX2_ok nmX2 (k := 3) (by decide) (List.mem_cons_of_mem _ (List.mem_append_left _ (List.mem_append_left _ (List.mem_of_getElem? (i := 5) rfl)))) rfl (v := (-1)) rfl rfl rfl dX2_init_14 (fun H locs hc => ?_)
  obtain ⟨g9, eg10⟩ : ∃ z, z = sU g6 p0 3 (-1) := ⟨_, rfl⟩
  have hc : gC D cA (gA g0 sz) s g9 H locs := by rw [eg10]; exact hc
  replace h := h g9 eg10
  refine lv_aload_n hx hb dX2_init_17 rfl (lv_at hl 0 rfl) ?_
  refine lv_iload_n hx hb dX2_init_18 rfl (lv_at hl 1 rfl) ?_
  obtain ⟨hk11, h⟩ := h
  refine g_putiF CF hc hk11 rfl (by decide) (fun _ h9 => List.mem_cons_of_mem _ (List.mem_append_left _ (List.mem_append_right _ (h9)))) tyX2 tyX2_ok nmX2 (k := 0) (by decide) (List.mem_cons_of_mem _ (List.mem_append_left _ (List.mem_append_left _ (List.mem_of_getElem? (i := 6) rfl)))) rfl hnm rfl (v := p1) rfl rfl rfl dX2_init_19 (fun H locs hc => ?_)
  obtain ⟨g12, eg13⟩ : ∃ z, z = sU g9 p0 0 p1 := ⟨_, rfl⟩
  have hc : gC D cA (gA g0 sz) s g12 H locs := by rw [eg13]; exact hc
  replace h := h g12 eg13
  refine lv_aload_n hx hb dX2_init_22 rfl (lv_at hl 0 rfl) ?_
  refine lv_iload_n hx hb dX2_init_23 rfl (lv_at hl 2 rfl) ?_
  obtain ⟨hk14, h⟩ := h
  refine g_putiF CF hc hk14 rfl (by decide) (fun _ h9 => List.mem_cons_of_mem _ (List.mem_append_left _ (List.mem_append_right _ (h9)))) tyX2 tyX2_ok nmX2 (k := 1) (by decide) (List.mem_cons_of_mem _ (List.mem_append_left _ (List.mem_append_left _ (List.mem_of_getElem? (i := 7) rfl)))) rfl hnm rfl (v := p2) rfl rfl rfl dX2_init_24 (fun H locs hc => ?_)
  obtain ⟨g15, eg16⟩ : ∃ z, z = sU g12 p0 1 p2 := ⟨_, rfl⟩
  have hc : gC D cA (gA g0 sz) s g15 H locs := by rw [eg16]; exact hc
  replace h := h g15 eg16
  refine lv_iconst (v := 0) hx hb dX2_init_27 (by decide) ?_
  refine lv_istore_n (lv' := [(3, .int 0), (0, .ref p0), (1, .int p1), (2, .int p2)]) hx hb dX2_init_28 rfl hl (by decide) rfl (fun ls hl => ?_)
  refine lv_iload_n hx hb dX2_init_29 rfl (lv_at hl 0 rfl) ?_
  refine lv_aload_n hx hb dX2_init_30 rfl (lv_at hl 1 rfl) ?_
  obtain ⟨hk17, h⟩ := h
  obtain ⟨y18, e19, h⟩ := h
  refine g_getr CF hc hk17 rfl (by decide) (fun _ h9 => List.mem_cons_of_mem _ (List.mem_append_left _ (List.mem_append_right _ (h9)))) (k := 2) (by decide) (List.mem_cons_of_mem _ (List.mem_append_left _ (List.mem_append_left _ (List.mem_of_getElem? (i := 4) rfl)))) e19 rfl dX2_init_31 ?_
  obtain ⟨hk20, h⟩ := h
  refine g_alen CF hc (j := 5) hk20 (by decide) dX2_init_34 ?_
  refine lv_icmp_ge (tgt := 57) hx hb dX2_init_35 (by decide) (fun c21 => ?_) (fun c21 => ?_)
  · have h := h.1 c21
    refine W.widen (k := 13) (n := 126) (Nat.le_of_ble_eq_true rfl) (Nat.le_of_ble_eq_true rfl) ?_
    exact g_retv CF hr hlk hc h dX2_init_57
  · have h := h.2 c21
    refine lv_aload_n hx hb dX2_init_38 rfl (lv_at hl 1 rfl) ?_
    obtain ⟨y22, e23, h⟩ := h
    refine g_getr CF hc hk17 rfl (by decide) (fun _ h9 => List.mem_cons_of_mem _ (List.mem_append_left _ (List.mem_append_right _ (h9)))) (k := 2) (by decide) (List.mem_cons_of_mem _ (List.mem_append_left _ (List.mem_append_left _ (List.mem_of_getElem? (i := 4) rfl)))) e23 rfl dX2_init_39 ?_
    refine lv_iload_n hx hb dX2_init_42 rfl (lv_at hl 0 rfl) ?_
    refine g_new CF hc (ci := 9) rfl (by decide) (fun _ h9 => List.mem_cons_of_mem _ (List.mem_append_right _ (h9))) tyX9 tyX9_ok dfX9 (List.mem_cons_of_mem _ (List.mem_append_left _ (List.mem_append_left _ (List.mem_of_getElem? (i := 3) rfl)))) (List.mem_cons_of_mem _ (List.mem_append_left _ (List.mem_append_left _ (List.mem_of_getElem? (i := 8) rfl)))) (List.mem_cons_of_mem _ (List.mem_append_left _ (List.mem_append_left _ (List.mem_of_getElem? (i := 9) rfl)))) (Nat.le_of_ble_eq_true rfl) (Nat.le_of_ble_eq_true rfl) dX2_init_43 (fun q24 H locs hq25 hc => ?_)
    replace h := h q24 hq25
    obtain ⟨g26, eg27⟩ : ∃ z, z = sNew g15 q24 10 0 := ⟨_, rfl⟩
    have hc : gC D cA (gA g0 sz) s g26 H locs := by rw [eg27]; exact hc
    replace h := h g26 eg27
    refine W.widen (k := 2) (n := 8) (Nat.le_of_ble_eq_true rfl) (Nat.le_of_ble_eq_true rfl) ?_
    refine lv_dup hx hb dX2_init_46 rfl ?_
    refine g_callv (va_runIN (b := q24) (As := []) (rest := [.ref q24, .int 0, .ref y22]) CF (c_X9_init h) ⟨va_cnB 0 hts gX2_init_X9_init_n27 rfl rfl rfl (hc.1.2.1 (.methodLinkNest RX2 27 yX9_init "QuarryIndex") (by decide +kernel)) (hts _ (List.mem_cons_of_mem _ (List.mem_append_left _ (List.mem_append_left _ (List.mem_of_getElem? (i := 9) rfl))))) (by decide +kernel) ⟨Nat.le_of_ble_eq_true rfl, Nat.le_of_ble_eq_true rfl⟩, rfl, hts _ (List.mem_cons_of_mem _ (List.mem_append_left _ (List.mem_append_left _ (List.mem_of_getElem? (i := 10) rfl))))⟩ (hc.preS (As := .ref q24 :: [])) rfl rfl hl.1 rfl (lv_room (Nat.le_of_ble_eq_true rfl)) dX2_init_47 ⟨Nat.le_of_ble_eq_true rfl, Nat.le_of_ble_eq_true rfl⟩) hc (fun g29 H locs hq hc => ?_)
    replace h := hq
    refine W.widen (k := 5) (n := 44) (Nat.le_of_ble_eq_true rfl) (Nat.le_of_ble_eq_true rfl) ?_
    obtain ⟨hk31, h⟩ := h
    obtain ⟨hi32, h⟩ := h
    obtain ⟨hk33, h⟩ := h
    refine g_aast CF hc (j2 := 1) (ci := 9) (v := q24) hk31 (by decide) rfl (by decide) rfl hk33 hi32 dX2_init_50 (fun H locs hc => ?_)
    obtain ⟨g34, eg35⟩ : ∃ z, z = sV g29 y22 (Int32.toNatClampNeg 0) (some q24) := ⟨_, rfl⟩
    have hc : gC D cA (gA g0 sz) s g34 H locs := by rw [eg35]; exact hc
    replace h := h g34 eg35
    refine lv_iinc (v := (0 + 1)) (lv' := [(3, .int (0 + 1)), (0, .ref p0), (1, .int p1), (2, .int p2)]) hx hb dX2_init_51 hl (k := 0) rfl rfl (by decide) rfl (fun ls hl => ?_)
    refine lv_goto (tgt := 29) hx hb dX2_init_54 (by decide) ?_
    refine lv_iload_n hx hb dX2_init_29 rfl (lv_at hl 0 rfl) ?_
    refine lv_aload_n hx hb dX2_init_30 rfl (lv_at hl 1 rfl) ?_
    obtain ⟨hk36, h⟩ := h
    obtain ⟨y37, e38, h⟩ := h
    refine g_getr CF hc hk36 rfl (by decide) (fun _ h9 => List.mem_cons_of_mem _ (List.mem_append_left _ (List.mem_append_right _ (h9)))) (k := 2) (by decide) (List.mem_cons_of_mem _ (List.mem_append_left _ (List.mem_append_left _ (List.mem_of_getElem? (i := 4) rfl)))) e38 rfl dX2_init_31 ?_
    obtain ⟨hk39, h⟩ := h
    refine g_alen CF hc (j := 5) hk39 (by decide) dX2_init_34 ?_
    refine lv_icmp_ge (tgt := 57) hx hb dX2_init_35 (by decide) (fun c40 => ?_) (fun c40 => ?_)
    · have h := h.1 c40
      refine W.widen (k := 13) (n := 126) (Nat.le_of_ble_eq_true rfl) (Nat.le_of_ble_eq_true rfl) ?_
      exact g_retv CF hr hlk hc h dX2_init_57
    · have h := h.2 c40
      refine lv_aload_n hx hb dX2_init_38 rfl (lv_at hl 1 rfl) ?_
      obtain ⟨y41, e42, h⟩ := h
      refine g_getr CF hc hk36 rfl (by decide) (fun _ h9 => List.mem_cons_of_mem _ (List.mem_append_left _ (List.mem_append_right _ (h9)))) (k := 2) (by decide) (List.mem_cons_of_mem _ (List.mem_append_left _ (List.mem_append_left _ (List.mem_of_getElem? (i := 4) rfl)))) e42 rfl dX2_init_39 ?_
      refine lv_iload_n hx hb dX2_init_42 rfl (lv_at hl 0 rfl) ?_
      refine g_new CF hc (ci := 9) rfl (by decide) (fun _ h9 => List.mem_cons_of_mem _ (List.mem_append_right _ (h9))) tyX9 tyX9_ok dfX9 (List.mem_cons_of_mem _ (List.mem_append_left _ (List.mem_append_left _ (List.mem_of_getElem? (i := 3) rfl)))) (List.mem_cons_of_mem _ (List.mem_append_left _ (List.mem_append_left _ (List.mem_of_getElem? (i := 8) rfl)))) (List.mem_cons_of_mem _ (List.mem_append_left _ (List.mem_append_left _ (List.mem_of_getElem? (i := 9) rfl)))) (Nat.le_of_ble_eq_true rfl) (Nat.le_of_ble_eq_true rfl) dX2_init_43 (fun q43 H locs hq44 hc => ?_)
      replace h := h q43 hq44
      obtain ⟨g45, eg46⟩ : ∃ z, z = sNew g34 q43 10 0 := ⟨_, rfl⟩
      have hc : gC D cA (gA g0 sz) s g45 H locs := by rw [eg46]; exact hc
      replace h := h g45 eg46
      refine W.widen (k := 6) (n := 49) (Nat.le_of_ble_eq_true rfl) (Nat.le_of_ble_eq_true rfl) ?_
      refine lv_dup hx hb dX2_init_46 rfl ?_
      refine g_callv (va_runIN (b := q43) (As := []) (rest := [.ref q43, .int (0 + 1), .ref y41]) CF (c_X9_init h) ⟨va_cnB 0 hts gX2_init_X9_init_n27 rfl rfl rfl (hc.1.2.1 (.methodLinkNest RX2 27 yX9_init "QuarryIndex") (by decide +kernel)) (hts _ (List.mem_cons_of_mem _ (List.mem_append_left _ (List.mem_append_left _ (List.mem_of_getElem? (i := 9) rfl))))) (by decide +kernel) ⟨Nat.le_of_ble_eq_true rfl, Nat.le_of_ble_eq_true rfl⟩, rfl, hts _ (List.mem_cons_of_mem _ (List.mem_append_left _ (List.mem_append_left _ (List.mem_of_getElem? (i := 10) rfl))))⟩ (hc.preS (As := .ref q43 :: [])) rfl rfl hl.1 rfl (lv_room (Nat.le_of_ble_eq_true rfl)) dX2_init_47 ⟨Nat.le_of_ble_eq_true rfl, Nat.le_of_ble_eq_true rfl⟩) hc (fun g48 H locs hq hc => ?_)
      replace h := hq
      refine W.widen (k := 9) (n := 85) (Nat.le_of_ble_eq_true rfl) (Nat.le_of_ble_eq_true rfl) ?_
      obtain ⟨hk50, h⟩ := h
      obtain ⟨hi51, h⟩ := h
      obtain ⟨hk52, h⟩ := h
      refine g_aast CF hc (j2 := 1) (ci := 9) (v := q43) hk50 (by decide) rfl (by decide) rfl hk52 hi51 dX2_init_50 (fun H locs hc => ?_)
      obtain ⟨g53, eg54⟩ : ∃ z, z = sV g48 y41 (Int32.toNatClampNeg (0 + 1)) (some q43) := ⟨_, rfl⟩
      have hc : gC D cA (gA g0 sz) s g53 H locs := by rw [eg54]; exact hc
      replace h := h g53 eg54
      refine lv_iinc (v := ((0 + 1) + 1)) (lv' := [(3, .int ((0 + 1) + 1)), (0, .ref p0), (1, .int p1), (2, .int p2)]) hx hb dX2_init_51 hl (k := 0) rfl rfl (by decide) rfl (fun ls hl => ?_)
      refine lv_goto (tgt := 29) hx hb dX2_init_54 (by decide) ?_
      refine lv_iload_n hx hb dX2_init_29 rfl (lv_at hl 0 rfl) ?_
      refine lv_aload_n hx hb dX2_init_30 rfl (lv_at hl 1 rfl) ?_
      obtain ⟨hk55, h⟩ := h
      obtain ⟨y56, e57, h⟩ := h
      refine g_getr CF hc hk55 rfl (by decide) (fun _ h9 => List.mem_cons_of_mem _ (List.mem_append_left _ (List.mem_append_right _ (h9)))) (k := 2) (by decide) (List.mem_cons_of_mem _ (List.mem_append_left _ (List.mem_append_left _ (List.mem_of_getElem? (i := 4) rfl)))) e57 rfl dX2_init_31 ?_
      obtain ⟨hk58, h⟩ := h
      refine g_alen CF hc (j := 5) hk58 (by decide) dX2_init_34 ?_
      refine lv_icmp_ge (tgt := 57) hx hb dX2_init_35 (by decide) (fun c59 => ?_) (fun c59 => ?_)
      · have h := h.1 c59
        refine W.widen (k := 13) (n := 126) (Nat.le_of_ble_eq_true rfl) (Nat.le_of_ble_eq_true rfl) ?_
        exact g_retv CF hr hlk hc h dX2_init_57
      · have h := h.2 c59
        refine lv_aload_n hx hb dX2_init_38 rfl (lv_at hl 1 rfl) ?_
        obtain ⟨y60, e61, h⟩ := h
        refine g_getr CF hc hk55 rfl (by decide) (fun _ h9 => List.mem_cons_of_mem _ (List.mem_append_left _ (List.mem_append_right _ (h9)))) (k := 2) (by decide) (List.mem_cons_of_mem _ (List.mem_append_left _ (List.mem_append_left _ (List.mem_of_getElem? (i := 4) rfl)))) e61 rfl dX2_init_39 ?_
        refine lv_iload_n hx hb dX2_init_42 rfl (lv_at hl 0 rfl) ?_
        refine g_new CF hc (ci := 9) rfl (by decide) (fun _ h9 => List.mem_cons_of_mem _ (List.mem_append_right _ (h9))) tyX9 tyX9_ok dfX9 (List.mem_cons_of_mem _ (List.mem_append_left _ (List.mem_append_left _ (List.mem_of_getElem? (i := 3) rfl)))) (List.mem_cons_of_mem _ (List.mem_append_left _ (List.mem_append_left _ (List.mem_of_getElem? (i := 8) rfl)))) (List.mem_cons_of_mem _ (List.mem_append_left _ (List.mem_append_left _ (List.mem_of_getElem? (i := 9) rfl)))) (Nat.le_of_ble_eq_true rfl) (Nat.le_of_ble_eq_true rfl) dX2_init_43 (fun q62 H locs hq63 hc => ?_)
        replace h := h q62 hq63
        obtain ⟨g64, eg65⟩ : ∃ z, z = sNew g53 q62 10 0 := ⟨_, rfl⟩
        have hc : gC D cA (gA g0 sz) s g64 H locs := by rw [eg65]; exact hc
        replace h := h g64 eg65
        refine W.widen (k := 10) (n := 90) (Nat.le_of_ble_eq_true rfl) (Nat.le_of_ble_eq_true rfl) ?_
        refine lv_dup hx hb dX2_init_46 rfl ?_
        refine g_callv (va_runIN (b := q62) (As := []) (rest := [.ref q62, .int ((0 + 1) + 1), .ref y60]) CF (c_X9_init h) ⟨va_cnB 0 hts gX2_init_X9_init_n27 rfl rfl rfl (hc.1.2.1 (.methodLinkNest RX2 27 yX9_init "QuarryIndex") (by decide +kernel)) (hts _ (List.mem_cons_of_mem _ (List.mem_append_left _ (List.mem_append_left _ (List.mem_of_getElem? (i := 9) rfl))))) (by decide +kernel) ⟨Nat.le_of_ble_eq_true rfl, Nat.le_of_ble_eq_true rfl⟩, rfl, hts _ (List.mem_cons_of_mem _ (List.mem_append_left _ (List.mem_append_left _ (List.mem_of_getElem? (i := 10) rfl))))⟩ (hc.preS (As := .ref q62 :: [])) rfl rfl hl.1 rfl (lv_room (Nat.le_of_ble_eq_true rfl)) dX2_init_47 ⟨Nat.le_of_ble_eq_true rfl, Nat.le_of_ble_eq_true rfl⟩) hc (fun g67 H locs hq hc => ?_)
        replace h := hq
        refine W.widen (k := 13) (n := 126) (Nat.le_of_ble_eq_true rfl) (Nat.le_of_ble_eq_true rfl) ?_
        obtain ⟨hk69, h⟩ := h
        obtain ⟨hi70, h⟩ := h
        obtain ⟨hk71, h⟩ := h
        refine g_aast CF hc (j2 := 1) (ci := 9) (v := q62) hk69 (by decide) rfl (by decide) rfl hk71 hi70 dX2_init_50 (fun H locs hc => ?_)
        obtain ⟨g72, eg73⟩ : ∃ z, z = sV g67 y60 (Int32.toNatClampNeg ((0 + 1) + 1)) (some q62) := ⟨_, rfl⟩
        have hc : gC D cA (gA g0 sz) s g72 H locs := by rw [eg73]; exact hc
        replace h := h g72 eg73
        refine lv_iinc (v := (((0 + 1) + 1) + 1)) (lv' := [(3, .int (((0 + 1) + 1) + 1)), (0, .ref p0), (1, .int p1), (2, .int p2)]) hx hb dX2_init_51 hl (k := 0) rfl rfl (by decide) rfl (fun ls hl => ?_)
        refine lv_goto (tgt := 29) hx hb dX2_init_54 (by decide) ?_
        refine lv_iload_n hx hb dX2_init_29 rfl (lv_at hl 0 rfl) ?_
        refine lv_aload_n hx hb dX2_init_30 rfl (lv_at hl 1 rfl) ?_
        obtain ⟨hk74, h⟩ := h
        obtain ⟨y75, e76, h⟩ := h
        refine g_getr CF hc hk74 rfl (by decide) (fun _ h9 => List.mem_cons_of_mem _ (List.mem_append_left _ (List.mem_append_right _ (h9)))) (k := 2) (by decide) (List.mem_cons_of_mem _ (List.mem_append_left _ (List.mem_append_left _ (List.mem_of_getElem? (i := 4) rfl)))) e76 rfl dX2_init_31 ?_
        obtain ⟨hk77, h⟩ := h
        refine g_alen CF hc (j := 5) hk77 (by decide) dX2_init_34 ?_
        refine lv_icmp_ge (tgt := 57) hx hb dX2_init_35 (by decide) (fun c78 => ?_) (fun c78 => ?_)
        · have h := h.1 c78
          exact g_retv CF hr hlk hc h dX2_init_57
        · have h := h.2 c78
          exact h.elim
def b_X2_rowOf_23 (g : gS) (os0 : Option Nat) (Q : Option Nat → Prop) : Prop :=
  Q os0
def b_X2_rowOf_13 (g : gS) (Q : Option Nat → Prop) : Prop :=
  b_X2_rowOf_23 g none Q
def w_X2_rowOf (g : gS) (p0 : Nat) (p1 : Int32) (Q : Option Nat → Prop) : Prop :=
  (p1 < 0 → (b_X2_rowOf_13 g Q)) ∧ (¬ p1 < 0 → (gK g p0 = 3 ∧ (∃ y3, gR g p0 2 = some y3 ∧ (gK g y3 = 26 ∧ ((p1 < (nI (gN g y3)) → (∃ y7, gR g p0 2 = some y7 ∧ (gK g y7 = 26 ∧ (vp_in p1 (gN g y7) ∧ (∀ o11, o11 = gR g y7 (Int32.toNatClampNeg p1) → (b_X2_rowOf_23 g o11 Q)))))) ∧ (¬ p1 < (nI (gN g y3)) → (b_X2_rowOf_13 g Q)))))))
abbrev r_X2_rowOf : Room := { frames := 0, cells := 0, slots := 0, locals := 0 }
set_option maxHeartbeats 4000000 in
set_option maxRecDepth 100000 in
theorem c_X2_rowOf {l : Launch} {D : va_G} {cA : Nat → ClassId} {sz : Nat} {g : gS} {p0 : Nat} {p1 : Int32} {Q : Option Nat → Prop} (h : w_X2_rowOf g p0 p1 Q) : Met l yX2_rowOf wsX2_rowOf r_X2_rowOf (va_Pc [.ref p0, .int p1] (gPre D cA g sz)) (gQq D cA g sz (fun r g2 => g = g2 ∧ Q r)) 0 0 (gA g sz) := by
  refine g_met (cc := cX2_rowOf) (maxL := 2) (ret := (some (.object "QuarryIndex$TermRow"))) (own := RX2) (by decide) rfl rfl (Nat.le_of_ble_eq_true rfl) ?_
  intro p e s m args below meth c ls CF hr hlk hnm hc hl
  obtain ⟨hx, hb, hml, hown, hts⟩ := id CF
  have hl : lv_has ls 2 [(0, .ref p0), (1, .int p1)] := hl
  show W p l e r_X2_rowOf s m args below meth c s.heap [] 0 0 (MQ below (gQq D cA g sz (fun r g2 => g = g2 ∧ Q r)) args s 0 0 (gA g sz)) (F0 m 0 ls [])
  have hb_23 : ∀ (os0 : Option Nat), b_X2_rowOf_23 g os0 Q → ∀ (H : Heap) (locs : List Loc) (ls : Array Slot), gC D cA (gA g sz) s g H locs → lv_has ls 2 [] → W p l e r_X2_rowOf s m args below meth c H locs 0 0 (MQ below (gQq D cA g sz (fun r g2 => g = g2 ∧ Q r)) args s 0 0 (gA g sz)) (F0 m 23 ls [va_rf os0]) := by
    intro os0 h H locs ls hc hl
    unfold b_X2_rowOf_23 at h
    exact g_retq (r := os0) CF hr hlk hc ⟨rfl, h⟩ dX2_rowOf_23
  have hb_13 : b_X2_rowOf_13 g Q → ∀ (H : Heap) (locs : List Loc) (ls : Array Slot), gC D cA (gA g sz) s g H locs → lv_has ls 2 [] → W p l e r_X2_rowOf s m args below meth c H locs 0 0 (MQ below (gQq D cA g sz (fun r g2 => g = g2 ∧ Q r)) args s 0 0 (gA g sz)) (F0 m 13 ls []) := by
    intro h H locs ls hc hl
    unfold b_X2_rowOf_13 at h
    refine lv_null hx hb dX2_rowOf_13 ?_
    refine lv_goto (tgt := 23) hx hb dX2_rowOf_14 (by decide) ?_
    exact hb_23 none h _ _ _ hc (lv_sub hl [] rfl)
  unfold w_X2_rowOf at h
  obtain ⟨H, hH0⟩ : ∃ z, z = s.heap := ⟨_, rfl⟩
  rw [← hH0] at hc ⊢
  obtain ⟨locs, hlc0⟩ : ∃ z : List Loc, z = [] := ⟨_, rfl⟩
  rw [← hlc0] at hc ⊢
  refine lv_iload_n hx hb dX2_rowOf_0 rfl (lv_at hl 1 rfl) ?_
  refine lv_if_lt (tgt := 13) hx hb dX2_rowOf_1 (by decide) (fun c1 => ?_) (fun c1 => ?_)
  · have h := h.1 c1
    exact hb_13  h _ _ _ hc (lv_sub hl [] rfl)
  · have h := h.2 c1
    refine lv_iload_n hx hb dX2_rowOf_4 rfl (lv_at hl 1 rfl) ?_
    refine lv_aload_n hx hb dX2_rowOf_5 rfl (lv_at hl 0 rfl) ?_
    obtain ⟨hk2, h⟩ := h
    obtain ⟨y3, e4, h⟩ := h
    refine g_getr CF hc hk2 rfl (by decide) (fun _ h9 => List.mem_cons_of_mem _ (List.mem_append_right _ (h9))) (k := 2) (by decide) (List.mem_cons_of_mem _ (List.mem_append_left _ (List.mem_of_getElem? (i := 0) rfl))) e4 rfl dX2_rowOf_6 ?_
    obtain ⟨hk5, h⟩ := h
    refine g_alen CF hc (j := 5) hk5 (by decide) dX2_rowOf_9 ?_
    refine lv_icmp_lt (tgt := 17) hx hb dX2_rowOf_10 (by decide) (fun c6 => ?_) (fun c6 => ?_)
    · have h := h.1 c6
      refine lv_aload_n hx hb dX2_rowOf_17 rfl (lv_at hl 0 rfl) ?_
      obtain ⟨y7, e8, h⟩ := h
      refine g_getr CF hc hk2 rfl (by decide) (fun _ h9 => List.mem_cons_of_mem _ (List.mem_append_right _ (h9))) (k := 2) (by decide) (List.mem_cons_of_mem _ (List.mem_append_left _ (List.mem_of_getElem? (i := 0) rfl))) e8 rfl dX2_rowOf_18 ?_
      refine lv_iload_n hx hb dX2_rowOf_21 rfl (lv_at hl 1 rfl) ?_
      obtain ⟨hk9, h⟩ := h
      obtain ⟨hi10, h⟩ := h
      refine g_aald CF hc (j := 2) hk9 (by decide) hi10 dX2_rowOf_22 ?_
      obtain ⟨o11, eo12⟩ : ∃ z, z = gR g y7 (Int32.toNatClampNeg p1) := ⟨_, rfl⟩
      rw [← eo12]
      replace h := h o11 eo12
      exact hb_23 o11 h _ _ _ hc (lv_sub hl [] rfl)
    · have h := h.2 c6
      exact hb_13  h _ _ _ hc (lv_sub hl [] rfl)
def b_X2_liesInSegment_12 (g : gS) (is0 : Int32) (Q : Int32 → Prop) : Prop :=
  (is0 = 0 ∨ is0 = 1) ∧ (Q is0)
def w_X2_liesInSegment (g : gS) (p0 : Nat) (Q : Int32 → Prop) : Prop :=
  gK g p0 = 3 ∧ (((gI g p0 3) < 0 → (b_X2_liesInSegment_12 g 0 Q)) ∧ (¬ (gI g p0 3) < 0 → (b_X2_liesInSegment_12 g 1 Q)))
abbrev r_X2_liesInSegment : Room := { frames := 0, cells := 0, slots := 0, locals := 0 }
set_option maxHeartbeats 4000000 in
set_option maxRecDepth 100000 in
theorem c_X2_liesInSegment {l : Launch} {D : va_G} {cA : Nat → ClassId} {sz : Nat} {g : gS} {p0 : Nat} {Q : Int32 → Prop} (h : w_X2_liesInSegment g p0 Q) : Met l yX2_liesInSegment wsX2_liesInSegment r_X2_liesInSegment (va_Pc [.ref p0] (gPre D cA g sz)) (gQi D cA g sz (fun r g2 => g = g2 ∧ Q r)) 0 0 (gA g sz) := by
  refine g_met (cc := cX2_liesInSegment) (maxL := 1) (ret := (some .boolean)) (own := RX2) (by decide) rfl rfl (Nat.le_of_ble_eq_true rfl) ?_
  intro p e s m args below meth c ls CF hr hlk hnm hc hl
  obtain ⟨hx, hb, hml, hown, hts⟩ := id CF
  have hl : lv_has ls 1 [(0, .ref p0)] := hl
  show W p l e r_X2_liesInSegment s m args below meth c s.heap [] 0 0 (MQ below (gQi D cA g sz (fun r g2 => g = g2 ∧ Q r)) args s 0 0 (gA g sz)) (F0 m 0 ls [])
  have hb_12 : ∀ (is0 : Int32), b_X2_liesInSegment_12 g is0 Q → ∀ (H : Heap) (locs : List Loc) (ls : Array Slot), gC D cA (gA g sz) s g H locs → lv_has ls 1 [] → W p l e r_X2_liesInSegment s m args below meth c H locs 0 0 (MQ below (gQi D cA g sz (fun r g2 => g = g2 ∧ Q r)) args s 0 0 (gA g sz)) (F0 m 12 ls [.int is0]) := by
    intro is0 h H locs ls hc hl
    unfold b_X2_liesInSegment_12 at h
    obtain ⟨hz1, h⟩ := h
    exact g_reti (r := is0) CF hr hlk hc (narrow_01 hz1) ⟨rfl, h⟩ dX2_liesInSegment_12
  unfold w_X2_liesInSegment at h
  obtain ⟨H, hH0⟩ : ∃ z, z = s.heap := ⟨_, rfl⟩
  rw [← hH0] at hc ⊢
  obtain ⟨locs, hlc0⟩ : ∃ z : List Loc, z = [] := ⟨_, rfl⟩
  rw [← hlc0] at hc ⊢
  refine lv_aload_n hx hb dX2_liesInSegment_0 rfl (lv_at hl 0 rfl) ?_
  obtain ⟨hk2, h⟩ := h
  refine g_get CF hc hk2 rfl (by decide) (fun _ h9 => List.mem_cons_of_mem _ (List.mem_append_right _ (h9))) (k := 3) (by decide) (List.mem_cons_of_mem _ (List.mem_append_left _ (List.mem_of_getElem? (i := 0) rfl))) rfl dX2_liesInSegment_1 ?_
  refine lv_if_lt (tgt := 11) hx hb dX2_liesInSegment_4 (by decide) (fun c3 => ?_) (fun c3 => ?_)
  · have h := h.1 c3
    refine lv_iconst (v := 0) hx hb dX2_liesInSegment_11 (by decide) ?_
    exact hb_12 0 h _ _ _ hc (lv_sub hl [] rfl)
  · have h := h.2 c3
    refine lv_iconst (v := 1) hx hb dX2_liesInSegment_7 (by decide) ?_
    refine lv_goto (tgt := 12) hx hb dX2_liesInSegment_8 (by decide) ?_
    exact hb_12 1 h _ _ _ hc (lv_sub hl [] rfl)
def b_X2_canBeFound_19 (g : gS) (is0 : Int32) (Q : Int32 → Prop) : Prop :=
  (is0 = 0 ∨ is0 = 1) ∧ (Q is0)
def b_X2_canBeFound_18 (g : gS) (Q : Int32 → Prop) : Prop :=
  b_X2_canBeFound_19 g 0 Q
def w_X2_canBeFound (g : gS) (p0 : Nat) (Q : Int32 → Prop) : Prop :=
  gK g p0 = 3 ∧ (((gI g p0 4) = 0 → (w_X2_liesInSegment g p0 (fun x4 => ((x4 = 0 → (b_X2_canBeFound_18 g Q)) ∧ (¬ x4 = 0 → (b_X2_canBeFound_19 g 1 Q)))))) ∧ (¬ (gI g p0 4) = 0 → (b_X2_canBeFound_18 g Q)))
abbrev r_X2_canBeFound : Room := { frames := 1, cells := 0, slots := 0, locals := 20 }
set_option maxHeartbeats 4000000 in
set_option maxRecDepth 100000 in
theorem c_X2_canBeFound {l : Launch} {D : va_G} {cA : Nat → ClassId} {sz : Nat} {g : gS} {p0 : Nat} {Q : Int32 → Prop} (h : w_X2_canBeFound g p0 Q) : Met l yX2_canBeFound wsX2_canBeFound r_X2_canBeFound (va_Pc [.ref p0] (gPre D cA g sz)) (gQi D cA g sz (fun r g2 => g = g2 ∧ Q r)) 0 0 (gA g sz) := by
  refine g_met (cc := cX2_canBeFound) (maxL := 1) (ret := (some .boolean)) (own := RX2) (by decide) rfl rfl (Nat.le_of_ble_eq_true rfl) ?_
  intro p e s m args below meth c ls CF hr hlk hnm hc hl
  obtain ⟨hx, hb, hml, hown, hts⟩ := id CF
  have hl : lv_has ls 1 [(0, .ref p0)] := hl
  show W p l e r_X2_canBeFound s m args below meth c s.heap [] 0 0 (MQ below (gQi D cA g sz (fun r g2 => g = g2 ∧ Q r)) args s 0 0 (gA g sz)) (F0 m 0 ls [])
  have hb_19 : ∀ (is0 : Int32), b_X2_canBeFound_19 g is0 Q → ∀ (H : Heap) (locs : List Loc) (ls : Array Slot), gC D cA (gA g sz) s g H locs → lv_has ls 1 [] → W p l e r_X2_canBeFound s m args below meth c H locs 0 0 (MQ below (gQi D cA g sz (fun r g2 => g = g2 ∧ Q r)) args s 0 0 (gA g sz)) (F0 m 19 ls [.int is0]) := by
    intro is0 h H locs ls hc hl
    unfold b_X2_canBeFound_19 at h
    obtain ⟨hz1, h⟩ := h
    exact g_reti (r := is0) CF hr hlk hc (narrow_01 hz1) ⟨rfl, h⟩ dX2_canBeFound_19
  have hb_18 : b_X2_canBeFound_18 g Q → ∀ (H : Heap) (locs : List Loc) (ls : Array Slot), gC D cA (gA g sz) s g H locs → lv_has ls 1 [] → W p l e r_X2_canBeFound s m args below meth c H locs 0 0 (MQ below (gQi D cA g sz (fun r g2 => g = g2 ∧ Q r)) args s 0 0 (gA g sz)) (F0 m 18 ls []) := by
    intro h H locs ls hc hl
    unfold b_X2_canBeFound_18 at h
    refine lv_iconst (v := 0) hx hb dX2_canBeFound_18 (by decide) ?_
    exact hb_19 0 h _ _ _ hc (lv_sub hl [] rfl)
  unfold w_X2_canBeFound at h
  obtain ⟨H, hH0⟩ : ∃ z, z = s.heap := ⟨_, rfl⟩
  rw [← hH0] at hc ⊢
  obtain ⟨locs, hlc0⟩ : ∃ z : List Loc, z = [] := ⟨_, rfl⟩
  rw [← hlc0] at hc ⊢
  refine lv_aload_n hx hb dX2_canBeFound_0 rfl (lv_at hl 0 rfl) ?_
  obtain ⟨hk2, h⟩ := h
  refine g_get CF hc hk2 rfl (by decide) (fun _ h9 => List.mem_cons_of_mem _ (List.mem_append_right _ (h9))) (k := 4) (by decide) (List.mem_cons_of_mem _ (List.mem_append_left _ (List.mem_of_getElem? (i := 0) rfl))) rfl dX2_canBeFound_1 ?_
  refine lv_if_ne (tgt := 18) hx hb dX2_canBeFound_4 (by decide) (fun c3 => ?_) (fun c3 => ?_)
  · have h := h.2 c3
    exact hb_18  h _ _ _ hc (lv_sub hl [] rfl)
  · have h := h.1 c3
    refine lv_aload_n hx hb dX2_canBeFound_7 rfl (lv_at hl 0 rfl) ?_
    refine g_calli (va_runV (As := []) (rest := []) CF (c_X2_liesInSegment h) (cwV 0 hts gX2_canBeFound_X2_liesInSegment rfl rfl rfl (by decide +kernel) ⟨Nat.le_of_ble_eq_true rfl, Nat.le_of_ble_eq_true rfl⟩) (hc.preV hk2 rfl (by decide)) rfl rfl hl.1 rfl (lv_room (Nat.le_of_ble_eq_true rfl)) dX2_canBeFound_8 ⟨Nat.le_of_ble_eq_true rfl, Nat.le_of_ble_eq_true rfl⟩) hc (fun x4 gq5 H locs hq hc => ?_)
    obtain ⟨rfl, h⟩ := hq
    refine lv_if_eq (tgt := 18) hx hb dX2_canBeFound_11 (by decide) (fun c6 => ?_) (fun c6 => ?_)
    · have h := h.1 c6
      exact hb_18  h _ _ _ hc (lv_sub hl [] rfl)
    · have h := h.2 c6
      refine lv_iconst (v := 1) hx hb dX2_canBeFound_14 (by decide) ?_
      refine lv_goto (tgt := 19) hx hb dX2_canBeFound_15 (by decide) ?_
      exact hb_19 1 h _ _ _ hc (lv_sub hl [] rfl)
def b_X2_state_21 (g : gS) (is0 : Int32) (Q : Int32 → Prop) : Prop :=
  Q is0
def w_X2_state (g : gS) (p0 : Nat) (Q : Int32 → Prop) : Prop :=
  gK g p0 = 3 ∧ (((gI g p0 4) = 0 → (w_X2_liesInSegment g p0 (fun x3 => ((x3 = 0 → (b_X2_state_21 g 1 Q)) ∧ (¬ x3 = 0 → (b_X2_state_21 g 2 Q)))))) ∧ (¬ (gI g p0 4) = 0 → (Q 0)))
abbrev r_X2_state : Room := { frames := 1, cells := 0, slots := 0, locals := 20 }
set_option maxHeartbeats 4000000 in
set_option maxRecDepth 100000 in
theorem c_X2_state {l : Launch} {D : va_G} {cA : Nat → ClassId} {sz : Nat} {g : gS} {p0 : Nat} {Q : Int32 → Prop} (h : w_X2_state g p0 Q) : Met l yX2_state wsX2_state r_X2_state (va_Pc [.ref p0] (gPre D cA g sz)) (gQi D cA g sz (fun r g2 => g = g2 ∧ Q r)) 0 0 (gA g sz) := by
  refine g_met (cc := cX2_state) (maxL := 1) (ret := (some .int)) (own := RX2) (by decide) rfl rfl (Nat.le_of_ble_eq_true rfl) ?_
  intro p e s m args below meth c ls CF hr hlk hnm hc hl
  obtain ⟨hx, hb, hml, hown, hts⟩ := id CF
  have hl : lv_has ls 1 [(0, .ref p0)] := hl
  show W p l e r_X2_state s m args below meth c s.heap [] 0 0 (MQ below (gQi D cA g sz (fun r g2 => g = g2 ∧ Q r)) args s 0 0 (gA g sz)) (F0 m 0 ls [])
  have hb_21 : ∀ (is0 : Int32), b_X2_state_21 g is0 Q → ∀ (H : Heap) (locs : List Loc) (ls : Array Slot), gC D cA (gA g sz) s g H locs → lv_has ls 1 [] → W p l e r_X2_state s m args below meth c H locs 0 0 (MQ below (gQi D cA g sz (fun r g2 => g = g2 ∧ Q r)) args s 0 0 (gA g sz)) (F0 m 21 ls [.int is0]) := by
    intro is0 h H locs ls hc hl
    unfold b_X2_state_21 at h
    exact g_reti (r := is0) CF hr hlk hc rfl ⟨rfl, h⟩ dX2_state_21
  unfold w_X2_state at h
  obtain ⟨H, hH0⟩ : ∃ z, z = s.heap := ⟨_, rfl⟩
  rw [← hH0] at hc ⊢
  obtain ⟨locs, hlc0⟩ : ∃ z : List Loc, z = [] := ⟨_, rfl⟩
  rw [← hlc0] at hc ⊢
  refine lv_aload_n hx hb dX2_state_0 rfl (lv_at hl 0 rfl) ?_
  obtain ⟨hk1, h⟩ := h
  refine g_get CF hc hk1 rfl (by decide) (fun _ h9 => List.mem_cons_of_mem _ (List.mem_append_right _ (h9))) (k := 4) (by decide) (List.mem_cons_of_mem _ (List.mem_append_left _ (List.mem_of_getElem? (i := 0) rfl))) rfl dX2_state_1 ?_
  refine lv_if_eq (tgt := 9) hx hb dX2_state_4 (by decide) (fun c2 => ?_) (fun c2 => ?_)
  · have h := h.1 c2
    refine lv_aload_n hx hb dX2_state_9 rfl (lv_at hl 0 rfl) ?_
    refine g_calli (va_runV (As := []) (rest := []) CF (c_X2_liesInSegment h) (cwV 0 hts gX2_state_X2_liesInSegment rfl rfl rfl (by decide +kernel) ⟨Nat.le_of_ble_eq_true rfl, Nat.le_of_ble_eq_true rfl⟩) (hc.preV hk1 rfl (by decide)) rfl rfl hl.1 rfl (lv_room (Nat.le_of_ble_eq_true rfl)) dX2_state_10 ⟨Nat.le_of_ble_eq_true rfl, Nat.le_of_ble_eq_true rfl⟩) hc (fun x3 gq4 H locs hq hc => ?_)
    obtain ⟨rfl, h⟩ := hq
    refine lv_if_eq (tgt := 20) hx hb dX2_state_13 (by decide) (fun c5 => ?_) (fun c5 => ?_)
    · have h := h.1 c5
      refine lv_iconst (v := 1) hx hb dX2_state_20 (by decide) ?_
      exact hb_21 1 h _ _ _ hc (lv_sub hl [] rfl)
    · have h := h.2 c5
      refine lv_iconst (v := 2) hx hb dX2_state_16 (by decide) ?_
      refine lv_goto (tgt := 21) hx hb dX2_state_17 (by decide) ?_
      exact hb_21 2 h _ _ _ hc (lv_sub hl [] rfl)
  · have h := h.2 c2
    refine lv_iconst (v := 0) hx hb dX2_state_7 (by decide) ?_
    exact g_reti (r := 0) CF hr hlk hc rfl ⟨rfl, h⟩ dX2_state_8
def w_X1_init (g0 : gS) (p0 : Nat) (Q : gS → Prop) : Prop :=
  ∀ q1 rr2, gFresh g0 q1 rr2 3 → (∀ g4, g4 = sGrid g0 q1 rr2 3 200 → (gK g4 p0 = 2 ∧ (∀ g7, g7 = sV g4 p0 0 (some q1) → (∀ q9, gK g7 q9 = 0 → (∀ g11, g11 = sNew g7 q9 21 3 → (gK g11 p0 = 2 ∧ (∀ g14, g14 = sV g11 p0 1 (some q9) → (Q g14))))))))
abbrev r_X1_init : Room := { frames := 1, cells := 5, slots := 606, locals := 12 }
set_option maxHeartbeats 4000000 in
set_option maxRecDepth 100000 in
theorem c_X1_init {l : Launch} {D : va_G} {cA : Nat → ClassId} {sz : Nat} {g0 : gS} {p0 : Nat} {Q : gS → Prop} (h : w_X1_init g0 p0 Q) : Met l yX1_init wsX1_init r_X1_init (va_Pc [.ref p0] (gPre D cA g0 sz)) (gQv D cA g0 sz (Q)) 5 606 (gA g0 sz) := by
  refine g_met (cc := cX1_init) (maxL := 1) (ret := none) (own := RX1) (by decide) rfl rfl (Nat.le_of_ble_eq_true rfl) ?_
  intro p e s m args below meth c ls CF hr hlk hnm hc hl
  obtain ⟨hx, hb, hml, hown, hts⟩ := id CF
  have hl : lv_has ls 1 [(0, .ref p0)] := hl
  show W p l e r_X1_init s m args below meth c s.heap [] 0 0 (MQ below (gQv D cA g0 sz (Q)) args s 5 606 (gA g0 sz)) (F0 m 0 ls [])
  unfold w_X1_init at h
  obtain ⟨H, hH0⟩ : ∃ z, z = s.heap := ⟨_, rfl⟩
  rw [← hH0] at hc ⊢
  obtain ⟨locs, hlc0⟩ : ∃ z : List Loc, z = [] := ⟨_, rfl⟩
  rw [← hlc0] at hc ⊢
  refine lv_aload_n hx hb dX1_init_0 rfl (lv_at hl 0 rfl) ?_
  refine W.objInit hx hb hown (hts _ (List.mem_cons_of_mem _ (List.mem_append_left _ (List.mem_of_getElem? (i := 0) rfl)))) (hts _ (List.mem_cons_of_mem _ (List.mem_append_left _ (List.mem_of_getElem? (i := 1) rfl)))) (hts _ (List.mem_cons_of_mem _ (List.mem_append_left _ (List.mem_of_getElem? (i := 2) rfl)))) rfl (by rw [hml]; exact hl.1) rfl dX1_init_1 (Nat.le_of_ble_eq_true rfl) (Nat.le_of_ble_eq_true rfl) ?_
  refine W.eq (g2 := F0 m 4 ls []) rfl ?_
  refine lv_aload_n hx hb dX1_init_4 rfl (lv_at hl 0 rfl) ?_
  refine lv_iconst (v := 3) hx hb dX1_init_5 (by decide) ?_
  refine lv_sipush (v := 200) hx hb dX1_init_6 (by decide) ?_
  refine g_mna CF hc (List.mem_cons_of_mem _ (List.mem_append_left _ (List.mem_of_getElem? (i := 3) rfl))) (List.mem_cons_of_mem _ (List.mem_append_left _ (List.mem_of_getElem? (i := 4) rfl))) (n := 3) (k := 200) (N := 3) (M := 200) (by decide) (by decide) (by decide) (by decide) (by decide) (by decide) (Nat.le_of_ble_eq_true rfl) (Nat.le_of_ble_eq_true rfl) dX1_init_9 (fun q1 rr2 H locs hg3 hc => ?_)
  replace h := h q1 rr2 hg3
  refine W.widen (k := 4) (n := 603) (Nat.le_of_ble_eq_true rfl) (Nat.le_of_ble_eq_true rfl) ?_
  obtain ⟨g4, eg5⟩ : ∃ z, z = sGrid g0 q1 rr2 3 200 := ⟨_, rfl⟩
  have hc : gC D cA (gA g0 sz) s g4 H locs := by rw [eg5]; exact hc
  replace h := h g4 eg5
  obtain ⟨hk6, h⟩ := h
  refine g_putrF CF hc hk6 rfl (by decide) (fun _ h9 => List.mem_cons_of_mem _ (List.mem_append_right _ (h9))) tyX1 tyX1_ok nmX1 (k := 0) (by decide) (List.mem_cons_of_mem _ (List.mem_append_left _ (List.mem_of_getElem? (i := 5) rfl))) rfl hnm rfl (some q1) narrow_ra fits_ra rfl dX1_init_13 (fun H locs hc => ?_)
  obtain ⟨g7, eg8⟩ : ∃ z, z = sV g4 p0 0 (some q1) := ⟨_, rfl⟩
  have hc : gC D cA (gA g0 sz) s g7 H locs := by rw [eg8]; exact hc
  replace h := h g7 eg8
  refine lv_aload_n hx hb dX1_init_16 rfl (lv_at hl 0 rfl) ?_
  refine lv_iconst (v := 3) hx hb dX1_init_17 (by decide) ?_
  refine g_newi CF hc (List.mem_cons_of_mem _ (List.mem_append_left _ (List.mem_of_getElem? (i := 4) rfl))) (n := 3) (N := 3) (by decide) (by decide) (by decide) (Nat.le_of_ble_eq_true rfl) (Nat.le_of_ble_eq_true rfl) dX1_init_18 (fun q9 H locs hq10 hc => ?_)
  replace h := h q9 hq10
  obtain ⟨g11, eg12⟩ : ∃ z, z = sNew g7 q9 21 3 := ⟨_, rfl⟩
  have hc : gC D cA (gA g0 sz) s g11 H locs := by rw [eg12]; exact hc
  replace h := h g11 eg12
  refine W.widen (k := 5) (n := 606) (Nat.le_of_ble_eq_true rfl) (Nat.le_of_ble_eq_true rfl) ?_
  obtain ⟨hk13, h⟩ := h
  refine g_putrF CF hc hk13 rfl (by decide) (fun _ h9 => List.mem_cons_of_mem _ (List.mem_append_right _ (h9))) tyX1 tyX1_ok nmX1 (k := 1) (by decide) (List.mem_cons_of_mem _ (List.mem_append_left _ (List.mem_of_getElem? (i := 6) rfl))) rfl hnm rfl (some q9) narrow_ra fits_ra rfl dX1_init_20 (fun H locs hc => ?_)
  obtain ⟨g14, eg15⟩ : ∃ z, z = sV g11 p0 1 (some q9) := ⟨_, rfl⟩
  have hc : gC D cA (gA g0 sz) s g14 H locs := by rw [eg15]; exact hc
  replace h := h g14 eg15
  exact g_retv CF hr hlk hc h dX1_init_23
def l_X1_reset_15 (r0 : Nat) (Q : gS → Prop) (g : gS) (i1 : Int32) (k15 : gS → Int32 → Prop) : Prop :=
  gK g r0 = 2 ∧ (∃ y2, gR g r0 0 = some y2 ∧ (gK g y2 = 24 ∧ (((nI (gN g y2)) ≤ i1 → (Q g)) ∧ (¬ (nI (gN g y2)) ≤ i1 → (∃ y6, gR g r0 0 = some y6 ∧ (gK g y6 = 24 ∧ (vp_in i1 (gN g y6) ∧ (∃ y10, gR g y6 (Int32.toNatClampNeg i1) = some y10 ∧ (w_J7_fill_53178 g y10 0 (fun g13 => (k15 g13 (i1 + 1))))))))))))
def w_X1_reset (g0 : gS) (p0 : Nat) (Q : gS → Prop) : Prop :=
  gK g0 p0 = 2 ∧ (∀ g16, g16 = sU g0 p0 2 0 → (gK g16 p0 = 2 ∧ (∃ y19, gR g16 p0 1 = some y19 ∧ (w_J7_fill_53178 g16 y19 0 (fun g22 => (lpx2 (l_X1_reset_15 p0 Q) g22 0))))))
abbrev r_X1_reset : Room := { frames := 1, cells := 0, slots := 0, locals := 23 }
set_option maxHeartbeats 4000000 in
set_option maxRecDepth 100000 in
theorem c_X1_reset {l : Launch} {D : va_G} {cA : Nat → ClassId} {sz : Nat} {g0 : gS} {p0 : Nat} {Q : gS → Prop} (h : w_X1_reset g0 p0 Q) : Met l yX1_reset wsX1_reset r_X1_reset (va_Pc [.ref p0] (gPre D cA g0 sz)) (gQv D cA g0 sz (Q)) 0 0 (gA g0 sz) := by
  refine g_met (cc := cX1_reset) (maxL := 2) (ret := none) (own := RX1) (by decide) rfl rfl (Nat.le_of_ble_eq_true rfl) ?_
  intro p e s m args below meth c ls CF hr hlk hnm hc hl
  obtain ⟨hx, hb, hml, hown, hts⟩ := id CF
  have hl : lv_has ls 2 [(0, .ref p0)] := hl
  show W p l e r_X1_reset s m args below meth c s.heap [] 0 0 (MQ below (gQv D cA g0 sz (Q)) args s 0 0 (gA g0 sz)) (F0 m 0 ls [])
  have hb_15 : ∀ (r0 : Nat), ∀ (g : gS) (i1 : Int32), lpx2 (l_X1_reset_15 r0 Q) g i1 → ∀ (H : Heap) (locs : List Loc) (ls : Array Slot), gC D cA (gA g0 sz) s g H locs → lv_has ls 2 [(0, .ref r0), (1, .int i1)] → W p l e r_X1_reset s m args below meth c H locs 0 0 (MQ below (gQv D cA g0 sz (Q)) args s 0 0 (gA g0 sz)) (F0 m 15 ls []) := by
    intro r0
    refine lpx2_run (P := fun (g : gS) (i1 : Int32) => ∀ (H : Heap) (locs : List Loc) (ls : Array Slot), gC D cA (gA g0 sz) s g H locs → lv_has ls 2 [(0, .ref r0), (1, .int i1)] → W p l e r_X1_reset s m args below meth c H locs 0 0 (MQ below (gQv D cA g0 sz (Q)) args s 0 0 (gA g0 sz)) (F0 m 15 ls [])) ?_
    intro k15 hk_15 g i1 h H locs ls hc hl
    unfold l_X1_reset_15 at h
    refine lv_iload_n hx hb dX1_reset_15 rfl (lv_at hl 1 rfl) ?_
    refine lv_aload_n hx hb dX1_reset_16 rfl (lv_at hl 0 rfl) ?_
    obtain ⟨hk1, h⟩ := h
    obtain ⟨y2, e3, h⟩ := h
    refine g_getr CF hc hk1 rfl (by decide) (fun _ h9 => List.mem_cons_of_mem _ (List.mem_append_right _ (h9))) (k := 0) (by decide) (List.mem_cons_of_mem _ (List.mem_append_left _ (List.mem_of_getElem? (i := 2) rfl))) e3 rfl dX1_reset_17 ?_
    obtain ⟨hk4, h⟩ := h
    refine g_alen CF hc (j := 3) hk4 (by decide) dX1_reset_20 ?_
    refine lv_icmp_ge (tgt := 40) hx hb dX1_reset_21 (by decide) (fun c5 => ?_) (fun c5 => ?_)
    · have h := h.1 c5
      exact g_retv CF hr hlk hc h dX1_reset_40
    · have h := h.2 c5
      refine lv_aload_n hx hb dX1_reset_24 rfl (lv_at hl 0 rfl) ?_
      obtain ⟨y6, e7, h⟩ := h
      refine g_getr CF hc hk1 rfl (by decide) (fun _ h9 => List.mem_cons_of_mem _ (List.mem_append_right _ (h9))) (k := 0) (by decide) (List.mem_cons_of_mem _ (List.mem_append_left _ (List.mem_of_getElem? (i := 2) rfl))) e7 rfl dX1_reset_25 ?_
      refine lv_iload_n hx hb dX1_reset_28 rfl (lv_at hl 1 rfl) ?_
      obtain ⟨hk8, h⟩ := h
      obtain ⟨hi9, h⟩ := h
      obtain ⟨y10, e11, h⟩ := h
      refine g_aaldr CF hc hk8 hi9 e11 dX1_reset_29 ?_
      refine lv_iconst (v := 0) hx hb dX1_reset_30 (by decide) ?_
      refine g_callv (va_runS (As := [.ref y10, .int 0]) (rest := []) CF (c_J7_fill_53178 h) (va_cwS 2 hts gX1_reset_J7_fill_53178 rfl rfl rfl (by decide +kernel) ⟨Nat.le_of_ble_eq_true rfl, Nat.le_of_ble_eq_true rfl⟩) hc.preS rfl rfl hl.1 rfl (lv_room (Nat.le_of_ble_eq_true rfl)) dX1_reset_31 ⟨Nat.le_of_ble_eq_true rfl, Nat.le_of_ble_eq_true rfl⟩) hc (fun g13 H locs hq hc => ?_)
      replace h := hq
      refine lv_iinc (v := (i1 + 1)) (lv' := [(1, .int (i1 + 1)), (0, .ref r0)]) hx hb dX1_reset_34 hl (k := 1) rfl rfl (by decide) rfl (fun ls hl => ?_)
      refine lv_goto (tgt := 15) hx hb dX1_reset_37 (by decide) ?_
      exact hk_15 g13 (i1 + 1) h _ _ _ hc (lv_sub hl [1, 0] rfl)
  unfold w_X1_reset at h
  obtain ⟨H, hH0⟩ : ∃ z, z = s.heap := ⟨_, rfl⟩
  rw [← hH0] at hc ⊢
  obtain ⟨locs, hlc0⟩ : ∃ z : List Loc, z = [] := ⟨_, rfl⟩
  rw [← hlc0] at hc ⊢
  refine lv_aload_n hx hb dX1_reset_0 rfl (lv_at hl 0 rfl) ?_
  refine lv_iconst (v := 0) hx hb dX1_reset_1 (by decide) ?_
  obtain ⟨hk15, h⟩ := h
  refine g_puti CF hc hk15 rfl (by decide) (fun _ h9 => List.mem_cons_of_mem _ (List.mem_append_right _ (h9))) tyX1 tyX1_ok nmX1 (k := 2) (by decide) (List.mem_cons_of_mem _ (List.mem_append_left _ (List.mem_of_getElem? (i := 0) rfl))) rfl (v := 0) rfl rfl rfl dX1_reset_2 (fun H locs hc => ?_)
  obtain ⟨g16, eg17⟩ : ∃ z, z = sU g0 p0 2 0 := ⟨_, rfl⟩
  have hc : gC D cA (gA g0 sz) s g16 H locs := by rw [eg17]; exact hc
  replace h := h g16 eg17
  refine lv_aload_n hx hb dX1_reset_5 rfl (lv_at hl 0 rfl) ?_
  obtain ⟨hk18, h⟩ := h
  obtain ⟨y19, e20, h⟩ := h
  refine g_getr CF hc hk18 rfl (by decide) (fun _ h9 => List.mem_cons_of_mem _ (List.mem_append_right _ (h9))) (k := 1) (by decide) (List.mem_cons_of_mem _ (List.mem_append_left _ (List.mem_of_getElem? (i := 1) rfl))) e20 rfl dX1_reset_6 ?_
  refine lv_iconst (v := 0) hx hb dX1_reset_9 (by decide) ?_
  refine g_callv (va_runS (As := [.ref y19, .int 0]) (rest := []) CF (c_J7_fill_53178 h) (va_cwS 2 hts gX1_reset_J7_fill_53178 rfl rfl rfl (by decide +kernel) ⟨Nat.le_of_ble_eq_true rfl, Nat.le_of_ble_eq_true rfl⟩) hc.preS rfl rfl hl.1 rfl (lv_room (Nat.le_of_ble_eq_true rfl)) dX1_reset_10 ⟨Nat.le_of_ble_eq_true rfl, Nat.le_of_ble_eq_true rfl⟩) hc (fun g22 H locs hq hc => ?_)
  replace h := hq
  refine lv_iconst (v := 0) hx hb dX1_reset_13 (by decide) ?_
  refine lv_istore_n (lv' := [(1, .int 0), (0, .ref p0)]) hx hb dX1_reset_14 rfl hl (by decide) rfl (fun ls hl => ?_)
  exact hb_15 p0 g22 0 h _ _ _ hc (lv_sub hl [1, 0] rfl)
def b_X1_countTerms_33 (g : gS) (r0 : Nat) (r1 : Nat) (i2 : Int32) (Q : gS → Prop) (k2 : gS → Int32 → Prop) : Prop :=
  k2 g (i2 + 1)
def l_X1_countTerms_2 (r0 : Nat) (r1 : Nat) (Q : gS → Prop) (g : gS) (i2 : Int32) (k2 : gS → Int32 → Prop) : Prop :=
  gK g r0 = 10 ∧ (((gI g r0 4) ≤ i2 → (Q g)) ∧ (¬ (gI g r0 4) ≤ i2 → (w_X9_differentTermOn g r0 i2 (fun x3 => ((x3 < 0 → (b_X1_countTerms_33 g r0 r1 i2 Q k2)) ∧ (¬ x3 < 0 → (gK g r1 = 21 ∧ (((nI (gN g r1)) ≤ x3 → (b_X1_countTerms_33 g r0 r1 i2 Q k2)) ∧ (¬ (nI (gN g r1)) ≤ x3 → (vp_in x3 (gN g r1) ∧ (vp_in x3 (gN g r1) ∧ (∀ g10, g10 = sU g r1 (Int32.toNatClampNeg x3) ((gI g r1 (Int32.toNatClampNeg x3)) + 1) → (b_X1_countTerms_33 g10 r0 r1 i2 Q k2)))))))))))))
def w_X1_countTerms (g0 : gS) (p0 : Nat) (p1 : Nat) (Q : gS → Prop) : Prop :=
  lpx2 (l_X1_countTerms_2 p0 p1 Q) g0 0
abbrev r_X1_countTerms : Room := { frames := 1, cells := 0, slots := 0, locals := 21 }
set_option maxHeartbeats 4000000 in
set_option maxRecDepth 100000 in
theorem c_X1_countTerms {l : Launch} {D : va_G} {cA : Nat → ClassId} {sz : Nat} {g0 : gS} {p0 : Nat} {p1 : Nat} {Q : gS → Prop} (h : w_X1_countTerms g0 p0 p1 Q) : Met l yX1_countTerms wsX1_countTerms r_X1_countTerms (va_Pc [.ref p0, .ref p1] (gPre D cA g0 sz)) (gQv D cA g0 sz (Q)) 0 0 (gA g0 sz) := by
  refine g_met (cc := cX1_countTerms) (maxL := 4) (ret := none) (own := RX1) (by decide) rfl rfl (Nat.le_of_ble_eq_true rfl) ?_
  intro p e s m args below meth c ls CF hr hlk hnm hc hl
  obtain ⟨hx, hb, hml, hown, hts⟩ := id CF
  have hl : lv_has ls 4 [(0, .ref p0), (1, .ref p1)] := hl
  show W p l e r_X1_countTerms s m args below meth c s.heap [] 0 0 (MQ below (gQv D cA g0 sz (Q)) args s 0 0 (gA g0 sz)) (F0 m 0 ls [])
  have hb_2 : ∀ (r0 : Nat) (r1 : Nat), ∀ (g : gS) (i2 : Int32), lpx2 (l_X1_countTerms_2 r0 r1 Q) g i2 → ∀ (H : Heap) (locs : List Loc) (ls : Array Slot), gC D cA (gA g0 sz) s g H locs → lv_has ls 4 [(0, .ref r0), (1, .ref r1), (2, .int i2)] → W p l e r_X1_countTerms s m args below meth c H locs 0 0 (MQ below (gQv D cA g0 sz (Q)) args s 0 0 (gA g0 sz)) (F0 m 2 ls []) := by
    intro r0 r1
    refine lpx2_run (P := fun (g : gS) (i2 : Int32) => ∀ (H : Heap) (locs : List Loc) (ls : Array Slot), gC D cA (gA g0 sz) s g H locs → lv_has ls 4 [(0, .ref r0), (1, .ref r1), (2, .int i2)] → W p l e r_X1_countTerms s m args below meth c H locs 0 0 (MQ below (gQv D cA g0 sz (Q)) args s 0 0 (gA g0 sz)) (F0 m 2 ls [])) ?_
    intro k2 hk_2 g i2 h H locs ls hc hl
    have hb_33 : ∀ (g : gS) (i2 : Int32), b_X1_countTerms_33 g r0 r1 i2 Q k2 → ∀ (H : Heap) (locs : List Loc) (ls : Array Slot), gC D cA (gA g0 sz) s g H locs → lv_has ls 4 [(0, .ref r0), (1, .ref r1), (2, .int i2)] → W p l e r_X1_countTerms s m args below meth c H locs 0 0 (MQ below (gQv D cA g0 sz (Q)) args s 0 0 (gA g0 sz)) (F0 m 33 ls []) := by
      intro g i2 h H locs ls hc hl
      unfold b_X1_countTerms_33 at h
      refine lv_iinc (v := (i2 + 1)) (lv' := [(2, .int (i2 + 1)), (0, .ref r0), (1, .ref r1)]) hx hb dX1_countTerms_33 hl (k := 2) rfl rfl (by decide) rfl (fun ls hl => ?_)
      refine lv_goto (tgt := 2) hx hb dX1_countTerms_36 (by decide) ?_
      exact hk_2 g (i2 + 1) h _ _ _ hc (lv_sub hl [1, 2, 0] rfl)
    unfold l_X1_countTerms_2 at h
    refine lv_iload_n hx hb dX1_countTerms_2 rfl (lv_at hl 2 rfl) ?_
    refine lv_aload_n hx hb dX1_countTerms_3 rfl (lv_at hl 0 rfl) ?_
    obtain ⟨hk1, h⟩ := h
    refine g_get CF hc hk1 rfl (by decide) (fun _ h9 => List.mem_cons_of_mem _ (List.mem_append_right _ (h9))) (k := 4) (by decide) (List.mem_cons_of_mem _ (List.mem_append_left _ (List.mem_of_getElem? (i := 0) rfl))) rfl dX1_countTerms_4 ?_
    refine lv_icmp_ge (tgt := 39) hx hb dX1_countTerms_7 (by decide) (fun c2 => ?_) (fun c2 => ?_)
    · have h := h.1 c2
      exact g_retv CF hr hlk hc h dX1_countTerms_39
    · have h := h.2 c2
      refine lv_aload_n hx hb dX1_countTerms_10 rfl (lv_at hl 0 rfl) ?_
      refine lv_iload_n hx hb dX1_countTerms_11 rfl (lv_at hl 2 rfl) ?_
      refine g_calli (va_runV (As := [.int i2]) (rest := []) CF (c_X9_differentTermOn h) (cwV 1 hts gX1_countTerms_X9_differentTermOn rfl rfl rfl (by decide +kernel) ⟨Nat.le_of_ble_eq_true rfl, Nat.le_of_ble_eq_true rfl⟩) (hc.preV hk1 rfl (by decide)) rfl rfl hl.1 rfl (lv_room (Nat.le_of_ble_eq_true rfl)) dX1_countTerms_12 ⟨Nat.le_of_ble_eq_true rfl, Nat.le_of_ble_eq_true rfl⟩) hc (fun x3 gq4 H locs hq hc => ?_)
      obtain ⟨rfl, h⟩ := hq
      refine lv_istore_n (lv' := [(3, .int x3), (0, .ref r0), (1, .ref r1), (2, .int i2)]) hx hb dX1_countTerms_15 rfl hl (by decide) rfl (fun ls hl => ?_)
      refine lv_iload_n hx hb dX1_countTerms_16 rfl (lv_at hl 0 rfl) ?_
      refine lv_if_lt (tgt := 33) hx hb dX1_countTerms_17 (by decide) (fun c5 => ?_) (fun c5 => ?_)
      · have h := h.1 c5
        exact hb_33 g i2 h _ _ _ hc (lv_sub hl [1, 2, 3] rfl)
      · have h := h.2 c5
        refine lv_iload_n hx hb dX1_countTerms_20 rfl (lv_at hl 0 rfl) ?_
        refine lv_aload_n hx hb dX1_countTerms_21 rfl (lv_at hl 2 rfl) ?_
        obtain ⟨hk6, h⟩ := h
        refine g_alen CF hc (j := 0) hk6 (by decide) dX1_countTerms_22 ?_
        refine lv_icmp_ge (tgt := 33) hx hb dX1_countTerms_23 (by decide) (fun c7 => ?_) (fun c7 => ?_)
        · have h := h.1 c7
          exact hb_33 g i2 h _ _ _ hc (lv_sub hl [1, 2, 3] rfl)
        · have h := h.2 c7
          refine lv_aload_n hx hb dX1_countTerms_26 rfl (lv_at hl 2 rfl) ?_
          refine lv_iload_n hx hb dX1_countTerms_27 rfl (lv_at hl 0 rfl) ?_
          refine lv_dup2_11 hx hb dX1_countTerms_28 rfl rfl ?_
          obtain ⟨hi8, h⟩ := h
          refine g_iald CF hc hk6 hi8 dX1_countTerms_29 ?_
          refine lv_iconst (v := 1) hx hb dX1_countTerms_30 (by decide) ?_
          refine lv_iadd hx hb dX1_countTerms_31 ?_
          obtain ⟨hi9, h⟩ := h
          refine g_iast CF hc hk6 (x := ((gI g r1 (Int32.toNatClampNeg x3)) + 1)) hi9 dX1_countTerms_32 (fun H locs hc => ?_)
          obtain ⟨g10, eg11⟩ : ∃ z, z = sU g r1 (Int32.toNatClampNeg x3) ((gI g r1 (Int32.toNatClampNeg x3)) + 1) := ⟨_, rfl⟩
          have hc : gC D cA (gA g0 sz) s g10 H locs := by rw [eg11]; exact hc
          replace h := h g10 eg11
          exact hb_33 g10 i2 h _ _ _ hc (lv_sub hl [1, 2, 3] rfl)
  unfold w_X1_countTerms at h
  obtain ⟨H, hH0⟩ : ∃ z, z = s.heap := ⟨_, rfl⟩
  rw [← hH0] at hc ⊢
  obtain ⟨locs, hlc0⟩ : ∃ z : List Loc, z = [] := ⟨_, rfl⟩
  rw [← hlc0] at hc ⊢
  refine lv_iconst (v := 0) hx hb dX1_countTerms_0 (by decide) ?_
  refine lv_istore_n (lv' := [(2, .int 0), (0, .ref p0), (1, .ref p1)]) hx hb dX1_countTerms_1 rfl hl (by decide) rfl (fun ls hl => ?_)
  exact hb_2 p0 p1 g0 0 h _ _ _ hc (lv_sub hl [1, 2, 0] rfl)
def b_X1_count_69 (g : gS) (Q : gS → Prop) : Prop :=
  Q g
def b_X1_count_63 (g : gS) (r0 : Nat) (r1 : Nat) (i2 : Int32) (Q : gS → Prop) (k12 : gS → Int32 → Prop) : Prop :=
  k12 g (i2 + 1)
def l_X1_count_12 (r0 : Nat) (r1 : Nat) (Q : gS → Prop) (g : gS) (i2 : Int32) (k12 : gS → Int32 → Prop) : Prop :=
  gK g r0 = 2 ∧ (∃ y2, gR g r0 0 = some y2 ∧ (gK g y2 = 24 ∧ (((nI (gN g y2)) ≤ i2 → (b_X1_count_69 g Q)) ∧ (¬ (nI (gN g y2)) ≤ i2 → (∃ y6, gR g r0 1 = some y6 ∧ (gK g y6 = 21 ∧ (((nI (gN g y6)) ≤ i2 → (b_X1_count_69 g Q)) ∧ (¬ (nI (gN g y6)) ≤ i2 → (gK g r1 = 3 ∧ (w_X2_rowOf g r1 i2 (fun o11 => ((o11 = none → (b_X1_count_63 g r0 r1 i2 Q k12)) ∧ (∀ y13, o11 = some y13 → (∃ y15, gR g r0 1 = some y15 ∧ (gK g y15 = 21 ∧ (vp_in i2 (gN g y15) ∧ (gK g y13 = 10 ∧ (vp_in i2 (gN g y15) ∧ (∀ g21, g21 = sU g y15 (Int32.toNatClampNeg i2) ((gI g y15 (Int32.toNatClampNeg i2)) + (gI g y13 3)) → (gK g21 r0 = 2 ∧ (∃ y24, gR g21 r0 0 = some y24 ∧ (gK g21 y24 = 24 ∧ (vp_in i2 (gN g21 y24) ∧ (∃ y28, gR g21 y24 (Int32.toNatClampNeg i2) = some y28 ∧ (w_X1_countTerms g21 y13 y28 (fun g31 => (b_X1_count_63 g31 r0 r1 i2 Q k12)))))))))))))))))))))))))))
def w_X1_count (g0 : gS) (p0 : Nat) (p1 : Nat) (Q : gS → Prop) : Prop :=
  gK g0 p0 = 2 ∧ (∀ g35, g35 = sU g0 p0 2 ((gI g0 p0 2) + 1) → (lpx2 (l_X1_count_12 p0 p1 Q) g35 0))
abbrev r_X1_count : Room := { frames := 2, cells := 0, slots := 0, locals := 44 }
set_option maxHeartbeats 4000000 in
set_option maxRecDepth 100000 in
theorem c_X1_count {l : Launch} {D : va_G} {cA : Nat → ClassId} {sz : Nat} {g0 : gS} {p0 : Nat} {p1 : Nat} {Q : gS → Prop} (h : w_X1_count g0 p0 p1 Q) : Met l yX1_count wsX1_count r_X1_count (va_Pc [.ref p0, .ref p1] (gPre D cA g0 sz)) (gQv D cA g0 sz (Q)) 0 0 (gA g0 sz) := by
  refine g_met (cc := cX1_count) (maxL := 4) (ret := none) (own := RX1) (by decide) rfl rfl (Nat.le_of_ble_eq_true rfl) ?_
  intro p e s m args below meth c ls CF hr hlk hnm hc hl
  obtain ⟨hx, hb, hml, hown, hts⟩ := id CF
  have hl : lv_has ls 4 [(0, .ref p0), (1, .ref p1)] := hl
  show W p l e r_X1_count s m args below meth c s.heap [] 0 0 (MQ below (gQv D cA g0 sz (Q)) args s 0 0 (gA g0 sz)) (F0 m 0 ls [])
  have hb_69 : ∀ (g : gS), b_X1_count_69 g Q → ∀ (H : Heap) (locs : List Loc) (ls : Array Slot), gC D cA (gA g0 sz) s g H locs → lv_has ls 4 [] → W p l e r_X1_count s m args below meth c H locs 0 0 (MQ below (gQv D cA g0 sz (Q)) args s 0 0 (gA g0 sz)) (F0 m 69 ls []) := by
    intro g h H locs ls hc hl
    unfold b_X1_count_69 at h
    exact g_retv CF hr hlk hc h dX1_count_69
  have hb_12 : ∀ (r0 : Nat) (r1 : Nat), ∀ (g : gS) (i2 : Int32), lpx2 (l_X1_count_12 r0 r1 Q) g i2 → ∀ (H : Heap) (locs : List Loc) (ls : Array Slot), gC D cA (gA g0 sz) s g H locs → lv_has ls 4 [(0, .ref r0), (1, .ref r1), (2, .int i2)] → W p l e r_X1_count s m args below meth c H locs 0 0 (MQ below (gQv D cA g0 sz (Q)) args s 0 0 (gA g0 sz)) (F0 m 12 ls []) := by
    intro r0 r1
    refine lpx2_run (P := fun (g : gS) (i2 : Int32) => ∀ (H : Heap) (locs : List Loc) (ls : Array Slot), gC D cA (gA g0 sz) s g H locs → lv_has ls 4 [(0, .ref r0), (1, .ref r1), (2, .int i2)] → W p l e r_X1_count s m args below meth c H locs 0 0 (MQ below (gQv D cA g0 sz (Q)) args s 0 0 (gA g0 sz)) (F0 m 12 ls [])) ?_
    intro k12 hk_12 g i2 h H locs ls hc hl
    have hb_63 : ∀ (g : gS) (i2 : Int32), b_X1_count_63 g r0 r1 i2 Q k12 → ∀ (H : Heap) (locs : List Loc) (ls : Array Slot), gC D cA (gA g0 sz) s g H locs → lv_has ls 4 [(0, .ref r0), (1, .ref r1), (2, .int i2)] → W p l e r_X1_count s m args below meth c H locs 0 0 (MQ below (gQv D cA g0 sz (Q)) args s 0 0 (gA g0 sz)) (F0 m 63 ls []) := by
      intro g i2 h H locs ls hc hl
      unfold b_X1_count_63 at h
      refine lv_iinc (v := (i2 + 1)) (lv' := [(2, .int (i2 + 1)), (0, .ref r0), (1, .ref r1)]) hx hb dX1_count_63 hl (k := 2) rfl rfl (by decide) rfl (fun ls hl => ?_)
      refine lv_goto (tgt := 12) hx hb dX1_count_66 (by decide) ?_
      exact hk_12 g (i2 + 1) h _ _ _ hc (lv_sub hl [1, 2, 0] rfl)
    unfold l_X1_count_12 at h
    refine lv_iload_n hx hb dX1_count_12 rfl (lv_at hl 2 rfl) ?_
    refine lv_aload_n hx hb dX1_count_13 rfl (lv_at hl 0 rfl) ?_
    obtain ⟨hk1, h⟩ := h
    obtain ⟨y2, e3, h⟩ := h
    refine g_getr CF hc hk1 rfl (by decide) (fun _ h9 => List.mem_cons_of_mem _ (List.mem_append_left _ (List.mem_append_left _ (List.mem_append_right _ (h9))))) (k := 0) (by decide) (List.mem_cons_of_mem _ (List.mem_append_left _ (List.mem_append_left _ (List.mem_append_left _ (List.mem_of_getElem? (i := 1) rfl))))) e3 rfl dX1_count_14 ?_
    obtain ⟨hk4, h⟩ := h
    refine g_alen CF hc (j := 3) hk4 (by decide) dX1_count_17 ?_
    refine lv_icmp_ge (tgt := 69) hx hb dX1_count_18 (by decide) (fun c5 => ?_) (fun c5 => ?_)
    · have h := h.1 c5
      exact hb_69 g h _ _ _ hc (lv_sub hl [] rfl)
    · have h := h.2 c5
      refine lv_iload_n hx hb dX1_count_21 rfl (lv_at hl 2 rfl) ?_
      refine lv_aload_n hx hb dX1_count_22 rfl (lv_at hl 0 rfl) ?_
      obtain ⟨y6, e7, h⟩ := h
      refine g_getr CF hc hk1 rfl (by decide) (fun _ h9 => List.mem_cons_of_mem _ (List.mem_append_left _ (List.mem_append_left _ (List.mem_append_right _ (h9))))) (k := 1) (by decide) (List.mem_cons_of_mem _ (List.mem_append_left _ (List.mem_append_left _ (List.mem_append_left _ (List.mem_of_getElem? (i := 2) rfl))))) e7 rfl dX1_count_23 ?_
      obtain ⟨hk8, h⟩ := h
      refine g_alen CF hc (j := 0) hk8 (by decide) dX1_count_26 ?_
      refine lv_icmp_ge (tgt := 69) hx hb dX1_count_27 (by decide) (fun c9 => ?_) (fun c9 => ?_)
      · have h := h.1 c9
        exact hb_69 g h _ _ _ hc (lv_sub hl [] rfl)
      · have h := h.2 c9
        refine lv_aload_n hx hb dX1_count_30 rfl (lv_at hl 1 rfl) ?_
        refine lv_iload_n hx hb dX1_count_31 rfl (lv_at hl 2 rfl) ?_
        obtain ⟨hk10, h⟩ := h
        refine g_callq (va_runV (As := [.int i2]) (rest := []) CF (c_X2_rowOf h) (cwV 1 hts gX1_count_X2_rowOf rfl rfl rfl (by decide +kernel) ⟨Nat.le_of_ble_eq_true rfl, Nat.le_of_ble_eq_true rfl⟩) (hc.preV hk10 rfl (by decide)) rfl rfl hl.1 rfl (lv_room (Nat.le_of_ble_eq_true rfl)) dX1_count_32 ⟨Nat.le_of_ble_eq_true rfl, Nat.le_of_ble_eq_true rfl⟩) hc (fun o11 gq12 H locs hq hc => ?_)
        obtain ⟨rfl, h⟩ := hq
        refine g_astore_nq (lv' := [(3, va_rf o11), (0, .ref r0), (1, .ref r1), (2, .int i2)]) CF dX1_count_35 rfl hl (by decide) rfl (fun ls hl => ?_)
        refine g_aload_nq CF dX1_count_36 rfl (lv_at hl 0 rfl) ?_
        refine g_ifnull (tgt := 63) CF dX1_count_37 (by decide) (fun e14 => ?_) (fun y13 e14 => ?_)
        · have hu33 := h.1 e14
          subst e14
          have h := hu33
          exact hb_63 g i2 h _ _ _ hc (lv_sub hl [1, 2, 3] rfl)
        · have hu33 := h.2 y13 e14
          subst e14
          have h := hu33
          refine lv_aload_n hx hb dX1_count_40 rfl (lv_at hl 1 rfl) ?_
          obtain ⟨y15, e16, h⟩ := h
          refine g_getr CF hc hk1 rfl (by decide) (fun _ h9 => List.mem_cons_of_mem _ (List.mem_append_left _ (List.mem_append_left _ (List.mem_append_right _ (h9))))) (k := 1) (by decide) (List.mem_cons_of_mem _ (List.mem_append_left _ (List.mem_append_left _ (List.mem_append_left _ (List.mem_of_getElem? (i := 2) rfl))))) e16 rfl dX1_count_41 ?_
          refine lv_iload_n hx hb dX1_count_44 rfl (lv_at hl 3 rfl) ?_
          refine lv_dup2_11 hx hb dX1_count_45 rfl rfl ?_
          obtain ⟨hk17, h⟩ := h
          obtain ⟨hi18, h⟩ := h
          refine g_iald CF hc hk17 hi18 dX1_count_46 ?_
          refine lv_aload_n hx hb dX1_count_47 rfl (lv_at hl 0 rfl) ?_
          obtain ⟨hk19, h⟩ := h
          refine g_get CF hc hk19 rfl (by decide) (fun _ h9 => List.mem_cons_of_mem _ (List.mem_append_left _ (List.mem_append_right _ (h9)))) (k := 3) (by decide) (List.mem_cons_of_mem _ (List.mem_append_left _ (List.mem_append_left _ (List.mem_append_left _ (List.mem_of_getElem? (i := 3) rfl))))) rfl dX1_count_48 ?_
          refine lv_iadd hx hb dX1_count_51 ?_
          obtain ⟨hi20, h⟩ := h
          refine g_iast CF hc hk17 (x := ((gI g y15 (Int32.toNatClampNeg i2)) + (gI g y13 3))) hi20 dX1_count_52 (fun H locs hc => ?_)
          obtain ⟨g21, eg22⟩ : ∃ z, z = sU g y15 (Int32.toNatClampNeg i2) ((gI g y15 (Int32.toNatClampNeg i2)) + (gI g y13 3)) := ⟨_, rfl⟩
          have hc : gC D cA (gA g0 sz) s g21 H locs := by rw [eg22]; exact hc
          replace h := h g21 eg22
          refine lv_aload_n hx hb dX1_count_53 rfl (lv_at hl 0 rfl) ?_
          refine lv_aload_n hx hb dX1_count_54 rfl (lv_at hl 1 rfl) ?_
          obtain ⟨hk23, h⟩ := h
          obtain ⟨y24, e25, h⟩ := h
          refine g_getr CF hc hk23 rfl (by decide) (fun _ h9 => List.mem_cons_of_mem _ (List.mem_append_left _ (List.mem_append_left _ (List.mem_append_right _ (h9))))) (k := 0) (by decide) (List.mem_cons_of_mem _ (List.mem_append_left _ (List.mem_append_left _ (List.mem_append_left _ (List.mem_of_getElem? (i := 1) rfl))))) e25 rfl dX1_count_55 ?_
          refine lv_iload_n hx hb dX1_count_58 rfl (lv_at hl 3 rfl) ?_
          obtain ⟨hk26, h⟩ := h
          obtain ⟨hi27, h⟩ := h
          obtain ⟨y28, e29, h⟩ := h
          refine g_aaldr CF hc hk26 hi27 e29 dX1_count_59 ?_
          refine g_callv (va_runS (As := [.ref y13, .ref y28]) (rest := []) CF (c_X1_countTerms h) (va_cwS 2 hts gX1_count_X1_countTerms rfl rfl rfl (by decide +kernel) ⟨Nat.le_of_ble_eq_true rfl, Nat.le_of_ble_eq_true rfl⟩) hc.preS rfl rfl hl.1 rfl (lv_room (Nat.le_of_ble_eq_true rfl)) dX1_count_60 ⟨Nat.le_of_ble_eq_true rfl, Nat.le_of_ble_eq_true rfl⟩) hc (fun g31 H locs hq hc => ?_)
          replace h := hq
          exact hb_63 g31 i2 h _ _ _ hc (lv_sub hl [1, 2, 3] rfl)
  unfold w_X1_count at h
  obtain ⟨H, hH0⟩ : ∃ z, z = s.heap := ⟨_, rfl⟩
  rw [← hH0] at hc ⊢
  obtain ⟨locs, hlc0⟩ : ∃ z : List Loc, z = [] := ⟨_, rfl⟩
  rw [← hlc0] at hc ⊢
  refine lv_aload_n hx hb dX1_count_0 rfl (lv_at hl 0 rfl) ?_
  refine lv_dup hx hb dX1_count_1 rfl ?_
  obtain ⟨hk34, h⟩ := h
  refine g_get CF hc hk34 rfl (by decide) (fun _ h9 => List.mem_cons_of_mem _ (List.mem_append_left _ (List.mem_append_left _ (List.mem_append_right _ (h9))))) (k := 2) (by decide) (List.mem_cons_of_mem _ (List.mem_append_left _ (List.mem_append_left _ (List.mem_append_left _ (List.mem_of_getElem? (i := 0) rfl))))) rfl dX1_count_2 ?_
  refine lv_iconst (v := 1) hx hb dX1_count_5 (by decide) ?_
  refine lv_iadd hx hb dX1_count_6 ?_
  refine g_puti CF hc hk34 rfl (by decide) (fun _ h9 => List.mem_cons_of_mem _ (List.mem_append_left _ (List.mem_append_left _ (List.mem_append_right _ (h9))))) tyX1 tyX1_ok nmX1 (k := 2) (by decide) (List.mem_cons_of_mem _ (List.mem_append_left _ (List.mem_append_left _ (List.mem_append_left _ (List.mem_of_getElem? (i := 0) rfl))))) rfl (v := ((gI g0 p0 2) + 1)) rfl rfl rfl dX1_count_7 (fun H locs hc => ?_)
  obtain ⟨g35, eg36⟩ : ∃ z, z = sU g0 p0 2 ((gI g0 p0 2) + 1) := ⟨_, rfl⟩
  have hc : gC D cA (gA g0 sz) s g35 H locs := by rw [eg36]; exact hc
  replace h := h g35 eg36
  refine lv_iconst (v := 0) hx hb dX1_count_10 (by decide) ?_
  refine lv_istore_n (lv' := [(2, .int 0), (0, .ref p0), (1, .ref p1)]) hx hb dX1_count_11 rfl hl (by decide) rfl (fun ls hl => ?_)
  exact hb_12 p0 p1 g35 0 h _ _ _ hc (lv_sub hl [1, 2, 0] rfl)
def b_X1_spreadOf_28 (g : gS) (Q : Int32 → Prop) : Prop :=
  Q 0
def w_X1_spreadOf (g : gS) (p0 : Nat) (p1 : Int32) (p2 : Int32) (Q : Int32 → Prop) : Prop :=
  (p2 < 0 → (b_X1_spreadOf_28 g Q)) ∧ (¬ p2 < 0 → (gK g p0 = 2 ∧ (∃ y3, gR g p0 0 = some y3 ∧ (gK g y3 = 24 ∧ (((nI (gN g y3)) ≤ p2 → (b_X1_spreadOf_28 g Q)) ∧ (¬ (nI (gN g y3)) ≤ p2 → ((p1 < 0 → (b_X1_spreadOf_28 g Q)) ∧ (¬ p1 < 0 → (∃ y8, gR g p0 0 = some y8 ∧ (gK g y8 = 24 ∧ (vp_in p2 (gN g y8) ∧ (∃ y12, gR g y8 (Int32.toNatClampNeg p2) = some y12 ∧ (gK g y12 = 21 ∧ ((p1 < (nI (gN g y12)) → (∃ y16, gR g p0 0 = some y16 ∧ (gK g y16 = 24 ∧ (vp_in p2 (gN g y16) ∧ (∃ y20, gR g y16 (Int32.toNatClampNeg p2) = some y20 ∧ (gK g y20 = 21 ∧ (vp_in p1 (gN g y20) ∧ (Q (gI g y20 (Int32.toNatClampNeg p1)))))))))) ∧ (¬ p1 < (nI (gN g y12)) → (b_X1_spreadOf_28 g Q))))))))))))))))
abbrev r_X1_spreadOf : Room := { frames := 0, cells := 0, slots := 0, locals := 0 }
set_option maxHeartbeats 4000000 in
set_option maxRecDepth 100000 in
theorem c_X1_spreadOf {l : Launch} {D : va_G} {cA : Nat → ClassId} {sz : Nat} {g : gS} {p0 : Nat} {p1 : Int32} {p2 : Int32} {Q : Int32 → Prop} (h : w_X1_spreadOf g p0 p1 p2 Q) : Met l yX1_spreadOf wsX1_spreadOf r_X1_spreadOf (va_Pc [.ref p0, .int p1, .int p2] (gPre D cA g sz)) (gQi D cA g sz (fun r g2 => g = g2 ∧ Q r)) 0 0 (gA g sz) := by
  refine g_met (cc := cX1_spreadOf) (maxL := 3) (ret := (some .int)) (own := RX1) (by decide) rfl rfl (Nat.le_of_ble_eq_true rfl) ?_
  intro p e s m args below meth c ls CF hr hlk hnm hc hl
  obtain ⟨hx, hb, hml, hown, hts⟩ := id CF
  have hl : lv_has ls 3 [(0, .ref p0), (1, .int p1), (2, .int p2)] := hl
  show W p l e r_X1_spreadOf s m args below meth c s.heap [] 0 0 (MQ below (gQi D cA g sz (fun r g2 => g = g2 ∧ Q r)) args s 0 0 (gA g sz)) (F0 m 0 ls [])
  have hb_28 : b_X1_spreadOf_28 g Q → ∀ (H : Heap) (locs : List Loc) (ls : Array Slot), gC D cA (gA g sz) s g H locs → lv_has ls 3 [] → W p l e r_X1_spreadOf s m args below meth c H locs 0 0 (MQ below (gQi D cA g sz (fun r g2 => g = g2 ∧ Q r)) args s 0 0 (gA g sz)) (F0 m 28 ls []) := by
    intro h H locs ls hc hl
    unfold b_X1_spreadOf_28 at h
    refine lv_iconst (v := 0) hx hb dX1_spreadOf_28 (by decide) ?_
    exact g_reti (r := 0) CF hr hlk hc rfl ⟨rfl, h⟩ dX1_spreadOf_29
  unfold w_X1_spreadOf at h
  obtain ⟨H, hH0⟩ : ∃ z, z = s.heap := ⟨_, rfl⟩
  rw [← hH0] at hc ⊢
  obtain ⟨locs, hlc0⟩ : ∃ z : List Loc, z = [] := ⟨_, rfl⟩
  rw [← hlc0] at hc ⊢
  refine lv_iload_n hx hb dX1_spreadOf_0 rfl (lv_at hl 2 rfl) ?_
  refine lv_if_lt (tgt := 28) hx hb dX1_spreadOf_1 (by decide) (fun c1 => ?_) (fun c1 => ?_)
  · have h := h.1 c1
    exact hb_28  h _ _ _ hc (lv_sub hl [] rfl)
  · have h := h.2 c1
    refine lv_iload_n hx hb dX1_spreadOf_4 rfl (lv_at hl 2 rfl) ?_
    refine lv_aload_n hx hb dX1_spreadOf_5 rfl (lv_at hl 0 rfl) ?_
    obtain ⟨hk2, h⟩ := h
    obtain ⟨y3, e4, h⟩ := h
    refine g_getr CF hc hk2 rfl (by decide) (fun _ h9 => List.mem_cons_of_mem _ (List.mem_append_right _ (h9))) (k := 0) (by decide) (List.mem_cons_of_mem _ (List.mem_append_left _ (List.mem_of_getElem? (i := 0) rfl))) e4 rfl dX1_spreadOf_6 ?_
    obtain ⟨hk5, h⟩ := h
    refine g_alen CF hc (j := 3) hk5 (by decide) dX1_spreadOf_9 ?_
    refine lv_icmp_ge (tgt := 28) hx hb dX1_spreadOf_10 (by decide) (fun c6 => ?_) (fun c6 => ?_)
    · have h := h.1 c6
      exact hb_28  h _ _ _ hc (lv_sub hl [] rfl)
    · have h := h.2 c6
      refine lv_iload_n hx hb dX1_spreadOf_13 rfl (lv_at hl 1 rfl) ?_
      refine lv_if_lt (tgt := 28) hx hb dX1_spreadOf_14 (by decide) (fun c7 => ?_) (fun c7 => ?_)
      · have h := h.1 c7
        exact hb_28  h _ _ _ hc (lv_sub hl [] rfl)
      · have h := h.2 c7
        refine lv_iload_n hx hb dX1_spreadOf_17 rfl (lv_at hl 1 rfl) ?_
        refine lv_aload_n hx hb dX1_spreadOf_18 rfl (lv_at hl 0 rfl) ?_
        obtain ⟨y8, e9, h⟩ := h
        refine g_getr CF hc hk2 rfl (by decide) (fun _ h9 => List.mem_cons_of_mem _ (List.mem_append_right _ (h9))) (k := 0) (by decide) (List.mem_cons_of_mem _ (List.mem_append_left _ (List.mem_of_getElem? (i := 0) rfl))) e9 rfl dX1_spreadOf_19 ?_
        refine lv_iload_n hx hb dX1_spreadOf_22 rfl (lv_at hl 2 rfl) ?_
        obtain ⟨hk10, h⟩ := h
        obtain ⟨hi11, h⟩ := h
        obtain ⟨y12, e13, h⟩ := h
        refine g_aaldr CF hc hk10 hi11 e13 dX1_spreadOf_23 ?_
        obtain ⟨hk14, h⟩ := h
        refine g_alen CF hc (j := 0) hk14 (by decide) dX1_spreadOf_24 ?_
        refine lv_icmp_lt (tgt := 30) hx hb dX1_spreadOf_25 (by decide) (fun c15 => ?_) (fun c15 => ?_)
        · have h := h.1 c15
          refine lv_aload_n hx hb dX1_spreadOf_30 rfl (lv_at hl 0 rfl) ?_
          obtain ⟨y16, e17, h⟩ := h
          refine g_getr CF hc hk2 rfl (by decide) (fun _ h9 => List.mem_cons_of_mem _ (List.mem_append_right _ (h9))) (k := 0) (by decide) (List.mem_cons_of_mem _ (List.mem_append_left _ (List.mem_of_getElem? (i := 0) rfl))) e17 rfl dX1_spreadOf_31 ?_
          refine lv_iload_n hx hb dX1_spreadOf_34 rfl (lv_at hl 2 rfl) ?_
          obtain ⟨hk18, h⟩ := h
          obtain ⟨hi19, h⟩ := h
          obtain ⟨y20, e21, h⟩ := h
          refine g_aaldr CF hc hk18 hi19 e21 dX1_spreadOf_35 ?_
          refine lv_iload_n hx hb dX1_spreadOf_36 rfl (lv_at hl 1 rfl) ?_
          obtain ⟨hk22, h⟩ := h
          obtain ⟨hi23, h⟩ := h
          refine g_iald CF hc hk22 hi23 dX1_spreadOf_37 ?_
          exact g_reti (r := (gI g y20 (Int32.toNatClampNeg p1))) CF hr hlk hc rfl ⟨rfl, h⟩ dX1_spreadOf_38
        · have h := h.2 c15
          exact hb_28  h _ _ _ hc (lv_sub hl [] rfl)
def b_X1_lengthOf_23 (g : gS) (is0 : Int32) (Q : Int32 → Prop) : Prop :=
  Q is0
def b_X1_lengthOf_13 (g : gS) (Q : Int32 → Prop) : Prop :=
  b_X1_lengthOf_23 g 0 Q
def w_X1_lengthOf (g : gS) (p0 : Nat) (p1 : Int32) (Q : Int32 → Prop) : Prop :=
  (p1 < 0 → (b_X1_lengthOf_13 g Q)) ∧ (¬ p1 < 0 → (gK g p0 = 2 ∧ (∃ y3, gR g p0 1 = some y3 ∧ (gK g y3 = 21 ∧ ((p1 < (nI (gN g y3)) → (∃ y7, gR g p0 1 = some y7 ∧ (gK g y7 = 21 ∧ (vp_in p1 (gN g y7) ∧ (b_X1_lengthOf_23 g (gI g y7 (Int32.toNatClampNeg p1)) Q))))) ∧ (¬ p1 < (nI (gN g y3)) → (b_X1_lengthOf_13 g Q)))))))
abbrev r_X1_lengthOf : Room := { frames := 0, cells := 0, slots := 0, locals := 0 }
set_option maxHeartbeats 4000000 in
set_option maxRecDepth 100000 in
theorem c_X1_lengthOf {l : Launch} {D : va_G} {cA : Nat → ClassId} {sz : Nat} {g : gS} {p0 : Nat} {p1 : Int32} {Q : Int32 → Prop} (h : w_X1_lengthOf g p0 p1 Q) : Met l yX1_lengthOf wsX1_lengthOf r_X1_lengthOf (va_Pc [.ref p0, .int p1] (gPre D cA g sz)) (gQi D cA g sz (fun r g2 => g = g2 ∧ Q r)) 0 0 (gA g sz) := by
  refine g_met (cc := cX1_lengthOf) (maxL := 2) (ret := (some .int)) (own := RX1) (by decide) rfl rfl (Nat.le_of_ble_eq_true rfl) ?_
  intro p e s m args below meth c ls CF hr hlk hnm hc hl
  obtain ⟨hx, hb, hml, hown, hts⟩ := id CF
  have hl : lv_has ls 2 [(0, .ref p0), (1, .int p1)] := hl
  show W p l e r_X1_lengthOf s m args below meth c s.heap [] 0 0 (MQ below (gQi D cA g sz (fun r g2 => g = g2 ∧ Q r)) args s 0 0 (gA g sz)) (F0 m 0 ls [])
  have hb_23 : ∀ (is0 : Int32), b_X1_lengthOf_23 g is0 Q → ∀ (H : Heap) (locs : List Loc) (ls : Array Slot), gC D cA (gA g sz) s g H locs → lv_has ls 2 [] → W p l e r_X1_lengthOf s m args below meth c H locs 0 0 (MQ below (gQi D cA g sz (fun r g2 => g = g2 ∧ Q r)) args s 0 0 (gA g sz)) (F0 m 23 ls [.int is0]) := by
    intro is0 h H locs ls hc hl
    unfold b_X1_lengthOf_23 at h
    exact g_reti (r := is0) CF hr hlk hc rfl ⟨rfl, h⟩ dX1_lengthOf_23
  have hb_13 : b_X1_lengthOf_13 g Q → ∀ (H : Heap) (locs : List Loc) (ls : Array Slot), gC D cA (gA g sz) s g H locs → lv_has ls 2 [] → W p l e r_X1_lengthOf s m args below meth c H locs 0 0 (MQ below (gQi D cA g sz (fun r g2 => g = g2 ∧ Q r)) args s 0 0 (gA g sz)) (F0 m 13 ls []) := by
    intro h H locs ls hc hl
    unfold b_X1_lengthOf_13 at h
    refine lv_iconst (v := 0) hx hb dX1_lengthOf_13 (by decide) ?_
    refine lv_goto (tgt := 23) hx hb dX1_lengthOf_14 (by decide) ?_
    exact hb_23 0 h _ _ _ hc (lv_sub hl [] rfl)
  unfold w_X1_lengthOf at h
  obtain ⟨H, hH0⟩ : ∃ z, z = s.heap := ⟨_, rfl⟩
  rw [← hH0] at hc ⊢
  obtain ⟨locs, hlc0⟩ : ∃ z : List Loc, z = [] := ⟨_, rfl⟩
  rw [← hlc0] at hc ⊢
  refine lv_iload_n hx hb dX1_lengthOf_0 rfl (lv_at hl 1 rfl) ?_
  refine lv_if_lt (tgt := 13) hx hb dX1_lengthOf_1 (by decide) (fun c1 => ?_) (fun c1 => ?_)
  · have h := h.1 c1
    exact hb_13  h _ _ _ hc (lv_sub hl [] rfl)
  · have h := h.2 c1
    refine lv_iload_n hx hb dX1_lengthOf_4 rfl (lv_at hl 1 rfl) ?_
    refine lv_aload_n hx hb dX1_lengthOf_5 rfl (lv_at hl 0 rfl) ?_
    obtain ⟨hk2, h⟩ := h
    obtain ⟨y3, e4, h⟩ := h
    refine g_getr CF hc hk2 rfl (by decide) (fun _ h9 => List.mem_cons_of_mem _ (List.mem_append_right _ (h9))) (k := 1) (by decide) (List.mem_cons_of_mem _ (List.mem_append_left _ (List.mem_of_getElem? (i := 0) rfl))) e4 rfl dX1_lengthOf_6 ?_
    obtain ⟨hk5, h⟩ := h
    refine g_alen CF hc (j := 0) hk5 (by decide) dX1_lengthOf_9 ?_
    refine lv_icmp_lt (tgt := 17) hx hb dX1_lengthOf_10 (by decide) (fun c6 => ?_) (fun c6 => ?_)
    · have h := h.1 c6
      refine lv_aload_n hx hb dX1_lengthOf_17 rfl (lv_at hl 0 rfl) ?_
      obtain ⟨y7, e8, h⟩ := h
      refine g_getr CF hc hk2 rfl (by decide) (fun _ h9 => List.mem_cons_of_mem _ (List.mem_append_right _ (h9))) (k := 1) (by decide) (List.mem_cons_of_mem _ (List.mem_append_left _ (List.mem_of_getElem? (i := 0) rfl))) e8 rfl dX1_lengthOf_18 ?_
      refine lv_iload_n hx hb dX1_lengthOf_21 rfl (lv_at hl 1 rfl) ?_
      obtain ⟨hk9, h⟩ := h
      obtain ⟨hi10, h⟩ := h
      refine g_iald CF hc hk9 hi10 dX1_lengthOf_22 ?_
      exact hb_23 (gI g y7 (Int32.toNatClampNeg p1)) h _ _ _ hc (lv_sub hl [] rfl)
    · have h := h.2 c6
      exact hb_13  h _ _ _ hc (lv_sub hl [] rfl)
def b_X1_rarityOf_51 (g : gS) (i2 : Int32) (i3 : Int32) (i4 : Int32) (Q : Int32 → Prop) (k28 : Int32 → Int32 → Prop) : Prop :=
  k28 i3 (i4 >>> (1 &&& 31))
def l_X1_rarityOf_28 (g : gS) (i2 : Int32) (Q : Int32 → Prop) (i3 : Int32) (i4 : Int32) (k28 : Int32 → Int32 → Prop) : Prop :=
  (i4 ≤ 0 → (Q i3)) ∧ (¬ i4 ≤ 0 → ((i2 < ((i3 + i4) * (i3 + i4)) → (b_X1_rarityOf_51 g i2 i3 i4 Q k28)) ∧ (¬ i2 < ((i3 + i4) * (i3 + i4)) → (b_X1_rarityOf_51 g i2 (i3 + i4) i4 Q k28))))
def w_X1_rarityOf (g : gS) (p0 : Nat) (p1 : Int32) (Q : Int32 → Prop) : Prop :=
  (0 ≤ p1 → (gK g p0 = 2 ∧ (¬ (p1 + 1) = 0 ∧ (lpx2 (l_X1_rarityOf_28 g ((10000 * ((gI g p0 2) + 1)) / (p1 + 1)) Q) 0 16384)))) ∧ (¬ 0 ≤ p1 → (Q 0))
abbrev r_X1_rarityOf : Room := { frames := 0, cells := 0, slots := 0, locals := 0 }
set_option maxHeartbeats 4000000 in
set_option maxRecDepth 100000 in
theorem c_X1_rarityOf {l : Launch} {D : va_G} {cA : Nat → ClassId} {sz : Nat} {g : gS} {p0 : Nat} {p1 : Int32} {Q : Int32 → Prop} (h : w_X1_rarityOf g p0 p1 Q) : Met l yX1_rarityOf wsX1_rarityOf r_X1_rarityOf (va_Pc [.ref p0, .int p1] (gPre D cA g sz)) (gQi D cA g sz (fun r g2 => g = g2 ∧ Q r)) 0 0 (gA g sz) := by
  refine g_met (cc := cX1_rarityOf) (maxL := 6) (ret := (some .int)) (own := RX1) (by decide) rfl rfl (Nat.le_of_ble_eq_true rfl) ?_
  intro p e s m args below meth c ls CF hr hlk hnm hc hl
  obtain ⟨hx, hb, hml, hown, hts⟩ := id CF
  have hl : lv_has ls 6 [(0, .ref p0), (1, .int p1)] := hl
  show W p l e r_X1_rarityOf s m args below meth c s.heap [] 0 0 (MQ below (gQi D cA g sz (fun r g2 => g = g2 ∧ Q r)) args s 0 0 (gA g sz)) (F0 m 0 ls [])
  have hb_28 : ∀ (i2 : Int32), ∀ (i3 : Int32) (i4 : Int32), lpx2 (l_X1_rarityOf_28 g i2 Q) i3 i4 → ∀ (H : Heap) (locs : List Loc) (ls : Array Slot), gC D cA (gA g sz) s g H locs → lv_has ls 6 [(2, .int i2), (3, .int i3), (4, .int i4)] → W p l e r_X1_rarityOf s m args below meth c H locs 0 0 (MQ below (gQi D cA g sz (fun r g2 => g = g2 ∧ Q r)) args s 0 0 (gA g sz)) (F0 m 28 ls []) := by
    intro i2
    refine lpx2_run (P := fun (i3 : Int32) (i4 : Int32) => ∀ (H : Heap) (locs : List Loc) (ls : Array Slot), gC D cA (gA g sz) s g H locs → lv_has ls 6 [(2, .int i2), (3, .int i3), (4, .int i4)] → W p l e r_X1_rarityOf s m args below meth c H locs 0 0 (MQ below (gQi D cA g sz (fun r g2 => g = g2 ∧ Q r)) args s 0 0 (gA g sz)) (F0 m 28 ls [])) ?_
    intro k28 hk_28 i3 i4 h H locs ls hc hl
    have hb_51 : ∀ (i3 : Int32) (i4 : Int32), b_X1_rarityOf_51 g i2 i3 i4 Q k28 → ∀ (H : Heap) (locs : List Loc) (ls : Array Slot), gC D cA (gA g sz) s g H locs → lv_has ls 6 [(2, .int i2), (3, .int i3), (4, .int i4)] → W p l e r_X1_rarityOf s m args below meth c H locs 0 0 (MQ below (gQi D cA g sz (fun r g2 => g = g2 ∧ Q r)) args s 0 0 (gA g sz)) (F0 m 51 ls []) := by
      intro i3 i4 h H locs ls hc hl
      unfold b_X1_rarityOf_51 at h
      refine lv_iload hx hb dX1_rarityOf_51 (lv_at hl 2 rfl) ?_
      refine lv_iconst (v := 1) hx hb dX1_rarityOf_53 (by decide) ?_
      refine lv_ishr hx hb dX1_rarityOf_54 ?_
      refine lv_istore (lv' := [(4, .int (i4 >>> (1 &&& 31))), (2, .int i2), (3, .int i3)]) hx hb dX1_rarityOf_55 hl (by decide) rfl (fun ls hl => ?_)
      refine lv_goto (tgt := 28) hx hb dX1_rarityOf_57 (by decide) ?_
      exact hk_28 i3 (i4 >>> (1 &&& 31)) h _ _ _ hc (lv_sub hl [1, 2, 0] rfl)
    unfold l_X1_rarityOf_28 at h
    refine lv_iload hx hb dX1_rarityOf_28 (lv_at hl 2 rfl) ?_
    refine lv_if_le (tgt := 60) hx hb dX1_rarityOf_30 (by decide) (fun c1 => ?_) (fun c1 => ?_)
    · have h := h.1 c1
      refine lv_iload_n hx hb dX1_rarityOf_60 rfl (lv_at hl 1 rfl) ?_
      exact g_reti (r := i3) CF hr hlk hc rfl ⟨rfl, h⟩ dX1_rarityOf_61
    · have h := h.2 c1
      refine lv_iload_n hx hb dX1_rarityOf_33 rfl (lv_at hl 1 rfl) ?_
      refine lv_iload hx hb dX1_rarityOf_34 (lv_at hl 2 rfl) ?_
      refine lv_iadd hx hb dX1_rarityOf_36 ?_
      refine lv_istore (lv' := [(5, .int (i3 + i4)), (2, .int i2), (3, .int i3), (4, .int i4)]) hx hb dX1_rarityOf_37 hl (by decide) rfl (fun ls hl => ?_)
      refine lv_iload hx hb dX1_rarityOf_39 (lv_at hl 0 rfl) ?_
      refine lv_iload hx hb dX1_rarityOf_41 (lv_at hl 0 rfl) ?_
      refine lv_imul hx hb dX1_rarityOf_43 ?_
      refine lv_iload_n hx hb dX1_rarityOf_44 rfl (lv_at hl 1 rfl) ?_
      refine lv_icmp_gt (tgt := 51) hx hb dX1_rarityOf_45 (by decide) (fun c2 => ?_) (fun c2 => ?_)
      · have h := h.1 c2
        exact hb_51 i3 i4 h _ _ _ hc (lv_sub hl [1, 2, 3] rfl)
      · have h := h.2 c2
        refine lv_iload hx hb dX1_rarityOf_48 (lv_at hl 0 rfl) ?_
        refine lv_istore_n (lv' := [(3, .int (i3 + i4)), (5, .int (i3 + i4)), (2, .int i2), (4, .int i4)]) hx hb dX1_rarityOf_50 rfl hl (by decide) rfl (fun ls hl => ?_)
        exact hb_51 (i3 + i4) i4 h _ _ _ hc (lv_sub hl [2, 0, 3] rfl)
  unfold w_X1_rarityOf at h
  obtain ⟨H, hH0⟩ : ∃ z, z = s.heap := ⟨_, rfl⟩
  rw [← hH0] at hc ⊢
  obtain ⟨locs, hlc0⟩ : ∃ z : List Loc, z = [] := ⟨_, rfl⟩
  rw [← hlc0] at hc ⊢
  refine lv_iload_n hx hb dX1_rarityOf_0 rfl (lv_at hl 1 rfl) ?_
  refine lv_if_ge (tgt := 6) hx hb dX1_rarityOf_1 (by decide) (fun c3 => ?_) (fun c3 => ?_)
  · have h := h.1 c3
    refine lv_sipush (v := 10000) hx hb dX1_rarityOf_6 (by decide) ?_
    refine lv_aload_n hx hb dX1_rarityOf_9 rfl (lv_at hl 0 rfl) ?_
    obtain ⟨hk4, h⟩ := h
    refine g_get CF hc hk4 rfl (by decide) (fun _ h9 => List.mem_cons_of_mem _ (List.mem_append_right _ (h9))) (k := 2) (by decide) (List.mem_cons_of_mem _ (List.mem_append_left _ (List.mem_of_getElem? (i := 0) rfl))) rfl dX1_rarityOf_10 ?_
    refine lv_iconst (v := 1) hx hb dX1_rarityOf_13 (by decide) ?_
    refine lv_iadd hx hb dX1_rarityOf_14 ?_
    refine lv_imul hx hb dX1_rarityOf_15 ?_
    refine lv_iload_n hx hb dX1_rarityOf_16 rfl (lv_at hl 1 rfl) ?_
    refine lv_iconst (v := 1) hx hb dX1_rarityOf_17 (by decide) ?_
    refine lv_iadd hx hb dX1_rarityOf_18 ?_
    obtain ⟨hz5, h⟩ := h
    refine lv_idiv hx hb dX1_rarityOf_19 hz5 ?_
    refine lv_istore_n (lv' := [(2, .int ((10000 * ((gI g p0 2) + 1)) / (p1 + 1))), (0, .ref p0), (1, .int p1)]) hx hb dX1_rarityOf_20 rfl hl (by decide) rfl (fun ls hl => ?_)
    refine lv_iconst (v := 0) hx hb dX1_rarityOf_21 (by decide) ?_
    refine lv_istore_n (lv' := [(3, .int 0), (2, .int ((10000 * ((gI g p0 2) + 1)) / (p1 + 1))), (0, .ref p0), (1, .int p1)]) hx hb dX1_rarityOf_22 rfl hl (by decide) rfl (fun ls hl => ?_)
    refine lv_sipush (v := 16384) hx hb dX1_rarityOf_23 (by decide) ?_
    refine lv_istore (lv' := [(4, .int 16384), (3, .int 0), (2, .int ((10000 * ((gI g p0 2) + 1)) / (p1 + 1))), (0, .ref p0), (1, .int p1)]) hx hb dX1_rarityOf_26 hl (by decide) rfl (fun ls hl => ?_)
    exact hb_28 ((10000 * ((gI g p0 2) + 1)) / (p1 + 1)) 0 16384 h _ _ _ hc (lv_sub hl [2, 1, 0] rfl)
  · have h := h.2 c3
    refine lv_iconst (v := 0) hx hb dX1_rarityOf_4 (by decide) ?_
    exact g_reti (r := 0) CF hr hlk hc rfl ⟨rfl, h⟩ dX1_rarityOf_5
