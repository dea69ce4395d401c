def b_X10_found_49 (g : gS) (r0 : Nat) (i1 : Int32) (i2 : Int32) (i3 : Int32) (Q : Int32 → gS → Prop) (X : String → gS → Prop) (k25 : gS → Int32 → Int32 → Prop) : Prop :=
  k25 g i2 (i3 + 1)
def l_X10_found_25 (r0 : Nat) (i1 : Int32) (Q : Int32 → gS → Prop) (X : String → gS → Prop) (g : gS) (i2 : Int32) (i3 : Int32) (k25 : gS → Int32 → Int32 → Prop) : Prop :=
  gK g r0 = 11 ∧ (∃ y2, gR g r0 0 = some y2 ∧ (gK g y2 = 1 ∧ (((gI g y2 1) ≤ i3 → (Q i2 g)) ∧ (¬ (gI g y2 1) ≤ i3 → (w_X10_scoreNow g r0 i3 i1 (fun x6 g7 => ((x6 = (-1) → (b_X10_found_49 g7 r0 i1 i2 i3 Q X k25)) ∧ (¬ x6 = (-1) → (b_X10_found_49 g7 r0 i1 (i2 + 1) i3 Q X k25)))))))))
def w_X10_found (g0 : gS) (p0 : Nat) (p1 : Int32) (Q : Int32 → gS → Prop) (X : String → gS → Prop) : Prop :=
  gK g0 p0 = 11 ∧ (∃ y11, gR g0 p0 2 = some y11 ∧ (gK g0 y11 = 7 ∧ (w_X6_hasNode g0 y11 p1 (fun x14 => ((x14 = 0 → (X "java/lang/IndexOutOfBoundsException" g0)) ∧ (¬ x14 = 0 → (lpx3 (l_X10_found_25 p0 p1 Q X) g0 0 0)))))))
abbrev r_X10_found : Room := { frames := 6, cells := 1, slots := 6, locals := 150 }
set_option maxHeartbeats 4000000 in
set_option maxRecDepth 100000 in
theorem c_X10_found {l : Launch} {D : va_G} {cA : Nat → ClassId} {sz : Nat} {g0 : gS} {p0 : Nat} {p1 : Int32} {Q : Int32 → gS → Prop} {X : String → gS → Prop} (hflags : l.stackTraces = false) (h : w_X10_found g0 p0 p1 Q X) : vx_Met l yX10_found wsX10_found r_X10_found (va_Pc [.ref p0, .int p1] (gPre D cA g0 sz)) (gQi D cA g0 sz (Q)) (gQx D cA g0 sz (X)) 1 6 (gA g0 sz) := by
  refine g_xmet (cc := cX10_found) (maxL := 4) (ret := (some .int)) (own := RX10) (by decide) rfl rfl (Nat.le_of_ble_eq_true rfl) ?_
  intro p e s m args below meth c ls CF hr hlk hnm hxt hc hl
  obtain ⟨hx, hb, hml, hown, hts⟩ := id CF
  have hl : lv_has ls 4 [(0, .ref p0), (1, .int p1)] := hl
  show W p l e r_X10_found s m args below meth c s.heap [] 0 0 (vx_MQ below (gQi D cA g0 sz (Q)) (gQx D cA g0 sz (X)) args s 1 6 (gA g0 sz)) (F0 m 0 ls [])
  have hb_25 : ∀ (r0 : Nat) (i1 : Int32), ∀ (g : gS) (i2 : Int32) (i3 : Int32), lpx3 (l_X10_found_25 r0 i1 Q X) g i2 i3 → ∀ (H : Heap) (locs : List Loc) (ls : Array Slot), gC D cA (gA g0 sz) s g H locs → lv_has ls 4 [(0, .ref r0), (1, .int i1), (2, .int i2), (3, .int i3)] → W p l e r_X10_found s m args below meth c H locs 0 0 (vx_MQ below (gQi D cA g0 sz (Q)) (gQx D cA g0 sz (X)) args s 1 6 (gA g0 sz)) (F0 m 25 ls []) := by
    intro r0 i1
    refine lpx3_run (P := fun (g : gS) (i2 : Int32) (i3 : Int32) => ∀ (H : Heap) (locs : List Loc) (ls : Array Slot), gC D cA (gA g0 sz) s g H locs → lv_has ls 4 [(0, .ref r0), (1, .int i1), (2, .int i2), (3, .int i3)] → W p l e r_X10_found s m args below meth c H locs 0 0 (vx_MQ below (gQi D cA g0 sz (Q)) (gQx D cA g0 sz (X)) args s 1 6 (gA g0 sz)) (F0 m 25 ls [])) ?_
    intro k25 hk_25 g i2 i3 h H locs ls hc hl
    have hb_49 : ∀ (g : gS) (i2 : Int32) (i3 : Int32), b_X10_found_49 g r0 i1 i2 i3 Q X k25 → ∀ (H : Heap) (locs : List Loc) (ls : Array Slot), gC D cA (gA g0 sz) s g H locs → lv_has ls 4 [(0, .ref r0), (1, .int i1), (2, .int i2), (3, .int i3)] → W p l e r_X10_found s m args below meth c H locs 0 0 (vx_MQ below (gQi D cA g0 sz (Q)) (gQx D cA g0 sz (X)) args s 1 6 (gA g0 sz)) (F0 m 49 ls []) := by
      intro g i2 i3 h H locs ls hc hl
      unfold b_X10_found_49 at h
      refine lv_iinc (v := (i3 + 1)) (lv' := [(3, .int (i3 + 1)), (0, .ref r0), (1, .int i1), (2, .int i2)]) hx hb dX10_found_49 hl (k := 3) rfl rfl (by decide) rfl (fun ls hl => ?_)
      refine lv_goto (tgt := 25) hx hb dX10_found_52 (by decide) ?_
      exact hk_25 g i2 (i3 + 1) h _ _ _ hc (lv_sub hl [1, 2, 3, 0] rfl)
    unfold l_X10_found_25 at h
    refine lv_iload_n hx hb dX10_found_25 rfl (lv_at hl 3 rfl) ?_
    refine lv_aload_n hx hb dX10_found_26 rfl (lv_at hl 0 rfl) ?_
    obtain ⟨hk1, h⟩ := h
    obtain ⟨y2, e3, h⟩ := h
    refine g_getr CF hc hk1 rfl (by decide) (fun _ h9 => List.mem_cons_of_mem _ (List.mem_append_left _ (List.mem_append_left _ (List.mem_append_left _ (List.mem_append_left _ (List.mem_append_left _ (List.mem_append_left _ (List.mem_append_left _ (List.mem_append_left _ (List.mem_append_left _ (List.mem_append_right _ (h9)))))))))))) (k := 0) (by decide) (List.mem_cons_of_mem _ (List.mem_append_left _ (List.mem_append_left _ (List.mem_append_left _ (List.mem_append_left _ (List.mem_append_left _ (List.mem_append_left _ (List.mem_append_left _ (List.mem_append_left _ (List.mem_append_left _ (List.mem_append_left _ (List.mem_append_left _ (List.mem_of_getElem? (i := 3) rfl))))))))))))) e3 rfl dX10_found_27 ?_
    obtain ⟨hk4, h⟩ := h
    refine g_get CF hc hk4 rfl (by decide) (fun _ h9 => List.mem_cons_of_mem _ (List.mem_append_left _ (List.mem_append_left _ (List.mem_append_left _ (List.mem_append_left _ (List.mem_append_left _ (List.mem_append_left _ (List.mem_append_left _ (List.mem_append_left _ (List.mem_append_right _ (h9))))))))))) (k := 1) (by decide) (List.mem_cons_of_mem _ (List.mem_append_left _ (List.mem_append_left _ (List.mem_append_left _ (List.mem_append_left _ (List.mem_append_left _ (List.mem_append_left _ (List.mem_append_left _ (List.mem_append_left _ (List.mem_append_left _ (List.mem_append_left _ (List.mem_append_left _ (List.mem_of_getElem? (i := 4) rfl))))))))))))) rfl dX10_found_30 ?_
    refine lv_icmp_ge (tgt := 55) hx hb dX10_found_33 (by decide) (fun c5 => ?_) (fun c5 => ?_)
    · have h := h.1 c5
      refine lv_iload_n hx hb dX10_found_55 rfl (lv_at hl 2 rfl) ?_
      refine W.widen (k := 1) (n := 6) (Nat.le_of_ble_eq_true rfl) (Nat.le_of_ble_eq_true rfl) ?_
      refine vx_ret ?_
      exact g_reti (r := i2) CF hr hlk hc rfl h dX10_found_56
    · have h := h.2 c5
      refine lv_aload_n hx hb dX10_found_36 rfl (lv_at hl 0 rfl) ?_
      refine lv_iload_n hx hb dX10_found_37 rfl (lv_at hl 3 rfl) ?_
      refine lv_iload_n hx hb dX10_found_38 rfl (lv_at hl 1 rfl) ?_
      refine g_calli (va_runV (As := [.int i3, .int i1]) (rest := []) CF (c_X10_scoreNow h) (cwV 2 hts gX10_found_X10_scoreNow rfl rfl rfl (by decide +kernel) ⟨Nat.le_of_ble_eq_true rfl, Nat.le_of_ble_eq_true rfl⟩) (hc.preV hk1 rfl (by decide)) rfl rfl hl.1 rfl (lv_room (Nat.le_of_ble_eq_true rfl)) dX10_found_39 ⟨Nat.le_of_ble_eq_true rfl, Nat.le_of_ble_eq_true rfl⟩) hc (fun x6 g7 H locs hq hc => ?_)
      replace h := hq
      refine lv_iconst (v := (-1)) hx hb dX10_found_42 (by decide) ?_
      refine lv_icmp_eq (tgt := 49) hx hb dX10_found_43 (by decide) (fun c9 => ?_) (fun c9 => ?_)
      · have h := h.1 c9
        exact hb_49 g7 i2 i3 h _ _ _ hc (lv_sub hl [0, 1, 2, 3] rfl)
      · have h := h.2 c9
        refine lv_iinc (v := (i2 + 1)) (lv' := [(2, .int (i2 + 1)), (0, .ref r0), (1, .int i1), (3, .int i3)]) hx hb dX10_found_46 hl (k := 2) rfl rfl (by decide) rfl (fun ls hl => ?_)
        exact hb_49 g7 (i2 + 1) i3 h _ _ _ hc (lv_sub hl [1, 2, 0, 3] rfl)
  unfold w_X10_found at h
  obtain ⟨H, hH0⟩ : ∃ z, z = s.heap := ⟨_, rfl⟩
  rw [← hH0] at hc ⊢
  obtain ⟨locs, hlc0⟩ : ∃ z : List Loc, z = [] := ⟨_, rfl⟩
  rw [← hlc0] at hc ⊢
  refine lv_aload_n hx hb dX10_found_0 rfl (lv_at hl 0 rfl) ?_
  obtain ⟨hk10, h⟩ := h
  obtain ⟨y11, e12, h⟩ := h
  refine g_getr CF hc hk10 rfl (by decide) (fun _ h9 => List.mem_cons_of_mem _ (List.mem_append_left _ (List.mem_append_left _ (List.mem_append_left _ (List.mem_append_left _ (List.mem_append_left _ (List.mem_append_left _ (List.mem_append_left _ (List.mem_append_left _ (List.mem_append_left _ (List.mem_append_right _ (h9)))))))))))) (k := 2) (by decide) (List.mem_cons_of_mem _ (List.mem_append_left _ (List.mem_append_left _ (List.mem_append_left _ (List.mem_append_left _ (List.mem_append_left _ (List.mem_append_left _ (List.mem_append_left _ (List.mem_append_left _ (List.mem_append_left _ (List.mem_append_left _ (List.mem_append_left _ (List.mem_of_getElem? (i := 2) rfl))))))))))))) e12 rfl dX10_found_1 ?_
  refine lv_iload_n hx hb dX10_found_4 rfl (lv_at hl 1 rfl) ?_
  obtain ⟨hk13, h⟩ := h
  refine g_calli (va_runV (As := [.int p1]) (rest := []) CF (c_X6_hasNode h) (cwV 1 hts gX10_found_X6_hasNode rfl rfl rfl (by decide +kernel) ⟨Nat.le_of_ble_eq_true rfl, Nat.le_of_ble_eq_true rfl⟩) (hc.preV hk13 rfl (by decide)) rfl rfl hl.1 rfl (lv_room (Nat.le_of_ble_eq_true rfl)) dX10_found_5 ⟨Nat.le_of_ble_eq_true rfl, Nat.le_of_ble_eq_true rfl⟩) hc (fun x14 gq15 H locs hq hc => ?_)
  obtain ⟨rfl, h⟩ := hq
  refine lv_if_ne (tgt := 21) hx hb dX10_found_8 (by decide) (fun c16 => ?_) (fun c16 => ?_)
  · have h := h.2 c16
    refine lv_iconst (v := 0) hx hb dX10_found_21 (by decide) ?_
    refine lv_istore_n (lv' := [(2, .int 0), (0, .ref p0), (1, .int p1)]) hx hb dX10_found_22 rfl hl (by decide) rfl (fun ls hl => ?_)
    refine lv_iconst (v := 0) hx hb dX10_found_23 (by decide) ?_
    refine lv_istore_n (lv' := [(3, .int 0), (2, .int 0), (0, .ref p0), (1, .int p1)]) hx hb dX10_found_24 rfl hl (by decide) rfl (fun ls hl => ?_)
    exact hb_25 p0 p1 g0 0 0 h _ _ _ hc (lv_sub hl [2, 3, 1, 0] rfl)
  · have h := h.1 c16
    exact g_throwS CF hflags hc (cls := "java/lang/IndexOutOfBoundsException") (text := "there is no such node") (names := ["java/lang/RuntimeException", "java/lang/Exception"]) (ik := 151) (is := 252) (ic := 155) (by decide) (by decide) (List.mem_cons_of_mem _ (List.mem_append_left _ (List.mem_append_left _ (List.mem_append_left _ (List.mem_append_left _ (List.mem_append_left _ (List.mem_append_left _ (List.mem_append_left _ (List.mem_append_left _ (List.mem_append_left _ (List.mem_append_left _ (List.mem_append_left _ (List.mem_of_getElem? (i := 0) rfl))))))))))))) (List.mem_cons_of_mem _ (List.mem_append_left _ (List.mem_append_left _ (List.mem_append_left _ (List.mem_append_left _ (List.mem_append_left _ (List.mem_append_left _ (List.mem_append_left _ (List.mem_append_left _ (List.mem_append_left _ (List.mem_append_left _ (List.mem_append_left _ (List.mem_of_getElem? (i := 1) rfl))))))))))))) (by decide +kernel) (fun _ h9 => List.mem_cons_of_mem _ (List.mem_append_right _ (h9))) ex_155_2 ex_ot ex_151_155_3 hl.1 dX10_found_11 dX10_found_14 dX10_found_15 dX10_found_17 dX10_found_20 hxt (Nat.le_of_ble_eq_true rfl) (Nat.le_of_ble_eq_true rfl) (Nat.le_of_ble_eq_true rfl) (Nat.le_of_ble_eq_true rfl) hlk h (Nat.le_of_ble_eq_true rfl) (Nat.le_of_ble_eq_true rfl)
def b_X10_search_70 (g : gS) (r0 : Nat) (i1 : Int32) (i2 : Int32) (Q : Int32 → gS → Prop) (X : String → gS → Prop) (k30 : gS → Int32 → Prop) : Prop :=
  k30 g (i2 + 1)
def l_X10_search_30 (r0 : Nat) (i1 : Int32) (Q : Int32 → gS → Prop) (X : String → gS → Prop) (g : gS) (i2 : Int32) (k30 : gS → Int32 → Prop) : Prop :=
  gK g r0 = 11 ∧ (∃ y2, gR g r0 0 = some y2 ∧ (gK g y2 = 1 ∧ (((gI g y2 1) ≤ i2 → (∃ y6, gR g r0 3 = some y6 ∧ (gK g y6 = 8 ∧ (Q (gI g y6 3) g)))) ∧ (¬ (gI g y2 1) ≤ i2 → (w_X10_scoreNow g r0 i2 i1 (fun x9 g10 => ((x9 = (-1) → (b_X10_search_70 g10 r0 i1 i2 Q X k30)) ∧ (¬ x9 = (-1) → (gK g10 r0 = 11 ∧ (∃ y14, gR g10 r0 3 = some y14 ∧ (∃ y16, gR g10 r0 0 = some y16 ∧ (gK g10 y16 = 1 ∧ (w_X0_documentAt g10 y16 i2 (fun o19 => (gK g10 y14 = 8 ∧ (w_X7_insert g10 y14 o19 i2 x9 (fun g23 => (b_X10_search_70 g23 r0 i1 i2 Q X k30))))))))))))))))))
def w_X10_search (g0 : gS) (p0 : Nat) (p1 : Int32) (Q : Int32 → gS → Prop) (X : String → gS → Prop) : Prop :=
  gK g0 p0 = 11 ∧ (∃ y26, gR g0 p0 2 = some y26 ∧ (gK g0 y26 = 7 ∧ (w_X6_hasNode g0 y26 p1 (fun x29 => ((x29 = 0 → (X "java/lang/IndexOutOfBoundsException" g0)) ∧ (¬ x29 = 0 → (∃ y32, gR g0 p0 3 = some y32 ∧ (gK g0 y32 = 8 ∧ (w_X7_dropAll g0 y32 (fun g36 => (lpx2 (l_X10_search_30 p0 p1 Q X) g36 0)))))))))))
abbrev r_X10_search : Room := { frames := 6, cells := 1, slots := 6, locals := 150 }
set_option maxHeartbeats 4000000 in
set_option maxRecDepth 100000 in
theorem c_X10_search {l : Launch} {D : va_G} {cA : Nat → ClassId} {sz : Nat} {g0 : gS} {p0 : Nat} {p1 : Int32} {Q : Int32 → gS → Prop} {X : String → gS → Prop} (hflags : l.stackTraces = false) (h : w_X10_search g0 p0 p1 Q X) : vx_Met l yX10_search wsX10_search r_X10_search (va_Pc [.ref p0, .int p1] (gPre D cA g0 sz)) (gQi D cA g0 sz (Q)) (gQx D cA g0 sz (X)) 1 6 (gA g0 sz) := by
  refine g_xmet (cc := cX10_search) (maxL := 4) (ret := (some .int)) (own := RX10) (by decide) rfl rfl (Nat.le_of_ble_eq_true rfl) ?_
  intro p e s m args below meth c ls CF hr hlk hnm hxt hc hl
  obtain ⟨hx, hb, hml, hown, hts⟩ := id CF
  have hl : lv_has ls 4 [(0, .ref p0), (1, .int p1)] := hl
  show W p l e r_X10_search s m args below meth c s.heap [] 0 0 (vx_MQ below (gQi D cA g0 sz (Q)) (gQx D cA g0 sz (X)) args s 1 6 (gA g0 sz)) (F0 m 0 ls [])
  have hb_30 : ∀ (r0 : Nat) (i1 : Int32), ∀ (g : gS) (i2 : Int32), lpx2 (l_X10_search_30 r0 i1 Q X) g i2 → ∀ (H : Heap) (locs : List Loc) (ls : Array Slot), gC D cA (gA g0 sz) s g H locs → lv_has ls 4 [(0, .ref r0), (1, .int i1), (2, .int i2)] → W p l e r_X10_search s m args below meth c H locs 0 0 (vx_MQ below (gQi D cA g0 sz (Q)) (gQx D cA g0 sz (X)) args s 1 6 (gA g0 sz)) (F0 m 30 ls []) := by
    intro r0 i1
    refine lpx2_run (P := fun (g : gS) (i2 : Int32) => ∀ (H : Heap) (locs : List Loc) (ls : Array Slot), gC D cA (gA g0 sz) s g H locs → lv_has ls 4 [(0, .ref r0), (1, .int i1), (2, .int i2)] → W p l e r_X10_search s m args below meth c H locs 0 0 (vx_MQ below (gQi D cA g0 sz (Q)) (gQx D cA g0 sz (X)) args s 1 6 (gA g0 sz)) (F0 m 30 ls [])) ?_
    intro k30 hk_30 g i2 h H locs ls hc hl
    have hb_70 : ∀ (g : gS) (i2 : Int32), b_X10_search_70 g r0 i1 i2 Q X k30 → ∀ (H : Heap) (locs : List Loc) (ls : Array Slot), gC D cA (gA g0 sz) s g H locs → lv_has ls 4 [(0, .ref r0), (1, .int i1), (2, .int i2)] → W p l e r_X10_search s m args below meth c H locs 0 0 (vx_MQ below (gQi D cA g0 sz (Q)) (gQx D cA g0 sz (X)) args s 1 6 (gA g0 sz)) (F0 m 70 ls []) := by
      intro g i2 h H locs ls hc hl
      unfold b_X10_search_70 at h
      refine lv_iinc (v := (i2 + 1)) (lv' := [(2, .int (i2 + 1)), (0, .ref r0), (1, .int i1)]) hx hb dX10_search_70 hl (k := 2) rfl rfl (by decide) rfl (fun ls hl => ?_)
      refine lv_goto (tgt := 30) hx hb dX10_search_73 (by decide) ?_
      exact hk_30 g (i2 + 1) h _ _ _ hc (lv_sub hl [1, 2, 0] rfl)
    unfold l_X10_search_30 at h
    refine lv_iload_n hx hb dX10_search_30 rfl (lv_at hl 2 rfl) ?_
    refine lv_aload_n hx hb dX10_search_31 rfl (lv_at hl 0 rfl) ?_
    obtain ⟨hk1, h⟩ := h
    obtain ⟨y2, e3, h⟩ := h
    refine g_getr CF hc hk1 rfl (by decide) (fun _ h9 => List.mem_cons_of_mem _ (List.mem_append_left _ (List.mem_append_left _ (List.mem_append_left _ (List.mem_append_left _ (List.mem_append_left _ (List.mem_append_left _ (List.mem_append_left _ (List.mem_append_left _ (List.mem_append_left _ (List.mem_append_left _ (List.mem_append_right _ (h9))))))))))))) (k := 0) (by decide) (List.mem_cons_of_mem _ (List.mem_append_left _ (List.mem_append_left _ (List.mem_append_left _ (List.mem_append_left _ (List.mem_append_left _ (List.mem_append_left _ (List.mem_append_left _ (List.mem_append_left _ (List.mem_append_left _ (List.mem_append_left _ (List.mem_append_left _ (List.mem_append_left _ (List.mem_of_getElem? (i := 4) rfl)))))))))))))) e3 rfl dX10_search_32 ?_
    obtain ⟨hk4, h⟩ := h
    refine g_get CF hc hk4 rfl (by decide) (fun _ h9 => List.mem_cons_of_mem _ (List.mem_append_left _ (List.mem_append_left _ (List.mem_append_left _ (List.mem_append_left _ (List.mem_append_left _ (List.mem_append_left _ (List.mem_append_left _ (List.mem_append_left _ (List.mem_append_left _ (List.mem_append_right _ (h9)))))))))))) (k := 1) (by decide) (List.mem_cons_of_mem _ (List.mem_append_left _ (List.mem_append_left _ (List.mem_append_left _ (List.mem_append_left _ (List.mem_append_left _ (List.mem_append_left _ (List.mem_append_left _ (List.mem_append_left _ (List.mem_append_left _ (List.mem_append_left _ (List.mem_append_left _ (List.mem_append_left _ (List.mem_of_getElem? (i := 5) rfl)))))))))))))) rfl dX10_search_35 ?_
    refine lv_icmp_ge (tgt := 76) hx hb dX10_search_38 (by decide) (fun c5 => ?_) (fun c5 => ?_)
    · have h := h.1 c5
      refine lv_aload_n hx hb dX10_search_76 rfl (lv_at hl 0 rfl) ?_
      obtain ⟨y6, e7, h⟩ := h
      refine g_getr CF hc hk1 rfl (by decide) (fun _ h9 => List.mem_cons_of_mem _ (List.mem_append_left _ (List.mem_append_left _ (List.mem_append_left _ (List.mem_append_left _ (List.mem_append_left _ (List.mem_append_left _ (List.mem_append_left _ (List.mem_append_left _ (List.mem_append_left _ (List.mem_append_left _ (List.mem_append_right _ (h9))))))))))))) (k := 3) (by decide) (List.mem_cons_of_mem _ (List.mem_append_left _ (List.mem_append_left _ (List.mem_append_left _ (List.mem_append_left _ (List.mem_append_left _ (List.mem_append_left _ (List.mem_append_left _ (List.mem_append_left _ (List.mem_append_left _ (List.mem_append_left _ (List.mem_append_left _ (List.mem_append_left _ (List.mem_of_getElem? (i := 3) rfl)))))))))))))) e7 rfl dX10_search_77 ?_
      obtain ⟨hk8, h⟩ := h
      refine g_get CF hc hk8 rfl (by decide) (fun _ h9 => List.mem_cons_of_mem _ (List.mem_append_left _ (List.mem_append_left _ (List.mem_append_left _ (List.mem_append_left _ (List.mem_append_left _ (List.mem_append_left _ (List.mem_append_left _ (List.mem_append_left _ (List.mem_append_right _ (h9))))))))))) (k := 3) (by decide) (List.mem_cons_of_mem _ (List.mem_append_left _ (List.mem_append_left _ (List.mem_append_left _ (List.mem_append_left _ (List.mem_append_left _ (List.mem_append_left _ (List.mem_append_left _ (List.mem_append_left _ (List.mem_append_left _ (List.mem_append_left _ (List.mem_append_left _ (List.mem_append_left _ (List.mem_of_getElem? (i := 6) rfl)))))))))))))) rfl dX10_search_80 ?_
      refine W.widen (k := 1) (n := 6) (Nat.le_of_ble_eq_true rfl) (Nat.le_of_ble_eq_true rfl) ?_
      refine vx_ret ?_
      exact g_reti (r := (gI g y6 3)) CF hr hlk hc rfl h dX10_search_83
    · have h := h.2 c5
      refine lv_aload_n hx hb dX10_search_41 rfl (lv_at hl 0 rfl) ?_
      refine lv_iload_n hx hb dX10_search_42 rfl (lv_at hl 2 rfl) ?_
      refine lv_iload_n hx hb dX10_search_43 rfl (lv_at hl 1 rfl) ?_
      refine g_calli (va_runV (As := [.int i2, .int i1]) (rest := []) CF (c_X10_scoreNow h) (cwV 2 hts gX10_search_X10_scoreNow rfl rfl rfl (by decide +kernel) ⟨Nat.le_of_ble_eq_true rfl, Nat.le_of_ble_eq_true rfl⟩) (hc.preV hk1 rfl (by decide)) rfl rfl hl.1 rfl (lv_room (Nat.le_of_ble_eq_true rfl)) dX10_search_44 ⟨Nat.le_of_ble_eq_true rfl, Nat.le_of_ble_eq_true rfl⟩) hc (fun x9 g10 H locs hq hc => ?_)
      replace h := hq
      refine lv_istore_n (lv' := [(3, .int x9), (0, .ref r0), (1, .int i1), (2, .int i2)]) hx hb dX10_search_47 rfl hl (by decide) rfl (fun ls hl => ?_)
      refine lv_iload_n hx hb dX10_search_48 rfl (lv_at hl 0 rfl) ?_
      refine lv_iconst (v := (-1)) hx hb dX10_search_49 (by decide) ?_
      refine lv_icmp_eq (tgt := 70) hx hb dX10_search_50 (by decide) (fun c12 => ?_) (fun c12 => ?_)
      · have h := h.1 c12
        exact hb_70 g10 i2 h _ _ _ hc (lv_sub hl [1, 2, 3] rfl)
      · have h := h.2 c12
        refine lv_aload_n hx hb dX10_search_53 rfl (lv_at hl 1 rfl) ?_
        obtain ⟨hk13, h⟩ := h
        obtain ⟨y14, e15, h⟩ := h
        refine g_getr CF hc hk13 rfl (by decide) (fun _ h9 => List.mem_cons_of_mem _ (List.mem_append_left _ (List.mem_append_left _ (List.mem_append_left _ (List.mem_append_left _ (List.mem_append_left _ (List.mem_append_left _ (List.mem_append_left _ (List.mem_append_left _ (List.mem_append_left _ (List.mem_append_left _ (List.mem_append_right _ (h9))))))))))))) (k := 3) (by decide) (List.mem_cons_of_mem _ (List.mem_append_left _ (List.mem_append_left _ (List.mem_append_left _ (List.mem_append_left _ (List.mem_append_left _ (List.mem_append_left _ (List.mem_append_left _ (List.mem_append_left _ (List.mem_append_left _ (List.mem_append_left _ (List.mem_append_left _ (List.mem_append_left _ (List.mem_of_getElem? (i := 3) rfl)))))))))))))) e15 rfl dX10_search_54 ?_
        refine lv_aload_n hx hb dX10_search_57 rfl (lv_at hl 1 rfl) ?_
        obtain ⟨y16, e17, h⟩ := h
        refine g_getr CF hc hk13 rfl (by decide) (fun _ h9 => List.mem_cons_of_mem _ (List.mem_append_left _ (List.mem_append_left _ (List.mem_append_left _ (List.mem_append_left _ (List.mem_append_left _ (List.mem_append_left _ (List.mem_append_left _ (List.mem_append_left _ (List.mem_append_left _ (List.mem_append_left _ (List.mem_append_right _ (h9))))))))))))) (k := 0) (by decide) (List.mem_cons_of_mem _ (List.mem_append_left _ (List.mem_append_left _ (List.mem_append_left _ (List.mem_append_left _ (List.mem_append_left _ (List.mem_append_left _ (List.mem_append_left _ (List.mem_append_left _ (List.mem_append_left _ (List.mem_append_left _ (List.mem_append_left _ (List.mem_append_left _ (List.mem_of_getElem? (i := 4) rfl)))))))))))))) e17 rfl dX10_search_58 ?_
        refine lv_iload_n hx hb dX10_search_61 rfl (lv_at hl 3 rfl) ?_
        obtain ⟨hk18, h⟩ := h
        refine g_callq (va_runV (As := [.int i2]) (rest := [.ref y14]) CF (c_X0_documentAt h) (cwV 1 hts gX10_search_X0_documentAt rfl rfl rfl (by decide +kernel) ⟨Nat.le_of_ble_eq_true rfl, Nat.le_of_ble_eq_true rfl⟩) (hc.preV hk18 rfl (by decide)) rfl rfl hl.1 rfl (lv_room (Nat.le_of_ble_eq_true rfl)) dX10_search_62 ⟨Nat.le_of_ble_eq_true rfl, Nat.le_of_ble_eq_true rfl⟩) hc (fun o19 gq20 H locs hq hc => ?_)
        obtain ⟨rfl, h⟩ := hq
        refine lv_iload_n hx hb dX10_search_65 rfl (lv_at hl 3 rfl) ?_
        refine lv_iload_n hx hb dX10_search_66 rfl (lv_at hl 0 rfl) ?_
        obtain ⟨hk21, h⟩ := h
        refine g_callv (va_runV (As := [va_rf o19, .int i2, .int x9]) (rest := []) CF (c_X7_insert h) (cwV 3 hts gX10_search_X7_insert rfl rfl rfl (by decide +kernel) ⟨Nat.le_of_ble_eq_true rfl, Nat.le_of_ble_eq_true rfl⟩) (hc.preV hk21 rfl (by decide)) rfl rfl hl.1 rfl (lv_room (Nat.le_of_ble_eq_true rfl)) dX10_search_67 ⟨Nat.le_of_ble_eq_true rfl, Nat.le_of_ble_eq_true rfl⟩) hc (fun g23 H locs hq hc => ?_)
        replace h := hq
        exact hb_70 g23 i2 h _ _ _ hc (lv_sub hl [1, 2, 3] rfl)
  unfold w_X10_search at h
  obtain ⟨H, hH0⟩ : ∃ z, z = s.heap := ⟨_, rfl⟩
  rw [← hH0] at hc ⊢
  obtain ⟨locs, hlc0⟩ : ∃ z : List Loc, z = [] := ⟨_, rfl⟩
  rw [← hlc0] at hc ⊢
  refine lv_aload_n hx hb dX10_search_0 rfl (lv_at hl 0 rfl) ?_
  obtain ⟨hk25, h⟩ := h
  obtain ⟨y26, e27, h⟩ := h
  refine g_getr CF hc hk25 rfl (by decide) (fun _ h9 => List.mem_cons_of_mem _ (List.mem_append_left _ (List.mem_append_left _ (List.mem_append_left _ (List.mem_append_left _ (List.mem_append_left _ (List.mem_append_left _ (List.mem_append_left _ (List.mem_append_left _ (List.mem_append_left _ (List.mem_append_left _ (List.mem_append_right _ (h9))))))))))))) (k := 2) (by decide) (List.mem_cons_of_mem _ (List.mem_append_left _ (List.mem_append_left _ (List.mem_append_left _ (List.mem_append_left _ (List.mem_append_left _ (List.mem_append_left _ (List.mem_append_left _ (List.mem_append_left _ (List.mem_append_left _ (List.mem_append_left _ (List.mem_append_left _ (List.mem_append_left _ (List.mem_of_getElem? (i := 2) rfl)))))))))))))) e27 rfl dX10_search_1 ?_
  refine lv_iload_n hx hb dX10_search_4 rfl (lv_at hl 1 rfl) ?_
  obtain ⟨hk28, h⟩ := h
  refine g_calli (va_runV (As := [.int p1]) (rest := []) CF (c_X6_hasNode h) (cwV 1 hts gX10_search_X6_hasNode rfl rfl rfl (by decide +kernel) ⟨Nat.le_of_ble_eq_true rfl, Nat.le_of_ble_eq_true rfl⟩) (hc.preV hk28 rfl (by decide)) rfl rfl hl.1 rfl (lv_room (Nat.le_of_ble_eq_true rfl)) dX10_search_5 ⟨Nat.le_of_ble_eq_true rfl, Nat.le_of_ble_eq_true rfl⟩) hc (fun x29 gq30 H locs hq hc => ?_)
  obtain ⟨rfl, h⟩ := hq
  refine lv_if_ne (tgt := 21) hx hb dX10_search_8 (by decide) (fun c31 => ?_) (fun c31 => ?_)
  · have h := h.2 c31
    refine lv_aload_n hx hb dX10_search_21 rfl (lv_at hl 0 rfl) ?_
    obtain ⟨y32, e33, h⟩ := h
    refine g_getr CF hc hk25 rfl (by decide) (fun _ h9 => List.mem_cons_of_mem _ (List.mem_append_left _ (List.mem_append_left _ (List.mem_append_left _ (List.mem_append_left _ (List.mem_append_left _ (List.mem_append_left _ (List.mem_append_left _ (List.mem_append_left _ (List.mem_append_left _ (List.mem_append_left _ (List.mem_append_right _ (h9))))))))))))) (k := 3) (by decide) (List.mem_cons_of_mem _ (List.mem_append_left _ (List.mem_append_left _ (List.mem_append_left _ (List.mem_append_left _ (List.mem_append_left _ (List.mem_append_left _ (List.mem_append_left _ (List.mem_append_left _ (List.mem_append_left _ (List.mem_append_left _ (List.mem_append_left _ (List.mem_append_left _ (List.mem_of_getElem? (i := 3) rfl)))))))))))))) e33 rfl dX10_search_22 ?_
    obtain ⟨hk34, h⟩ := h
    refine g_callv (va_runV (As := []) (rest := []) CF (c_X7_dropAll h) (cwV 0 hts gX10_search_X7_dropAll rfl rfl rfl (by decide +kernel) ⟨Nat.le_of_ble_eq_true rfl, Nat.le_of_ble_eq_true rfl⟩) (hc.preV hk34 rfl (by decide)) rfl rfl hl.1 rfl (lv_room (Nat.le_of_ble_eq_true rfl)) dX10_search_25 ⟨Nat.le_of_ble_eq_true rfl, Nat.le_of_ble_eq_true rfl⟩) hc (fun g36 H locs hq hc => ?_)
    replace h := hq
    refine lv_iconst (v := 0) hx hb dX10_search_28 (by decide) ?_
    refine lv_istore_n (lv' := [(2, .int 0), (0, .ref p0), (1, .int p1)]) hx hb dX10_search_29 rfl hl (by decide) rfl (fun ls hl => ?_)
    exact hb_30 p0 p1 g36 0 h _ _ _ hc (lv_sub hl [1, 2, 0] rfl)
  · have h := h.1 c31
    exact g_throwS CF hflags hc (cls := "java/lang/IndexOutOfBoundsException") (text := "there is no such node") (names := ["java/lang/RuntimeException", "java/lang/Exception"]) (ik := 151) (is := 252) (ic := 155) (by decide) (by decide) (List.mem_cons_of_mem _ (List.mem_append_left _ (List.mem_append_left _ (List.mem_append_left _ (List.mem_append_left _ (List.mem_append_left _ (List.mem_append_left _ (List.mem_append_left _ (List.mem_append_left _ (List.mem_append_left _ (List.mem_append_left _ (List.mem_append_left _ (List.mem_append_left _ (List.mem_of_getElem? (i := 0) rfl)))))))))))))) (List.mem_cons_of_mem _ (List.mem_append_left _ (List.mem_append_left _ (List.mem_append_left _ (List.mem_append_left _ (List.mem_append_left _ (List.mem_append_left _ (List.mem_append_left _ (List.mem_append_left _ (List.mem_append_left _ (List.mem_append_left _ (List.mem_append_left _ (List.mem_append_left _ (List.mem_of_getElem? (i := 1) rfl)))))))))))))) (by decide +kernel) (fun _ h9 => List.mem_cons_of_mem _ (List.mem_append_right _ (h9))) ex_155_2 ex_ot ex_151_155_3 hl.1 dX10_search_11 dX10_search_14 dX10_search_15 dX10_search_17 dX10_search_20 hxt (Nat.le_of_ble_eq_true rfl) (Nat.le_of_ble_eq_true rfl) (Nat.le_of_ble_eq_true rfl) (Nat.le_of_ble_eq_true rfl) hlk h (Nat.le_of_ble_eq_true rfl) (Nat.le_of_ble_eq_true rfl)
def w_X10_results (g : gS) (p0 : Nat) (Q : Int32 → Prop) : Prop :=
  gK g p0 = 11 ∧ (∃ y2, gR g p0 3 = some y2 ∧ (gK g y2 = 8 ∧ (Q (gI g y2 3))))
abbrev r_X10_results : Room := { frames := 0, cells := 0, slots := 0, locals := 0 }
set_option maxHeartbeats 4000000 in
set_option maxRecDepth 100000 in
theorem c_X10_results {l : Launch} {D : va_G} {cA : Nat → ClassId} {sz : Nat} {g : gS} {p0 : Nat} {Q : Int32 → Prop} (h : w_X10_results g p0 Q) : Met l yX10_results wsX10_results r_X10_results (va_Pc [.ref p0] (gPre D cA g sz)) (gQi D cA g sz (fun r g2 => g = g2 ∧ Q r)) 0 0 (gA g sz) := by
  refine g_met (cc := cX10_results) (maxL := 1) (ret := (some .int)) (own := RX10) (by decide) rfl rfl (Nat.le_of_ble_eq_true rfl) ?_
  intro p e s m args below meth c ls CF hr hlk hnm hc hl
  obtain ⟨hx, hb, hml, hown, hts⟩ := id CF
  have hl : lv_has ls 1 [(0, .ref p0)] := hl
  show W p l e r_X10_results s m args below meth c s.heap [] 0 0 (MQ below (gQi D cA g sz (fun r g2 => g = g2 ∧ Q r)) args s 0 0 (gA g sz)) (F0 m 0 ls [])
  unfold w_X10_results at h
  obtain ⟨H, hH0⟩ : ∃ z, z = s.heap := ⟨_, rfl⟩
  rw [← hH0] at hc ⊢
  obtain ⟨locs, hlc0⟩ : ∃ z : List Loc, z = [] := ⟨_, rfl⟩
  rw [← hlc0] at hc ⊢
  refine lv_aload_n hx hb dX10_results_0 rfl (lv_at hl 0 rfl) ?_
  obtain ⟨hk1, h⟩ := h
  obtain ⟨y2, e3, h⟩ := h
  refine g_getr CF hc hk1 rfl (by decide) (fun _ h9 => List.mem_cons_of_mem _ (List.mem_append_left _ (List.mem_append_right _ (h9)))) (k := 3) (by decide) (List.mem_cons_of_mem _ (List.mem_append_left _ (List.mem_append_left _ (List.mem_of_getElem? (i := 0) rfl)))) e3 rfl dX10_results_1 ?_
  obtain ⟨hk4, h⟩ := h
  refine g_get CF hc hk4 rfl (by decide) (fun _ h9 => List.mem_cons_of_mem _ (List.mem_append_right _ (h9))) (k := 3) (by decide) (List.mem_cons_of_mem _ (List.mem_append_left _ (List.mem_append_left _ (List.mem_of_getElem? (i := 1) rfl)))) rfl dX10_results_4 ?_
  exact g_reti (r := (gI g y2 3)) CF hr hlk hc rfl ⟨rfl, h⟩ dX10_results_7
def w_X10_resultAt (g : gS) (p0 : Nat) (p1 : Int32) (Q : Int32 → Prop) (X : String → Prop) : Prop :=
  gK g p0 = 11 ∧ (∃ y2, gR g p0 3 = some y2 ∧ (gK g y2 = 8 ∧ (w_X7_hasPlace g y2 p1 (fun x5 => ((x5 = 0 → (X "java/lang/IndexOutOfBoundsException")) ∧ (¬ x5 = 0 → (∃ y8, gR g p0 3 = some y8 ∧ (gK g y8 = 8 ∧ (w_X7_numberAt g y8 p1 (fun x11 => (Q x11)))))))))))
abbrev r_X10_resultAt : Room := { frames := 6, cells := 1, slots := 6, locals := 82 }
set_option maxHeartbeats 4000000 in
set_option maxRecDepth 100000 in
theorem c_X10_resultAt {l : Launch} {D : va_G} {cA : Nat → ClassId} {sz : Nat} {g : gS} {p0 : Nat} {p1 : Int32} {Q : Int32 → Prop} {X : String → Prop} (hflags : l.stackTraces = false) (h : w_X10_resultAt g p0 p1 Q X) : vx_Met l yX10_resultAt wsX10_resultAt r_X10_resultAt (va_Pc [.ref p0, .int p1] (gPre D cA g sz)) (gQi D cA g sz (fun r g2 => g = g2 ∧ Q r)) (gQx D cA g sz (fun E g2 => g = g2 ∧ X E)) 1 6 (gA g sz) := by
  refine g_xmet (cc := cX10_resultAt) (maxL := 2) (ret := (some .int)) (own := RX10) (by decide) rfl rfl (Nat.le_of_ble_eq_true rfl) ?_
  intro p e s m args below meth c ls CF hr hlk hnm hxt hc hl
  obtain ⟨hx, hb, hml, hown, hts⟩ := id CF
  have hl : lv_has ls 2 [(0, .ref p0), (1, .int p1)] := hl
  show W p l e r_X10_resultAt s m args below meth c s.heap [] 0 0 (vx_MQ below (gQi D cA g sz (fun r g2 => g = g2 ∧ Q r)) (gQx D cA g sz (fun E g2 => g = g2 ∧ X E)) args s 1 6 (gA g sz)) (F0 m 0 ls [])
  unfold w_X10_resultAt at h
  obtain ⟨H, hH0⟩ : ∃ z, z = s.heap := ⟨_, rfl⟩
  rw [← hH0] at hc ⊢
  obtain ⟨locs, hlc0⟩ : ∃ z : List Loc, z = [] := ⟨_, rfl⟩
  rw [← hlc0] at hc ⊢
  refine lv_aload_n hx hb dX10_resultAt_0 rfl (lv_at hl 0 rfl) ?_
  obtain ⟨hk1, h⟩ := h
  obtain ⟨y2, e3, h⟩ := h
  refine g_getr CF hc hk1 rfl (by decide) (fun _ h9 => List.mem_cons_of_mem _ (List.mem_append_left _ (List.mem_append_left _ (List.mem_append_right _ (h9))))) (k := 3) (by decide) (List.mem_cons_of_mem _ (List.mem_append_left _ (List.mem_append_left _ (List.mem_append_left _ (List.mem_of_getElem? (i := 2) rfl))))) e3 rfl dX10_resultAt_1 ?_
  refine lv_iload_n hx hb dX10_resultAt_4 rfl (lv_at hl 1 rfl) ?_
  obtain ⟨hk4, h⟩ := h
  refine g_calli (va_runV (As := [.int p1]) (rest := []) CF (c_X7_hasPlace h) (cwV 1 hts gX10_resultAt_X7_hasPlace rfl rfl rfl (by decide +kernel) ⟨Nat.le_of_ble_eq_true rfl, Nat.le_of_ble_eq_true rfl⟩) (hc.preV hk4 rfl (by decide)) rfl rfl hl.1 rfl (lv_room (Nat.le_of_ble_eq_true rfl)) dX10_resultAt_5 ⟨Nat.le_of_ble_eq_true rfl, Nat.le_of_ble_eq_true rfl⟩) hc (fun x5 gq6 H locs hq hc => ?_)
  obtain ⟨rfl, h⟩ := hq
  refine lv_if_ne (tgt := 22) hx hb dX10_resultAt_8 (by decide) (fun c7 => ?_) (fun c7 => ?_)
  · have h := h.2 c7
    refine lv_aload_n hx hb dX10_resultAt_22 rfl (lv_at hl 0 rfl) ?_
    obtain ⟨y8, e9, h⟩ := h
    refine g_getr CF hc hk1 rfl (by decide) (fun _ h9 => List.mem_cons_of_mem _ (List.mem_append_left _ (List.mem_append_left _ (List.mem_append_right _ (h9))))) (k := 3) (by decide) (List.mem_cons_of_mem _ (List.mem_append_left _ (List.mem_append_left _ (List.mem_append_left _ (List.mem_of_getElem? (i := 2) rfl))))) e9 rfl dX10_resultAt_23 ?_
    refine lv_iload_n hx hb dX10_resultAt_26 rfl (lv_at hl 1 rfl) ?_
    obtain ⟨hk10, h⟩ := h
    refine g_calli (va_runV (As := [.int p1]) (rest := []) CF (c_X7_numberAt h) (cwV 1 hts gX10_resultAt_X7_numberAt rfl rfl rfl (by decide +kernel) ⟨Nat.le_of_ble_eq_true rfl, Nat.le_of_ble_eq_true rfl⟩) (hc.preV hk10 rfl (by decide)) rfl rfl hl.1 rfl (lv_room (Nat.le_of_ble_eq_true rfl)) dX10_resultAt_27 ⟨Nat.le_of_ble_eq_true rfl, Nat.le_of_ble_eq_true rfl⟩) hc (fun x11 gq12 H locs hq hc => ?_)
    obtain ⟨rfl, h⟩ := hq
    refine W.widen (k := 1) (n := 6) (Nat.le_of_ble_eq_true rfl) (Nat.le_of_ble_eq_true rfl) ?_
    refine vx_ret ?_
    exact g_reti (r := x11) CF hr hlk hc rfl ⟨rfl, h⟩ dX10_resultAt_30
  · have h := h.1 c7
    exact g_throwSW CF hflags hc (cls := "java/lang/IndexOutOfBoundsException") (text := "there is no such place") (names := ["java/lang/RuntimeException", "java/lang/Exception"]) (ik := 151) (is := 327) (ic := 155) (by decide) (by decide) (List.mem_cons_of_mem _ (List.mem_append_left _ (List.mem_append_left _ (List.mem_append_left _ (List.mem_of_getElem? (i := 0) rfl))))) (List.mem_cons_of_mem _ (List.mem_append_left _ (List.mem_append_left _ (List.mem_append_left _ (List.mem_of_getElem? (i := 1) rfl))))) (by decide +kernel) (fun _ h9 => List.mem_cons_of_mem _ (List.mem_append_right _ (h9))) ex_155_2 ex_ot ex_151_155_3 hl.1 dX10_resultAt_11 dX10_resultAt_14 dX10_resultAt_15 dX10_resultAt_18 dX10_resultAt_21 hxt (Nat.le_of_ble_eq_true rfl) (Nat.le_of_ble_eq_true rfl) (Nat.le_of_ble_eq_true rfl) (Nat.le_of_ble_eq_true rfl) hlk ⟨rfl, h⟩ (Nat.le_of_ble_eq_true rfl) (Nat.le_of_ble_eq_true rfl)
def w_X10_scoreAt (g : gS) (p0 : Nat) (p1 : Int32) (Q : Int32 → Prop) (X : String → Prop) : Prop :=
  gK g p0 = 11 ∧ (∃ y2, gR g p0 3 = some y2 ∧ (gK g y2 = 8 ∧ (w_X7_hasPlace g y2 p1 (fun x5 => ((x5 = 0 → (X "java/lang/IndexOutOfBoundsException")) ∧ (¬ x5 = 0 → (∃ y8, gR g p0 3 = some y8 ∧ (gK g y8 = 8 ∧ (w_X7_valueAt g y8 p1 (fun x11 => (Q x11)))))))))))
abbrev r_X10_scoreAt : Room := { frames := 6, cells := 1, slots := 6, locals := 82 }
set_option maxHeartbeats 4000000 in
set_option maxRecDepth 100000 in
theorem c_X10_scoreAt {l : Launch} {D : va_G} {cA : Nat → ClassId} {sz : Nat} {g : gS} {p0 : Nat} {p1 : Int32} {Q : Int32 → Prop} {X : String → Prop} (hflags : l.stackTraces = false) (h : w_X10_scoreAt g p0 p1 Q X) : vx_Met l yX10_scoreAt wsX10_scoreAt r_X10_scoreAt (va_Pc [.ref p0, .int p1] (gPre D cA g sz)) (gQi D cA g sz (fun r g2 => g = g2 ∧ Q r)) (gQx D cA g sz (fun E g2 => g = g2 ∧ X E)) 1 6 (gA g sz) := by
  refine g_xmet (cc := cX10_scoreAt) (maxL := 2) (ret := (some .int)) (own := RX10) (by decide) rfl rfl (Nat.le_of_ble_eq_true rfl) ?_
  intro p e s m args below meth c ls CF hr hlk hnm hxt hc hl
  obtain ⟨hx, hb, hml, hown, hts⟩ := id CF
  have hl : lv_has ls 2 [(0, .ref p0), (1, .int p1)] := hl
  show W p l e r_X10_scoreAt s m args below meth c s.heap [] 0 0 (vx_MQ below (gQi D cA g sz (fun r g2 => g = g2 ∧ Q r)) (gQx D cA g sz (fun E g2 => g = g2 ∧ X E)) args s 1 6 (gA g sz)) (F0 m 0 ls [])
  unfold w_X10_scoreAt at h
  obtain ⟨H, hH0⟩ : ∃ z, z = s.heap := ⟨_, rfl⟩
  rw [← hH0] at hc ⊢
  obtain ⟨locs, hlc0⟩ : ∃ z : List Loc, z = [] := ⟨_, rfl⟩
  rw [← hlc0] at hc ⊢
  refine lv_aload_n hx hb dX10_scoreAt_0 rfl (lv_at hl 0 rfl) ?_
  obtain ⟨hk1, h⟩ := h
  obtain ⟨y2, e3, h⟩ := h
  refine g_getr CF hc hk1 rfl (by decide) (fun _ h9 => List.mem_cons_of_mem _ (List.mem_append_left _ (List.mem_append_left _ (List.mem_append_right _ (h9))))) (k := 3) (by decide) (List.mem_cons_of_mem _ (List.mem_append_left _ (List.mem_append_left _ (List.mem_append_left _ (List.mem_of_getElem? (i := 2) rfl))))) e3 rfl dX10_scoreAt_1 ?_
  refine lv_iload_n hx hb dX10_scoreAt_4 rfl (lv_at hl 1 rfl) ?_
  obtain ⟨hk4, h⟩ := h
  refine g_calli (va_runV (As := [.int p1]) (rest := []) CF (c_X7_hasPlace h) (cwV 1 hts gX10_scoreAt_X7_hasPlace rfl rfl rfl (by decide +kernel) ⟨Nat.le_of_ble_eq_true rfl, Nat.le_of_ble_eq_true rfl⟩) (hc.preV hk4 rfl (by decide)) rfl rfl hl.1 rfl (lv_room (Nat.le_of_ble_eq_true rfl)) dX10_scoreAt_5 ⟨Nat.le_of_ble_eq_true rfl, Nat.le_of_ble_eq_true rfl⟩) hc (fun x5 gq6 H locs hq hc => ?_)
  obtain ⟨rfl, h⟩ := hq
  refine lv_if_ne (tgt := 22) hx hb dX10_scoreAt_8 (by decide) (fun c7 => ?_) (fun c7 => ?_)
  · have h := h.2 c7
    refine lv_aload_n hx hb dX10_scoreAt_22 rfl (lv_at hl 0 rfl) ?_
    obtain ⟨y8, e9, h⟩ := h
    refine g_getr CF hc hk1 rfl (by decide) (fun _ h9 => List.mem_cons_of_mem _ (List.mem_append_left _ (List.mem_append_left _ (List.mem_append_right _ (h9))))) (k := 3) (by decide) (List.mem_cons_of_mem _ (List.mem_append_left _ (List.mem_append_left _ (List.mem_append_left _ (List.mem_of_getElem? (i := 2) rfl))))) e9 rfl dX10_scoreAt_23 ?_
    refine lv_iload_n hx hb dX10_scoreAt_26 rfl (lv_at hl 1 rfl) ?_
    obtain ⟨hk10, h⟩ := h
    refine g_calli (va_runV (As := [.int p1]) (rest := []) CF (c_X7_valueAt h) (cwV 1 hts gX10_scoreAt_X7_valueAt rfl rfl rfl (by decide +kernel) ⟨Nat.le_of_ble_eq_true rfl, Nat.le_of_ble_eq_true rfl⟩) (hc.preV hk10 rfl (by decide)) rfl rfl hl.1 rfl (lv_room (Nat.le_of_ble_eq_true rfl)) dX10_scoreAt_27 ⟨Nat.le_of_ble_eq_true rfl, Nat.le_of_ble_eq_true rfl⟩) hc (fun x11 gq12 H locs hq hc => ?_)
    obtain ⟨rfl, h⟩ := hq
    refine W.widen (k := 1) (n := 6) (Nat.le_of_ble_eq_true rfl) (Nat.le_of_ble_eq_true rfl) ?_
    refine vx_ret ?_
    exact g_reti (r := x11) CF hr hlk hc rfl ⟨rfl, h⟩ dX10_scoreAt_30
  · have h := h.1 c7
    exact g_throwSW CF hflags hc (cls := "java/lang/IndexOutOfBoundsException") (text := "there is no such place") (names := ["java/lang/RuntimeException", "java/lang/Exception"]) (ik := 151) (is := 327) (ic := 155) (by decide) (by decide) (List.mem_cons_of_mem _ (List.mem_append_left _ (List.mem_append_left _ (List.mem_append_left _ (List.mem_of_getElem? (i := 0) rfl))))) (List.mem_cons_of_mem _ (List.mem_append_left _ (List.mem_append_left _ (List.mem_append_left _ (List.mem_of_getElem? (i := 1) rfl))))) (by decide +kernel) (fun _ h9 => List.mem_cons_of_mem _ (List.mem_append_right _ (h9))) ex_155_2 ex_ot ex_151_155_3 hl.1 dX10_scoreAt_11 dX10_scoreAt_14 dX10_scoreAt_15 dX10_scoreAt_18 dX10_scoreAt_21 hxt (Nat.le_of_ble_eq_true rfl) (Nat.le_of_ble_eq_true rfl) (Nat.le_of_ble_eq_true rfl) (Nat.le_of_ble_eq_true rfl) hlk ⟨rfl, h⟩ (Nat.le_of_ble_eq_true rfl) (Nat.le_of_ble_eq_true rfl)
def w_X10_ofKind (g : gS) (p0 : Nat) (p1 : Int32) (Q : Int32 → Prop) (X : String → Prop) : Prop :=
  w_X10_isKind g p1 (fun x1 => ((x1 = 0 → (X "java/lang/IllegalArgumentException")) ∧ (¬ x1 = 0 → (gK g p0 = 11 ∧ (∃ y5, gR g p0 3 = some y5 ∧ (gK g y5 = 8 ∧ (w_X7_countKind g y5 p1 (fun x8 => (Q x8)))))))))
abbrev r_X10_ofKind : Room := { frames := 6, cells := 1, slots := 6, locals := 82 }
set_option maxHeartbeats 4000000 in
set_option maxRecDepth 100000 in
theorem c_X10_ofKind {l : Launch} {D : va_G} {cA : Nat → ClassId} {sz : Nat} {g : gS} {p0 : Nat} {p1 : Int32} {Q : Int32 → Prop} {X : String → Prop} (hflags : l.stackTraces = false) (h : w_X10_ofKind g p0 p1 Q X) : vx_Met l yX10_ofKind wsX10_ofKind r_X10_ofKind (va_Pc [.ref p0, .int p1] (gPre D cA g sz)) (gQi D cA g sz (fun r g2 => g = g2 ∧ Q r)) (gQx D cA g sz (fun E g2 => g = g2 ∧ X E)) 1 6 (gA g sz) := by
  refine g_xmet (cc := cX10_ofKind) (maxL := 2) (ret := (some .int)) (own := RX10) (by decide) rfl rfl (Nat.le_of_ble_eq_true rfl) ?_
  intro p e s m args below meth c ls CF hr hlk hnm hxt hc hl
  obtain ⟨hx, hb, hml, hown, hts⟩ := id CF
  have hl : lv_has ls 2 [(0, .ref p0), (1, .int p1)] := hl
  show W p l e r_X10_ofKind s m args below meth c s.heap [] 0 0 (vx_MQ below (gQi D cA g sz (fun r g2 => g = g2 ∧ Q r)) (gQx D cA g sz (fun E g2 => g = g2 ∧ X E)) args s 1 6 (gA g sz)) (F0 m 0 ls [])
  unfold w_X10_ofKind at h
  obtain ⟨H, hH0⟩ : ∃ z, z = s.heap := ⟨_, rfl⟩
  rw [← hH0] at hc ⊢
  obtain ⟨locs, hlc0⟩ : ∃ z : List Loc, z = [] := ⟨_, rfl⟩
  rw [← hlc0] at hc ⊢
  refine lv_iload_n hx hb dX10_ofKind_0 rfl (lv_at hl 1 rfl) ?_
  refine g_calli (va_runS (As := [.int p1]) (rest := []) CF (c_X10_isKind h) (va_cwS 1 hts gX10_ofKind_X10_isKind rfl rfl rfl (by decide +kernel) ⟨Nat.le_of_ble_eq_true rfl, Nat.le_of_ble_eq_true rfl⟩) hc.preS rfl rfl hl.1 rfl (lv_room (Nat.le_of_ble_eq_true rfl)) dX10_ofKind_1 ⟨Nat.le_of_ble_eq_true rfl, Nat.le_of_ble_eq_true rfl⟩) hc (fun x1 gq2 H locs hq hc => ?_)
  obtain ⟨rfl, h⟩ := hq
  refine lv_if_ne (tgt := 18) hx hb dX10_ofKind_4 (by decide) (fun c3 => ?_) (fun c3 => ?_)
  · have h := h.2 c3
    refine lv_aload_n hx hb dX10_ofKind_18 rfl (lv_at hl 0 rfl) ?_
    obtain ⟨hk4, h⟩ := h
    obtain ⟨y5, e6, h⟩ := h
    refine g_getr CF hc hk4 rfl (by decide) (fun _ h9 => List.mem_cons_of_mem _ (List.mem_append_left _ (List.mem_append_left _ (List.mem_append_left _ (List.mem_append_right _ (h9)))))) (k := 3) (by decide) (List.mem_cons_of_mem _ (List.mem_append_left _ (List.mem_append_left _ (List.mem_append_left _ (List.mem_append_left _ (List.mem_of_getElem? (i := 2) rfl)))))) e6 rfl dX10_ofKind_19 ?_
    refine lv_iload_n hx hb dX10_ofKind_22 rfl (lv_at hl 1 rfl) ?_
    obtain ⟨hk7, h⟩ := h
    refine g_calli (va_runV (As := [.int p1]) (rest := []) CF (c_X7_countKind h) (cwV 1 hts gX10_ofKind_X7_countKind rfl rfl rfl (by decide +kernel) ⟨Nat.le_of_ble_eq_true rfl, Nat.le_of_ble_eq_true rfl⟩) (hc.preV hk7 rfl (by decide)) rfl rfl hl.1 rfl (lv_room (Nat.le_of_ble_eq_true rfl)) dX10_ofKind_23 ⟨Nat.le_of_ble_eq_true rfl, Nat.le_of_ble_eq_true rfl⟩) hc (fun x8 gq9 H locs hq hc => ?_)
    obtain ⟨rfl, h⟩ := hq
    refine W.widen (k := 1) (n := 6) (Nat.le_of_ble_eq_true rfl) (Nat.le_of_ble_eq_true rfl) ?_
    refine vx_ret ?_
    exact g_reti (r := x8) CF hr hlk hc rfl ⟨rfl, h⟩ dX10_ofKind_26
  · have h := h.1 c3
    exact g_throwSW CF hflags hc (cls := "java/lang/IllegalArgumentException") (text := "there is no such kind") (names := ["java/lang/RuntimeException", "java/lang/Exception"]) (ik := 85) (is := 335) (ic := 89) (by decide) (by decide) (List.mem_cons_of_mem _ (List.mem_append_left _ (List.mem_append_left _ (List.mem_append_left _ (List.mem_append_left _ (List.mem_of_getElem? (i := 0) rfl)))))) (List.mem_cons_of_mem _ (List.mem_append_left _ (List.mem_append_left _ (List.mem_append_left _ (List.mem_append_left _ (List.mem_of_getElem? (i := 1) rfl)))))) (by decide +kernel) (fun _ h9 => List.mem_cons_of_mem _ (List.mem_append_right _ (h9))) ex_89_2 ex_ot ex_85_89_3 hl.1 dX10_ofKind_7 dX10_ofKind_10 dX10_ofKind_11 dX10_ofKind_14 dX10_ofKind_17 hxt (Nat.le_of_ble_eq_true rfl) (Nat.le_of_ble_eq_true rfl) (Nat.le_of_ble_eq_true rfl) (Nat.le_of_ble_eq_true rfl) hlk ⟨rfl, h⟩ (Nat.le_of_ble_eq_true rfl) (Nat.le_of_ble_eq_true rfl)
def b_X10_ofDates_19 (g : gS) (Q : Int32 → Prop) (X : String → Prop) : Prop :=
  X "java/lang/IllegalArgumentException"
def w_X10_ofDates (g : gS) (p0 : Nat) (p1 : Int32) (p2 : Int32) (Q : Int32 → Prop) (X : String → Prop) : Prop :=
  w_X10_isDate g p1 (fun x1 => ((x1 = 0 → (b_X10_ofDates_19 g Q X)) ∧ (¬ x1 = 0 → ((p2 < 1 → (b_X10_ofDates_19 g Q X)) ∧ (¬ p2 < 1 → ((p2 ≤ 10000 → (gK g p0 = 11 ∧ (∃ y7, gR g p0 3 = some y7 ∧ (gK g y7 = 8 ∧ (w_X7_countDates g y7 p1 ((p1 + p2) - 1) (fun x10 => (Q x10))))))) ∧ (¬ p2 ≤ 10000 → (b_X10_ofDates_19 g Q X))))))))
abbrev r_X10_ofDates : Room := { frames := 6, cells := 1, slots := 6, locals := 82 }
set_option maxHeartbeats 4000000 in
set_option maxRecDepth 100000 in
theorem c_X10_ofDates {l : Launch} {D : va_G} {cA : Nat → ClassId} {sz : Nat} {g : gS} {p0 : Nat} {p1 : Int32} {p2 : Int32} {Q : Int32 → Prop} {X : String → Prop} (hflags : l.stackTraces = false) (h : w_X10_ofDates g p0 p1 p2 Q X) : vx_Met l yX10_ofDates wsX10_ofDates r_X10_ofDates (va_Pc [.ref p0, .int p1, .int p2] (gPre D cA g sz)) (gQi D cA g sz (fun r g2 => g = g2 ∧ Q r)) (gQx D cA g sz (fun E g2 => g = g2 ∧ X E)) 1 6 (gA g sz) := by
  refine g_xmet (cc := cX10_ofDates) (maxL := 3) (ret := (some .int)) (own := RX10) (by decide) rfl rfl (Nat.le_of_ble_eq_true rfl) ?_
  intro p e s m args below meth c ls CF hr hlk hnm hxt hc hl
  obtain ⟨hx, hb, hml, hown, hts⟩ := id CF
  have hl : lv_has ls 3 [(0, .ref p0), (1, .int p1), (2, .int p2)] := hl
  show W p l e r_X10_ofDates s m args below meth c s.heap [] 0 0 (vx_MQ below (gQi D cA g sz (fun r g2 => g = g2 ∧ Q r)) (gQx D cA g sz (fun E g2 => g = g2 ∧ X E)) args s 1 6 (gA g sz)) (F0 m 0 ls [])
  have hb_19 : b_X10_ofDates_19 g Q X → ∀ (H : Heap) (locs : List Loc) (ls : Array Slot), gC D cA (gA g sz) s g H locs → lv_has ls 3 [] → W p l e r_X10_ofDates s m args below meth c H locs 0 0 (vx_MQ below (gQi D cA g sz (fun r g2 => g = g2 ∧ Q r)) (gQx D cA g sz (fun E g2 => g = g2 ∧ X E)) args s 1 6 (gA g sz)) (F0 m 19 ls []) := by
    intro h H locs ls hc hl
    unfold b_X10_ofDates_19 at h
    exact g_throwSW CF hflags hc (cls := "java/lang/IllegalArgumentException") (text := "there is no such date or width") (names := ["java/lang/RuntimeException", "java/lang/Exception"]) (ik := 85) (is := 340) (ic := 89) (by decide) (by decide) (List.mem_cons_of_mem _ (List.mem_append_left _ (List.mem_append_left _ (List.mem_append_left _ (List.mem_append_left _ (List.mem_of_getElem? (i := 0) rfl)))))) (List.mem_cons_of_mem _ (List.mem_append_left _ (List.mem_append_left _ (List.mem_append_left _ (List.mem_append_left _ (List.mem_of_getElem? (i := 1) rfl)))))) (by decide +kernel) (fun _ h9 => List.mem_cons_of_mem _ (List.mem_append_right _ (h9))) ex_89_2 ex_ot ex_85_89_3 hl.1 dX10_ofDates_19 dX10_ofDates_22 dX10_ofDates_23 dX10_ofDates_26 dX10_ofDates_29 hxt (Nat.le_of_ble_eq_true rfl) (Nat.le_of_ble_eq_true rfl) (Nat.le_of_ble_eq_true rfl) (Nat.le_of_ble_eq_true rfl) hlk ⟨rfl, h⟩ (Nat.le_of_ble_eq_true rfl) (Nat.le_of_ble_eq_true rfl)
  unfold w_X10_ofDates at h
  obtain ⟨H, hH0⟩ : ∃ z, z = s.heap := ⟨_, rfl⟩
  rw [← hH0] at hc ⊢
  obtain ⟨locs, hlc0⟩ : ∃ z : List Loc, z = [] := ⟨_, rfl⟩
  rw [← hlc0] at hc ⊢
  refine lv_iload_n hx hb dX10_ofDates_0 rfl (lv_at hl 1 rfl) ?_
  refine g_calli (va_runS (As := [.int p1]) (rest := []) CF (c_X10_isDate h) (va_cwS 1 hts gX10_ofDates_X10_isDate rfl rfl rfl (by decide +kernel) ⟨Nat.le_of_ble_eq_true rfl, Nat.le_of_ble_eq_true rfl⟩) hc.preS rfl rfl hl.1 rfl (lv_room (Nat.le_of_ble_eq_true rfl)) dX10_ofDates_1 ⟨Nat.le_of_ble_eq_true rfl, Nat.le_of_ble_eq_true rfl⟩) hc (fun x1 gq2 H locs hq hc => ?_)
  obtain ⟨rfl, h⟩ := hq
  refine lv_if_eq (tgt := 19) hx hb dX10_ofDates_4 (by decide) (fun c3 => ?_) (fun c3 => ?_)
  · have h := h.1 c3
    exact hb_19  h _ _ _ hc (lv_sub hl [] rfl)
  · have h := h.2 c3
    refine lv_iload_n hx hb dX10_ofDates_7 rfl (lv_at hl 2 rfl) ?_
    refine lv_iconst (v := 1) hx hb dX10_ofDates_8 (by decide) ?_
    refine lv_icmp_lt (tgt := 19) hx hb dX10_ofDates_9 (by decide) (fun c4 => ?_) (fun c4 => ?_)
    · have h := h.1 c4
      exact hb_19  h _ _ _ hc (lv_sub hl [] rfl)
    · have h := h.2 c4
      refine lv_iload_n hx hb dX10_ofDates_12 rfl (lv_at hl 2 rfl) ?_
      refine lv_sipush (v := 10000) hx hb dX10_ofDates_13 (by decide) ?_
      refine lv_icmp_le (tgt := 30) hx hb dX10_ofDates_16 (by decide) (fun c5 => ?_) (fun c5 => ?_)
      · have h := h.1 c5
        refine lv_aload_n hx hb dX10_ofDates_30 rfl (lv_at hl 0 rfl) ?_
        obtain ⟨hk6, h⟩ := h
        obtain ⟨y7, e8, h⟩ := h
        refine g_getr CF hc hk6 rfl (by decide) (fun _ h9 => List.mem_cons_of_mem _ (List.mem_append_left _ (List.mem_append_left _ (List.mem_append_left _ (List.mem_append_right _ (h9)))))) (k := 3) (by decide) (List.mem_cons_of_mem _ (List.mem_append_left _ (List.mem_append_left _ (List.mem_append_left _ (List.mem_append_left _ (List.mem_of_getElem? (i := 2) rfl)))))) e8 rfl dX10_ofDates_31 ?_
        refine lv_iload_n hx hb dX10_ofDates_34 rfl (lv_at hl 1 rfl) ?_
        refine lv_iload_n hx hb dX10_ofDates_35 rfl (lv_at hl 1 rfl) ?_
        refine lv_iload_n hx hb dX10_ofDates_36 rfl (lv_at hl 2 rfl) ?_
        refine lv_iadd hx hb dX10_ofDates_37 ?_
        refine lv_iconst (v := 1) hx hb dX10_ofDates_38 (by decide) ?_
        refine lv_isub hx hb dX10_ofDates_39 ?_
        obtain ⟨hk9, h⟩ := h
        refine g_calli (va_runV (As := [.int p1, .int ((p1 + p2) - 1)]) (rest := []) CF (c_X7_countDates h) (cwV 2 hts gX10_ofDates_X7_countDates rfl rfl rfl (by decide +kernel) ⟨Nat.le_of_ble_eq_true rfl, Nat.le_of_ble_eq_true rfl⟩) (hc.preV hk9 rfl (by decide)) rfl rfl hl.1 rfl (lv_room (Nat.le_of_ble_eq_true rfl)) dX10_ofDates_40 ⟨Nat.le_of_ble_eq_true rfl, Nat.le_of_ble_eq_true rfl⟩) hc (fun x10 gq11 H locs hq hc => ?_)
        obtain ⟨rfl, h⟩ := hq
        refine W.widen (k := 1) (n := 6) (Nat.le_of_ble_eq_true rfl) (Nat.le_of_ble_eq_true rfl) ?_
        refine vx_ret ?_
        exact g_reti (r := x10) CF hr hlk hc rfl ⟨rfl, h⟩ dX10_ofDates_43
      · have h := h.2 c5
        exact hb_19  h _ _ _ hc (lv_sub hl [] rfl)
def w_X10_like (g0 : gS) (p0 : Nat) (p1 : Int32) (Q : Int32 → gS → Prop) (X : String → gS → Prop) : Prop :=
  gK g0 p0 = 11 ∧ (∃ y2, gR g0 p0 0 = some y2 ∧ (gK g0 y2 = 1 ∧ (w_X0_documentAt g0 y2 p1 (fun o5 => ((o5 = none → (X "java/lang/IndexOutOfBoundsException" g0)) ∧ (∀ y7, o5 = some y7 → (∃ y9, gR g0 p0 4 = some y9 ∧ (gK g0 y9 = 4 ∧ (w_X3_mostLike g0 y9 p1 (fun x12 g13 => (Q x12 g13)))))))))))
abbrev r_X10_like : Room := { frames := 6, cells := 1, slots := 6, locals := 100 }
set_option maxHeartbeats 4000000 in
set_option maxRecDepth 100000 in
theorem c_X10_like {l : Launch} {D : va_G} {cA : Nat → ClassId} {sz : Nat} {g0 : gS} {p0 : Nat} {p1 : Int32} {Q : Int32 → gS → Prop} {X : String → gS → Prop} (hflags : l.stackTraces = false) (h : w_X10_like g0 p0 p1 Q X) : vx_Met l yX10_like wsX10_like r_X10_like (va_Pc [.ref p0, .int p1] (gPre D cA g0 sz)) (gQi D cA g0 sz (Q)) (gQx D cA g0 sz (X)) 1 6 (gA g0 sz) := by
  refine g_xmet (cc := cX10_like) (maxL := 2) (ret := (some .int)) (own := RX10) (by decide) rfl rfl (Nat.le_of_ble_eq_true rfl) ?_
  intro p e s m args below meth c ls CF hr hlk hnm hxt hc hl
  obtain ⟨hx, hb, hml, hown, hts⟩ := id CF
  have hl : lv_has ls 2 [(0, .ref p0), (1, .int p1)] := hl
  show W p l e r_X10_like s m args below meth c s.heap [] 0 0 (vx_MQ below (gQi D cA g0 sz (Q)) (gQx D cA g0 sz (X)) args s 1 6 (gA g0 sz)) (F0 m 0 ls [])
  unfold w_X10_like at h
  obtain ⟨H, hH0⟩ : ∃ z, z = s.heap := ⟨_, rfl⟩
  rw [← hH0] at hc ⊢
  obtain ⟨locs, hlc0⟩ : ∃ z : List Loc, z = [] := ⟨_, rfl⟩
  rw [← hlc0] at hc ⊢
  refine lv_aload_n hx hb dX10_like_0 rfl (lv_at hl 0 rfl) ?_
  obtain ⟨hk1, h⟩ := h
  obtain ⟨y2, e3, h⟩ := h
  refine g_getr CF hc hk1 rfl (by decide) (fun _ h9 => List.mem_cons_of_mem _ (List.mem_append_left _ (List.mem_append_left _ (List.mem_append_left _ (List.mem_append_left _ (List.mem_append_left _ (List.mem_append_left _ (List.mem_append_left _ (List.mem_append_right _ (h9)))))))))) (k := 0) (by decide) (List.mem_cons_of_mem _ (List.mem_append_left _ (List.mem_append_left _ (List.mem_append_left _ (List.mem_append_left _ (List.mem_append_left _ (List.mem_append_left _ (List.mem_append_left _ (List.mem_append_left _ (List.mem_append_left _ (List.mem_of_getElem? (i := 2) rfl))))))))))) e3 rfl dX10_like_1 ?_
  refine lv_iload_n hx hb dX10_like_4 rfl (lv_at hl 1 rfl) ?_
  obtain ⟨hk4, h⟩ := h
  refine g_callq (va_runV (As := [.int p1]) (rest := []) CF (c_X0_documentAt h) (cwV 1 hts gX10_like_X0_documentAt rfl rfl rfl (by decide +kernel) ⟨Nat.le_of_ble_eq_true rfl, Nat.le_of_ble_eq_true rfl⟩) (hc.preV hk4 rfl (by decide)) rfl rfl hl.1 rfl (lv_room (Nat.le_of_ble_eq_true rfl)) dX10_like_5 ⟨Nat.le_of_ble_eq_true rfl, Nat.le_of_ble_eq_true rfl⟩) hc (fun o5 gq6 H locs hq hc => ?_)
  obtain ⟨rfl, h⟩ := hq
  refine g_ifnonnull (tgt := 21) CF dX10_like_8 (by decide) (fun y7 e8 => ?_) (fun e8 => ?_)
  · have hu15 := h.2 y7 e8
    subst e8
    have h := hu15
    refine lv_aload_n hx hb dX10_like_21 rfl (lv_at hl 0 rfl) ?_
    obtain ⟨y9, e10, h⟩ := h
    refine g_getr CF hc hk1 rfl (by decide) (fun _ h9 => List.mem_cons_of_mem _ (List.mem_append_left _ (List.mem_append_left _ (List.mem_append_left _ (List.mem_append_left _ (List.mem_append_left _ (List.mem_append_left _ (List.mem_append_left _ (List.mem_append_right _ (h9)))))))))) (k := 4) (by decide) (List.mem_cons_of_mem _ (List.mem_append_left _ (List.mem_append_left _ (List.mem_append_left _ (List.mem_append_left _ (List.mem_append_left _ (List.mem_append_left _ (List.mem_append_left _ (List.mem_append_left _ (List.mem_append_left _ (List.mem_of_getElem? (i := 3) rfl))))))))))) e10 rfl dX10_like_22 ?_
    refine lv_iload_n hx hb dX10_like_25 rfl (lv_at hl 1 rfl) ?_
    obtain ⟨hk11, h⟩ := h
    refine g_calli (va_runV (As := [.int p1]) (rest := []) CF (c_X3_mostLike h) (cwV 1 hts gX10_like_X3_mostLike rfl rfl rfl (by decide +kernel) ⟨Nat.le_of_ble_eq_true rfl, Nat.le_of_ble_eq_true rfl⟩) (hc.preV hk11 rfl (by decide)) rfl rfl hl.1 rfl (lv_room (Nat.le_of_ble_eq_true rfl)) dX10_like_26 ⟨Nat.le_of_ble_eq_true rfl, Nat.le_of_ble_eq_true rfl⟩) hc (fun x12 g13 H locs hq hc => ?_)
    replace h := hq
    refine W.widen (k := 1) (n := 6) (Nat.le_of_ble_eq_true rfl) (Nat.le_of_ble_eq_true rfl) ?_
    refine vx_ret ?_
    exact g_reti (r := x12) CF hr hlk hc rfl h dX10_like_29
  · have hu15 := h.1 e8
    subst e8
    have h := hu15
    exact g_throwS CF hflags hc (cls := "java/lang/IndexOutOfBoundsException") (text := "there is no such document") (names := ["java/lang/RuntimeException", "java/lang/Exception"]) (ik := 151) (is := 153) (ic := 155) (by decide) (by decide) (List.mem_cons_of_mem _ (List.mem_append_left _ (List.mem_append_left _ (List.mem_append_left _ (List.mem_append_left _ (List.mem_append_left _ (List.mem_append_left _ (List.mem_append_left _ (List.mem_append_left _ (List.mem_append_left _ (List.mem_of_getElem? (i := 0) rfl))))))))))) (List.mem_cons_of_mem _ (List.mem_append_left _ (List.mem_append_left _ (List.mem_append_left _ (List.mem_append_left _ (List.mem_append_left _ (List.mem_append_left _ (List.mem_append_left _ (List.mem_append_left _ (List.mem_append_left _ (List.mem_of_getElem? (i := 1) rfl))))))))))) (by decide +kernel) (fun _ h9 => List.mem_cons_of_mem _ (List.mem_append_right _ (h9))) ex_155_2 ex_ot ex_151_155_3 hl.1 dX10_like_11 dX10_like_14 dX10_like_15 dX10_like_17 dX10_like_20 hxt (Nat.le_of_ble_eq_true rfl) (Nat.le_of_ble_eq_true rfl) (Nat.le_of_ble_eq_true rfl) (Nat.le_of_ble_eq_true rfl) hlk h (Nat.le_of_ble_eq_true rfl) (Nat.le_of_ble_eq_true rfl)
def w_X10_cost (g0 : gS) (p0 : Nat) (p1 : Int32) (Q : Int32 → gS → Prop) (X : String → gS → Prop) : Prop :=
  gK g0 p0 = 11 ∧ (∃ y2, gR g0 p0 2 = some y2 ∧ (gK g0 y2 = 7 ∧ (w_X6_hasNode g0 y2 p1 (fun x5 => ((x5 = 0 → (X "java/lang/IndexOutOfBoundsException" g0)) ∧ (¬ x5 = 0 → (∃ y8, gR g0 p0 2 = some y8 ∧ (∃ y10, gR g0 p0 0 = some y10 ∧ (gK g0 y10 = 1 ∧ (∃ y13, gR g0 y10 5 = some y13 ∧ (gK g0 y8 = 7 ∧ (w_X6_entriesOf g0 y8 p1 y13 (fun x16 g17 => (Q x16 g17))))))))))))))
abbrev r_X10_cost : Room := { frames := 6, cells := 1, slots := 6, locals := 95 }
set_option maxHeartbeats 4000000 in
set_option maxRecDepth 100000 in
theorem c_X10_cost {l : Launch} {D : va_G} {cA : Nat → ClassId} {sz : Nat} {g0 : gS} {p0 : Nat} {p1 : Int32} {Q : Int32 → gS → Prop} {X : String → gS → Prop} (hflags : l.stackTraces = false) (h : w_X10_cost g0 p0 p1 Q X) : vx_Met l yX10_cost wsX10_cost r_X10_cost (va_Pc [.ref p0, .int p1] (gPre D cA g0 sz)) (gQi D cA g0 sz (Q)) (gQx D cA g0 sz (X)) 1 6 (gA g0 sz) := by
  refine g_xmet (cc := cX10_cost) (maxL := 2) (ret := (some .int)) (own := RX10) (by decide) rfl rfl (Nat.le_of_ble_eq_true rfl) ?_
  intro p e s m args below meth c ls CF hr hlk hnm hxt hc hl
  obtain ⟨hx, hb, hml, hown, hts⟩ := id CF
  have hl : lv_has ls 2 [(0, .ref p0), (1, .int p1)] := hl
  show W p l e r_X10_cost s m args below meth c s.heap [] 0 0 (vx_MQ below (gQi D cA g0 sz (Q)) (gQx D cA g0 sz (X)) args s 1 6 (gA g0 sz)) (F0 m 0 ls [])
  unfold w_X10_cost at h
  obtain ⟨H, hH0⟩ : ∃ z, z = s.heap := ⟨_, rfl⟩
  rw [← hH0] at hc ⊢
  obtain ⟨locs, hlc0⟩ : ∃ z : List Loc, z = [] := ⟨_, rfl⟩
  rw [← hlc0] at hc ⊢
  refine lv_aload_n hx hb dX10_cost_0 rfl (lv_at hl 0 rfl) ?_
  obtain ⟨hk1, h⟩ := h
  obtain ⟨y2, e3, h⟩ := h
  refine g_getr CF hc hk1 rfl (by decide) (fun _ h9 => List.mem_cons_of_mem _ (List.mem_append_left _ (List.mem_append_left _ (List.mem_append_left _ (List.mem_append_left _ (List.mem_append_left _ (List.mem_append_left _ (List.mem_append_right _ (h9))))))))) (k := 2) (by decide) (List.mem_cons_of_mem _ (List.mem_append_left _ (List.mem_append_left _ (List.mem_append_left _ (List.mem_append_left _ (List.mem_append_left _ (List.mem_append_left _ (List.mem_append_left _ (List.mem_append_left _ (List.mem_of_getElem? (i := 2) rfl)))))))))) e3 rfl dX10_cost_1 ?_
  refine lv_iload_n hx hb dX10_cost_4 rfl (lv_at hl 1 rfl) ?_
  obtain ⟨hk4, h⟩ := h
  refine g_calli (va_runV (As := [.int p1]) (rest := []) CF (c_X6_hasNode h) (cwV 1 hts gX10_cost_X6_hasNode rfl rfl rfl (by decide +kernel) ⟨Nat.le_of_ble_eq_true rfl, Nat.le_of_ble_eq_true rfl⟩) (hc.preV hk4 rfl (by decide)) rfl rfl hl.1 rfl (lv_room (Nat.le_of_ble_eq_true rfl)) dX10_cost_5 ⟨Nat.le_of_ble_eq_true rfl, Nat.le_of_ble_eq_true rfl⟩) hc (fun x5 gq6 H locs hq hc => ?_)
  obtain ⟨rfl, h⟩ := hq
  refine lv_if_ne (tgt := 21) hx hb dX10_cost_8 (by decide) (fun c7 => ?_) (fun c7 => ?_)
  · have h := h.2 c7
    refine lv_aload_n hx hb dX10_cost_21 rfl (lv_at hl 0 rfl) ?_
    obtain ⟨y8, e9, h⟩ := h
    refine g_getr CF hc hk1 rfl (by decide) (fun _ h9 => List.mem_cons_of_mem _ (List.mem_append_left _ (List.mem_append_left _ (List.mem_append_left _ (List.mem_append_left _ (List.mem_append_left _ (List.mem_append_left _ (List.mem_append_right _ (h9))))))))) (k := 2) (by decide) (List.mem_cons_of_mem _ (List.mem_append_left _ (List.mem_append_left _ (List.mem_append_left _ (List.mem_append_left _ (List.mem_append_left _ (List.mem_append_left _ (List.mem_append_left _ (List.mem_append_left _ (List.mem_of_getElem? (i := 2) rfl)))))))))) e9 rfl dX10_cost_22 ?_
    refine lv_iload_n hx hb dX10_cost_25 rfl (lv_at hl 1 rfl) ?_
    refine lv_aload_n hx hb dX10_cost_26 rfl (lv_at hl 0 rfl) ?_
    obtain ⟨y10, e11, h⟩ := h
    refine g_getr CF hc hk1 rfl (by decide) (fun _ h9 => List.mem_cons_of_mem _ (List.mem_append_left _ (List.mem_append_left _ (List.mem_append_left _ (List.mem_append_left _ (List.mem_append_left _ (List.mem_append_left _ (List.mem_append_right _ (h9))))))))) (k := 0) (by decide) (List.mem_cons_of_mem _ (List.mem_append_left _ (List.mem_append_left _ (List.mem_append_left _ (List.mem_append_left _ (List.mem_append_left _ (List.mem_append_left _ (List.mem_append_left _ (List.mem_append_left _ (List.mem_of_getElem? (i := 3) rfl)))))))))) e11 rfl dX10_cost_27 ?_
    obtain ⟨hk12, h⟩ := h
    obtain ⟨y13, e14, h⟩ := h
    refine g_getr CF hc hk12 rfl (by decide) (fun _ h9 => List.mem_cons_of_mem _ (List.mem_append_left _ (List.mem_append_left _ (List.mem_append_left _ (List.mem_append_left _ (List.mem_append_left _ (List.mem_append_right _ (h9)))))))) (k := 5) (by decide) (List.mem_cons_of_mem _ (List.mem_append_left _ (List.mem_append_left _ (List.mem_append_left _ (List.mem_append_left _ (List.mem_append_left _ (List.mem_append_left _ (List.mem_append_left _ (List.mem_append_left _ (List.mem_of_getElem? (i := 4) rfl)))))))))) e14 rfl dX10_cost_30 ?_
    obtain ⟨hk15, h⟩ := h
    refine g_calli (va_runV (As := [.int p1, .ref y13]) (rest := []) CF (c_X6_entriesOf h) (cwV 2 hts gX10_cost_X6_entriesOf rfl rfl rfl (by decide +kernel) ⟨Nat.le_of_ble_eq_true rfl, Nat.le_of_ble_eq_true rfl⟩) (hc.preV hk15 rfl (by decide)) rfl rfl hl.1 rfl (lv_room (Nat.le_of_ble_eq_true rfl)) dX10_cost_33 ⟨Nat.le_of_ble_eq_true rfl, Nat.le_of_ble_eq_true rfl⟩) hc (fun x16 g17 H locs hq hc => ?_)
    replace h := hq
    refine W.widen (k := 1) (n := 6) (Nat.le_of_ble_eq_true rfl) (Nat.le_of_ble_eq_true rfl) ?_
    refine vx_ret ?_
    exact g_reti (r := x16) CF hr hlk hc rfl h dX10_cost_36
  · have h := h.1 c7
    exact g_throwS CF hflags hc (cls := "java/lang/IndexOutOfBoundsException") (text := "there is no such node") (names := ["java/lang/RuntimeException", "java/lang/Exception"]) (ik := 151) (is := 252) (ic := 155) (by decide) (by decide) (List.mem_cons_of_mem _ (List.mem_append_left _ (List.mem_append_left _ (List.mem_append_left _ (List.mem_append_left _ (List.mem_append_left _ (List.mem_append_left _ (List.mem_append_left _ (List.mem_append_left _ (List.mem_of_getElem? (i := 0) rfl)))))))))) (List.mem_cons_of_mem _ (List.mem_append_left _ (List.mem_append_left _ (List.mem_append_left _ (List.mem_append_left _ (List.mem_append_left _ (List.mem_append_left _ (List.mem_append_left _ (List.mem_append_left _ (List.mem_of_getElem? (i := 1) rfl)))))))))) (by decide +kernel) (fun _ h9 => List.mem_cons_of_mem _ (List.mem_append_right _ (h9))) ex_155_2 ex_ot ex_151_155_3 hl.1 dX10_cost_11 dX10_cost_14 dX10_cost_15 dX10_cost_17 dX10_cost_20 hxt (Nat.le_of_ble_eq_true rfl) (Nat.le_of_ble_eq_true rfl) (Nat.le_of_ble_eq_true rfl) (Nat.le_of_ble_eq_true rfl) hlk h (Nat.le_of_ble_eq_true rfl) (Nat.le_of_ble_eq_true rfl)
def b_X10_byAlias_90 (g : gS) (r0 : Nat) (i1 : Int32) (i2 : Int32) (i3 : Int32) (Q : Int32 → gS → Prop) (X : String → gS → Prop) (k25 : gS → Int32 → Int32 → Prop) : Prop :=
  k25 g i2 (i3 + 1)
def l_X10_byAlias_25 (r0 : Nat) (i1 : Int32) (Q : Int32 → gS → Prop) (X : String → gS → Prop) (g : gS) (i2 : Int32) (i3 : Int32) (k25 : gS → Int32 → Int32 → Prop) : Prop :=
  gK g r0 = 11 ∧ (∃ y2, gR g r0 0 = some y2 ∧ (gK g y2 = 1 ∧ (((gI g y2 1) ≤ i3 → (Q i2 g)) ∧ (¬ (gI g y2 1) ≤ i3 → (∃ y6, gR g r0 0 = some y6 ∧ (gK g y6 = 1 ∧ (w_X0_documentAt g y6 i3 (fun o9 => ((o9 = none → (b_X10_byAlias_90 g r0 i1 i2 i3 Q X k25)) ∧ (∀ y11, o9 = some y11 → (gK g y11 = 3 ∧ (w_X2_canBeFound g y11 (fun x14 => ((x14 = 0 → (b_X10_byAlias_90 g r0 i1 i2 i3 Q X k25)) ∧ (¬ x14 = 0 → (∃ y17, gR g r0 6 = some y17 ∧ (gK g y17 = 9 ∧ (w_X8_scoreOf g y17 (some y11) i1 (fun x20 g21 => ((x20 = (-1) → (b_X10_byAlias_90 g21 r0 i1 i2 i3 Q X k25)) ∧ (¬ x20 = (-1) → (gK g21 r0 = 11 ∧ (∃ y25, gR g21 r0 7 = some y25 ∧ (gK g21 y25 = 9 ∧ (w_X8_scoreOf g21 y25 (some y11) i1 (fun x28 g29 => ((x28 = (-1) → (b_X10_byAlias_90 g29 r0 i1 (i2 + 1) i3 Q X k25)) ∧ (¬ x28 = (-1) → (b_X10_byAlias_90 g29 r0 i1 i2 i3 Q X k25)))))))))))))))))))))))))))))
def w_X10_byAlias (g0 : gS) (p0 : Nat) (p1 : Int32) (Q : Int32 → gS → Prop) (X : String → gS → Prop) : Prop :=
  gK g0 p0 = 11 ∧ (∃ y34, gR g0 p0 2 = some y34 ∧ (gK g0 y34 = 7 ∧ (w_X6_hasNode g0 y34 p1 (fun x37 => ((x37 = 0 → (X "java/lang/IndexOutOfBoundsException" g0)) ∧ (¬ x37 = 0 → (lpx3 (l_X10_byAlias_25 p0 p1 Q X) g0 0 0)))))))
abbrev r_X10_byAlias : Room := { frames := 6, cells := 1, slots := 6, locals := 127 }
set_option maxHeartbeats 4000000 in
set_option maxRecDepth 100000 in
theorem c_X10_byAlias {l : Launch} {D : va_G} {cA : Nat → ClassId} {sz : Nat} {g0 : gS} {p0 : Nat} {p1 : Int32} {Q : Int32 → gS → Prop} {X : String → gS → Prop} (hflags : l.stackTraces = false) (h : w_X10_byAlias g0 p0 p1 Q X) : vx_Met l yX10_byAlias wsX10_byAlias r_X10_byAlias (va_Pc [.ref p0, .int p1] (gPre D cA g0 sz)) (gQi D cA g0 sz (Q)) (gQx D cA g0 sz (X)) 1 6 (gA g0 sz) := by
  refine g_xmet (cc := cX10_byAlias) (maxL := 5) (ret := (some .int)) (own := RX10) (by decide) rfl rfl (Nat.le_of_ble_eq_true rfl) ?_
  intro p e s m args below meth c ls CF hr hlk hnm hxt hc hl
  obtain ⟨hx, hb, hml, hown, hts⟩ := id CF
  have hl : lv_has ls 5 [(0, .ref p0), (1, .int p1)] := hl
  show W p l e r_X10_byAlias s m args below meth c s.heap [] 0 0 (vx_MQ below (gQi D cA g0 sz (Q)) (gQx D cA g0 sz (X)) args s 1 6 (gA g0 sz)) (F0 m 0 ls [])
  have hb_25 : ∀ (r0 : Nat) (i1 : Int32), ∀ (g : gS) (i2 : Int32) (i3 : Int32), lpx3 (l_X10_byAlias_25 r0 i1 Q X) g i2 i3 → ∀ (H : Heap) (locs : List Loc) (ls : Array Slot), gC D cA (gA g0 sz) s g H locs → lv_has ls 5 [(0, .ref r0), (1, .int i1), (2, .int i2), (3, .int i3)] → W p l e r_X10_byAlias s m args below meth c H locs 0 0 (vx_MQ below (gQi D cA g0 sz (Q)) (gQx D cA g0 sz (X)) args s 1 6 (gA g0 sz)) (F0 m 25 ls []) := by
    intro r0 i1
    refine lpx3_run (P := fun (g : gS) (i2 : Int32) (i3 : Int32) => ∀ (H : Heap) (locs : List Loc) (ls : Array Slot), gC D cA (gA g0 sz) s g H locs → lv_has ls 5 [(0, .ref r0), (1, .int i1), (2, .int i2), (3, .int i3)] → W p l e r_X10_byAlias s m args below meth c H locs 0 0 (vx_MQ below (gQi D cA g0 sz (Q)) (gQx D cA g0 sz (X)) args s 1 6 (gA g0 sz)) (F0 m 25 ls [])) ?_
    intro k25 hk_25 g i2 i3 h H locs ls hc hl
    have hb_90 : ∀ (g : gS) (i2 : Int32) (i3 : Int32), b_X10_byAlias_90 g r0 i1 i2 i3 Q X k25 → ∀ (H : Heap) (locs : List Loc) (ls : Array Slot), gC D cA (gA g0 sz) s g H locs → lv_has ls 5 [(0, .ref r0), (1, .int i1), (2, .int i2), (3, .int i3)] → W p l e r_X10_byAlias s m args below meth c H locs 0 0 (vx_MQ below (gQi D cA g0 sz (Q)) (gQx D cA g0 sz (X)) args s 1 6 (gA g0 sz)) (F0 m 90 ls []) := by
      intro g i2 i3 h H locs ls hc hl
      unfold b_X10_byAlias_90 at h
      refine lv_iinc (v := (i3 + 1)) (lv' := [(3, .int (i3 + 1)), (0, .ref r0), (1, .int i1), (2, .int i2)]) hx hb dX10_byAlias_90 hl (k := 3) rfl rfl (by decide) rfl (fun ls hl => ?_)
      refine lv_goto (tgt := 25) hx hb dX10_byAlias_93 (by decide) ?_
      exact hk_25 g i2 (i3 + 1) h _ _ _ hc (lv_sub hl [1, 2, 3, 0] rfl)
    unfold l_X10_byAlias_25 at h
    refine lv_iload_n hx hb dX10_byAlias_25 rfl (lv_at hl 3 rfl) ?_
    refine lv_aload_n hx hb dX10_byAlias_26 rfl (lv_at hl 0 rfl) ?_
    obtain ⟨hk1, h⟩ := h
    obtain ⟨y2, e3, h⟩ := h
    refine g_getr CF hc hk1 rfl (by decide) (fun _ h9 => List.mem_cons_of_mem _ (List.mem_append_left _ (List.mem_append_left _ (List.mem_append_left _ (List.mem_append_left _ (List.mem_append_left _ (List.mem_append_left _ (List.mem_append_left _ (List.mem_append_left _ (List.mem_append_left _ (List.mem_append_right _ (h9)))))))))))) (k := 0) (by decide) (List.mem_cons_of_mem _ (List.mem_append_left _ (List.mem_append_left _ (List.mem_append_left _ (List.mem_append_left _ (List.mem_append_left _ (List.mem_append_left _ (List.mem_append_left _ (List.mem_append_left _ (List.mem_append_left _ (List.mem_append_left _ (List.mem_append_left _ (List.mem_of_getElem? (i := 3) rfl))))))))))))) e3 rfl dX10_byAlias_27 ?_
    obtain ⟨hk4, h⟩ := h
    refine g_get CF hc hk4 rfl (by decide) (fun _ h9 => List.mem_cons_of_mem _ (List.mem_append_left _ (List.mem_append_left _ (List.mem_append_left _ (List.mem_append_left _ (List.mem_append_left _ (List.mem_append_left _ (List.mem_append_left _ (List.mem_append_left _ (List.mem_append_right _ (h9))))))))))) (k := 1) (by decide) (List.mem_cons_of_mem _ (List.mem_append_left _ (List.mem_append_left _ (List.mem_append_left _ (List.mem_append_left _ (List.mem_append_left _ (List.mem_append_left _ (List.mem_append_left _ (List.mem_append_left _ (List.mem_append_left _ (List.mem_append_left _ (List.mem_append_left _ (List.mem_of_getElem? (i := 4) rfl))))))))))))) rfl dX10_byAlias_30 ?_
    refine lv_icmp_ge (tgt := 96) hx hb dX10_byAlias_33 (by decide) (fun c5 => ?_) (fun c5 => ?_)
    · have h := h.1 c5
      refine lv_iload_n hx hb dX10_byAlias_96 rfl (lv_at hl 2 rfl) ?_
      refine W.widen (k := 1) (n := 6) (Nat.le_of_ble_eq_true rfl) (Nat.le_of_ble_eq_true rfl) ?_
      refine vx_ret ?_
      exact g_reti (r := i2) CF hr hlk hc rfl h dX10_byAlias_97
    · have h := h.2 c5
      refine lv_aload_n hx hb dX10_byAlias_36 rfl (lv_at hl 0 rfl) ?_
      obtain ⟨y6, e7, h⟩ := h
      refine g_getr CF hc hk1 rfl (by decide) (fun _ h9 => List.mem_cons_of_mem _ (List.mem_append_left _ (List.mem_append_left _ (List.mem_append_left _ (List.mem_append_left _ (List.mem_append_left _ (List.mem_append_left _ (List.mem_append_left _ (List.mem_append_left _ (List.mem_append_left _ (List.mem_append_right _ (h9)))))))))))) (k := 0) (by decide) (List.mem_cons_of_mem _ (List.mem_append_left _ (List.mem_append_left _ (List.mem_append_left _ (List.mem_append_left _ (List.mem_append_left _ (List.mem_append_left _ (List.mem_append_left _ (List.mem_append_left _ (List.mem_append_left _ (List.mem_append_left _ (List.mem_append_left _ (List.mem_of_getElem? (i := 3) rfl))))))))))))) e7 rfl dX10_byAlias_37 ?_
      refine lv_iload_n hx hb dX10_byAlias_40 rfl (lv_at hl 3 rfl) ?_
      obtain ⟨hk8, h⟩ := h
      refine g_callq (va_runV (As := [.int i3]) (rest := []) CF (c_X0_documentAt h) (cwV 1 hts gX10_byAlias_X0_documentAt rfl rfl rfl (by decide +kernel) ⟨Nat.le_of_ble_eq_true rfl, Nat.le_of_ble_eq_true rfl⟩) (hc.preV hk8 rfl (by decide)) rfl rfl hl.1 rfl (lv_room (Nat.le_of_ble_eq_true rfl)) dX10_byAlias_41 ⟨Nat.le_of_ble_eq_true rfl, Nat.le_of_ble_eq_true rfl⟩) hc (fun o9 gq10 H locs hq hc => ?_)
      obtain ⟨rfl, h⟩ := hq
      refine g_astoreq (lv' := [(4, va_rf o9), (0, .ref r0), (1, .int i1), (2, .int i2), (3, .int i3)]) CF dX10_byAlias_44 hl (by decide) rfl (fun ls hl => ?_)
      refine g_aloadq CF dX10_byAlias_46 (lv_at hl 0 rfl) ?_
      refine g_ifnull (tgt := 90) CF dX10_byAlias_48 (by decide) (fun e12 => ?_) (fun y11 e12 => ?_)
      · have hu32 := h.1 e12
        subst e12
        have h := hu32
        exact hb_90 g i2 i3 h _ _ _ hc (lv_sub hl [1, 2, 3, 4] rfl)
      · have hu32 := h.2 y11 e12
        subst e12
        have h := hu32
        refine lv_aload hx hb dX10_byAlias_51 (lv_at hl 0 rfl) ?_
        obtain ⟨hk13, h⟩ := h
        refine g_calli (va_runV (As := []) (rest := []) CF (c_X2_canBeFound h) (cwV 0 hts gX10_byAlias_X2_canBeFound rfl rfl rfl (by decide +kernel) ⟨Nat.le_of_ble_eq_true rfl, Nat.le_of_ble_eq_true rfl⟩) (hc.preV hk13 rfl (by decide)) rfl rfl hl.1 rfl (lv_room (Nat.le_of_ble_eq_true rfl)) dX10_byAlias_53 ⟨Nat.le_of_ble_eq_true rfl, Nat.le_of_ble_eq_true rfl⟩) hc (fun x14 gq15 H locs hq hc => ?_)
        obtain ⟨rfl, h⟩ := hq
        refine lv_if_eq (tgt := 90) hx hb dX10_byAlias_56 (by decide) (fun c16 => ?_) (fun c16 => ?_)
        · have h := h.1 c16
          exact hb_90 g i2 i3 h _ _ _ hc (lv_sub hl [1, 2, 3, 4] rfl)
        · have h := h.2 c16
          refine lv_aload_n hx hb dX10_byAlias_59 rfl (lv_at hl 1 rfl) ?_
          obtain ⟨y17, e18, h⟩ := h
          refine g_getr CF hc hk1 rfl (by decide) (fun _ h9 => List.mem_cons_of_mem _ (List.mem_append_left _ (List.mem_append_left _ (List.mem_append_left _ (List.mem_append_left _ (List.mem_append_left _ (List.mem_append_left _ (List.mem_append_left _ (List.mem_append_left _ (List.mem_append_left _ (List.mem_append_right _ (h9)))))))))))) (k := 6) (by decide) (List.mem_cons_of_mem _ (List.mem_append_left _ (List.mem_append_left _ (List.mem_append_left _ (List.mem_append_left _ (List.mem_append_left _ (List.mem_append_left _ (List.mem_append_left _ (List.mem_append_left _ (List.mem_append_left _ (List.mem_append_left _ (List.mem_append_left _ (List.mem_of_getElem? (i := 5) rfl))))))))))))) e18 rfl dX10_byAlias_60 ?_
          refine lv_aload hx hb dX10_byAlias_63 (lv_at hl 0 rfl) ?_
          refine lv_iload_n hx hb dX10_byAlias_65 rfl (lv_at hl 2 rfl) ?_
          obtain ⟨hk19, h⟩ := h
          refine g_calli (va_runV (As := [va_rf (some y11), .int i1]) (rest := []) CF (c_X8_scoreOf h) (cwV 2 hts gX10_byAlias_X8_scoreOf rfl rfl rfl (by decide +kernel) ⟨Nat.le_of_ble_eq_true rfl, Nat.le_of_ble_eq_true rfl⟩) (hc.preV hk19 rfl (by decide)) rfl rfl hl.1 rfl (lv_room (Nat.le_of_ble_eq_true rfl)) dX10_byAlias_66 ⟨Nat.le_of_ble_eq_true rfl, Nat.le_of_ble_eq_true rfl⟩) hc (fun x20 g21 H locs hq hc => ?_)
          replace h := hq
          refine lv_iconst (v := (-1)) hx hb dX10_byAlias_69 (by decide) ?_
          refine lv_icmp_eq (tgt := 90) hx hb dX10_byAlias_70 (by decide) (fun c23 => ?_) (fun c23 => ?_)
          · have h := h.1 c23
            exact hb_90 g21 i2 i3 h _ _ _ hc (lv_sub hl [1, 2, 3, 4] rfl)
          · have h := h.2 c23
            refine lv_aload_n hx hb dX10_byAlias_73 rfl (lv_at hl 1 rfl) ?_
            obtain ⟨hk24, h⟩ := h
            obtain ⟨y25, e26, h⟩ := h
            refine g_getr CF hc hk24 rfl (by decide) (fun _ h9 => List.mem_cons_of_mem _ (List.mem_append_left _ (List.mem_append_left _ (List.mem_append_left _ (List.mem_append_left _ (List.mem_append_left _ (List.mem_append_left _ (List.mem_append_left _ (List.mem_append_left _ (List.mem_append_left _ (List.mem_append_right _ (h9)))))))))))) (k := 7) (by decide) (List.mem_cons_of_mem _ (List.mem_append_left _ (List.mem_append_left _ (List.mem_append_left _ (List.mem_append_left _ (List.mem_append_left _ (List.mem_append_left _ (List.mem_append_left _ (List.mem_append_left _ (List.mem_append_left _ (List.mem_append_left _ (List.mem_append_left _ (List.mem_of_getElem? (i := 6) rfl))))))))))))) e26 rfl dX10_byAlias_74 ?_
            refine lv_aload hx hb dX10_byAlias_77 (lv_at hl 0 rfl) ?_
            refine lv_iload_n hx hb dX10_byAlias_79 rfl (lv_at hl 2 rfl) ?_
            obtain ⟨hk27, h⟩ := h
            refine g_calli (va_runV (As := [va_rf (some y11), .int i1]) (rest := []) CF (c_X8_scoreOf h) (cwV 2 hts gX10_byAlias_X8_scoreOf rfl rfl rfl (by decide +kernel) ⟨Nat.le_of_ble_eq_true rfl, Nat.le_of_ble_eq_true rfl⟩) (hc.preV hk27 rfl (by decide)) rfl rfl hl.1 rfl (lv_room (Nat.le_of_ble_eq_true rfl)) dX10_byAlias_80 ⟨Nat.le_of_ble_eq_true rfl, Nat.le_of_ble_eq_true rfl⟩) hc (fun x28 g29 H locs hq hc => ?_)
            replace h := hq
            refine lv_iconst (v := (-1)) hx hb dX10_byAlias_83 (by decide) ?_
            refine lv_icmp_ne (tgt := 90) hx hb dX10_byAlias_84 (by decide) (fun c31 => ?_) (fun c31 => ?_)
            · have h := h.2 c31
              exact hb_90 g29 i2 i3 h _ _ _ hc (lv_sub hl [1, 2, 3, 4] rfl)
            · have h := h.1 c31
              refine lv_iinc (v := (i2 + 1)) (lv' := [(2, .int (i2 + 1)), (4, .ref y11), (0, .ref r0), (1, .int i1), (3, .int i3)]) hx hb dX10_byAlias_87 hl (k := 3) rfl rfl (by decide) rfl (fun ls hl => ?_)
              exact hb_90 g29 (i2 + 1) i3 h _ _ _ hc (lv_sub hl [2, 3, 0, 4] rfl)
  unfold w_X10_byAlias at h
  obtain ⟨H, hH0⟩ : ∃ z, z = s.heap := ⟨_, rfl⟩
  rw [← hH0] at hc ⊢
  obtain ⟨locs, hlc0⟩ : ∃ z : List Loc, z = [] := ⟨_, rfl⟩
  rw [← hlc0] at hc ⊢
  refine lv_aload_n hx hb dX10_byAlias_0 rfl (lv_at hl 0 rfl) ?_
  obtain ⟨hk33, h⟩ := h
  obtain ⟨y34, e35, h⟩ := h
  refine g_getr CF hc hk33 rfl (by decide) (fun _ h9 => List.mem_cons_of_mem _ (List.mem_append_left _ (List.mem_append_left _ (List.mem_append_left _ (List.mem_append_left _ (List.mem_append_left _ (List.mem_append_left _ (List.mem_append_left _ (List.mem_append_left _ (List.mem_append_left _ (List.mem_append_right _ (h9)))))))))))) (k := 2) (by decide) (List.mem_cons_of_mem _ (List.mem_append_left _ (List.mem_append_left _ (List.mem_append_left _ (List.mem_append_left _ (List.mem_append_left _ (List.mem_append_left _ (List.mem_append_left _ (List.mem_append_left _ (List.mem_append_left _ (List.mem_append_left _ (List.mem_append_left _ (List.mem_of_getElem? (i := 2) rfl))))))))))))) e35 rfl dX10_byAlias_1 ?_
  refine lv_iload_n hx hb dX10_byAlias_4 rfl (lv_at hl 1 rfl) ?_
  obtain ⟨hk36, h⟩ := h
  refine g_calli (va_runV (As := [.int p1]) (rest := []) CF (c_X6_hasNode h) (cwV 1 hts gX10_byAlias_X6_hasNode rfl rfl rfl (by decide +kernel) ⟨Nat.le_of_ble_eq_true rfl, Nat.le_of_ble_eq_true rfl⟩) (hc.preV hk36 rfl (by decide)) rfl rfl hl.1 rfl (lv_room (Nat.le_of_ble_eq_true rfl)) dX10_byAlias_5 ⟨Nat.le_of_ble_eq_true rfl, Nat.le_of_ble_eq_true rfl⟩) hc (fun x37 gq38 H locs hq hc => ?_)
  obtain ⟨rfl, h⟩ := hq
  refine lv_if_ne (tgt := 21) hx hb dX10_byAlias_8 (by decide) (fun c39 => ?_) (fun c39 => ?_)
  · have h := h.2 c39
    refine lv_iconst (v := 0) hx hb dX10_byAlias_21 (by decide) ?_
    refine lv_istore_n (lv' := [(2, .int 0), (0, .ref p0), (1, .int p1)]) hx hb dX10_byAlias_22 rfl hl (by decide) rfl (fun ls hl => ?_)
    refine lv_iconst (v := 0) hx hb dX10_byAlias_23 (by decide) ?_
    refine lv_istore_n (lv' := [(3, .int 0), (2, .int 0), (0, .ref p0), (1, .int p1)]) hx hb dX10_byAlias_24 rfl hl (by decide) rfl (fun ls hl => ?_)
    exact hb_25 p0 p1 g0 0 0 h _ _ _ hc (lv_sub hl [2, 3, 1, 0] rfl)
  · have h := h.1 c39
    exact g_throwS CF hflags hc (cls := "java/lang/IndexOutOfBoundsException") (text := "there is no such node") (names := ["java/lang/RuntimeException", "java/lang/Exception"]) (ik := 151) (is := 252) (ic := 155) (by decide) (by decide) (List.mem_cons_of_mem _ (List.mem_append_left _ (List.mem_append_left _ (List.mem_append_left _ (List.mem_append_left _ (List.mem_append_left _ (List.mem_append_left _ (List.mem_append_left _ (List.mem_append_left _ (List.mem_append_left _ (List.mem_append_left _ (List.mem_append_left _ (List.mem_of_getElem? (i := 0) rfl))))))))))))) (List.mem_cons_of_mem _ (List.mem_append_left _ (List.mem_append_left _ (List.mem_append_left _ (List.mem_append_left _ (List.mem_append_left _ (List.mem_append_left _ (List.mem_append_left _ (List.mem_append_left _ (List.mem_append_left _ (List.mem_append_left _ (List.mem_append_left _ (List.mem_of_getElem? (i := 1) rfl))))))))))))) (by decide +kernel) (fun _ h9 => List.mem_cons_of_mem _ (List.mem_append_right _ (h9))) ex_155_2 ex_ot ex_151_155_3 hl.1 dX10_byAlias_11 dX10_byAlias_14 dX10_byAlias_15 dX10_byAlias_17 dX10_byAlias_20 hxt (Nat.le_of_ble_eq_true rfl) (Nat.le_of_ble_eq_true rfl) (Nat.le_of_ble_eq_true rfl) (Nat.le_of_ble_eq_true rfl) hlk h (Nat.le_of_ble_eq_true rfl) (Nat.le_of_ble_eq_true rfl)
def b_X10_wouldScore_24 (g : gS) (Q : Int32 → gS → Prop) (X : String → gS → Prop) : Prop :=
  X "java/lang/IndexOutOfBoundsException" g
def w_X10_wouldScore (g0 : gS) (p0 : Nat) (p1 : Int32) (p2 : Int32) (Q : Int32 → gS → Prop) (X : String → gS → Prop) : Prop :=
  gK g0 p0 = 11 ∧ (∃ y2, gR g0 p0 0 = some y2 ∧ (gK g0 y2 = 1 ∧ (w_X0_documentAt g0 y2 p2 (fun o5 => (∃ y7, gR g0 p0 2 = some y7 ∧ (gK g0 y7 = 7 ∧ (w_X6_hasNode g0 y7 p1 (fun x10 => ((x10 = 0 → (b_X10_wouldScore_24 g0 Q X)) ∧ (¬ x10 = 0 → ((o5 = none → (b_X10_wouldScore_24 g0 Q X)) ∧ (∀ y13, o5 = some y13 → (gK g0 y13 = 3 ∧ (((gI g0 y13 4) = 0 → (∃ y17, gR g0 p0 0 = some y17 ∧ (∃ y19, gR g0 p0 5 = some y19 ∧ (gK g0 y17 = 1 ∧ (w_X0_countSurvivors g0 y17 y19 (fun g23 => (gK g23 p0 = 11 ∧ (∃ y26, gR g23 p0 8 = some y26 ∧ (gK g23 y26 = 9 ∧ (w_X8_scoreOf g23 y26 (some y13) p1 (fun x29 g30 => (Q x29 g30)))))))))))) ∧ (¬ (gI g0 y13 4) = 0 → (Q (-1) g0))))))))))))))))
abbrev r_X10_wouldScore : Room := { frames := 6, cells := 1, slots := 6, locals := 127 }
set_option maxHeartbeats 4000000 in
set_option maxRecDepth 100000 in
theorem c_X10_wouldScore {l : Launch} {D : va_G} {cA : Nat → ClassId} {sz : Nat} {g0 : gS} {p0 : Nat} {p1 : Int32} {p2 : Int32} {Q : Int32 → gS → Prop} {X : String → gS → Prop} (hflags : l.stackTraces = false) (h : w_X10_wouldScore g0 p0 p1 p2 Q X) : vx_Met l yX10_wouldScore wsX10_wouldScore r_X10_wouldScore (va_Pc [.ref p0, .int p1, .int p2] (gPre D cA g0 sz)) (gQi D cA g0 sz (Q)) (gQx D cA g0 sz (X)) 1 6 (gA g0 sz) := by
  refine g_xmet (cc := cX10_wouldScore) (maxL := 4) (ret := (some .int)) (own := RX10) (by decide) rfl rfl (Nat.le_of_ble_eq_true rfl) ?_
  intro p e s m args below meth c ls CF hr hlk hnm hxt hc hl
  obtain ⟨hx, hb, hml, hown, hts⟩ := id CF
  have hl : lv_has ls 4 [(0, .ref p0), (1, .int p1), (2, .int p2)] := hl
  show W p l e r_X10_wouldScore s m args below meth c s.heap [] 0 0 (vx_MQ below (gQi D cA g0 sz (Q)) (gQx D cA g0 sz (X)) args s 1 6 (gA g0 sz)) (F0 m 0 ls [])
  have hb_24 : ∀ (g : gS), b_X10_wouldScore_24 g Q X → ∀ (H : Heap) (locs : List Loc) (ls : Array Slot), gC D cA (gA g0 sz) s g H locs → lv_has ls 4 [] → W p l e r_X10_wouldScore s m args below meth c H locs 0 0 (vx_MQ below (gQi D cA g0 sz (Q)) (gQx D cA g0 sz (X)) args s 1 6 (gA g0 sz)) (F0 m 24 ls []) := by
    intro g h H locs ls hc hl
    unfold b_X10_wouldScore_24 at h
    exact g_throwSW CF hflags hc (cls := "java/lang/IndexOutOfBoundsException") (text := "there is no such node or document") (names := ["java/lang/RuntimeException", "java/lang/Exception"]) (ik := 151) (is := 305) (ic := 155) (by decide) (by decide) (List.mem_cons_of_mem _ (List.mem_append_left _ (List.mem_append_left _ (List.mem_append_left _ (List.mem_append_left _ (List.mem_append_left _ (List.mem_append_left _ (List.mem_append_left _ (List.mem_append_left _ (List.mem_append_left _ (List.mem_append_left _ (List.mem_append_left _ (List.mem_of_getElem? (i := 0) rfl))))))))))))) (List.mem_cons_of_mem _ (List.mem_append_left _ (List.mem_append_left _ (List.mem_append_left _ (List.mem_append_left _ (List.mem_append_left _ (List.mem_append_left _ (List.mem_append_left _ (List.mem_append_left _ (List.mem_append_left _ (List.mem_append_left _ (List.mem_append_left _ (List.mem_of_getElem? (i := 1) rfl))))))))))))) (by decide +kernel) (fun _ h9 => List.mem_cons_of_mem _ (List.mem_append_right _ (h9))) ex_155_2 ex_ot ex_151_155_3 hl.1 dX10_wouldScore_24 dX10_wouldScore_27 dX10_wouldScore_28 dX10_wouldScore_31 dX10_wouldScore_34 hxt (Nat.le_of_ble_eq_true rfl) (Nat.le_of_ble_eq_true rfl) (Nat.le_of_ble_eq_true rfl) (Nat.le_of_ble_eq_true rfl) hlk h (Nat.le_of_ble_eq_true rfl) (Nat.le_of_ble_eq_true rfl)
  unfold w_X10_wouldScore at h
  obtain ⟨H, hH0⟩ : ∃ z, z = s.heap := ⟨_, rfl⟩
  rw [← hH0] at hc ⊢
  obtain ⟨locs, hlc0⟩ : ∃ z : List Loc, z = [] := ⟨_, rfl⟩
  rw [← hlc0] at hc ⊢
  refine lv_aload_n hx hb dX10_wouldScore_0 rfl (lv_at hl 0 rfl) ?_
  obtain ⟨hk1, h⟩ := h
  obtain ⟨y2, e3, h⟩ := h
  refine g_getr CF hc hk1 rfl (by decide) (fun _ h9 => List.mem_cons_of_mem _ (List.mem_append_left _ (List.mem_append_left _ (List.mem_append_left _ (List.mem_append_left _ (List.mem_append_left _ (List.mem_append_left _ (List.mem_append_left _ (List.mem_append_left _ (List.mem_append_left _ (List.mem_append_right _ (h9)))))))))))) (k := 0) (by decide) (List.mem_cons_of_mem _ (List.mem_append_left _ (List.mem_append_left _ (List.mem_append_left _ (List.mem_append_left _ (List.mem_append_left _ (List.mem_append_left _ (List.mem_append_left _ (List.mem_append_left _ (List.mem_append_left _ (List.mem_append_left _ (List.mem_append_left _ (List.mem_of_getElem? (i := 2) rfl))))))))))))) e3 rfl dX10_wouldScore_1 ?_
  refine lv_iload_n hx hb dX10_wouldScore_4 rfl (lv_at hl 2 rfl) ?_
  obtain ⟨hk4, h⟩ := h
  refine g_callq (va_runV (As := [.int p2]) (rest := []) CF (c_X0_documentAt h) (cwV 1 hts gX10_wouldScore_X0_documentAt rfl rfl rfl (by decide +kernel) ⟨Nat.le_of_ble_eq_true rfl, Nat.le_of_ble_eq_true rfl⟩) (hc.preV hk4 rfl (by decide)) rfl rfl hl.1 rfl (lv_room (Nat.le_of_ble_eq_true rfl)) dX10_wouldScore_5 ⟨Nat.le_of_ble_eq_true rfl, Nat.le_of_ble_eq_true rfl⟩) hc (fun o5 gq6 H locs hq hc => ?_)
  obtain ⟨rfl, h⟩ := hq
  refine g_astore_nq (lv' := [(3, va_rf o5), (0, .ref p0), (1, .int p1), (2, .int p2)]) CF dX10_wouldScore_8 rfl hl (by decide) rfl (fun ls hl => ?_)
  refine lv_aload_n hx hb dX10_wouldScore_9 rfl (lv_at hl 1 rfl) ?_
  obtain ⟨y7, e8, h⟩ := h
  refine g_getr CF hc hk1 rfl (by decide) (fun _ h9 => List.mem_cons_of_mem _ (List.mem_append_left _ (List.mem_append_left _ (List.mem_append_left _ (List.mem_append_left _ (List.mem_append_left _ (List.mem_append_left _ (List.mem_append_left _ (List.mem_append_left _ (List.mem_append_left _ (List.mem_append_right _ (h9)))))))))))) (k := 2) (by decide) (List.mem_cons_of_mem _ (List.mem_append_left _ (List.mem_append_left _ (List.mem_append_left _ (List.mem_append_left _ (List.mem_append_left _ (List.mem_append_left _ (List.mem_append_left _ (List.mem_append_left _ (List.mem_append_left _ (List.mem_append_left _ (List.mem_append_left _ (List.mem_of_getElem? (i := 3) rfl))))))))))))) e8 rfl dX10_wouldScore_10 ?_
  refine lv_iload_n hx hb dX10_wouldScore_13 rfl (lv_at hl 2 rfl) ?_
  obtain ⟨hk9, h⟩ := h
  refine g_calli (va_runV (As := [.int p1]) (rest := []) CF (c_X6_hasNode h) (cwV 1 hts gX10_wouldScore_X6_hasNode rfl rfl rfl (by decide +kernel) ⟨Nat.le_of_ble_eq_true rfl, Nat.le_of_ble_eq_true rfl⟩) (hc.preV hk9 rfl (by decide)) rfl rfl hl.1 rfl (lv_room (Nat.le_of_ble_eq_true rfl)) dX10_wouldScore_14 ⟨Nat.le_of_ble_eq_true rfl, Nat.le_of_ble_eq_true rfl⟩) hc (fun x10 gq11 H locs hq hc => ?_)
  obtain ⟨rfl, h⟩ := hq
  refine lv_if_eq (tgt := 24) hx hb dX10_wouldScore_17 (by decide) (fun c12 => ?_) (fun c12 => ?_)
  · have h := h.1 c12
    exact hb_24 g0 h _ _ _ hc (lv_sub hl [] rfl)
  · have h := h.2 c12
    refine g_aload_nq CF dX10_wouldScore_20 rfl (lv_at hl 0 rfl) ?_
    refine g_ifnonnull (tgt := 35) CF dX10_wouldScore_21 (by decide) (fun y13 e14 => ?_) (fun e14 => ?_)
    · have hu32 := h.2 y13 e14
      subst e14
      have h := hu32
      refine lv_aload_n hx hb dX10_wouldScore_35 rfl (lv_at hl 0 rfl) ?_
      obtain ⟨hk15, h⟩ := h
      refine g_get CF hc hk15 rfl (by decide) (fun _ h9 => List.mem_cons_of_mem _ (List.mem_append_left _ (List.mem_append_left _ (List.mem_append_left _ (List.mem_append_left _ (List.mem_append_left _ (List.mem_append_left _ (List.mem_append_left _ (List.mem_append_left _ (List.mem_append_right _ (h9))))))))))) (k := 4) (by decide) (List.mem_cons_of_mem _ (List.mem_append_left _ (List.mem_append_left _ (List.mem_append_left _ (List.mem_append_left _ (List.mem_append_left _ (List.mem_append_left _ (List.mem_append_left _ (List.mem_append_left _ (List.mem_append_left _ (List.mem_append_left _ (List.mem_append_left _ (List.mem_of_getElem? (i := 4) rfl))))))))))))) rfl dX10_wouldScore_36 ?_
      refine lv_if_eq (tgt := 44) hx hb dX10_wouldScore_39 (by decide) (fun c16 => ?_) (fun c16 => ?_)
      · have h := h.1 c16
        refine lv_aload_n hx hb dX10_wouldScore_44 rfl (lv_at hl 1 rfl) ?_
        obtain ⟨y17, e18, h⟩ := h
        refine g_getr CF hc hk1 rfl (by decide) (fun _ h9 => List.mem_cons_of_mem _ (List.mem_append_left _ (List.mem_append_left _ (List.mem_append_left _ (List.mem_append_left _ (List.mem_append_left _ (List.mem_append_left _ (List.mem_append_left _ (List.mem_append_left _ (List.mem_append_left _ (List.mem_append_right _ (h9)))))))))))) (k := 0) (by decide) (List.mem_cons_of_mem _ (List.mem_append_left _ (List.mem_append_left _ (List.mem_append_left _ (List.mem_append_left _ (List.mem_append_left _ (List.mem_append_left _ (List.mem_append_left _ (List.mem_append_left _ (List.mem_append_left _ (List.mem_append_left _ (List.mem_append_left _ (List.mem_of_getElem? (i := 2) rfl))))))))))))) e18 rfl dX10_wouldScore_45 ?_
        refine lv_aload_n hx hb dX10_wouldScore_48 rfl (lv_at hl 1 rfl) ?_
        obtain ⟨y19, e20, h⟩ := h
        refine g_getr CF hc hk1 rfl (by decide) (fun _ h9 => List.mem_cons_of_mem _ (List.mem_append_left _ (List.mem_append_left _ (List.mem_append_left _ (List.mem_append_left _ (List.mem_append_left _ (List.mem_append_left _ (List.mem_append_left _ (List.mem_append_left _ (List.mem_append_left _ (List.mem_append_right _ (h9)))))))))))) (k := 5) (by decide) (List.mem_cons_of_mem _ (List.mem_append_left _ (List.mem_append_left _ (List.mem_append_left _ (List.mem_append_left _ (List.mem_append_left _ (List.mem_append_left _ (List.mem_append_left _ (List.mem_append_left _ (List.mem_append_left _ (List.mem_append_left _ (List.mem_append_left _ (List.mem_of_getElem? (i := 5) rfl))))))))))))) e20 rfl dX10_wouldScore_49 ?_
        obtain ⟨hk21, h⟩ := h
        refine g_callv (va_runV (As := [.ref y19]) (rest := []) CF (c_X0_countSurvivors h) (cwV 1 hts gX10_wouldScore_X0_countSurvivors rfl rfl rfl (by decide +kernel) ⟨Nat.le_of_ble_eq_true rfl, Nat.le_of_ble_eq_true rfl⟩) (hc.preV hk21 rfl (by decide)) rfl rfl hl.1 rfl (lv_room (Nat.le_of_ble_eq_true rfl)) dX10_wouldScore_52 ⟨Nat.le_of_ble_eq_true rfl, Nat.le_of_ble_eq_true rfl⟩) hc (fun g23 H locs hq hc => ?_)
        replace h := hq
        refine lv_aload_n hx hb dX10_wouldScore_55 rfl (lv_at hl 1 rfl) ?_
        obtain ⟨hk25, h⟩ := h
        obtain ⟨y26, e27, h⟩ := h
        refine g_getr CF hc hk25 rfl (by decide) (fun _ h9 => List.mem_cons_of_mem _ (List.mem_append_left _ (List.mem_append_left _ (List.mem_append_left _ (List.mem_append_left _ (List.mem_append_left _ (List.mem_append_left _ (List.mem_append_left _ (List.mem_append_left _ (List.mem_append_left _ (List.mem_append_right _ (h9)))))))))))) (k := 8) (by decide) (List.mem_cons_of_mem _ (List.mem_append_left _ (List.mem_append_left _ (List.mem_append_left _ (List.mem_append_left _ (List.mem_append_left _ (List.mem_append_left _ (List.mem_append_left _ (List.mem_append_left _ (List.mem_append_left _ (List.mem_append_left _ (List.mem_append_left _ (List.mem_of_getElem? (i := 6) rfl))))))))))))) e27 rfl dX10_wouldScore_56 ?_
        refine lv_aload_n hx hb dX10_wouldScore_59 rfl (lv_at hl 0 rfl) ?_
        refine lv_iload_n hx hb dX10_wouldScore_60 rfl (lv_at hl 2 rfl) ?_
        obtain ⟨hk28, h⟩ := h
        refine g_calli (va_runV (As := [va_rf (some y13), .int p1]) (rest := []) CF (c_X8_scoreOf h) (cwV 2 hts gX10_wouldScore_X8_scoreOf rfl rfl rfl (by decide +kernel) ⟨Nat.le_of_ble_eq_true rfl, Nat.le_of_ble_eq_true rfl⟩) (hc.preV hk28 rfl (by decide)) rfl rfl hl.1 rfl (lv_room (Nat.le_of_ble_eq_true rfl)) dX10_wouldScore_61 ⟨Nat.le_of_ble_eq_true rfl, Nat.le_of_ble_eq_true rfl⟩) hc (fun x29 g30 H locs hq hc => ?_)
        replace h := hq
        refine W.widen (k := 1) (n := 6) (Nat.le_of_ble_eq_true rfl) (Nat.le_of_ble_eq_true rfl) ?_
        refine vx_ret ?_
        exact g_reti (r := x29) CF hr hlk hc rfl h dX10_wouldScore_64
      · have h := h.2 c16
        refine lv_iconst (v := (-1)) hx hb dX10_wouldScore_42 (by decide) ?_
        refine W.widen (k := 1) (n := 6) (Nat.le_of_ble_eq_true rfl) (Nat.le_of_ble_eq_true rfl) ?_
        refine vx_ret ?_
        exact g_reti (r := (-1)) CF hr hlk hc rfl h dX10_wouldScore_43
    · have hu32 := h.1 e14
      subst e14
      have h := hu32
      exact hb_24 g0 h _ _ _ hc (lv_sub hl [] rfl)
def b_X10_waste_30 (g : gS) (ds0 : UInt64) (Q : UInt64 → Prop) : Prop :=
  Q ds0
def w_X10_waste (g : gS) (p0 : Nat) (Q : UInt64 → Prop) : Prop :=
  gK g p0 = 11 ∧ (∃ y2, gR g p0 0 = some y2 ∧ (gK g y2 = 1 ∧ (∃ y5, gR g y2 5 = some y5 ∧ (gK g y5 = 2 ∧ ((0 < (gI g y5 2) → (∃ y9, gR g p0 0 = some y9 ∧ (gK g y9 = 1 ∧ (w_X0_goneInSegments g y9 (fun x12 => (vf_n64 (FP.ddiv (FP.i2d x12) (FP.i2d (gI g y5 2))) ∧ (b_X10_waste_30 g (FP.ddiv (FP.i2d x12) (FP.i2d (gI g y5 2))) Q))))))) ∧ (¬ 0 < (gI g y5 2) → (b_X10_waste_30 g (0 : UInt64) Q)))))))
abbrev r_X10_waste : Room := { frames := 2, cells := 0, slots := 0, locals := 44 }
set_option maxHeartbeats 4000000 in
set_option maxRecDepth 100000 in
theorem c_X10_waste {l : Launch} {D : va_G} {cA : Nat → ClassId} {sz : Nat} {g : gS} {p0 : Nat} {Q : UInt64 → Prop} (h : w_X10_waste g p0 Q) : Met l yX10_waste wsX10_waste r_X10_waste (va_Pc [.ref p0] (gPre D cA g sz)) (gQd D cA g sz (fun r g2 => g = g2 ∧ Q r)) 0 0 (gA g sz) := by
  refine g_met (cc := cX10_waste) (maxL := 2) (ret := (some .double)) (own := RX10) (by decide) rfl rfl (Nat.le_of_ble_eq_true rfl) ?_
  intro p e s m args below meth c ls CF hr hlk hnm hc hl
  obtain ⟨hx, hb, hml, hown, hts⟩ := id CF
  have hl : lv_has ls 2 [(0, .ref p0)] := hl
  show W p l e r_X10_waste s m args below meth c s.heap [] 0 0 (MQ below (gQd D cA g sz (fun r g2 => g = g2 ∧ Q r)) args s 0 0 (gA g sz)) (F0 m 0 ls [])
  have hb_30 : ∀ (ds0 : UInt64), b_X10_waste_30 g ds0 Q → ∀ (H : Heap) (locs : List Loc) (ls : Array Slot), gC D cA (gA g sz) s g H locs → lv_has ls 2 [] → W p l e r_X10_waste s m args below meth c H locs 0 0 (MQ below (gQd D cA g sz (fun r g2 => g = g2 ∧ Q r)) args s 0 0 (gA g sz)) (F0 m 30 ls [.double ds0]) := by
    intro ds0 h H locs ls hc hl
    unfold b_X10_waste_30 at h
    exact g_retd (r := ds0) CF hr hlk hc ⟨rfl, h⟩ dX10_waste_30
  unfold w_X10_waste at h
  obtain ⟨H, hH0⟩ : ∃ z, z = s.heap := ⟨_, rfl⟩
  rw [← hH0] at hc ⊢
  obtain ⟨locs, hlc0⟩ : ∃ z : List Loc, z = [] := ⟨_, rfl⟩
  rw [← hlc0] at hc ⊢
  refine lv_aload_n hx hb dX10_waste_0 rfl (lv_at hl 0 rfl) ?_
  obtain ⟨hk1, h⟩ := h
  obtain ⟨y2, e3, h⟩ := h
  refine g_getr CF hc hk1 rfl (by decide) (fun _ h9 => List.mem_cons_of_mem _ (List.mem_append_left _ (List.mem_append_left _ (List.mem_append_left _ (List.mem_append_right _ (h9)))))) (k := 0) (by decide) (List.mem_cons_of_mem _ (List.mem_append_left _ (List.mem_append_left _ (List.mem_append_left _ (List.mem_append_left _ (List.mem_of_getElem? (i := 0) rfl)))))) e3 rfl dX10_waste_1 ?_
  obtain ⟨hk4, h⟩ := h
  obtain ⟨y5, e6, h⟩ := h
  refine g_getr CF hc hk4 rfl (by decide) (fun _ h9 => List.mem_cons_of_mem _ (List.mem_append_left _ (List.mem_append_left _ (List.mem_append_right _ (h9))))) (k := 5) (by decide) (List.mem_cons_of_mem _ (List.mem_append_left _ (List.mem_append_left _ (List.mem_append_left _ (List.mem_append_left _ (List.mem_of_getElem? (i := 1) rfl)))))) e6 rfl dX10_waste_4 ?_
  obtain ⟨hk7, h⟩ := h
  refine g_get CF hc hk7 rfl (by decide) (fun _ h9 => List.mem_cons_of_mem _ (List.mem_append_left _ (List.mem_append_right _ (h9)))) (k := 2) (by decide) (List.mem_cons_of_mem _ (List.mem_append_left _ (List.mem_append_left _ (List.mem_append_left _ (List.mem_append_left _ (List.mem_of_getElem? (i := 2) rfl)))))) rfl dX10_waste_7 ?_
  refine lv_istore_n (lv' := [(1, .int (gI g y5 2)), (0, .ref p0)]) hx hb dX10_waste_10 rfl hl (by decide) rfl (fun ls hl => ?_)
  refine lv_iload_n hx hb dX10_waste_11 rfl (lv_at hl 0 rfl) ?_
  refine lv_if_gt (tgt := 19) hx hb dX10_waste_12 (by decide) (fun c8 => ?_) (fun c8 => ?_)
  · have h := h.1 c8
    refine lv_aload_n hx hb dX10_waste_19 rfl (lv_at hl 1 rfl) ?_
    obtain ⟨y9, e10, h⟩ := h
    refine g_getr CF hc hk1 rfl (by decide) (fun _ h9 => List.mem_cons_of_mem _ (List.mem_append_left _ (List.mem_append_left _ (List.mem_append_left _ (List.mem_append_right _ (h9)))))) (k := 0) (by decide) (List.mem_cons_of_mem _ (List.mem_append_left _ (List.mem_append_left _ (List.mem_append_left _ (List.mem_append_left _ (List.mem_of_getElem? (i := 0) rfl)))))) e10 rfl dX10_waste_20 ?_
    obtain ⟨hk11, h⟩ := h
    refine g_calli (va_runV (As := []) (rest := []) CF (c_X0_goneInSegments h) (cwV 0 hts gX10_waste_X0_goneInSegments rfl rfl rfl (by decide +kernel) ⟨Nat.le_of_ble_eq_true rfl, Nat.le_of_ble_eq_true rfl⟩) (hc.preV hk11 rfl (by decide)) rfl rfl hl.1 rfl (lv_room (Nat.le_of_ble_eq_true rfl)) dX10_waste_23 ⟨Nat.le_of_ble_eq_true rfl, Nat.le_of_ble_eq_true rfl⟩) hc (fun x12 gq13 H locs hq hc => ?_)
    obtain ⟨rfl, h⟩ := hq
    refine lv_i2d hx hb dX10_waste_26 ?_
    refine lv_iload_n hx hb dX10_waste_27 rfl (lv_at hl 0 rfl) ?_
    refine lv_i2d hx hb dX10_waste_28 ?_
    obtain ⟨hz14, h⟩ := h
    refine lv_ddiv hx hb dX10_waste_29 hz14 ?_
    exact hb_30 (FP.ddiv (FP.i2d x12) (FP.i2d (gI g y5 2))) h _ _ _ hc (lv_sub hl [] rfl)
  · have h := h.2 c8
    refine lv_dconst0 hx hb dX10_waste_15 ?_
    refine lv_goto (tgt := 30) hx hb dX10_waste_16 (by decide) ?_
    exact hb_30 (0 : UInt64) h _ _ _ hc (lv_sub hl [] rfl)
def l_X10_addArchive_87 (g : gS) (r0 : Nat) (Q : Int64 → Prop) (j3 : Int64) (i5 : Int32) (k87 : Int64 → Int32 → Prop) : Prop :=
  gK g r0 = 11 ∧ (∃ y2, gR g r0 0 = some y2 ∧ (gK g y2 = 1 ∧ (((gI g y2 4) ≤ i5 → (Q j3)) ∧ (¬ (gI g y2 4) ≤ i5 → (∃ y6, gR g r0 0 = some y6 ∧ (gK g y6 = 1 ∧ (w_X0_tierAt g y6 i5 (fun x9 => (∃ y11, gR g r0 0 = some y11 ∧ (gK g y11 = 1 ∧ (w_X0_countAt g y11 i5 (fun x14 => (k87 ((((j3 * 31) + x9.toInt64) * 31) + x14.toInt64) (i5 + 1))))))))))))))
def b_X10_addArchive_60 (g : gS) (r0 : Nat) (i5 : Int32) (js0 : Int64) (is1 : Int32) (Q : Int64 → Prop) (k18 : Int64 → Int32 → Prop) : Prop :=
  k18 (js0 + is1.toInt64) (i5 + 1)
def l_X10_addArchive_18 (g : gS) (r0 : Nat) (Q : Int64 → Prop) (j3 : Int64) (i5 : Int32) (k18 : Int64 → Int32 → Prop) : Prop :=
  gK g r0 = 11 ∧ (∃ y17, gR g r0 0 = some y17 ∧ (gK g y17 = 1 ∧ (((gI g y17 1) ≤ i5 → (∃ y21, gR g r0 0 = some y21 ∧ (gK g y21 = 1 ∧ (lpx2 (l_X10_addArchive_87 g r0 Q) ((j3 * 31) + (gI g y21 4).toInt64) 0)))) ∧ (¬ (gI g y17 1) ≤ i5 → (∃ y24, gR g r0 0 = some y24 ∧ (gK g y24 = 1 ∧ (w_X0_documentAt g y24 i5 (fun o27 => ((o27 = none → (b_X10_addArchive_60 g r0 i5 (j3 * 31) 0 Q k18)) ∧ (∀ y29, o27 = some y29 → (gK g y29 = 3 ∧ (w_X2_state g y29 (fun x32 => (b_X10_addArchive_60 g r0 i5 (j3 * 31) x32 Q k18))))))))))))))
def w_X10_addArchive (g : gS) (p0 : Nat) (p1 : Int64) (Q : Int64 → Prop) : Prop :=
  gK g p0 = 11 ∧ (∃ y36, gR g p0 0 = some y36 ∧ (gK g y36 = 1 ∧ (lpx2 (l_X10_addArchive_18 g p0 Q) ((p1 * 31) + (gI g y36 1).toInt64) 0)))
abbrev r_X10_addArchive : Room := { frames := 2, cells := 0, slots := 0, locals := 45 }
set_option maxHeartbeats 4000000 in
set_option maxRecDepth 100000 in
theorem c_X10_addArchive {l : Launch} {D : va_G} {cA : Nat → ClassId} {sz : Nat} {g : gS} {p0 : Nat} {p1 : Int64} {Q : Int64 → Prop} (h : w_X10_addArchive g p0 p1 Q) : Met l yX10_addArchive wsX10_addArchive r_X10_addArchive (va_Pc [.ref p0, .long p1] (gPre D cA g sz)) (gQl D cA g sz (fun r g2 => g = g2 ∧ Q r)) 0 0 (gA g sz) := by
  refine g_met (cc := cX10_addArchive) (maxL := 7) (ret := (some .long)) (own := RX10) (by decide) rfl rfl (Nat.le_of_ble_eq_true rfl) ?_
  intro p e s m args below meth c ls CF hr hlk hnm hc hl
  obtain ⟨hx, hb, hml, hown, hts⟩ := id CF
  have hl : lv_has ls 7 [(0, .ref p0), (1, .long p1)] := hl
  show W p l e r_X10_addArchive s m args below meth c s.heap [] 0 0 (MQ below (gQl D cA g sz (fun r g2 => g = g2 ∧ Q r)) args s 0 0 (gA g sz)) (F0 m 0 ls [])
  have hb_87 : ∀ (r0 : Nat), ∀ (j3 : Int64) (i5 : Int32), lpx2 (l_X10_addArchive_87 g r0 Q) j3 i5 → ∀ (H : Heap) (locs : List Loc) (ls : Array Slot), gC D cA (gA g sz) s g H locs → lv_has ls 7 [(0, .ref r0), (3, .long j3), (5, .int i5)] → W p l e r_X10_addArchive s m args below meth c H locs 0 0 (MQ below (gQl D cA g sz (fun r g2 => g = g2 ∧ Q r)) args s 0 0 (gA g sz)) (F0 m 87 ls []) := by
    intro r0
    refine lpx2_run (P := fun (j3 : Int64) (i5 : Int32) => ∀ (H : Heap) (locs : List Loc) (ls : Array Slot), gC D cA (gA g sz) s g H locs → lv_has ls 7 [(0, .ref r0), (3, .long j3), (5, .int i5)] → W p l e r_X10_addArchive s m args below meth c H locs 0 0 (MQ below (gQl D cA g sz (fun r g2 => g = g2 ∧ Q r)) args s 0 0 (gA g sz)) (F0 m 87 ls [])) ?_
    intro k87 hk_87 j3 i5 h H locs ls hc hl
    unfold l_X10_addArchive_87 at h
    refine lv_iload hx hb dX10_addArchive_87 (lv_at hl 2 rfl) ?_
    refine lv_aload_n hx hb dX10_addArchive_89 rfl (lv_at hl 0 rfl) ?_
    obtain ⟨hk1, h⟩ := h
    obtain ⟨y2, e3, h⟩ := h
    refine g_getr CF hc hk1 rfl (by decide) (fun _ h9 => List.mem_cons_of_mem _ (List.mem_append_left _ (List.mem_append_left _ (List.mem_append_right _ (h9))))) (k := 0) (by decide) (List.mem_cons_of_mem _ (List.mem_append_left _ (List.mem_append_left _ (List.mem_append_left _ (List.mem_append_left _ (List.mem_of_getElem? (i := 1) rfl)))))) e3 rfl dX10_addArchive_90 ?_
    obtain ⟨hk4, h⟩ := h
    refine g_get CF hc hk4 rfl (by decide) (fun _ h9 => List.mem_cons_of_mem _ (List.mem_append_left _ (List.mem_append_right _ (h9)))) (k := 4) (by decide) (List.mem_cons_of_mem _ (List.mem_append_left _ (List.mem_append_left _ (List.mem_append_left _ (List.mem_append_left _ (List.mem_of_getElem? (i := 3) rfl)))))) rfl dX10_addArchive_93 ?_
    refine lv_icmp_ge (tgt := 139) hx hb dX10_addArchive_96 (by decide) (fun c5 => ?_) (fun c5 => ?_)
    · have h := h.1 c5
      refine lv_lload_n hx hb dX10_addArchive_139 rfl (lv_at hl 1 rfl) ?_
      exact g_retl (r := j3) CF hr hlk hc ⟨rfl, h⟩ dX10_addArchive_140
    · have h := h.2 c5
      refine lv_lload_n hx hb dX10_addArchive_99 rfl (lv_at hl 1 rfl) ?_
      refine lv_ldc2 (v := 31) hx hb hown (hts _ (List.mem_cons_of_mem _ (List.mem_append_left _ (List.mem_append_left _ (List.mem_append_left _ (List.mem_append_left _ (List.mem_of_getElem? (i := 0) rfl))))))) dX10_addArchive_100 ?_
      refine lv_lmul hx hb dX10_addArchive_103 ?_
      refine lv_aload_n hx hb dX10_addArchive_104 rfl (lv_at hl 0 rfl) ?_
      obtain ⟨y6, e7, h⟩ := h
      refine g_getr CF hc hk1 rfl (by decide) (fun _ h9 => List.mem_cons_of_mem _ (List.mem_append_left _ (List.mem_append_left _ (List.mem_append_right _ (h9))))) (k := 0) (by decide) (List.mem_cons_of_mem _ (List.mem_append_left _ (List.mem_append_left _ (List.mem_append_left _ (List.mem_append_left _ (List.mem_of_getElem? (i := 1) rfl)))))) e7 rfl dX10_addArchive_105 ?_
      refine lv_iload hx hb dX10_addArchive_108 (lv_at hl 2 rfl) ?_
      obtain ⟨hk8, h⟩ := h
      refine g_calli (va_runV (As := [.int i5]) (rest := [.long (j3 * 31)]) CF (c_X0_tierAt h) (cwV 1 hts gX10_addArchive_X0_tierAt rfl rfl rfl (by decide +kernel) ⟨Nat.le_of_ble_eq_true rfl, Nat.le_of_ble_eq_true rfl⟩) (hc.preV hk8 rfl (by decide)) rfl rfl hl.1 rfl (lv_room (Nat.le_of_ble_eq_true rfl)) dX10_addArchive_110 ⟨Nat.le_of_ble_eq_true rfl, Nat.le_of_ble_eq_true rfl⟩) hc (fun x9 gq10 H locs hq hc => ?_)
      obtain ⟨rfl, h⟩ := hq
      refine lv_i2l hx hb dX10_addArchive_113 rfl ?_
      refine lv_ladd hx hb dX10_addArchive_114 ?_
      refine lv_lstore_n (lv' := [(3, .long ((j3 * 31) + x9.toInt64)), (0, .ref r0), (5, .int i5)]) hx hb dX10_addArchive_115 rfl hl (by decide) rfl (fun ls hl => ?_)
      refine lv_lload_n hx hb dX10_addArchive_116 rfl (lv_at hl 0 rfl) ?_
      refine lv_ldc2 (v := 31) hx hb hown (hts _ (List.mem_cons_of_mem _ (List.mem_append_left _ (List.mem_append_left _ (List.mem_append_left _ (List.mem_append_left _ (List.mem_of_getElem? (i := 0) rfl))))))) dX10_addArchive_117 ?_
      refine lv_lmul hx hb dX10_addArchive_120 ?_
      refine lv_aload_n hx hb dX10_addArchive_121 rfl (lv_at hl 1 rfl) ?_
      obtain ⟨y11, e12, h⟩ := h
      refine g_getr CF hc hk1 rfl (by decide) (fun _ h9 => List.mem_cons_of_mem _ (List.mem_append_left _ (List.mem_append_left _ (List.mem_append_right _ (h9))))) (k := 0) (by decide) (List.mem_cons_of_mem _ (List.mem_append_left _ (List.mem_append_left _ (List.mem_append_left _ (List.mem_append_left _ (List.mem_of_getElem? (i := 1) rfl)))))) e12 rfl dX10_addArchive_122 ?_
      refine lv_iload hx hb dX10_addArchive_125 (lv_at hl 2 rfl) ?_
      obtain ⟨hk13, h⟩ := h
      refine g_calli (va_runV (As := [.int i5]) (rest := [.long (((j3 * 31) + x9.toInt64) * 31)]) CF (c_X0_countAt h) (cwV 1 hts gX10_addArchive_X0_countAt rfl rfl rfl (by decide +kernel) ⟨Nat.le_of_ble_eq_true rfl, Nat.le_of_ble_eq_true rfl⟩) (hc.preV hk13 rfl (by decide)) rfl rfl hl.1 rfl (lv_room (Nat.le_of_ble_eq_true rfl)) dX10_addArchive_127 ⟨Nat.le_of_ble_eq_true rfl, Nat.le_of_ble_eq_true rfl⟩) hc (fun x14 gq15 H locs hq hc => ?_)
      obtain ⟨rfl, h⟩ := hq
      refine lv_i2l hx hb dX10_addArchive_130 rfl ?_
      refine lv_ladd hx hb dX10_addArchive_131 ?_
      refine lv_lstore_n (lv' := [(3, .long ((((j3 * 31) + x9.toInt64) * 31) + x14.toInt64)), (0, .ref r0), (5, .int i5)]) hx hb dX10_addArchive_132 rfl hl (by decide) rfl (fun ls hl => ?_)
      refine lv_iinc (v := (i5 + 1)) (lv' := [(5, .int (i5 + 1)), (3, .long ((((j3 * 31) + x9.toInt64) * 31) + x14.toInt64)), (0, .ref r0)]) hx hb dX10_addArchive_133 hl (k := 2) rfl rfl (by decide) rfl (fun ls hl => ?_)
      refine lv_goto (tgt := 87) hx hb dX10_addArchive_136 (by decide) ?_
      exact hk_87 ((((j3 * 31) + x9.toInt64) * 31) + x14.toInt64) (i5 + 1) h _ _ _ hc (lv_sub hl [2, 1, 0] rfl)
  have hb_18 : ∀ (r0 : Nat), ∀ (j3 : Int64) (i5 : Int32), lpx2 (l_X10_addArchive_18 g r0 Q) j3 i5 → ∀ (H : Heap) (locs : List Loc) (ls : Array Slot), gC D cA (gA g sz) s g H locs → lv_has ls 7 [(0, .ref r0), (3, .long j3), (5, .int i5)] → W p l e r_X10_addArchive s m args below meth c H locs 0 0 (MQ below (gQl D cA g sz (fun r g2 => g = g2 ∧ Q r)) args s 0 0 (gA g sz)) (F0 m 18 ls []) := by
    intro r0
    refine lpx2_run (P := fun (j3 : Int64) (i5 : Int32) => ∀ (H : Heap) (locs : List Loc) (ls : Array Slot), gC D cA (gA g sz) s g H locs → lv_has ls 7 [(0, .ref r0), (3, .long j3), (5, .int i5)] → W p l e r_X10_addArchive s m args below meth c H locs 0 0 (MQ below (gQl D cA g sz (fun r g2 => g = g2 ∧ Q r)) args s 0 0 (gA g sz)) (F0 m 18 ls [])) ?_
    intro k18 hk_18 j3 i5 h H locs ls hc hl
    have hb_60 : ∀ (i5 : Int32) (js0 : Int64) (is1 : Int32), b_X10_addArchive_60 g r0 i5 js0 is1 Q k18 → ∀ (H : Heap) (locs : List Loc) (ls : Array Slot), gC D cA (gA g sz) s g H locs → lv_has ls 7 [(0, .ref r0), (5, .int i5)] → W p l e r_X10_addArchive s m args below meth c H locs 0 0 (MQ below (gQl D cA g sz (fun r g2 => g = g2 ∧ Q r)) args s 0 0 (gA g sz)) (F0 m 60 ls [.int is1, .long js0]) := by
      intro i5 js0 is1 h H locs ls hc hl
      unfold b_X10_addArchive_60 at h
      refine lv_i2l hx hb dX10_addArchive_60 rfl ?_
      refine lv_ladd hx hb dX10_addArchive_61 ?_
      refine lv_lstore_n (lv' := [(3, .long (js0 + is1.toInt64)), (0, .ref r0), (5, .int i5)]) hx hb dX10_addArchive_62 rfl hl (by decide) rfl (fun ls hl => ?_)
      refine lv_iinc (v := (i5 + 1)) (lv' := [(5, .int (i5 + 1)), (3, .long (js0 + is1.toInt64)), (0, .ref r0)]) hx hb dX10_addArchive_63 hl (k := 2) rfl rfl (by decide) rfl (fun ls hl => ?_)
      refine lv_goto (tgt := 18) hx hb dX10_addArchive_66 (by decide) ?_
      exact hk_18 (js0 + is1.toInt64) (i5 + 1) h _ _ _ hc (lv_sub hl [2, 1, 0] rfl)
    unfold l_X10_addArchive_18 at h
    refine lv_iload hx hb dX10_addArchive_18 (lv_at hl 2 rfl) ?_
    refine lv_aload_n hx hb dX10_addArchive_20 rfl (lv_at hl 0 rfl) ?_
    obtain ⟨hk16, h⟩ := h
    obtain ⟨y17, e18, h⟩ := h
    refine g_getr CF hc hk16 rfl (by decide) (fun _ h9 => List.mem_cons_of_mem _ (List.mem_append_left _ (List.mem_append_left _ (List.mem_append_right _ (h9))))) (k := 0) (by decide) (List.mem_cons_of_mem _ (List.mem_append_left _ (List.mem_append_left _ (List.mem_append_left _ (List.mem_append_left _ (List.mem_of_getElem? (i := 1) rfl)))))) e18 rfl dX10_addArchive_21 ?_
    obtain ⟨hk19, h⟩ := h
    refine g_get CF hc hk19 rfl (by decide) (fun _ h9 => List.mem_cons_of_mem _ (List.mem_append_left _ (List.mem_append_right _ (h9)))) (k := 1) (by decide) (List.mem_cons_of_mem _ (List.mem_append_left _ (List.mem_append_left _ (List.mem_append_left _ (List.mem_append_left _ (List.mem_of_getElem? (i := 2) rfl)))))) rfl dX10_addArchive_24 ?_
    refine lv_icmp_ge (tgt := 69) hx hb dX10_addArchive_27 (by decide) (fun c20 => ?_) (fun c20 => ?_)
    · have h := h.1 c20
      refine lv_lload_n hx hb dX10_addArchive_69 rfl (lv_at hl 1 rfl) ?_
      refine lv_ldc2 (v := 31) hx hb hown (hts _ (List.mem_cons_of_mem _ (List.mem_append_left _ (List.mem_append_left _ (List.mem_append_left _ (List.mem_append_left _ (List.mem_of_getElem? (i := 0) rfl))))))) dX10_addArchive_70 ?_
      refine lv_lmul hx hb dX10_addArchive_73 ?_
      refine lv_aload_n hx hb dX10_addArchive_74 rfl (lv_at hl 0 rfl) ?_
      obtain ⟨y21, e22, h⟩ := h
      refine g_getr CF hc hk16 rfl (by decide) (fun _ h9 => List.mem_cons_of_mem _ (List.mem_append_left _ (List.mem_append_left _ (List.mem_append_right _ (h9))))) (k := 0) (by decide) (List.mem_cons_of_mem _ (List.mem_append_left _ (List.mem_append_left _ (List.mem_append_left _ (List.mem_append_left _ (List.mem_of_getElem? (i := 1) rfl)))))) e22 rfl dX10_addArchive_75 ?_
      obtain ⟨hk23, h⟩ := h
      refine g_get CF hc hk23 rfl (by decide) (fun _ h9 => List.mem_cons_of_mem _ (List.mem_append_left _ (List.mem_append_right _ (h9)))) (k := 4) (by decide) (List.mem_cons_of_mem _ (List.mem_append_left _ (List.mem_append_left _ (List.mem_append_left _ (List.mem_append_left _ (List.mem_of_getElem? (i := 3) rfl)))))) rfl dX10_addArchive_78 ?_
      refine lv_i2l hx hb dX10_addArchive_81 rfl ?_
      refine lv_ladd hx hb dX10_addArchive_82 ?_
      refine lv_lstore_n (lv' := [(3, .long ((j3 * 31) + (gI g y21 4).toInt64)), (0, .ref r0), (5, .int i5)]) hx hb dX10_addArchive_83 rfl hl (by decide) rfl (fun ls hl => ?_)
      refine lv_iconst (v := 0) hx hb dX10_addArchive_84 (by decide) ?_
      refine lv_istore (lv' := [(5, .int 0), (3, .long ((j3 * 31) + (gI g y21 4).toInt64)), (0, .ref r0)]) hx hb dX10_addArchive_85 hl (by decide) rfl (fun ls hl => ?_)
      exact hb_87 r0 ((j3 * 31) + (gI g y21 4).toInt64) 0 h _ _ _ hc (lv_sub hl [2, 1, 0] rfl)
    · have h := h.2 c20
      refine lv_aload_n hx hb dX10_addArchive_30 rfl (lv_at hl 0 rfl) ?_
      obtain ⟨y24, e25, h⟩ := h
      refine g_getr CF hc hk16 rfl (by decide) (fun _ h9 => List.mem_cons_of_mem _ (List.mem_append_left _ (List.mem_append_left _ (List.mem_append_right _ (h9))))) (k := 0) (by decide) (List.mem_cons_of_mem _ (List.mem_append_left _ (List.mem_append_left _ (List.mem_append_left _ (List.mem_append_left _ (List.mem_of_getElem? (i := 1) rfl)))))) e25 rfl dX10_addArchive_31 ?_
      refine lv_iload hx hb dX10_addArchive_34 (lv_at hl 2 rfl) ?_
      obtain ⟨hk26, h⟩ := h
      refine g_callq (va_runV (As := [.int i5]) (rest := []) CF (c_X0_documentAt h) (cwV 1 hts gX10_addArchive_X0_documentAt rfl rfl rfl (by decide +kernel) ⟨Nat.le_of_ble_eq_true rfl, Nat.le_of_ble_eq_true rfl⟩) (hc.preV hk26 rfl (by decide)) rfl rfl hl.1 rfl (lv_room (Nat.le_of_ble_eq_true rfl)) dX10_addArchive_36 ⟨Nat.le_of_ble_eq_true rfl, Nat.le_of_ble_eq_true rfl⟩) hc (fun o27 gq28 H locs hq hc => ?_)
      obtain ⟨rfl, h⟩ := hq
      refine g_astoreq (lv' := [(6, va_rf o27), (0, .ref r0), (3, .long j3), (5, .int i5)]) CF dX10_addArchive_39 hl (by decide) rfl (fun ls hl => ?_)
      refine lv_lload_n hx hb dX10_addArchive_41 rfl (lv_at hl 2 rfl) ?_
      refine lv_ldc2 (v := 31) hx hb hown (hts _ (List.mem_cons_of_mem _ (List.mem_append_left _ (List.mem_append_left _ (List.mem_append_left _ (List.mem_append_left _ (List.mem_of_getElem? (i := 0) rfl))))))) dX10_addArchive_42 ?_
      refine lv_lmul hx hb dX10_addArchive_45 ?_
      refine g_aloadq CF dX10_addArchive_46 (lv_at hl 0 rfl) ?_
      refine g_ifnonnull (tgt := 55) CF dX10_addArchive_48 (by decide) (fun y29 e30 => ?_) (fun e30 => ?_)
      · have hu34 := h.2 y29 e30
        subst e30
        have h := hu34
        refine lv_aload hx hb dX10_addArchive_55 (lv_at hl 0 rfl) ?_
        obtain ⟨hk31, h⟩ := h
        refine g_calli (va_runV (As := []) (rest := [.long (j3 * 31)]) CF (c_X2_state h) (cwV 0 hts gX10_addArchive_X2_state rfl rfl rfl (by decide +kernel) ⟨Nat.le_of_ble_eq_true rfl, Nat.le_of_ble_eq_true rfl⟩) (hc.preV hk31 rfl (by decide)) rfl rfl hl.1 rfl (lv_room (Nat.le_of_ble_eq_true rfl)) dX10_addArchive_57 ⟨Nat.le_of_ble_eq_true rfl, Nat.le_of_ble_eq_true rfl⟩) hc (fun x32 gq33 H locs hq hc => ?_)
        obtain ⟨rfl, h⟩ := hq
        exact hb_60 i5 (j3 * 31) x32 h _ _ _ hc (lv_sub hl [1, 3] rfl)
      · have hu34 := h.1 e30
        subst e30
        have h := hu34
        refine lv_iconst (v := 0) hx hb dX10_addArchive_51 (by decide) ?_
        refine lv_goto (tgt := 60) hx hb dX10_addArchive_52 (by decide) ?_
        exact hb_60 i5 (j3 * 31) 0 h _ _ _ hc (lv_sub hl [1, 3] rfl)
  unfold w_X10_addArchive at h
  obtain ⟨H, hH0⟩ : ∃ z, z = s.heap := ⟨_, rfl⟩
  rw [← hH0] at hc ⊢
  obtain ⟨locs, hlc0⟩ : ∃ z : List Loc, z = [] := ⟨_, rfl⟩
  rw [← hlc0] at hc ⊢
  refine lv_lload_n hx hb dX10_addArchive_0 rfl (lv_at hl 1 rfl) ?_
  refine lv_ldc2 (v := 31) hx hb hown (hts _ (List.mem_cons_of_mem _ (List.mem_append_left _ (List.mem_append_left _ (List.mem_append_left _ (List.mem_append_left _ (List.mem_of_getElem? (i := 0) rfl))))))) dX10_addArchive_1 ?_
  refine lv_lmul hx hb dX10_addArchive_4 ?_
  refine lv_aload_n hx hb dX10_addArchive_5 rfl (lv_at hl 0 rfl) ?_
  obtain ⟨hk35, h⟩ := h
  obtain ⟨y36, e37, h⟩ := h
  refine g_getr CF hc hk35 rfl (by decide) (fun _ h9 => List.mem_cons_of_mem _ (List.mem_append_left _ (List.mem_append_left _ (List.mem_append_right _ (h9))))) (k := 0) (by decide) (List.mem_cons_of_mem _ (List.mem_append_left _ (List.mem_append_left _ (List.mem_append_left _ (List.mem_append_left _ (List.mem_of_getElem? (i := 1) rfl)))))) e37 rfl dX10_addArchive_6 ?_
  obtain ⟨hk38, h⟩ := h
  refine g_get CF hc hk38 rfl (by decide) (fun _ h9 => List.mem_cons_of_mem _ (List.mem_append_left _ (List.mem_append_right _ (h9)))) (k := 1) (by decide) (List.mem_cons_of_mem _ (List.mem_append_left _ (List.mem_append_left _ (List.mem_append_left _ (List.mem_append_left _ (List.mem_of_getElem? (i := 2) rfl)))))) rfl dX10_addArchive_9 ?_
  refine lv_i2l hx hb dX10_addArchive_12 rfl ?_
  refine lv_ladd hx hb dX10_addArchive_13 ?_
  refine lv_lstore_n (lv' := [(3, .long ((p1 * 31) + (gI g y36 1).toInt64)), (0, .ref p0), (1, .long p1)]) hx hb dX10_addArchive_14 rfl hl (by decide) rfl (fun ls hl => ?_)
  refine lv_iconst (v := 0) hx hb dX10_addArchive_15 (by decide) ?_
  refine lv_istore (lv' := [(5, .int 0), (3, .long ((p1 * 31) + (gI g y36 1).toInt64)), (0, .ref p0), (1, .long p1)]) hx hb dX10_addArchive_16 hl (by decide) rfl (fun ls hl => ?_)
  exact hb_18 p0 ((p1 * 31) + (gI g y36 1).toInt64) 0 h _ _ _ hc (lv_sub hl [2, 1, 0] rfl)
def b_X10_fillScoresByNode_130 (g : gS) (r0 : Nat) (i1 : Int32) (Q : gS → Prop) (k2 : gS → Int32 → Prop) : Prop :=
  k2 g (i1 + 1)
def b_X10_fillScoresByNode_124 (g : gS) (r0 : Nat) (i1 : Int32) (i3 : Int32) (i4 : Int32) (Q : gS → Prop) (k2 : gS → Int32 → Prop) (k64 : gS → Int32 → Prop) : Prop :=
  k64 g (i4 + 1)
def b_X10_fillScoresByNode_123 (g : gS) (r0 : Nat) (i1 : Int32) (i3 : Int32) (i4 : Int32) (rs0 : Nat) (is1 : Int32) (is2 : Int32) (Q : gS → Prop) (k2 : gS → Int32 → Prop) (k64 : gS → Int32 → Prop) : Prop :=
  gK g rs0 = 21 ∧ (vp_in is1 (gN g rs0) ∧ (∀ g3, g3 = sU g rs0 (Int32.toNatClampNeg is1) is2 → (b_X10_fillScoresByNode_124 g3 r0 i1 i3 i4 Q k2 k64)))
def l_X10_fillScoresByNode_64 (r0 : Nat) (i1 : Int32) (i3 : Int32) (Q : gS → Prop) (k2 : gS → Int32 → Prop) (g : gS) (i4 : Int32) (k64 : gS → Int32 → Prop) : Prop :=
  gK g r0 = 11 ∧ (∃ y6, gR g r0 2 = some y6 ∧ (gK g y6 = 7 ∧ (((gI g y6 2) ≤ i4 → (b_X10_fillScoresByNode_130 g r0 i1 Q k2)) ∧ (¬ (gI g y6 2) ≤ i4 → (∃ y10, gR g r0 9 = some y10 ∧ (gK g y10 = 24 ∧ (((nI (gN g y10)) ≤ i4 → (b_X10_fillScoresByNode_130 g r0 i1 Q k2)) ∧ (¬ (nI (gN g y10)) ≤ i4 → (∃ y14, gR g r0 9 = some y14 ∧ (gK g y14 = 24 ∧ (vp_in i4 (gN g y14) ∧ (∃ y18, gR g y14 (Int32.toNatClampNeg i4) = some y18 ∧ (gK g y18 = 21 ∧ (((nI (gN g y18)) ≤ i1 → (b_X10_fillScoresByNode_124 g r0 i1 i3 i4 Q k2 k64)) ∧ (¬ (nI (gN g y18)) ≤ i1 → (∃ y22, gR g r0 9 = some y22 ∧ (gK g y22 = 24 ∧ (vp_in i4 (gN g y22) ∧ (∃ y26, gR g y22 (Int32.toNatClampNeg i4) = some y26 ∧ ((i3 = 0 → (b_X10_fillScoresByNode_123 g r0 i1 i3 i4 y26 i1 (-1) Q k2 k64)) ∧ (¬ i3 = 0 → (∃ y29, gR g r0 6 = some y29 ∧ (gK g y29 = 9 ∧ (w_X8_valueAt g y29 i4 (fun x32 => (b_X10_fillScoresByNode_123 g r0 i1 i3 i4 y26 i1 x32 Q k2 k64))))))))))))))))))))))))))
def b_X10_fillScoresByNode_61 (g : gS) (r0 : Nat) (i1 : Int32) (i3 : Int32) (Q : gS → Prop) (k2 : gS → Int32 → Prop) : Prop :=
  lpx2 (l_X10_fillScoresByNode_64 r0 i1 i3 Q k2) g 0
def b_X10_fillScoresByNode_38 (g : gS) (r0 : Nat) (i1 : Int32) (o2 : Option Nat) (is0 : Int32) (Q : gS → Prop) (k2 : gS → Int32 → Prop) : Prop :=
  (is0 = 0 → (b_X10_fillScoresByNode_61 g r0 i1 is0 Q k2)) ∧ (¬ is0 = 0 → (gK g r0 = 11 ∧ (∃ y36, gR g r0 6 = some y36 ∧ (∃ y38, gR g r0 2 = some y38 ∧ (gK g y38 = 7 ∧ (gK g y36 = 9 ∧ (w_X8_scoreOf g y36 o2 ((gI g y38 2) - 1) (fun x42 g43 => (b_X10_fillScoresByNode_61 g43 r0 i1 is0 Q k2)))))))))
def b_X10_fillScoresByNode_37 (g : gS) (r0 : Nat) (i1 : Int32) (o2 : Option Nat) (Q : gS → Prop) (k2 : gS → Int32 → Prop) : Prop :=
  b_X10_fillScoresByNode_38 g r0 i1 o2 0 Q k2
def l_X10_fillScoresByNode_2 (r0 : Nat) (Q : gS → Prop) (g : gS) (i1 : Int32) (k2 : gS → Int32 → Prop) : Prop :=
  gK g r0 = 11 ∧ (∃ y46, gR g r0 0 = some y46 ∧ (gK g y46 = 1 ∧ (((gI g y46 1) ≤ i1 → (Q g)) ∧ (¬ (gI g y46 1) ≤ i1 → (∃ y50, gR g r0 0 = some y50 ∧ (gK g y50 = 1 ∧ (w_X0_documentAt g y50 i1 (fun o53 => ((o53 = none → (b_X10_fillScoresByNode_37 g r0 i1 none Q k2)) ∧ (∀ y55, o53 = some y55 → (gK g y55 = 3 ∧ (w_X2_canBeFound g y55 (fun x58 => ((x58 = 0 → (b_X10_fillScoresByNode_37 g r0 i1 (some y55) Q k2)) ∧ (¬ x58 = 0 → (b_X10_fillScoresByNode_38 g r0 i1 (some y55) 1 Q k2))))))))))))))))
def w_X10_fillScoresByNode (g0 : gS) (p0 : Nat) (Q : gS → Prop) : Prop :=
  lpx2 (l_X10_fillScoresByNode_2 p0 Q) g0 0
abbrev r_X10_fillScoresByNode : Room := { frames := 5, cells := 0, slots := 0, locals := 127 }
set_option maxHeartbeats 4000000 in
set_option maxRecDepth 100000 in
theorem c_X10_fillScoresByNode {l : Launch} {D : va_G} {cA : Nat → ClassId} {sz : Nat} {g0 : gS} {p0 : Nat} {Q : gS → Prop} (h : w_X10_fillScoresByNode g0 p0 Q) : Met l yX10_fillScoresByNode wsX10_fillScoresByNode r_X10_fillScoresByNode (va_Pc [.ref p0] (gPre D cA g0 sz)) (gQv D cA g0 sz (Q)) 0 0 (gA g0 sz) := by
  refine g_met (cc := cX10_fillScoresByNode) (maxL := 5) (ret := none) (own := RX10) (by decide) rfl rfl (Nat.le_of_ble_eq_true rfl) ?_
  intro p e s m args below meth c ls CF hr hlk hnm hc hl
  obtain ⟨hx, hb, hml, hown, hts⟩ := id CF
  have hl : lv_has ls 5 [(0, .ref p0)] := hl
  show W p l e r_X10_fillScoresByNode s m args below meth c s.heap [] 0 0 (MQ below (gQv D cA g0 sz (Q)) args s 0 0 (gA g0 sz)) (F0 m 0 ls [])
  have hb_2 : ∀ (r0 : Nat), ∀ (g : gS) (i1 : Int32), lpx2 (l_X10_fillScoresByNode_2 r0 Q) g i1 → ∀ (H : Heap) (locs : List Loc) (ls : Array Slot), gC D cA (gA g0 sz) s g H locs → lv_has ls 5 [(0, .ref r0), (1, .int i1)] → W p l e r_X10_fillScoresByNode s m args below meth c H locs 0 0 (MQ below (gQv D cA g0 sz (Q)) args s 0 0 (gA g0 sz)) (F0 m 2 ls []) := by
    intro r0
    refine lpx2_run (P := fun (g : gS) (i1 : Int32) => ∀ (H : Heap) (locs : List Loc) (ls : Array Slot), gC D cA (gA g0 sz) s g H locs → lv_has ls 5 [(0, .ref r0), (1, .int i1)] → W p l e r_X10_fillScoresByNode s m args below meth c H locs 0 0 (MQ below (gQv D cA g0 sz (Q)) args s 0 0 (gA g0 sz)) (F0 m 2 ls [])) ?_
    intro k2 hk_2 g i1 h H locs ls hc hl
    have hb_130 : ∀ (g : gS) (i1 : Int32), b_X10_fillScoresByNode_130 g r0 i1 Q k2 → ∀ (H : Heap) (locs : List Loc) (ls : Array Slot), gC D cA (gA g0 sz) s g H locs → lv_has ls 5 [(0, .ref r0), (1, .int i1)] → W p l e r_X10_fillScoresByNode s m args below meth c H locs 0 0 (MQ below (gQv D cA g0 sz (Q)) args s 0 0 (gA g0 sz)) (F0 m 130 ls []) := by
      intro g i1 h H locs ls hc hl
      unfold b_X10_fillScoresByNode_130 at h
      refine lv_iinc (v := (i1 + 1)) (lv' := [(1, .int (i1 + 1)), (0, .ref r0)]) hx hb dX10_fillScoresByNode_130 hl (k := 1) rfl rfl (by decide) rfl (fun ls hl => ?_)
      refine lv_goto (tgt := 2) hx hb dX10_fillScoresByNode_133 (by decide) ?_
      exact hk_2 g (i1 + 1) h _ _ _ hc (lv_sub hl [1, 0] rfl)
    have hb_64 : ∀ (i1 : Int32) (i3 : Int32), ∀ (g : gS) (i4 : Int32), lpx2 (l_X10_fillScoresByNode_64 r0 i1 i3 Q k2) g i4 → ∀ (H : Heap) (locs : List Loc) (ls : Array Slot), gC D cA (gA g0 sz) s g H locs → lv_has ls 5 [(0, .ref r0), (1, .int i1), (3, .int i3), (4, .int i4)] → W p l e r_X10_fillScoresByNode s m args below meth c H locs 0 0 (MQ below (gQv D cA g0 sz (Q)) args s 0 0 (gA g0 sz)) (F0 m 64 ls []) := by
      intro i1 i3
      refine lpx2_run (P := fun (g : gS) (i4 : Int32) => ∀ (H : Heap) (locs : List Loc) (ls : Array Slot), gC D cA (gA g0 sz) s g H locs → lv_has ls 5 [(0, .ref r0), (1, .int i1), (3, .int i3), (4, .int i4)] → W p l e r_X10_fillScoresByNode s m args below meth c H locs 0 0 (MQ below (gQv D cA g0 sz (Q)) args s 0 0 (gA g0 sz)) (F0 m 64 ls [])) ?_
      intro k64 hk_64 g i4 h H locs ls hc hl
      have hb_124 : ∀ (g : gS) (i4 : Int32), b_X10_fillScoresByNode_124 g r0 i1 i3 i4 Q k2 k64 → ∀ (H : Heap) (locs : List Loc) (ls : Array Slot), gC D cA (gA g0 sz) s g H locs → lv_has ls 5 [(0, .ref r0), (1, .int i1), (3, .int i3), (4, .int i4)] → W p l e r_X10_fillScoresByNode s m args below meth c H locs 0 0 (MQ below (gQv D cA g0 sz (Q)) args s 0 0 (gA g0 sz)) (F0 m 124 ls []) := by
        intro g i4 h H locs ls hc hl
        unfold b_X10_fillScoresByNode_124 at h
        refine lv_iinc (v := (i4 + 1)) (lv' := [(4, .int (i4 + 1)), (0, .ref r0), (1, .int i1), (3, .int i3)]) hx hb dX10_fillScoresByNode_124 hl (k := 3) rfl rfl (by decide) rfl (fun ls hl => ?_)
        refine lv_goto (tgt := 64) hx hb dX10_fillScoresByNode_127 (by decide) ?_
        exact hk_64 g (i4 + 1) h _ _ _ hc (lv_sub hl [1, 2, 3, 0] rfl)
      have hb_123 : ∀ (g : gS) (i4 : Int32) (rs0 : Nat) (is1 : Int32) (is2 : Int32), b_X10_fillScoresByNode_123 g r0 i1 i3 i4 rs0 is1 is2 Q k2 k64 → ∀ (H : Heap) (locs : List Loc) (ls : Array Slot), gC D cA (gA g0 sz) s g H locs → lv_has ls 5 [(0, .ref r0), (1, .int i1), (3, .int i3), (4, .int i4)] → W p l e r_X10_fillScoresByNode s m args below meth c H locs 0 0 (MQ below (gQv D cA g0 sz (Q)) args s 0 0 (gA g0 sz)) (F0 m 123 ls [.int is2, .int is1, .ref rs0]) := by
        intro g i4 rs0 is1 is2 h H locs ls hc hl
        unfold b_X10_fillScoresByNode_123 at h
        obtain ⟨hk1, h⟩ := h
        obtain ⟨hi2, h⟩ := h
        refine g_iast CF hc hk1 (x := is2) hi2 dX10_fillScoresByNode_123 (fun H locs hc => ?_)
        obtain ⟨g3, eg4⟩ : ∃ z, z = sU g rs0 (Int32.toNatClampNeg is1) is2 := ⟨_, rfl⟩
        have hc : gC D cA (gA g0 sz) s g3 H locs := by rw [eg4]; exact hc
        replace h := h g3 eg4
        exact hb_124 g3 i4 h _ _ _ hc (lv_sub hl [0, 1, 2, 3] rfl)
      unfold l_X10_fillScoresByNode_64 at h
      refine lv_iload hx hb dX10_fillScoresByNode_64 (lv_at hl 3 rfl) ?_
      refine lv_aload_n hx hb dX10_fillScoresByNode_66 rfl (lv_at hl 0 rfl) ?_
      obtain ⟨hk5, h⟩ := h
      obtain ⟨y6, e7, h⟩ := h
      refine g_getr CF hc hk5 rfl (by decide) (fun _ h9 => List.mem_cons_of_mem _ (List.mem_append_left _ (List.mem_append_left _ (List.mem_append_left _ (List.mem_append_left _ (List.mem_append_left _ (List.mem_append_left _ (List.mem_append_left _ (List.mem_append_left _ (List.mem_append_right _ (h9))))))))))) (k := 2) (by decide) (List.mem_cons_of_mem _ (List.mem_append_left _ (List.mem_append_left _ (List.mem_append_left _ (List.mem_append_left _ (List.mem_append_left _ (List.mem_append_left _ (List.mem_append_left _ (List.mem_append_left _ (List.mem_append_left _ (List.mem_append_left _ (List.mem_of_getElem? (i := 3) rfl)))))))))))) e7 rfl dX10_fillScoresByNode_67 ?_
      obtain ⟨hk8, h⟩ := h
      refine g_get CF hc hk8 rfl (by decide) (fun _ h9 => List.mem_cons_of_mem _ (List.mem_append_left _ (List.mem_append_left _ (List.mem_append_left _ (List.mem_append_left _ (List.mem_append_left _ (List.mem_append_left _ (List.mem_append_right _ (h9))))))))) (k := 2) (by decide) (List.mem_cons_of_mem _ (List.mem_append_left _ (List.mem_append_left _ (List.mem_append_left _ (List.mem_append_left _ (List.mem_append_left _ (List.mem_append_left _ (List.mem_append_left _ (List.mem_append_left _ (List.mem_append_left _ (List.mem_append_left _ (List.mem_of_getElem? (i := 4) rfl)))))))))))) rfl dX10_fillScoresByNode_70 ?_
      refine lv_icmp_ge (tgt := 130) hx hb dX10_fillScoresByNode_73 (by decide) (fun c9 => ?_) (fun c9 => ?_)
      · have h := h.1 c9
        exact hb_130 g i1 h _ _ _ hc (lv_sub hl [0, 1] rfl)
      · have h := h.2 c9
        refine lv_iload hx hb dX10_fillScoresByNode_76 (lv_at hl 3 rfl) ?_
        refine lv_aload_n hx hb dX10_fillScoresByNode_78 rfl (lv_at hl 0 rfl) ?_
        obtain ⟨y10, e11, h⟩ := h
        refine g_getr CF hc hk5 rfl (by decide) (fun _ h9 => List.mem_cons_of_mem _ (List.mem_append_left _ (List.mem_append_left _ (List.mem_append_left _ (List.mem_append_left _ (List.mem_append_left _ (List.mem_append_left _ (List.mem_append_left _ (List.mem_append_left _ (List.mem_append_right _ (h9))))))))))) (k := 9) (by decide) (List.mem_cons_of_mem _ (List.mem_append_left _ (List.mem_append_left _ (List.mem_append_left _ (List.mem_append_left _ (List.mem_append_left _ (List.mem_append_left _ (List.mem_append_left _ (List.mem_append_left _ (List.mem_append_left _ (List.mem_append_left _ (List.mem_of_getElem? (i := 5) rfl)))))))))))) e11 rfl dX10_fillScoresByNode_79 ?_
        obtain ⟨hk12, h⟩ := h
        refine g_alen CF hc (j := 3) hk12 (by decide) dX10_fillScoresByNode_82 ?_
        refine lv_icmp_ge (tgt := 130) hx hb dX10_fillScoresByNode_83 (by decide) (fun c13 => ?_) (fun c13 => ?_)
        · have h := h.1 c13
          exact hb_130 g i1 h _ _ _ hc (lv_sub hl [0, 1] rfl)
        · have h := h.2 c13
          refine lv_iload_n hx hb dX10_fillScoresByNode_86 rfl (lv_at hl 1 rfl) ?_
          refine lv_aload_n hx hb dX10_fillScoresByNode_87 rfl (lv_at hl 0 rfl) ?_
          obtain ⟨y14, e15, h⟩ := h
          refine g_getr CF hc hk5 rfl (by decide) (fun _ h9 => List.mem_cons_of_mem _ (List.mem_append_left _ (List.mem_append_left _ (List.mem_append_left _ (List.mem_append_left _ (List.mem_append_left _ (List.mem_append_left _ (List.mem_append_left _ (List.mem_append_left _ (List.mem_append_right _ (h9))))))))))) (k := 9) (by decide) (List.mem_cons_of_mem _ (List.mem_append_left _ (List.mem_append_left _ (List.mem_append_left _ (List.mem_append_left _ (List.mem_append_left _ (List.mem_append_left _ (List.mem_append_left _ (List.mem_append_left _ (List.mem_append_left _ (List.mem_append_left _ (List.mem_of_getElem? (i := 5) rfl)))))))))))) e15 rfl dX10_fillScoresByNode_88 ?_
          refine lv_iload hx hb dX10_fillScoresByNode_91 (lv_at hl 3 rfl) ?_
          obtain ⟨hk16, h⟩ := h
          obtain ⟨hi17, h⟩ := h
          obtain ⟨y18, e19, h⟩ := h
          refine g_aaldr CF hc hk16 hi17 e19 dX10_fillScoresByNode_93 ?_
          obtain ⟨hk20, h⟩ := h
          refine g_alen CF hc (j := 0) hk20 (by decide) dX10_fillScoresByNode_94 ?_
          refine lv_icmp_ge (tgt := 124) hx hb dX10_fillScoresByNode_95 (by decide) (fun c21 => ?_) (fun c21 => ?_)
          · have h := h.1 c21
            exact hb_124 g i4 h _ _ _ hc (lv_sub hl [0, 1, 2, 3] rfl)
          · have h := h.2 c21
            refine lv_aload_n hx hb dX10_fillScoresByNode_98 rfl (lv_at hl 0 rfl) ?_
            obtain ⟨y22, e23, h⟩ := h
            refine g_getr CF hc hk5 rfl (by decide) (fun _ h9 => List.mem_cons_of_mem _ (List.mem_append_left _ (List.mem_append_left _ (List.mem_append_left _ (List.mem_append_left _ (List.mem_append_left _ (List.mem_append_left _ (List.mem_append_left _ (List.mem_append_left _ (List.mem_append_right _ (h9))))))))))) (k := 9) (by decide) (List.mem_cons_of_mem _ (List.mem_append_left _ (List.mem_append_left _ (List.mem_append_left _ (List.mem_append_left _ (List.mem_append_left _ (List.mem_append_left _ (List.mem_append_left _ (List.mem_append_left _ (List.mem_append_left _ (List.mem_append_left _ (List.mem_of_getElem? (i := 5) rfl)))))))))))) e23 rfl dX10_fillScoresByNode_99 ?_
            refine lv_iload hx hb dX10_fillScoresByNode_102 (lv_at hl 3 rfl) ?_
            obtain ⟨hk24, h⟩ := h
            obtain ⟨hi25, h⟩ := h
            obtain ⟨y26, e27, h⟩ := h
            refine g_aaldr CF hc hk24 hi25 e27 dX10_fillScoresByNode_104 ?_
            refine lv_iload_n hx hb dX10_fillScoresByNode_105 rfl (lv_at hl 1 rfl) ?_
            refine lv_iload_n hx hb dX10_fillScoresByNode_106 rfl (lv_at hl 2 rfl) ?_
            refine lv_if_eq (tgt := 122) hx hb dX10_fillScoresByNode_107 (by decide) (fun c28 => ?_) (fun c28 => ?_)
            · have h := h.1 c28
              refine lv_iconst (v := (-1)) hx hb dX10_fillScoresByNode_122 (by decide) ?_
              exact hb_123 g i4 y26 i1 (-1) h _ _ _ hc (lv_sub hl [0, 1, 2, 3] rfl)
            · have h := h.2 c28
              refine lv_aload_n hx hb dX10_fillScoresByNode_110 rfl (lv_at hl 0 rfl) ?_
              obtain ⟨y29, e30, h⟩ := h
              refine g_getr CF hc hk5 rfl (by decide) (fun _ h9 => List.mem_cons_of_mem _ (List.mem_append_left _ (List.mem_append_left _ (List.mem_append_left _ (List.mem_append_left _ (List.mem_append_left _ (List.mem_append_left _ (List.mem_append_left _ (List.mem_append_left _ (List.mem_append_right _ (h9))))))))))) (k := 6) (by decide) (List.mem_cons_of_mem _ (List.mem_append_left _ (List.mem_append_left _ (List.mem_append_left _ (List.mem_append_left _ (List.mem_append_left _ (List.mem_append_left _ (List.mem_append_left _ (List.mem_append_left _ (List.mem_append_left _ (List.mem_append_left _ (List.mem_of_getElem? (i := 2) rfl)))))))))))) e30 rfl dX10_fillScoresByNode_111 ?_
              refine lv_iload hx hb dX10_fillScoresByNode_114 (lv_at hl 3 rfl) ?_
              obtain ⟨hk31, h⟩ := h
              refine g_calli (va_runV (As := [.int i4]) (rest := [.int i1, .ref y26]) CF (c_X8_valueAt h) (cwV 1 hts gX10_fillScoresByNode_X8_valueAt rfl rfl rfl (by decide +kernel) ⟨Nat.le_of_ble_eq_true rfl, Nat.le_of_ble_eq_true rfl⟩) (hc.preV hk31 rfl (by decide)) rfl rfl hl.1 rfl (lv_room (Nat.le_of_ble_eq_true rfl)) dX10_fillScoresByNode_116 ⟨Nat.le_of_ble_eq_true rfl, Nat.le_of_ble_eq_true rfl⟩) hc (fun x32 gq33 H locs hq hc => ?_)
              obtain ⟨rfl, h⟩ := hq
              refine lv_goto (tgt := 123) hx hb dX10_fillScoresByNode_119 (by decide) ?_
              exact hb_123 g i4 y26 i1 x32 h _ _ _ hc (lv_sub hl [0, 1, 2, 3] rfl)
    have hb_61 : ∀ (g : gS) (i1 : Int32) (i3 : Int32), b_X10_fillScoresByNode_61 g r0 i1 i3 Q k2 → ∀ (H : Heap) (locs : List Loc) (ls : Array Slot), gC D cA (gA g0 sz) s g H locs → lv_has ls 5 [(0, .ref r0), (1, .int i1), (3, .int i3)] → W p l e r_X10_fillScoresByNode s m args below meth c H locs 0 0 (MQ below (gQv D cA g0 sz (Q)) args s 0 0 (gA g0 sz)) (F0 m 61 ls []) := by
      intro g i1 i3 h H locs ls hc hl
      unfold b_X10_fillScoresByNode_61 at h
      refine lv_iconst (v := 0) hx hb dX10_fillScoresByNode_61 (by decide) ?_
      refine lv_istore (lv' := [(4, .int 0), (0, .ref r0), (1, .int i1), (3, .int i3)]) hx hb dX10_fillScoresByNode_62 hl (by decide) rfl (fun ls hl => ?_)
      exact hb_64 i1 i3 g 0 h _ _ _ hc (lv_sub hl [1, 2, 3, 0] rfl)
    have hb_38 : ∀ (g : gS) (i1 : Int32) (o2 : Option Nat) (is0 : Int32), b_X10_fillScoresByNode_38 g r0 i1 o2 is0 Q k2 → ∀ (H : Heap) (locs : List Loc) (ls : Array Slot), gC D cA (gA g0 sz) s g H locs → lv_has ls 5 [(0, .ref r0), (1, .int i1), (2, va_rf o2)] → W p l e r_X10_fillScoresByNode s m args below meth c H locs 0 0 (MQ below (gQv D cA g0 sz (Q)) args s 0 0 (gA g0 sz)) (F0 m 38 ls [.int is0]) := by
      intro g i1 o2 is0 h H locs ls hc hl
      unfold b_X10_fillScoresByNode_38 at h
      refine lv_istore_n (lv' := [(3, .int is0), (0, .ref r0), (1, .int i1), (2, va_rf o2)]) hx hb dX10_fillScoresByNode_38 rfl hl (by decide) (by cases o2 <;> rfl) (fun ls hl => ?_)
      refine lv_iload_n hx hb dX10_fillScoresByNode_39 rfl (lv_at hl 0 rfl) ?_
      refine lv_if_eq (tgt := 61) hx hb dX10_fillScoresByNode_40 (by decide) (fun c34 => ?_) (fun c34 => ?_)
      · have h := h.1 c34
        exact hb_61 g i1 is0 h _ _ _ hc (lv_sub hl [1, 2, 0] rfl)
      · have h := h.2 c34
        refine lv_aload_n hx hb dX10_fillScoresByNode_43 rfl (lv_at hl 1 rfl) ?_
        obtain ⟨hk35, h⟩ := h
        obtain ⟨y36, e37, h⟩ := h
        refine g_getr CF hc hk35 rfl (by decide) (fun _ h9 => List.mem_cons_of_mem _ (List.mem_append_left _ (List.mem_append_left _ (List.mem_append_left _ (List.mem_append_left _ (List.mem_append_left _ (List.mem_append_left _ (List.mem_append_left _ (List.mem_append_left _ (List.mem_append_right _ (h9))))))))))) (k := 6) (by decide) (List.mem_cons_of_mem _ (List.mem_append_left _ (List.mem_append_left _ (List.mem_append_left _ (List.mem_append_left _ (List.mem_append_left _ (List.mem_append_left _ (List.mem_append_left _ (List.mem_append_left _ (List.mem_append_left _ (List.mem_append_left _ (List.mem_of_getElem? (i := 2) rfl)))))))))))) e37 rfl dX10_fillScoresByNode_44 ?_
        refine g_aload_nq CF dX10_fillScoresByNode_47 rfl (lv_at hl 3 rfl) ?_
        refine lv_aload_n hx hb dX10_fillScoresByNode_48 rfl (lv_at hl 1 rfl) ?_
        obtain ⟨y38, e39, h⟩ := h
        refine g_getr CF hc hk35 rfl (by decide) (fun _ h9 => List.mem_cons_of_mem _ (List.mem_append_left _ (List.mem_append_left _ (List.mem_append_left _ (List.mem_append_left _ (List.mem_append_left _ (List.mem_append_left _ (List.mem_append_left _ (List.mem_append_left _ (List.mem_append_right _ (h9))))))))))) (k := 2) (by decide) (List.mem_cons_of_mem _ (List.mem_append_left _ (List.mem_append_left _ (List.mem_append_left _ (List.mem_append_left _ (List.mem_append_left _ (List.mem_append_left _ (List.mem_append_left _ (List.mem_append_left _ (List.mem_append_left _ (List.mem_append_left _ (List.mem_of_getElem? (i := 3) rfl)))))))))))) e39 rfl dX10_fillScoresByNode_49 ?_
        obtain ⟨hk40, h⟩ := h
        refine g_get CF hc hk40 rfl (by decide) (fun _ h9 => List.mem_cons_of_mem _ (List.mem_append_left _ (List.mem_append_left _ (List.mem_append_left _ (List.mem_append_left _ (List.mem_append_left _ (List.mem_append_left _ (List.mem_append_right _ (h9))))))))) (k := 2) (by decide) (List.mem_cons_of_mem _ (List.mem_append_left _ (List.mem_append_left _ (List.mem_append_left _ (List.mem_append_left _ (List.mem_append_left _ (List.mem_append_left _ (List.mem_append_left _ (List.mem_append_left _ (List.mem_append_left _ (List.mem_append_left _ (List.mem_of_getElem? (i := 4) rfl)))))))))))) rfl dX10_fillScoresByNode_52 ?_
        refine lv_iconst (v := 1) hx hb dX10_fillScoresByNode_55 (by decide) ?_
        refine lv_isub hx hb dX10_fillScoresByNode_56 ?_
        obtain ⟨hk41, h⟩ := h
        refine g_calli (va_runV (As := [va_rf o2, .int ((gI g y38 2) - 1)]) (rest := []) CF (c_X8_scoreOf h) (cwV 2 hts gX10_fillScoresByNode_X8_scoreOf rfl rfl rfl (by decide +kernel) ⟨Nat.le_of_ble_eq_true rfl, Nat.le_of_ble_eq_true rfl⟩) (hc.preV hk41 rfl (by decide)) rfl rfl hl.1 rfl (lv_room (Nat.le_of_ble_eq_true rfl)) dX10_fillScoresByNode_57 ⟨Nat.le_of_ble_eq_true rfl, Nat.le_of_ble_eq_true rfl⟩) hc (fun x42 g43 H locs hq hc => ?_)
        replace h := hq
        refine lv_pop hx hb dX10_fillScoresByNode_60 rfl ?_
        exact hb_61 g43 i1 is0 h _ _ _ hc (lv_sub hl [1, 2, 0] rfl)
    have hb_37 : ∀ (g : gS) (i1 : Int32) (o2 : Option Nat), b_X10_fillScoresByNode_37 g r0 i1 o2 Q k2 → ∀ (H : Heap) (locs : List Loc) (ls : Array Slot), gC D cA (gA g0 sz) s g H locs → lv_has ls 5 [(0, .ref r0), (1, .int i1), (2, va_rf o2)] → W p l e r_X10_fillScoresByNode s m args below meth c H locs 0 0 (MQ below (gQv D cA g0 sz (Q)) args s 0 0 (gA g0 sz)) (F0 m 37 ls []) := by
      intro g i1 o2 h H locs ls hc hl
      unfold b_X10_fillScoresByNode_37 at h
      refine lv_iconst (v := 0) hx hb dX10_fillScoresByNode_37 (by decide) ?_
      exact hb_38 g i1 o2 0 h _ _ _ hc (lv_sub hl [0, 1, 2] rfl)
    unfold l_X10_fillScoresByNode_2 at h
    refine lv_iload_n hx hb dX10_fillScoresByNode_2 rfl (lv_at hl 1 rfl) ?_
    refine lv_aload_n hx hb dX10_fillScoresByNode_3 rfl (lv_at hl 0 rfl) ?_
    obtain ⟨hk45, h⟩ := h
    obtain ⟨y46, e47, h⟩ := h
    refine g_getr CF hc hk45 rfl (by decide) (fun _ h9 => List.mem_cons_of_mem _ (List.mem_append_left _ (List.mem_append_left _ (List.mem_append_left _ (List.mem_append_left _ (List.mem_append_left _ (List.mem_append_left _ (List.mem_append_left _ (List.mem_append_left _ (List.mem_append_right _ (h9))))))))))) (k := 0) (by decide) (List.mem_cons_of_mem _ (List.mem_append_left _ (List.mem_append_left _ (List.mem_append_left _ (List.mem_append_left _ (List.mem_append_left _ (List.mem_append_left _ (List.mem_append_left _ (List.mem_append_left _ (List.mem_append_left _ (List.mem_append_left _ (List.mem_of_getElem? (i := 0) rfl)))))))))))) e47 rfl dX10_fillScoresByNode_4 ?_
    obtain ⟨hk48, h⟩ := h
    refine g_get CF hc hk48 rfl (by decide) (fun _ h9 => List.mem_cons_of_mem _ (List.mem_append_left _ (List.mem_append_left _ (List.mem_append_left _ (List.mem_append_left _ (List.mem_append_left _ (List.mem_append_left _ (List.mem_append_left _ (List.mem_append_right _ (h9)))))))))) (k := 1) (by decide) (List.mem_cons_of_mem _ (List.mem_append_left _ (List.mem_append_left _ (List.mem_append_left _ (List.mem_append_left _ (List.mem_append_left _ (List.mem_append_left _ (List.mem_append_left _ (List.mem_append_left _ (List.mem_append_left _ (List.mem_append_left _ (List.mem_of_getElem? (i := 1) rfl)))))))))))) rfl dX10_fillScoresByNode_7 ?_
    refine lv_icmp_ge (tgt := 136) hx hb dX10_fillScoresByNode_10 (by decide) (fun c49 => ?_) (fun c49 => ?_)
    · have h := h.1 c49
      exact g_retv CF hr hlk hc h dX10_fillScoresByNode_136
    · have h := h.2 c49
      refine lv_aload_n hx hb dX10_fillScoresByNode_13 rfl (lv_at hl 0 rfl) ?_
      obtain ⟨y50, e51, h⟩ := h
      refine g_getr CF hc hk45 rfl (by decide) (fun _ h9 => List.mem_cons_of_mem _ (List.mem_append_left _ (List.mem_append_left _ (List.mem_append_left _ (List.mem_append_left _ (List.mem_append_left _ (List.mem_append_left _ (List.mem_append_left _ (List.mem_append_left _ (List.mem_append_right _ (h9))))))))))) (k := 0) (by decide) (List.mem_cons_of_mem _ (List.mem_append_left _ (List.mem_append_left _ (List.mem_append_left _ (List.mem_append_left _ (List.mem_append_left _ (List.mem_append_left _ (List.mem_append_left _ (List.mem_append_left _ (List.mem_append_left _ (List.mem_append_left _ (List.mem_of_getElem? (i := 0) rfl)))))))))))) e51 rfl dX10_fillScoresByNode_14 ?_
      refine lv_iload_n hx hb dX10_fillScoresByNode_17 rfl (lv_at hl 1 rfl) ?_
      obtain ⟨hk52, h⟩ := h
      refine g_callq (va_runV (As := [.int i1]) (rest := []) CF (c_X0_documentAt h) (cwV 1 hts gX10_fillScoresByNode_X0_documentAt rfl rfl rfl (by decide +kernel) ⟨Nat.le_of_ble_eq_true rfl, Nat.le_of_ble_eq_true rfl⟩) (hc.preV hk52 rfl (by decide)) rfl rfl hl.1 rfl (lv_room (Nat.le_of_ble_eq_true rfl)) dX10_fillScoresByNode_18 ⟨Nat.le_of_ble_eq_true rfl, Nat.le_of_ble_eq_true rfl⟩) hc (fun o53 gq54 H locs hq hc => ?_)
      obtain ⟨rfl, h⟩ := hq
      refine g_astore_nq (lv' := [(2, va_rf o53), (0, .ref r0), (1, .int i1)]) CF dX10_fillScoresByNode_21 rfl hl (by decide) rfl (fun ls hl => ?_)
      refine g_aload_nq CF dX10_fillScoresByNode_22 rfl (lv_at hl 0 rfl) ?_
      refine g_ifnull (tgt := 37) CF dX10_fillScoresByNode_23 (by decide) (fun e56 => ?_) (fun y55 e56 => ?_)
      · have hu61 := h.1 e56
        subst e56
        have h := hu61
        exact hb_37 g i1 none h _ _ _ hc (lv_sub hl [1, 2, 0] rfl)
      · have hu61 := h.2 y55 e56
        subst e56
        have h := hu61
        refine lv_aload_n hx hb dX10_fillScoresByNode_26 rfl (lv_at hl 0 rfl) ?_
        obtain ⟨hk57, h⟩ := h
        refine g_calli (va_runV (As := []) (rest := []) CF (c_X2_canBeFound h) (cwV 0 hts gX10_fillScoresByNode_X2_canBeFound rfl rfl rfl (by decide +kernel) ⟨Nat.le_of_ble_eq_true rfl, Nat.le_of_ble_eq_true rfl⟩) (hc.preV hk57 rfl (by decide)) rfl rfl hl.1 rfl (lv_room (Nat.le_of_ble_eq_true rfl)) dX10_fillScoresByNode_27 ⟨Nat.le_of_ble_eq_true rfl, Nat.le_of_ble_eq_true rfl⟩) hc (fun x58 gq59 H locs hq hc => ?_)
        obtain ⟨rfl, h⟩ := hq
        refine lv_if_eq (tgt := 37) hx hb dX10_fillScoresByNode_30 (by decide) (fun c60 => ?_) (fun c60 => ?_)
        · have h := h.1 c60
          exact hb_37 g i1 (some y55) h _ _ _ hc (lv_sub hl [1, 2, 0] rfl)
        · have h := h.2 c60
          refine lv_iconst (v := 1) hx hb dX10_fillScoresByNode_33 (by decide) ?_
          refine lv_goto (tgt := 38) hx hb dX10_fillScoresByNode_34 (by decide) ?_
          exact hb_38 g i1 (some y55) 1 h _ _ _ hc (lv_sub hl [1, 2, 0] rfl)
  unfold w_X10_fillScoresByNode at h
  obtain ⟨H, hH0⟩ : ∃ z, z = s.heap := ⟨_, rfl⟩
  rw [← hH0] at hc ⊢
  obtain ⟨locs, hlc0⟩ : ∃ z : List Loc, z = [] := ⟨_, rfl⟩
  rw [← hlc0] at hc ⊢
  refine lv_iconst (v := 0) hx hb dX10_fillScoresByNode_0 (by decide) ?_
  refine lv_istore_n (lv' := [(1, .int 0), (0, .ref p0)]) hx hb dX10_fillScoresByNode_1 rfl hl (by decide) rfl (fun ls hl => ?_)
  exact hb_2 p0 g0 0 h _ _ _ hc (lv_sub hl [1, 0] rfl)
def b_X10_countFound_31 (g : gS) (i2 : Int32) (Q : Int32 → Prop) : Prop :=
  Q i2
def b_X10_countFound_25 (g : gS) (r0 : Nat) (i1 : Int32) (i2 : Int32) (i3 : Int32) (Q : Int32 → Prop) (k4 : Int32 → Int32 → Prop) : Prop :=
  k4 i2 (i3 + 1)
def l_X10_countFound_4 (g : gS) (r0 : Nat) (i1 : Int32) (Q : Int32 → Prop) (i2 : Int32) (i3 : Int32) (k4 : Int32 → Int32 → Prop) : Prop :=
  (i1 ≤ i3 → (b_X10_countFound_31 g i2 Q)) ∧ (¬ i1 ≤ i3 → (gK g r0 = 21 ∧ (((nI (gN g r0)) ≤ i3 → (b_X10_countFound_31 g i2 Q)) ∧ (¬ (nI (gN g r0)) ≤ i3 → (vp_in i3 (gN g r0) ∧ (((gI g r0 (Int32.toNatClampNeg i3)) = (-1) → (b_X10_countFound_25 g r0 i1 i2 i3 Q k4)) ∧ (¬ (gI g r0 (Int32.toNatClampNeg i3)) = (-1) → (b_X10_countFound_25 g r0 i1 (i2 + 1) i3 Q k4))))))))
def w_X10_countFound (g : gS) (p0 : Nat) (p1 : Int32) (Q : Int32 → Prop) : Prop :=
  lpx2 (l_X10_countFound_4 g p0 p1 Q) 0 0
abbrev r_X10_countFound : Room := { frames := 0, cells := 0, slots := 0, locals := 0 }
set_option maxHeartbeats 4000000 in
set_option maxRecDepth 100000 in
theorem c_X10_countFound {l : Launch} {D : va_G} {cA : Nat → ClassId} {sz : Nat} {g : gS} {p0 : Nat} {p1 : Int32} {Q : Int32 → Prop} (h : w_X10_countFound g p0 p1 Q) : Met l yX10_countFound wsX10_countFound r_X10_countFound (va_Pc [.ref p0, .int p1] (gPre D cA g sz)) (gQi D cA g sz (fun r g2 => g = g2 ∧ Q r)) 0 0 (gA g sz) := by
  refine g_met (cc := cX10_countFound) (maxL := 4) (ret := (some .int)) (own := RX10) (by decide) rfl rfl (Nat.le_of_ble_eq_true rfl) ?_
  intro p e s m args below meth c ls CF hr hlk hnm hc hl
  obtain ⟨hx, hb, hml, hown, hts⟩ := id CF
  have hl : lv_has ls 4 [(0, .ref p0), (1, .int p1)] := hl
  show W p l e r_X10_countFound s m args below meth c s.heap [] 0 0 (MQ below (gQi D cA g sz (fun r g2 => g = g2 ∧ Q r)) args s 0 0 (gA g sz)) (F0 m 0 ls [])
  have hb_31 : ∀ (i2 : Int32), b_X10_countFound_31 g i2 Q → ∀ (H : Heap) (locs : List Loc) (ls : Array Slot), gC D cA (gA g sz) s g H locs → lv_has ls 4 [(2, .int i2)] → W p l e r_X10_countFound s m args below meth c H locs 0 0 (MQ below (gQi D cA g sz (fun r g2 => g = g2 ∧ Q r)) args s 0 0 (gA g sz)) (F0 m 31 ls []) := by
    intro i2 h H locs ls hc hl
    unfold b_X10_countFound_31 at h
    refine lv_iload_n hx hb dX10_countFound_31 rfl (lv_at hl 0 rfl) ?_
    exact g_reti (r := i2) CF hr hlk hc rfl ⟨rfl, h⟩ dX10_countFound_32
  have hb_4 : ∀ (r0 : Nat) (i1 : Int32), ∀ (i2 : Int32) (i3 : Int32), lpx2 (l_X10_countFound_4 g r0 i1 Q) i2 i3 → ∀ (H : Heap) (locs : List Loc) (ls : Array Slot), gC D cA (gA g sz) s g H locs → lv_has ls 4 [(0, .ref r0), (1, .int i1), (2, .int i2), (3, .int i3)] → W p l e r_X10_countFound s m args below meth c H locs 0 0 (MQ below (gQi D cA g sz (fun r g2 => g = g2 ∧ Q r)) args s 0 0 (gA g sz)) (F0 m 4 ls []) := by
    intro r0 i1
    refine lpx2_run (P := fun (i2 : Int32) (i3 : Int32) => ∀ (H : Heap) (locs : List Loc) (ls : Array Slot), gC D cA (gA g sz) s g H locs → lv_has ls 4 [(0, .ref r0), (1, .int i1), (2, .int i2), (3, .int i3)] → W p l e r_X10_countFound s m args below meth c H locs 0 0 (MQ below (gQi D cA g sz (fun r g2 => g = g2 ∧ Q r)) args s 0 0 (gA g sz)) (F0 m 4 ls [])) ?_
    intro k4 hk_4 i2 i3 h H locs ls hc hl
    have hb_25 : ∀ (i2 : Int32) (i3 : Int32), b_X10_countFound_25 g r0 i1 i2 i3 Q k4 → ∀ (H : Heap) (locs : List Loc) (ls : Array Slot), gC D cA (gA g sz) s g H locs → lv_has ls 4 [(0, .ref r0), (1, .int i1), (2, .int i2), (3, .int i3)] → W p l e r_X10_countFound s m args below meth c H locs 0 0 (MQ below (gQi D cA g sz (fun r g2 => g = g2 ∧ Q r)) args s 0 0 (gA g sz)) (F0 m 25 ls []) := by
      intro i2 i3 h H locs ls hc hl
      unfold b_X10_countFound_25 at h
      refine lv_iinc (v := (i3 + 1)) (lv' := [(3, .int (i3 + 1)), (0, .ref r0), (1, .int i1), (2, .int i2)]) hx hb dX10_countFound_25 hl (k := 3) rfl rfl (by decide) rfl (fun ls hl => ?_)
      refine lv_goto (tgt := 4) hx hb dX10_countFound_28 (by decide) ?_
      exact hk_4 i2 (i3 + 1) h _ _ _ hc (lv_sub hl [1, 2, 3, 0] rfl)
    unfold l_X10_countFound_4 at h
    refine lv_iload_n hx hb dX10_countFound_4 rfl (lv_at hl 3 rfl) ?_
    refine lv_iload_n hx hb dX10_countFound_5 rfl (lv_at hl 1 rfl) ?_
    refine lv_icmp_ge (tgt := 31) hx hb dX10_countFound_6 (by decide) (fun c1 => ?_) (fun c1 => ?_)
    · have h := h.1 c1
      exact hb_31 i2 h _ _ _ hc (lv_sub hl [2] rfl)
    · have h := h.2 c1
      refine lv_iload_n hx hb dX10_countFound_9 rfl (lv_at hl 3 rfl) ?_
      refine lv_aload_n hx hb dX10_countFound_10 rfl (lv_at hl 0 rfl) ?_
      obtain ⟨hk2, h⟩ := h
      refine g_alen CF hc (j := 0) hk2 (by decide) dX10_countFound_11 ?_
      refine lv_icmp_ge (tgt := 31) hx hb dX10_countFound_12 (by decide) (fun c3 => ?_) (fun c3 => ?_)
      · have h := h.1 c3
        exact hb_31 i2 h _ _ _ hc (lv_sub hl [2] rfl)
      · have h := h.2 c3
        refine lv_aload_n hx hb dX10_countFound_15 rfl (lv_at hl 0 rfl) ?_
        refine lv_iload_n hx hb dX10_countFound_16 rfl (lv_at hl 3 rfl) ?_
        obtain ⟨hi4, h⟩ := h
        refine g_iald CF hc hk2 hi4 dX10_countFound_17 ?_
        refine lv_iconst (v := (-1)) hx hb dX10_countFound_18 (by decide) ?_
        refine lv_icmp_eq (tgt := 25) hx hb dX10_countFound_19 (by decide) (fun c5 => ?_) (fun c5 => ?_)
        · have h := h.1 c5
          exact hb_25 i2 i3 h _ _ _ hc (lv_sub hl [0, 1, 2, 3] rfl)
        · have h := h.2 c5
          refine lv_iinc (v := (i2 + 1)) (lv' := [(2, .int (i2 + 1)), (0, .ref r0), (1, .int i1), (3, .int i3)]) hx hb dX10_countFound_22 hl (k := 2) rfl rfl (by decide) rfl (fun ls hl => ?_)
          exact hb_25 (i2 + 1) i3 h _ _ _ hc (lv_sub hl [1, 2, 0, 3] rfl)
  unfold w_X10_countFound at h
  obtain ⟨H, hH0⟩ : ∃ z, z = s.heap := ⟨_, rfl⟩
  rw [← hH0] at hc ⊢
  obtain ⟨locs, hlc0⟩ : ∃ z : List Loc, z = [] := ⟨_, rfl⟩
  rw [← hlc0] at hc ⊢
  refine lv_iconst (v := 0) hx hb dX10_countFound_0 (by decide) ?_
  refine lv_istore_n (lv' := [(2, .int 0), (0, .ref p0), (1, .int p1)]) hx hb dX10_countFound_1 rfl hl (by decide) rfl (fun ls hl => ?_)
  refine lv_iconst (v := 0) hx hb dX10_countFound_2 (by decide) ?_
  refine lv_istore_n (lv' := [(3, .int 0), (2, .int 0), (0, .ref p0), (1, .int p1)]) hx hb dX10_countFound_3 rfl hl (by decide) rfl (fun ls hl => ?_)
  exact hb_4 p0 p1 0 0 h _ _ _ hc (lv_sub hl [2, 3, 1, 0] rfl)
def b_X10_addNodes_138 (g : gS) (j3 : Int64) (Q : Int64 → gS → Prop) : Prop :=
  Q j3 g
def l_X10_addNodes_106 (g : gS) (r0 : Nat) (i5 : Int32) (r6 : Nat) (i7 : Int32) (Q : Int64 → gS → Prop) (k18 : gS → Int64 → Int32 → Prop) (j3 : Int64) (i8 : Int32) (k106 : Int64 → Int32 → Prop) : Prop :=
  (i7 ≤ i8 → (k18 g j3 (i5 + 1))) ∧ (¬ i7 ≤ i8 → (gK g r6 = 21 ∧ (vp_in i8 (gN g r6) ∧ (k106 ((j3 * 31) + (gI g r6 (Int32.toNatClampNeg i8)).toInt64) (i8 + 1)))))
def l_X10_addNodes_18 (r0 : Nat) (Q : Int64 → gS → Prop) (g : gS) (j3 : Int64) (i5 : Int32) (k18 : gS → Int64 → Int32 → Prop) : Prop :=
  gK g r0 = 11 ∧ (∃ y5, gR g r0 2 = some y5 ∧ (gK g y5 = 7 ∧ (((gI g y5 2) ≤ i5 → (b_X10_addNodes_138 g j3 Q)) ∧ (¬ (gI g y5 2) ≤ i5 → (∃ y9, gR g r0 9 = some y9 ∧ (gK g y9 = 24 ∧ (((nI (gN g y9)) ≤ i5 → (b_X10_addNodes_138 g j3 Q)) ∧ (¬ (nI (gN g y9)) ≤ i5 → (∃ y13, gR g r0 9 = some y13 ∧ (gK g y13 = 24 ∧ (vp_in i5 (gN g y13) ∧ (∃ y17, gR g y13 (Int32.toNatClampNeg i5) = some y17 ∧ (∃ y19, gR g r0 0 = some y19 ∧ (gK g y19 = 1 ∧ (gK g y17 = 21 ∧ (w_X10_countFound g y17 (if (nI (gN g y17)) < (gI g y19 1) then (nI (gN g y17)) else (gI g y19 1)) (fun x23 => (∃ y25, gR g r0 2 = some y25 ∧ (∃ y27, gR g r0 0 = some y27 ∧ (gK g y27 = 1 ∧ (∃ y30, gR g y27 5 = some y30 ∧ (gK g y25 = 7 ∧ (w_X6_entriesOf g y25 i5 y30 (fun x33 g34 => (lpx2 (l_X10_addNodes_106 g34 r0 i5 y17 (if (nI (gN g y17)) < (gI g y19 1) then (nI (gN g y17)) else (gI g y19 1)) Q k18) ((((j3 * 31) + x23.toInt64) * 31) + x33.toInt64) 0)))))))))))))))))))))))))
def w_X10_addNodes (g0 : gS) (p0 : Nat) (p1 : Int64) (Q : Int64 → gS → Prop) : Prop :=
  gK g0 p0 = 11 ∧ (∃ y37, gR g0 p0 2 = some y37 ∧ (gK g0 y37 = 7 ∧ (lpx3 (l_X10_addNodes_18 p0 Q) g0 ((p1 * 31) + (gI g0 y37 2).toInt64) 0)))
abbrev r_X10_addNodes : Room := { frames := 4, cells := 0, slots := 0, locals := 95 }
set_option maxHeartbeats 4000000 in
set_option maxRecDepth 100000 in
theorem c_X10_addNodes {l : Launch} {D : va_G} {cA : Nat → ClassId} {sz : Nat} {g0 : gS} {p0 : Nat} {p1 : Int64} {Q : Int64 → gS → Prop} (h : w_X10_addNodes g0 p0 p1 Q) : Met l yX10_addNodes wsX10_addNodes r_X10_addNodes (va_Pc [.ref p0, .long p1] (gPre D cA g0 sz)) (gQl D cA g0 sz (Q)) 0 0 (gA g0 sz) := by
  refine g_met (cc := cX10_addNodes) (maxL := 9) (ret := (some .long)) (own := RX10) (by decide) rfl rfl (Nat.le_of_ble_eq_true rfl) ?_
  intro p e s m args below meth c ls CF hr hlk hnm hc hl
  obtain ⟨hx, hb, hml, hown, hts⟩ := id CF
  have hl : lv_has ls 9 [(0, .ref p0), (1, .long p1)] := hl
  show W p l e r_X10_addNodes s m args below meth c s.heap [] 0 0 (MQ below (gQl D cA g0 sz (Q)) args s 0 0 (gA g0 sz)) (F0 m 0 ls [])
  have hb_138 : ∀ (g : gS) (j3 : Int64), b_X10_addNodes_138 g j3 Q → ∀ (H : Heap) (locs : List Loc) (ls : Array Slot), gC D cA (gA g0 sz) s g H locs → lv_has ls 9 [(3, .long j3)] → W p l e r_X10_addNodes s m args below meth c H locs 0 0 (MQ below (gQl D cA g0 sz (Q)) args s 0 0 (gA g0 sz)) (F0 m 138 ls []) := by
    intro g j3 h H locs ls hc hl
    unfold b_X10_addNodes_138 at h
    refine lv_lload_n hx hb dX10_addNodes_138 rfl (lv_at hl 0 rfl) ?_
    exact g_retl (r := j3) CF hr hlk hc h dX10_addNodes_139
  have hb_18 : ∀ (r0 : Nat), ∀ (g : gS) (j3 : Int64) (i5 : Int32), lpx3 (l_X10_addNodes_18 r0 Q) g j3 i5 → ∀ (H : Heap) (locs : List Loc) (ls : Array Slot), gC D cA (gA g0 sz) s g H locs → lv_has ls 9 [(0, .ref r0), (3, .long j3), (5, .int i5)] → W p l e r_X10_addNodes s m args below meth c H locs 0 0 (MQ below (gQl D cA g0 sz (Q)) args s 0 0 (gA g0 sz)) (F0 m 18 ls []) := by
    intro r0
    refine lpx3_run (P := fun (g : gS) (j3 : Int64) (i5 : Int32) => ∀ (H : Heap) (locs : List Loc) (ls : Array Slot), gC D cA (gA g0 sz) s g H locs → lv_has ls 9 [(0, .ref r0), (3, .long j3), (5, .int i5)] → W p l e r_X10_addNodes s m args below meth c H locs 0 0 (MQ below (gQl D cA g0 sz (Q)) args s 0 0 (gA g0 sz)) (F0 m 18 ls [])) ?_
    intro k18 hk_18 g j3 i5 h H locs ls hc hl
    have hb_106 : ∀ (g : gS) (i5 : Int32) (r6 : Nat) (i7 : Int32), ∀ (j3 : Int64) (i8 : Int32), lpx2 (l_X10_addNodes_106 g r0 i5 r6 i7 Q k18) j3 i8 → ∀ (H : Heap) (locs : List Loc) (ls : Array Slot), gC D cA (gA g0 sz) s g H locs → lv_has ls 9 [(0, .ref r0), (3, .long j3), (5, .int i5), (6, .ref r6), (7, .int i7), (8, .int i8)] → W p l e r_X10_addNodes s m args below meth c H locs 0 0 (MQ below (gQl D cA g0 sz (Q)) args s 0 0 (gA g0 sz)) (F0 m 106 ls []) := by
      intro g i5 r6 i7
      refine lpx2_run (P := fun (j3 : Int64) (i8 : Int32) => ∀ (H : Heap) (locs : List Loc) (ls : Array Slot), gC D cA (gA g0 sz) s g H locs → lv_has ls 9 [(0, .ref r0), (3, .long j3), (5, .int i5), (6, .ref r6), (7, .int i7), (8, .int i8)] → W p l e r_X10_addNodes s m args below meth c H locs 0 0 (MQ below (gQl D cA g0 sz (Q)) args s 0 0 (gA g0 sz)) (F0 m 106 ls [])) ?_
      intro k106 hk_106 j3 i8 h H locs ls hc hl
      unfold l_X10_addNodes_106 at h
      refine lv_iload hx hb dX10_addNodes_106 (lv_at hl 5 rfl) ?_
      refine lv_iload hx hb dX10_addNodes_108 (lv_at hl 4 rfl) ?_
      refine lv_icmp_ge (tgt := 132) hx hb dX10_addNodes_110 (by decide) (fun c1 => ?_) (fun c1 => ?_)
      · have h := h.1 c1
        refine lv_iinc (v := (i5 + 1)) (lv' := [(5, .int (i5 + 1)), (0, .ref r0), (3, .long j3), (6, .ref r6), (7, .int i7), (8, .int i8)]) hx hb dX10_addNodes_132 hl (k := 2) rfl rfl (by decide) rfl (fun ls hl => ?_)
        refine lv_goto (tgt := 18) hx hb dX10_addNodes_135 (by decide) ?_
        exact hk_18 g j3 (i5 + 1) h _ _ _ hc (lv_sub hl [1, 2, 0] rfl)
      · have h := h.2 c1
        refine lv_lload_n hx hb dX10_addNodes_113 rfl (lv_at hl 1 rfl) ?_
        refine lv_ldc2 (v := 31) hx hb hown (hts _ (List.mem_cons_of_mem _ (List.mem_append_left _ (List.mem_append_left _ (List.mem_append_left _ (List.mem_append_left _ (List.mem_append_left _ (List.mem_append_left _ (List.mem_append_left _ (List.mem_of_getElem? (i := 0) rfl)))))))))) dX10_addNodes_114 ?_
        refine lv_lmul hx hb dX10_addNodes_117 ?_
        refine lv_aload hx hb dX10_addNodes_118 (lv_at hl 3 rfl) ?_
        refine lv_iload hx hb dX10_addNodes_120 (lv_at hl 5 rfl) ?_
        obtain ⟨hk2, h⟩ := h
        obtain ⟨hi3, h⟩ := h
        refine g_iald CF hc hk2 hi3 dX10_addNodes_122 ?_
        refine lv_i2l hx hb dX10_addNodes_123 rfl ?_
        refine lv_ladd hx hb dX10_addNodes_124 ?_
        refine lv_lstore_n (lv' := [(3, .long ((j3 * 31) + (gI g r6 (Int32.toNatClampNeg i8)).toInt64)), (0, .ref r0), (5, .int i5), (6, .ref r6), (7, .int i7), (8, .int i8)]) hx hb dX10_addNodes_125 rfl hl (by decide) rfl (fun ls hl => ?_)
        refine lv_iinc (v := (i8 + 1)) (lv' := [(8, .int (i8 + 1)), (3, .long ((j3 * 31) + (gI g r6 (Int32.toNatClampNeg i8)).toInt64)), (0, .ref r0), (5, .int i5), (6, .ref r6), (7, .int i7)]) hx hb dX10_addNodes_126 hl (k := 5) rfl rfl (by decide) rfl (fun ls hl => ?_)
        refine lv_goto (tgt := 106) hx hb dX10_addNodes_129 (by decide) ?_
        exact hk_106 ((j3 * 31) + (gI g r6 (Int32.toNatClampNeg i8)).toInt64) (i8 + 1) h _ _ _ hc (lv_sub hl [2, 1, 3, 4, 5, 0] rfl)
    unfold l_X10_addNodes_18 at h
    refine lv_iload hx hb dX10_addNodes_18 (lv_at hl 2 rfl) ?_
    refine lv_aload_n hx hb dX10_addNodes_20 rfl (lv_at hl 0 rfl) ?_
    obtain ⟨hk4, h⟩ := h
    obtain ⟨y5, e6, h⟩ := h
    refine g_getr CF hc hk4 rfl (by decide) (fun _ h9 => List.mem_cons_of_mem _ (List.mem_append_left _ (List.mem_append_left _ (List.mem_append_left _ (List.mem_append_left _ (List.mem_append_left _ (List.mem_append_right _ (h9)))))))) (k := 2) (by decide) (List.mem_cons_of_mem _ (List.mem_append_left _ (List.mem_append_left _ (List.mem_append_left _ (List.mem_append_left _ (List.mem_append_left _ (List.mem_append_left _ (List.mem_append_left _ (List.mem_of_getElem? (i := 1) rfl))))))))) e6 rfl dX10_addNodes_21 ?_
    obtain ⟨hk7, h⟩ := h
    refine g_get CF hc hk7 rfl (by decide) (fun _ h9 => List.mem_cons_of_mem _ (List.mem_append_left _ (List.mem_append_left _ (List.mem_append_left _ (List.mem_append_left _ (List.mem_append_right _ (h9))))))) (k := 2) (by decide) (List.mem_cons_of_mem _ (List.mem_append_left _ (List.mem_append_left _ (List.mem_append_left _ (List.mem_append_left _ (List.mem_append_left _ (List.mem_append_left _ (List.mem_append_left _ (List.mem_of_getElem? (i := 2) rfl))))))))) rfl dX10_addNodes_24 ?_
    refine lv_icmp_ge (tgt := 138) hx hb dX10_addNodes_27 (by decide) (fun c8 => ?_) (fun c8 => ?_)
    · have h := h.1 c8
      exact hb_138 g j3 h _ _ _ hc (lv_sub hl [1] rfl)
    · have h := h.2 c8
      refine lv_iload hx hb dX10_addNodes_30 (lv_at hl 2 rfl) ?_
      refine lv_aload_n hx hb dX10_addNodes_32 rfl (lv_at hl 0 rfl) ?_
      obtain ⟨y9, e10, h⟩ := h
      refine g_getr CF hc hk4 rfl (by decide) (fun _ h9 => List.mem_cons_of_mem _ (List.mem_append_left _ (List.mem_append_left _ (List.mem_append_left _ (List.mem_append_left _ (List.mem_append_left _ (List.mem_append_right _ (h9)))))))) (k := 9) (by decide) (List.mem_cons_of_mem _ (List.mem_append_left _ (List.mem_append_left _ (List.mem_append_left _ (List.mem_append_left _ (List.mem_append_left _ (List.mem_append_left _ (List.mem_append_left _ (List.mem_of_getElem? (i := 3) rfl))))))))) e10 rfl dX10_addNodes_33 ?_
      obtain ⟨hk11, h⟩ := h
      refine g_alen CF hc (j := 3) hk11 (by decide) dX10_addNodes_36 ?_
      refine lv_icmp_ge (tgt := 138) hx hb dX10_addNodes_37 (by decide) (fun c12 => ?_) (fun c12 => ?_)
      · have h := h.1 c12
        exact hb_138 g j3 h _ _ _ hc (lv_sub hl [1] rfl)
      · have h := h.2 c12
        refine lv_aload_n hx hb dX10_addNodes_40 rfl (lv_at hl 0 rfl) ?_
        obtain ⟨y13, e14, h⟩ := h
        refine g_getr CF hc hk4 rfl (by decide) (fun _ h9 => List.mem_cons_of_mem _ (List.mem_append_left _ (List.mem_append_left _ (List.mem_append_left _ (List.mem_append_left _ (List.mem_append_left _ (List.mem_append_right _ (h9)))))))) (k := 9) (by decide) (List.mem_cons_of_mem _ (List.mem_append_left _ (List.mem_append_left _ (List.mem_append_left _ (List.mem_append_left _ (List.mem_append_left _ (List.mem_append_left _ (List.mem_append_left _ (List.mem_of_getElem? (i := 3) rfl))))))))) e14 rfl dX10_addNodes_41 ?_
        refine lv_iload hx hb dX10_addNodes_44 (lv_at hl 2 rfl) ?_
        obtain ⟨hk15, h⟩ := h
        obtain ⟨hi16, h⟩ := h
        obtain ⟨y17, e18, h⟩ := h
        refine g_aaldr CF hc hk15 hi16 e18 dX10_addNodes_46 ?_
        refine lv_astore (lv' := [(6, .ref y17), (0, .ref r0), (3, .long j3), (5, .int i5)]) hx hb dX10_addNodes_47 hl (by decide) rfl (fun ls hl => ?_)
        refine lv_aload_n hx hb dX10_addNodes_49 rfl (lv_at hl 1 rfl) ?_
        obtain ⟨y19, e20, h⟩ := h
        refine g_getr CF hc hk4 rfl (by decide) (fun _ h9 => List.mem_cons_of_mem _ (List.mem_append_left _ (List.mem_append_left _ (List.mem_append_left _ (List.mem_append_left _ (List.mem_append_left _ (List.mem_append_right _ (h9)))))))) (k := 0) (by decide) (List.mem_cons_of_mem _ (List.mem_append_left _ (List.mem_append_left _ (List.mem_append_left _ (List.mem_append_left _ (List.mem_append_left _ (List.mem_append_left _ (List.mem_append_left _ (List.mem_of_getElem? (i := 4) rfl))))))))) e20 rfl dX10_addNodes_50 ?_
        obtain ⟨hk21, h⟩ := h
        refine g_get CF hc hk21 rfl (by decide) (fun _ h9 => List.mem_cons_of_mem _ (List.mem_append_left _ (List.mem_append_left _ (List.mem_append_left _ (List.mem_append_right _ (h9)))))) (k := 1) (by decide) (List.mem_cons_of_mem _ (List.mem_append_left _ (List.mem_append_left _ (List.mem_append_left _ (List.mem_append_left _ (List.mem_append_left _ (List.mem_append_left _ (List.mem_append_left _ (List.mem_of_getElem? (i := 5) rfl))))))))) rfl dX10_addNodes_53 ?_
        refine lv_aload hx hb dX10_addNodes_56 (lv_at hl 0 rfl) ?_
        obtain ⟨hk22, h⟩ := h
        refine g_alen CF hc (j := 0) hk22 (by decide) dX10_addNodes_58 ?_
        refine va_mmin hx hb (hml.trans hl.1.symm) hown (hts _ (List.mem_cons_of_mem _ (List.mem_append_left _ (List.mem_append_left _ (List.mem_append_left _ (List.mem_append_left _ (List.mem_append_left _ (List.mem_append_left _ (List.mem_append_left _ (List.mem_of_getElem? (i := 6) rfl)))))))))) (hts _ (List.mem_cons_of_mem _ (List.mem_append_left _ (List.mem_append_left _ (List.mem_append_left _ (List.mem_append_left _ (List.mem_append_left _ (List.mem_append_left _ (List.mem_append_left _ (List.mem_of_getElem? (i := 7) rfl)))))))))) (hts _ (List.mem_cons_of_mem _ (List.mem_append_left _ (List.mem_append_left _ (List.mem_append_left _ (List.mem_append_left _ (List.mem_append_left _ (List.mem_append_left _ (List.mem_append_left _ (List.mem_of_getElem? (i := 8) rfl)))))))))) (hts _ (List.mem_cons_of_mem _ (List.mem_append_left _ (List.mem_append_left _ (List.mem_append_left _ (List.mem_append_left _ (List.mem_append_left _ (List.mem_append_left _ (List.mem_append_left _ (List.mem_of_getElem? (i := 9) rfl)))))))))) (Nat.le_of_ble_eq_true rfl) (Nat.le_of_ble_eq_true rfl) (Nat.le_of_ble_eq_true rfl) (Nat.le_of_ble_eq_true rfl) dX10_addNodes_59 ?_
        refine lv_istore (lv' := [(7, .int (if (nI (gN g y17)) < (gI g y19 1) then (nI (gN g y17)) else (gI g y19 1))), (6, .ref y17), (0, .ref r0), (3, .long j3), (5, .int i5)]) hx hb dX10_addNodes_62 hl (by decide) rfl (fun ls hl => ?_)
        refine lv_lload_n hx hb dX10_addNodes_64 rfl (lv_at hl 3 rfl) ?_
        refine lv_ldc2 (v := 31) hx hb hown (hts _ (List.mem_cons_of_mem _ (List.mem_append_left _ (List.mem_append_left _ (List.mem_append_left _ (List.mem_append_left _ (List.mem_append_left _ (List.mem_append_left _ (List.mem_append_left _ (List.mem_of_getElem? (i := 0) rfl)))))))))) dX10_addNodes_65 ?_
        refine lv_lmul hx hb dX10_addNodes_68 ?_
        refine lv_aload hx hb dX10_addNodes_69 (lv_at hl 1 rfl) ?_
        refine lv_iload hx hb dX10_addNodes_71 (lv_at hl 0 rfl) ?_
        refine g_calli (va_runS (As := [.ref y17, .int (if (nI (gN g y17)) < (gI g y19 1) then (nI (gN g y17)) else (gI g y19 1))]) (rest := [.long (j3 * 31)]) CF (c_X10_countFound h) (va_cwS 2 hts gX10_addNodes_X10_countFound rfl rfl rfl (by decide +kernel) ⟨Nat.le_of_ble_eq_true rfl, Nat.le_of_ble_eq_true rfl⟩) hc.preS rfl rfl hl.1 rfl (lv_room (Nat.le_of_ble_eq_true rfl)) dX10_addNodes_73 ⟨Nat.le_of_ble_eq_true rfl, Nat.le_of_ble_eq_true rfl⟩) hc (fun x23 gq24 H locs hq hc => ?_)
        obtain ⟨rfl, h⟩ := hq
        refine lv_i2l hx hb dX10_addNodes_76 rfl ?_
        refine lv_ladd hx hb dX10_addNodes_77 ?_
        refine lv_lstore_n (lv' := [(3, .long ((j3 * 31) + x23.toInt64)), (7, .int (if (nI (gN g y17)) < (gI g y19 1) then (nI (gN g y17)) else (gI g y19 1))), (6, .ref y17), (0, .ref r0), (5, .int i5)]) hx hb dX10_addNodes_78 rfl hl (by decide) rfl (fun ls hl => ?_)
        refine lv_lload_n hx hb dX10_addNodes_79 rfl (lv_at hl 0 rfl) ?_
        refine lv_ldc2 (v := 31) hx hb hown (hts _ (List.mem_cons_of_mem _ (List.mem_append_left _ (List.mem_append_left _ (List.mem_append_left _ (List.mem_append_left _ (List.mem_append_left _ (List.mem_append_left _ (List.mem_append_left _ (List.mem_of_getElem? (i := 0) rfl)))))))))) dX10_addNodes_80 ?_
        refine lv_lmul hx hb dX10_addNodes_83 ?_
        refine lv_aload_n hx hb dX10_addNodes_84 rfl (lv_at hl 3 rfl) ?_
        obtain ⟨y25, e26, h⟩ := h
        refine g_getr CF hc hk4 rfl (by decide) (fun _ h9 => List.mem_cons_of_mem _ (List.mem_append_left _ (List.mem_append_left _ (List.mem_append_left _ (List.mem_append_left _ (List.mem_append_left _ (List.mem_append_right _ (h9)))))))) (k := 2) (by decide) (List.mem_cons_of_mem _ (List.mem_append_left _ (List.mem_append_left _ (List.mem_append_left _ (List.mem_append_left _ (List.mem_append_left _ (List.mem_append_left _ (List.mem_append_left _ (List.mem_of_getElem? (i := 1) rfl))))))))) e26 rfl dX10_addNodes_85 ?_
        refine lv_iload hx hb dX10_addNodes_88 (lv_at hl 4 rfl) ?_
        refine lv_aload_n hx hb dX10_addNodes_90 rfl (lv_at hl 3 rfl) ?_
        obtain ⟨y27, e28, h⟩ := h
        refine g_getr CF hc hk4 rfl (by decide) (fun _ h9 => List.mem_cons_of_mem _ (List.mem_append_left _ (List.mem_append_left _ (List.mem_append_left _ (List.mem_append_left _ (List.mem_append_left _ (List.mem_append_right _ (h9)))))))) (k := 0) (by decide) (List.mem_cons_of_mem _ (List.mem_append_left _ (List.mem_append_left _ (List.mem_append_left _ (List.mem_append_left _ (List.mem_append_left _ (List.mem_append_left _ (List.mem_append_left _ (List.mem_of_getElem? (i := 4) rfl))))))))) e28 rfl dX10_addNodes_91 ?_
        obtain ⟨hk29, h⟩ := h
        obtain ⟨y30, e31, h⟩ := h
        refine g_getr CF hc hk29 rfl (by decide) (fun _ h9 => List.mem_cons_of_mem _ (List.mem_append_left _ (List.mem_append_left _ (List.mem_append_left _ (List.mem_append_right _ (h9)))))) (k := 5) (by decide) (List.mem_cons_of_mem _ (List.mem_append_left _ (List.mem_append_left _ (List.mem_append_left _ (List.mem_append_left _ (List.mem_append_left _ (List.mem_append_left _ (List.mem_append_left _ (List.mem_of_getElem? (i := 10) rfl))))))))) e31 rfl dX10_addNodes_94 ?_
        obtain ⟨hk32, h⟩ := h
        refine g_calli (va_runV (As := [.int i5, .ref y30]) (rest := [.long (((j3 * 31) + x23.toInt64) * 31)]) CF (c_X6_entriesOf h) (cwV 2 hts gX10_addNodes_X6_entriesOf rfl rfl rfl (by decide +kernel) ⟨Nat.le_of_ble_eq_true rfl, Nat.le_of_ble_eq_true rfl⟩) (hc.preV hk32 rfl (by decide)) rfl rfl hl.1 rfl (lv_room (Nat.le_of_ble_eq_true rfl)) dX10_addNodes_97 ⟨Nat.le_of_ble_eq_true rfl, Nat.le_of_ble_eq_true rfl⟩) hc (fun x33 g34 H locs hq hc => ?_)
        replace h := hq
        refine lv_i2l hx hb dX10_addNodes_100 rfl ?_
        refine lv_ladd hx hb dX10_addNodes_101 ?_
        refine lv_lstore_n (lv' := [(3, .long ((((j3 * 31) + x23.toInt64) * 31) + x33.toInt64)), (7, .int (if (nI (gN g y17)) < (gI g y19 1) then (nI (gN g y17)) else (gI g y19 1))), (6, .ref y17), (0, .ref r0), (5, .int i5)]) hx hb dX10_addNodes_102 rfl hl (by decide) rfl (fun ls hl => ?_)
        refine lv_iconst (v := 0) hx hb dX10_addNodes_103 (by decide) ?_
        refine lv_istore (lv' := [(8, .int 0), (3, .long ((((j3 * 31) + x23.toInt64) * 31) + x33.toInt64)), (7, .int (if (nI (gN g y17)) < (gI g y19 1) then (nI (gN g y17)) else (gI g y19 1))), (6, .ref y17), (0, .ref r0), (5, .int i5)]) hx hb dX10_addNodes_104 hl (by decide) rfl (fun ls hl => ?_)
        exact hb_106 g34 i5 y17 (if (nI (gN g y17)) < (gI g y19 1) then (nI (gN g y17)) else (gI g y19 1)) ((((j3 * 31) + x23.toInt64) * 31) + x33.toInt64) 0 h _ _ _ hc (lv_sub hl [4, 1, 5, 3, 2, 0] rfl)
  unfold w_X10_addNodes at h
  obtain ⟨H, hH0⟩ : ∃ z, z = s.heap := ⟨_, rfl⟩
  rw [← hH0] at hc ⊢
  obtain ⟨locs, hlc0⟩ : ∃ z : List Loc, z = [] := ⟨_, rfl⟩
  rw [← hlc0] at hc ⊢
  refine lv_lload_n hx hb dX10_addNodes_0 rfl (lv_at hl 1 rfl) ?_
  refine lv_ldc2 (v := 31) hx hb hown (hts _ (List.mem_cons_of_mem _ (List.mem_append_left _ (List.mem_append_left _ (List.mem_append_left _ (List.mem_append_left _ (List.mem_append_left _ (List.mem_append_left _ (List.mem_append_left _ (List.mem_of_getElem? (i := 0) rfl)))))))))) dX10_addNodes_1 ?_
  refine lv_lmul hx hb dX10_addNodes_4 ?_
  refine lv_aload_n hx hb dX10_addNodes_5 rfl (lv_at hl 0 rfl) ?_
  obtain ⟨hk36, h⟩ := h
  obtain ⟨y37, e38, h⟩ := h
  refine g_getr CF hc hk36 rfl (by decide) (fun _ h9 => List.mem_cons_of_mem _ (List.mem_append_left _ (List.mem_append_left _ (List.mem_append_left _ (List.mem_append_left _ (List.mem_append_left _ (List.mem_append_right _ (h9)))))))) (k := 2) (by decide) (List.mem_cons_of_mem _ (List.mem_append_left _ (List.mem_append_left _ (List.mem_append_left _ (List.mem_append_left _ (List.mem_append_left _ (List.mem_append_left _ (List.mem_append_left _ (List.mem_of_getElem? (i := 1) rfl))))))))) e38 rfl dX10_addNodes_6 ?_
  obtain ⟨hk39, h⟩ := h
  refine g_get CF hc hk39 rfl (by decide) (fun _ h9 => List.mem_cons_of_mem _ (List.mem_append_left _ (List.mem_append_left _ (List.mem_append_left _ (List.mem_append_left _ (List.mem_append_right _ (h9))))))) (k := 2) (by decide) (List.mem_cons_of_mem _ (List.mem_append_left _ (List.mem_append_left _ (List.mem_append_left _ (List.mem_append_left _ (List.mem_append_left _ (List.mem_append_left _ (List.mem_append_left _ (List.mem_of_getElem? (i := 2) rfl))))))))) rfl dX10_addNodes_9 ?_
  refine lv_i2l hx hb dX10_addNodes_12 rfl ?_
  refine lv_ladd hx hb dX10_addNodes_13 ?_
  refine lv_lstore_n (lv' := [(3, .long ((p1 * 31) + (gI g0 y37 2).toInt64)), (0, .ref p0), (1, .long p1)]) hx hb dX10_addNodes_14 rfl hl (by decide) rfl (fun ls hl => ?_)
  refine lv_iconst (v := 0) hx hb dX10_addNodes_15 (by decide) ?_
  refine lv_istore (lv' := [(5, .int 0), (3, .long ((p1 * 31) + (gI g0 y37 2).toInt64)), (0, .ref p0), (1, .long p1)]) hx hb dX10_addNodes_16 hl (by decide) rfl (fun ls hl => ?_)
  exact hb_18 p0 g0 ((p1 * 31) + (gI g0 y37 2).toInt64) 0 h _ _ _ hc (lv_sub hl [2, 1, 0] rfl)
def l_X10_addResults_73 (g : gS) (r0 : Nat) (Q : Int64 → Prop) (j3 : Int64) (i5 : Int32) (k73 : Int64 → Int32 → Prop) : Prop :=
  (8 ≤ i5 → (Q j3)) ∧ (¬ 8 ≤ i5 → (gK g r0 = 11 ∧ (∃ y3, gR g r0 3 = some y3 ∧ (gK g y3 = 8 ∧ (w_X7_countKind g y3 i5 (fun x6 => (k73 ((j3 * 31) + x6.toInt64) (i5 + 1))))))))
def l_X10_addResults_18 (g : gS) (r0 : Nat) (Q : Int64 → Prop) (j3 : Int64) (i5 : Int32) (k18 : Int64 → Int32 → Prop) : Prop :=
  gK g r0 = 11 ∧ (∃ y9, gR g r0 3 = some y9 ∧ (gK g y9 = 8 ∧ (((gI g y9 3) ≤ i5 → (lpx2 (l_X10_addResults_73 g r0 Q) j3 0)) ∧ (¬ (gI g y9 3) ≤ i5 → (∃ y13, gR g r0 3 = some y13 ∧ (gK g y13 = 8 ∧ (w_X7_numberAt g y13 i5 (fun x16 => (∃ y18, gR g r0 3 = some y18 ∧ (gK g y18 = 8 ∧ (w_X7_valueAt g y18 i5 (fun x21 => (k18 ((((j3 * 31) + x16.toInt64) * 31) + x21.toInt64) (i5 + 1))))))))))))))
def w_X10_addResults (g : gS) (p0 : Nat) (p1 : Int64) (Q : Int64 → Prop) : Prop :=
  gK g p0 = 11 ∧ (∃ y24, gR g p0 3 = some y24 ∧ (gK g y24 = 8 ∧ (lpx2 (l_X10_addResults_18 g p0 Q) ((p1 * 31) + (gI g y24 3).toInt64) 0)))
abbrev r_X10_addResults : Room := { frames := 3, cells := 0, slots := 0, locals := 66 }
set_option maxHeartbeats 4000000 in
set_option maxRecDepth 100000 in
theorem c_X10_addResults {l : Launch} {D : va_G} {cA : Nat → ClassId} {sz : Nat} {g : gS} {p0 : Nat} {p1 : Int64} {Q : Int64 → Prop} (h : w_X10_addResults g p0 p1 Q) : Met l yX10_addResults wsX10_addResults r_X10_addResults (va_Pc [.ref p0, .long p1] (gPre D cA g sz)) (gQl D cA g sz (fun r g2 => g = g2 ∧ Q r)) 0 0 (gA g sz) := by
  refine g_met (cc := cX10_addResults) (maxL := 6) (ret := (some .long)) (own := RX10) (by decide) rfl rfl (Nat.le_of_ble_eq_true rfl) ?_
  intro p e s m args below meth c ls CF hr hlk hnm hc hl
  obtain ⟨hx, hb, hml, hown, hts⟩ := id CF
  have hl : lv_has ls 6 [(0, .ref p0), (1, .long p1)] := hl
  show W p l e r_X10_addResults s m args below meth c s.heap [] 0 0 (MQ below (gQl D cA g sz (fun r g2 => g = g2 ∧ Q r)) args s 0 0 (gA g sz)) (F0 m 0 ls [])
  have hb_73 : ∀ (r0 : Nat), ∀ (j3 : Int64) (i5 : Int32), lpx2 (l_X10_addResults_73 g r0 Q) j3 i5 → ∀ (H : Heap) (locs : List Loc) (ls : Array Slot), gC D cA (gA g sz) s g H locs → lv_has ls 6 [(0, .ref r0), (3, .long j3), (5, .int i5)] → W p l e r_X10_addResults s m args below meth c H locs 0 0 (MQ below (gQl D cA g sz (fun r g2 => g = g2 ∧ Q r)) args s 0 0 (gA g sz)) (F0 m 73 ls []) := by
    intro r0
    refine lpx2_run (P := fun (j3 : Int64) (i5 : Int32) => ∀ (H : Heap) (locs : List Loc) (ls : Array Slot), gC D cA (gA g sz) s g H locs → lv_has ls 6 [(0, .ref r0), (3, .long j3), (5, .int i5)] → W p l e r_X10_addResults s m args below meth c H locs 0 0 (MQ below (gQl D cA g sz (fun r g2 => g = g2 ∧ Q r)) args s 0 0 (gA g sz)) (F0 m 73 ls [])) ?_
    intro k73 hk_73 j3 i5 h H locs ls hc hl
    unfold l_X10_addResults_73 at h
    refine lv_iload hx hb dX10_addResults_73 (lv_at hl 2 rfl) ?_
    refine lv_bipush (v := 8) hx hb dX10_addResults_75 (by decide) ?_
    refine lv_icmp_ge (tgt := 103) hx hb dX10_addResults_77 (by decide) (fun c1 => ?_) (fun c1 => ?_)
    · have h := h.1 c1
      refine lv_lload_n hx hb dX10_addResults_103 rfl (lv_at hl 1 rfl) ?_
      exact g_retl (r := j3) CF hr hlk hc ⟨rfl, h⟩ dX10_addResults_104
    · have h := h.2 c1
      refine lv_lload_n hx hb dX10_addResults_80 rfl (lv_at hl 1 rfl) ?_
      refine lv_ldc2 (v := 31) hx hb hown (hts _ (List.mem_cons_of_mem _ (List.mem_append_left _ (List.mem_append_left _ (List.mem_append_left _ (List.mem_append_left _ (List.mem_of_getElem? (i := 0) rfl))))))) dX10_addResults_81 ?_
      refine lv_lmul hx hb dX10_addResults_84 ?_
      refine lv_aload_n hx hb dX10_addResults_85 rfl (lv_at hl 0 rfl) ?_
      obtain ⟨hk2, h⟩ := h
      obtain ⟨y3, e4, h⟩ := h
      refine g_getr CF hc hk2 rfl (by decide) (fun _ h9 => List.mem_cons_of_mem _ (List.mem_append_left _ (List.mem_append_left _ (List.mem_append_right _ (h9))))) (k := 3) (by decide) (List.mem_cons_of_mem _ (List.mem_append_left _ (List.mem_append_left _ (List.mem_append_left _ (List.mem_append_left _ (List.mem_of_getElem? (i := 1) rfl)))))) e4 rfl dX10_addResults_86 ?_
      refine lv_iload hx hb dX10_addResults_89 (lv_at hl 2 rfl) ?_
      obtain ⟨hk5, h⟩ := h
      refine g_calli (va_runV (As := [.int i5]) (rest := [.long (j3 * 31)]) CF (c_X7_countKind h) (cwV 1 hts gX10_addResults_X7_countKind rfl rfl rfl (by decide +kernel) ⟨Nat.le_of_ble_eq_true rfl, Nat.le_of_ble_eq_true rfl⟩) (hc.preV hk5 rfl (by decide)) rfl rfl hl.1 rfl (lv_room (Nat.le_of_ble_eq_true rfl)) dX10_addResults_91 ⟨Nat.le_of_ble_eq_true rfl, Nat.le_of_ble_eq_true rfl⟩) hc (fun x6 gq7 H locs hq hc => ?_)
      obtain ⟨rfl, h⟩ := hq
      refine lv_i2l hx hb dX10_addResults_94 rfl ?_
      refine lv_ladd hx hb dX10_addResults_95 ?_
      refine lv_lstore_n (lv' := [(3, .long ((j3 * 31) + x6.toInt64)), (0, .ref r0), (5, .int i5)]) hx hb dX10_addResults_96 rfl hl (by decide) rfl (fun ls hl => ?_)
      refine lv_iinc (v := (i5 + 1)) (lv' := [(5, .int (i5 + 1)), (3, .long ((j3 * 31) + x6.toInt64)), (0, .ref r0)]) hx hb dX10_addResults_97 hl (k := 2) rfl rfl (by decide) rfl (fun ls hl => ?_)
      refine lv_goto (tgt := 73) hx hb dX10_addResults_100 (by decide) ?_
      exact hk_73 ((j3 * 31) + x6.toInt64) (i5 + 1) h _ _ _ hc (lv_sub hl [2, 1, 0] rfl)
  have hb_18 : ∀ (r0 : Nat), ∀ (j3 : Int64) (i5 : Int32), lpx2 (l_X10_addResults_18 g r0 Q) j3 i5 → ∀ (H : Heap) (locs : List Loc) (ls : Array Slot), gC D cA (gA g sz) s g H locs → lv_has ls 6 [(0, .ref r0), (3, .long j3), (5, .int i5)] → W p l e r_X10_addResults s m args below meth c H locs 0 0 (MQ below (gQl D cA g sz (fun r g2 => g = g2 ∧ Q r)) args s 0 0 (gA g sz)) (F0 m 18 ls []) := by
    intro r0
    refine lpx2_run (P := fun (j3 : Int64) (i5 : Int32) => ∀ (H : Heap) (locs : List Loc) (ls : Array Slot), gC D cA (gA g sz) s g H locs → lv_has ls 6 [(0, .ref r0), (3, .long j3), (5, .int i5)] → W p l e r_X10_addResults s m args below meth c H locs 0 0 (MQ below (gQl D cA g sz (fun r g2 => g = g2 ∧ Q r)) args s 0 0 (gA g sz)) (F0 m 18 ls [])) ?_
    intro k18 hk_18 j3 i5 h H locs ls hc hl
    unfold l_X10_addResults_18 at h
    refine lv_iload hx hb dX10_addResults_18 (lv_at hl 2 rfl) ?_
    refine lv_aload_n hx hb dX10_addResults_20 rfl (lv_at hl 0 rfl) ?_
    obtain ⟨hk8, h⟩ := h
    obtain ⟨y9, e10, h⟩ := h
    refine g_getr CF hc hk8 rfl (by decide) (fun _ h9 => List.mem_cons_of_mem _ (List.mem_append_left _ (List.mem_append_left _ (List.mem_append_right _ (h9))))) (k := 3) (by decide) (List.mem_cons_of_mem _ (List.mem_append_left _ (List.mem_append_left _ (List.mem_append_left _ (List.mem_append_left _ (List.mem_of_getElem? (i := 1) rfl)))))) e10 rfl dX10_addResults_21 ?_
    obtain ⟨hk11, h⟩ := h
    refine g_get CF hc hk11 rfl (by decide) (fun _ h9 => List.mem_cons_of_mem _ (List.mem_append_left _ (List.mem_append_right _ (h9)))) (k := 3) (by decide) (List.mem_cons_of_mem _ (List.mem_append_left _ (List.mem_append_left _ (List.mem_append_left _ (List.mem_append_left _ (List.mem_of_getElem? (i := 2) rfl)))))) rfl dX10_addResults_24 ?_
    refine lv_icmp_ge (tgt := 70) hx hb dX10_addResults_27 (by decide) (fun c12 => ?_) (fun c12 => ?_)
    · have h := h.1 c12
      refine lv_iconst (v := 0) hx hb dX10_addResults_70 (by decide) ?_
      refine lv_istore (lv' := [(5, .int 0), (0, .ref r0), (3, .long j3)]) hx hb dX10_addResults_71 hl (by decide) rfl (fun ls hl => ?_)
      exact hb_73 r0 j3 0 h _ _ _ hc (lv_sub hl [1, 2, 0] rfl)
    · have h := h.2 c12
      refine lv_lload_n hx hb dX10_addResults_30 rfl (lv_at hl 1 rfl) ?_
      refine lv_ldc2 (v := 31) hx hb hown (hts _ (List.mem_cons_of_mem _ (List.mem_append_left _ (List.mem_append_left _ (List.mem_append_left _ (List.mem_append_left _ (List.mem_of_getElem? (i := 0) rfl))))))) dX10_addResults_31 ?_
      refine lv_lmul hx hb dX10_addResults_34 ?_
      refine lv_aload_n hx hb dX10_addResults_35 rfl (lv_at hl 0 rfl) ?_
      obtain ⟨y13, e14, h⟩ := h
      refine g_getr CF hc hk8 rfl (by decide) (fun _ h9 => List.mem_cons_of_mem _ (List.mem_append_left _ (List.mem_append_left _ (List.mem_append_right _ (h9))))) (k := 3) (by decide) (List.mem_cons_of_mem _ (List.mem_append_left _ (List.mem_append_left _ (List.mem_append_left _ (List.mem_append_left _ (List.mem_of_getElem? (i := 1) rfl)))))) e14 rfl dX10_addResults_36 ?_
      refine lv_iload hx hb dX10_addResults_39 (lv_at hl 2 rfl) ?_
      obtain ⟨hk15, h⟩ := h
      refine g_calli (va_runV (As := [.int i5]) (rest := [.long (j3 * 31)]) CF (c_X7_numberAt h) (cwV 1 hts gX10_addResults_X7_numberAt rfl rfl rfl (by decide +kernel) ⟨Nat.le_of_ble_eq_true rfl, Nat.le_of_ble_eq_true rfl⟩) (hc.preV hk15 rfl (by decide)) rfl rfl hl.1 rfl (lv_room (Nat.le_of_ble_eq_true rfl)) dX10_addResults_41 ⟨Nat.le_of_ble_eq_true rfl, Nat.le_of_ble_eq_true rfl⟩) hc (fun x16 gq17 H locs hq hc => ?_)
      obtain ⟨rfl, h⟩ := hq
      refine lv_i2l hx hb dX10_addResults_44 rfl ?_
      refine lv_ladd hx hb dX10_addResults_45 ?_
      refine lv_lstore_n (lv' := [(3, .long ((j3 * 31) + x16.toInt64)), (0, .ref r0), (5, .int i5)]) hx hb dX10_addResults_46 rfl hl (by decide) rfl (fun ls hl => ?_)
      refine lv_lload_n hx hb dX10_addResults_47 rfl (lv_at hl 0 rfl) ?_
      refine lv_ldc2 (v := 31) hx hb hown (hts _ (List.mem_cons_of_mem _ (List.mem_append_left _ (List.mem_append_left _ (List.mem_append_left _ (List.mem_append_left _ (List.mem_of_getElem? (i := 0) rfl))))))) dX10_addResults_48 ?_
      refine lv_lmul hx hb dX10_addResults_51 ?_
      refine lv_aload_n hx hb dX10_addResults_52 rfl (lv_at hl 1 rfl) ?_
      obtain ⟨y18, e19, h⟩ := h
      refine g_getr CF hc hk8 rfl (by decide) (fun _ h9 => List.mem_cons_of_mem _ (List.mem_append_left _ (List.mem_append_left _ (List.mem_append_right _ (h9))))) (k := 3) (by decide) (List.mem_cons_of_mem _ (List.mem_append_left _ (List.mem_append_left _ (List.mem_append_left _ (List.mem_append_left _ (List.mem_of_getElem? (i := 1) rfl)))))) e19 rfl dX10_addResults_53 ?_
      refine lv_iload hx hb dX10_addResults_56 (lv_at hl 2 rfl) ?_
      obtain ⟨hk20, h⟩ := h
      refine g_calli (va_runV (As := [.int i5]) (rest := [.long (((j3 * 31) + x16.toInt64) * 31)]) CF (c_X7_valueAt h) (cwV 1 hts gX10_addResults_X7_valueAt rfl rfl rfl (by decide +kernel) ⟨Nat.le_of_ble_eq_true rfl, Nat.le_of_ble_eq_true rfl⟩) (hc.preV hk20 rfl (by decide)) rfl rfl hl.1 rfl (lv_room (Nat.le_of_ble_eq_true rfl)) dX10_addResults_58 ⟨Nat.le_of_ble_eq_true rfl, Nat.le_of_ble_eq_true rfl⟩) hc (fun x21 gq22 H locs hq hc => ?_)
      obtain ⟨rfl, h⟩ := hq
      refine lv_i2l hx hb dX10_addResults_61 rfl ?_
      refine lv_ladd hx hb dX10_addResults_62 ?_
      refine lv_lstore_n (lv' := [(3, .long ((((j3 * 31) + x16.toInt64) * 31) + x21.toInt64)), (0, .ref r0), (5, .int i5)]) hx hb dX10_addResults_63 rfl hl (by decide) rfl (fun ls hl => ?_)
      refine lv_iinc (v := (i5 + 1)) (lv' := [(5, .int (i5 + 1)), (3, .long ((((j3 * 31) + x16.toInt64) * 31) + x21.toInt64)), (0, .ref r0)]) hx hb dX10_addResults_64 hl (k := 2) rfl rfl (by decide) rfl (fun ls hl => ?_)
      refine lv_goto (tgt := 18) hx hb dX10_addResults_67 (by decide) ?_
      exact hk_18 ((((j3 * 31) + x16.toInt64) * 31) + x21.toInt64) (i5 + 1) h _ _ _ hc (lv_sub hl [2, 1, 0] rfl)
  unfold w_X10_addResults at h
  obtain ⟨H, hH0⟩ : ∃ z, z = s.heap := ⟨_, rfl⟩
  rw [← hH0] at hc ⊢
  obtain ⟨locs, hlc0⟩ : ∃ z : List Loc, z = [] := ⟨_, rfl⟩
  rw [← hlc0] at hc ⊢
  refine lv_lload_n hx hb dX10_addResults_0 rfl (lv_at hl 1 rfl) ?_
  refine lv_ldc2 (v := 31) hx hb hown (hts _ (List.mem_cons_of_mem _ (List.mem_append_left _ (List.mem_append_left _ (List.mem_append_left _ (List.mem_append_left _ (List.mem_of_getElem? (i := 0) rfl))))))) dX10_addResults_1 ?_
  refine lv_lmul hx hb dX10_addResults_4 ?_
  refine lv_aload_n hx hb dX10_addResults_5 rfl (lv_at hl 0 rfl) ?_
  obtain ⟨hk23, h⟩ := h
  obtain ⟨y24, e25, h⟩ := h
  refine g_getr CF hc hk23 rfl (by decide) (fun _ h9 => List.mem_cons_of_mem _ (List.mem_append_left _ (List.mem_append_left _ (List.mem_append_right _ (h9))))) (k := 3) (by decide) (List.mem_cons_of_mem _ (List.mem_append_left _ (List.mem_append_left _ (List.mem_append_left _ (List.mem_append_left _ (List.mem_of_getElem? (i := 1) rfl)))))) e25 rfl dX10_addResults_6 ?_
  obtain ⟨hk26, h⟩ := h
  refine g_get CF hc hk26 rfl (by decide) (fun _ h9 => List.mem_cons_of_mem _ (List.mem_append_left _ (List.mem_append_right _ (h9)))) (k := 3) (by decide) (List.mem_cons_of_mem _ (List.mem_append_left _ (List.mem_append_left _ (List.mem_append_left _ (List.mem_append_left _ (List.mem_of_getElem? (i := 2) rfl)))))) rfl dX10_addResults_9 ?_
  refine lv_i2l hx hb dX10_addResults_12 rfl ?_
  refine lv_ladd hx hb dX10_addResults_13 ?_
  refine lv_lstore_n (lv' := [(3, .long ((p1 * 31) + (gI g y24 3).toInt64)), (0, .ref p0), (1, .long p1)]) hx hb dX10_addResults_14 rfl hl (by decide) rfl (fun ls hl => ?_)
  refine lv_iconst (v := 0) hx hb dX10_addResults_15 (by decide) ?_
  refine lv_istore (lv' := [(5, .int 0), (3, .long ((p1 * 31) + (gI g y24 3).toInt64)), (0, .ref p0), (1, .long p1)]) hx hb dX10_addResults_16 hl (by decide) rfl (fun ls hl => ?_)
  exact hb_18 p0 ((p1 * 31) + (gI g y24 3).toInt64) 0 h _ _ _ hc (lv_sub hl [2, 1, 0] rfl)
