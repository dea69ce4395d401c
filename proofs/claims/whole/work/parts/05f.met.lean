def b_X3_mostLike_95 (g : gS) (r0 : Nat) (i1 : Int32) (i3 : Int32) (i4 : Int32) (i5 : Int32) (Q : Int32 → gS → Prop) (k28 : Int32 → Int32 → Int32 → Prop) : Prop :=
  k28 i3 i4 (i5 + 1)
def l_X3_mostLike_28 (g : gS) (r0 : Nat) (i1 : Int32) (Q : Int32 → gS → Prop) (i3 : Int32) (i4 : Int32) (i5 : Int32) (k28 : Int32 → Int32 → Int32 → Prop) : Prop :=
  gK g r0 = 4 ∧ (∃ y2, gR g r0 0 = some y2 ∧ (gK g y2 = 1 ∧ (((gI g y2 1) ≤ i5 → (Q i3 g)) ∧ (¬ (gI g y2 1) ≤ i5 → (∃ y6, gR g r0 0 = some y6 ∧ (gK g y6 = 1 ∧ (w_X0_documentAt g y6 i5 (fun o9 => ((o9 = none → (b_X3_mostLike_95 g r0 i1 i3 i4 i5 Q k28)) ∧ (∀ y11, o9 = some y11 → ((i5 = i1 → (b_X3_mostLike_95 g r0 i1 i3 i4 i5 Q k28)) ∧ (¬ i5 = i1 → (gK g y11 = 3 ∧ (w_X2_canBeFound g y11 (fun x15 => ((x15 = 0 → (b_X3_mostLike_95 g r0 i1 i3 i4 i5 Q k28)) ∧ (¬ x15 = 0 → (w_X3_likeness g r0 y11 (fun x18 => ((x18 ≤ i4 → (b_X3_mostLike_95 g r0 i1 i3 i4 i5 Q k28)) ∧ (¬ x18 ≤ i4 → (b_X3_mostLike_95 g r0 i1 i5 x18 i5 Q k28))))))))))))))))))))))
def w_X3_mostLike (g0 : gS) (p0 : Nat) (p1 : Int32) (Q : Int32 → gS → Prop) : Prop :=
  gK g0 p0 = 4 ∧ (∃ y23, gR g0 p0 0 = some y23 ∧ (gK g0 y23 = 1 ∧ (w_X0_documentAt g0 y23 p1 (fun o26 => ((o26 = none → (Q (-1) g0)) ∧ (∀ y28, o26 = some y28 → (w_X3_fillWorths g0 p0 y28 (fun g31 => (lpx3 (l_X3_mostLike_28 g31 p0 p1 Q) (-1) 0 0)))))))))
abbrev r_X3_mostLike : Room := { frames := 3, cells := 0, slots := 0, locals := 73 }
set_option maxHeartbeats 4000000 in
set_option maxRecDepth 100000 in
theorem c_X3_mostLike {l : Launch} {D : va_G} {cA : Nat → ClassId} {sz : Nat} {g0 : gS} {p0 : Nat} {p1 : Int32} {Q : Int32 → gS → Prop} (h : w_X3_mostLike g0 p0 p1 Q) : Met l yX3_mostLike wsX3_mostLike r_X3_mostLike (va_Pc [.ref p0, .int p1] (gPre D cA g0 sz)) (gQi D cA g0 sz (Q)) 0 0 (gA g0 sz) := by
  refine g_met (cc := cX3_mostLike) (maxL := 8) (ret := (some .int)) (own := RX3) (by decide) rfl rfl (Nat.le_of_ble_eq_true rfl) ?_
  intro p e s m args below meth c ls CF hr hlk hnm hc hl
  obtain ⟨hx, hb, hml, hown, hts⟩ := id CF
  have hl : lv_has ls 8 [(0, .ref p0), (1, .int p1)] := hl
  show W p l e r_X3_mostLike s m args below meth c s.heap [] 0 0 (MQ below (gQi D cA g0 sz (Q)) args s 0 0 (gA g0 sz)) (F0 m 0 ls [])
  have hb_28 : ∀ (g : gS) (r0 : Nat) (i1 : Int32), ∀ (i3 : Int32) (i4 : Int32) (i5 : Int32), lpx3 (l_X3_mostLike_28 g r0 i1 Q) i3 i4 i5 → ∀ (H : Heap) (locs : List Loc) (ls : Array Slot), gC D cA (gA g0 sz) s g H locs → lv_has ls 8 [(0, .ref r0), (1, .int i1), (3, .int i3), (4, .int i4), (5, .int i5)] → W p l e r_X3_mostLike s m args below meth c H locs 0 0 (MQ below (gQi D cA g0 sz (Q)) args s 0 0 (gA g0 sz)) (F0 m 28 ls []) := by
    intro g r0 i1
    refine lpx3_run (P := fun (i3 : Int32) (i4 : Int32) (i5 : Int32) => ∀ (H : Heap) (locs : List Loc) (ls : Array Slot), gC D cA (gA g0 sz) s g H locs → lv_has ls 8 [(0, .ref r0), (1, .int i1), (3, .int i3), (4, .int i4), (5, .int i5)] → W p l e r_X3_mostLike s m args below meth c H locs 0 0 (MQ below (gQi D cA g0 sz (Q)) args s 0 0 (gA g0 sz)) (F0 m 28 ls [])) ?_
    intro k28 hk_28 i3 i4 i5 h H locs ls hc hl
    have hb_95 : ∀ (i3 : Int32) (i4 : Int32) (i5 : Int32), b_X3_mostLike_95 g r0 i1 i3 i4 i5 Q k28 → ∀ (H : Heap) (locs : List Loc) (ls : Array Slot), gC D cA (gA g0 sz) s g H locs → lv_has ls 8 [(0, .ref r0), (1, .int i1), (3, .int i3), (4, .int i4), (5, .int i5)] → W p l e r_X3_mostLike s m args below meth c H locs 0 0 (MQ below (gQi D cA g0 sz (Q)) args s 0 0 (gA g0 sz)) (F0 m 95 ls []) := by
      intro i3 i4 i5 h H locs ls hc hl
      unfold b_X3_mostLike_95 at h
      refine lv_iinc (v := (i5 + 1)) (lv' := [(5, .int (i5 + 1)), (0, .ref r0), (1, .int i1), (3, .int i3), (4, .int i4)]) hx hb dX3_mostLike_95 hl (k := 4) rfl rfl (by decide) rfl (fun ls hl => ?_)
      refine lv_goto (tgt := 28) hx hb dX3_mostLike_98 (by decide) ?_
      exact hk_28 i3 i4 (i5 + 1) h _ _ _ hc (lv_sub hl [1, 2, 3, 4, 0] rfl)
    unfold l_X3_mostLike_28 at h
    refine lv_iload hx hb dX3_mostLike_28 (lv_at hl 4 rfl) ?_
    refine lv_aload_n hx hb dX3_mostLike_30 rfl (lv_at hl 0 rfl) ?_
    obtain ⟨hk1, h⟩ := h
    obtain ⟨y2, e3, h⟩ := h
    refine g_getr CF hc hk1 rfl (by decide) (fun _ h9 => List.mem_cons_of_mem _ (List.mem_append_left _ (List.mem_append_left _ (List.mem_append_left _ (List.mem_append_left _ (List.mem_append_left _ (List.mem_append_right _ (h9)))))))) (k := 0) (by decide) (List.mem_cons_of_mem _ (List.mem_append_left _ (List.mem_append_left _ (List.mem_append_left _ (List.mem_append_left _ (List.mem_append_left _ (List.mem_append_left _ (List.mem_append_left _ (List.mem_of_getElem? (i := 0) rfl))))))))) e3 rfl dX3_mostLike_31 ?_
    obtain ⟨hk4, h⟩ := h
    refine g_get CF hc hk4 rfl (by decide) (fun _ h9 => List.mem_cons_of_mem _ (List.mem_append_left _ (List.mem_append_left _ (List.mem_append_left _ (List.mem_append_left _ (List.mem_append_right _ (h9))))))) (k := 1) (by decide) (List.mem_cons_of_mem _ (List.mem_append_left _ (List.mem_append_left _ (List.mem_append_left _ (List.mem_append_left _ (List.mem_append_left _ (List.mem_append_left _ (List.mem_append_left _ (List.mem_of_getElem? (i := 1) rfl))))))))) rfl dX3_mostLike_34 ?_
    refine lv_icmp_ge (tgt := 101) hx hb dX3_mostLike_37 (by decide) (fun c5 => ?_) (fun c5 => ?_)
    · have h := h.1 c5
      refine lv_iload_n hx hb dX3_mostLike_101 rfl (lv_at hl 2 rfl) ?_
      exact g_reti (r := i3) CF hr hlk hc rfl h dX3_mostLike_102
    · have h := h.2 c5
      refine lv_aload_n hx hb dX3_mostLike_40 rfl (lv_at hl 0 rfl) ?_
      obtain ⟨y6, e7, h⟩ := h
      refine g_getr CF hc hk1 rfl (by decide) (fun _ h9 => List.mem_cons_of_mem _ (List.mem_append_left _ (List.mem_append_left _ (List.mem_append_left _ (List.mem_append_left _ (List.mem_append_left _ (List.mem_append_right _ (h9)))))))) (k := 0) (by decide) (List.mem_cons_of_mem _ (List.mem_append_left _ (List.mem_append_left _ (List.mem_append_left _ (List.mem_append_left _ (List.mem_append_left _ (List.mem_append_left _ (List.mem_append_left _ (List.mem_of_getElem? (i := 0) rfl))))))))) e7 rfl dX3_mostLike_41 ?_
      refine lv_iload hx hb dX3_mostLike_44 (lv_at hl 4 rfl) ?_
      obtain ⟨hk8, h⟩ := h
      refine g_callq (va_runV (As := [.int i5]) (rest := []) CF (c_X0_documentAt h) (cwV 1 hts gX3_mostLike_X0_documentAt rfl rfl rfl (by decide +kernel) ⟨Nat.le_of_ble_eq_true rfl, Nat.le_of_ble_eq_true rfl⟩) (hc.preV hk8 rfl (by decide)) rfl rfl hl.1 rfl (lv_room (Nat.le_of_ble_eq_true rfl)) dX3_mostLike_46 ⟨Nat.le_of_ble_eq_true rfl, Nat.le_of_ble_eq_true rfl⟩) hc (fun o9 gq10 H locs hq hc => ?_)
      obtain ⟨rfl, h⟩ := hq
      refine g_astoreq (lv' := [(6, va_rf o9), (0, .ref r0), (1, .int i1), (3, .int i3), (4, .int i4), (5, .int i5)]) CF dX3_mostLike_49 hl (by decide) rfl (fun ls hl => ?_)
      refine g_aloadq CF dX3_mostLike_51 (lv_at hl 0 rfl) ?_
      refine g_ifnull (tgt := 95) CF dX3_mostLike_53 (by decide) (fun e12 => ?_) (fun y11 e12 => ?_)
      · have hu21 := h.1 e12
        subst e12
        have h := hu21
        exact hb_95 i3 i4 i5 h _ _ _ hc (lv_sub hl [1, 2, 3, 4, 5] rfl)
      · have hu21 := h.2 y11 e12
        subst e12
        have h := hu21
        refine lv_iload hx hb dX3_mostLike_56 (lv_at hl 5 rfl) ?_
        refine lv_iload_n hx hb dX3_mostLike_58 rfl (lv_at hl 2 rfl) ?_
        refine lv_icmp_eq (tgt := 95) hx hb dX3_mostLike_59 (by decide) (fun c13 => ?_) (fun c13 => ?_)
        · have h := h.1 c13
          exact hb_95 i3 i4 i5 h _ _ _ hc (lv_sub hl [1, 2, 3, 4, 5] rfl)
        · have h := h.2 c13
          refine lv_aload hx hb dX3_mostLike_62 (lv_at hl 0 rfl) ?_
          obtain ⟨hk14, h⟩ := h
          refine g_calli (va_runV (As := []) (rest := []) CF (c_X2_canBeFound h) (cwV 0 hts gX3_mostLike_X2_canBeFound rfl rfl rfl (by decide +kernel) ⟨Nat.le_of_ble_eq_true rfl, Nat.le_of_ble_eq_true rfl⟩) (hc.preV hk14 rfl (by decide)) rfl rfl hl.1 rfl (lv_room (Nat.le_of_ble_eq_true rfl)) dX3_mostLike_64 ⟨Nat.le_of_ble_eq_true rfl, Nat.le_of_ble_eq_true rfl⟩) hc (fun x15 gq16 H locs hq hc => ?_)
          obtain ⟨rfl, h⟩ := hq
          refine lv_if_ne (tgt := 73) hx hb dX3_mostLike_67 (by decide) (fun c17 => ?_) (fun c17 => ?_)
          · have h := h.2 c17
            refine lv_aload_n hx hb dX3_mostLike_73 rfl (lv_at hl 1 rfl) ?_
            refine lv_aload hx hb dX3_mostLike_74 (lv_at hl 0 rfl) ?_
            refine g_calli (va_runV (As := [.ref y11]) (rest := []) CF (c_X3_likeness h) (cwV 1 hts gX3_mostLike_X3_likeness rfl rfl rfl (by decide +kernel) ⟨Nat.le_of_ble_eq_true rfl, Nat.le_of_ble_eq_true rfl⟩) (hc.preV hk1 rfl (by decide)) rfl rfl hl.1 rfl (lv_room (Nat.le_of_ble_eq_true rfl)) dX3_mostLike_76 ⟨Nat.le_of_ble_eq_true rfl, Nat.le_of_ble_eq_true rfl⟩) hc (fun x18 gq19 H locs hq hc => ?_)
            obtain ⟨rfl, h⟩ := hq
            refine lv_istore (lv' := [(7, .int x18), (6, .ref y11), (0, .ref r0), (1, .int i1), (3, .int i3), (4, .int i4), (5, .int i5)]) hx hb dX3_mostLike_79 hl (by decide) rfl (fun ls hl => ?_)
            refine lv_iload hx hb dX3_mostLike_81 (lv_at hl 0 rfl) ?_
            refine lv_iload hx hb dX3_mostLike_83 (lv_at hl 5 rfl) ?_
            refine lv_icmp_le (tgt := 95) hx hb dX3_mostLike_85 (by decide) (fun c20 => ?_) (fun c20 => ?_)
            · have h := h.1 c20
              exact hb_95 i3 i4 i5 h _ _ _ hc (lv_sub hl [2, 3, 4, 5, 6] rfl)
            · have h := h.2 c20
              refine lv_iload hx hb dX3_mostLike_88 (lv_at hl 0 rfl) ?_
              refine lv_istore (lv' := [(4, .int x18), (7, .int x18), (6, .ref y11), (0, .ref r0), (1, .int i1), (3, .int i3), (5, .int i5)]) hx hb dX3_mostLike_90 hl (by decide) rfl (fun ls hl => ?_)
              refine lv_iload hx hb dX3_mostLike_92 (lv_at hl 6 rfl) ?_
              refine lv_istore_n (lv' := [(3, .int i5), (4, .int x18), (7, .int x18), (6, .ref y11), (0, .ref r0), (1, .int i1), (5, .int i5)]) hx hb dX3_mostLike_94 rfl hl (by decide) rfl (fun ls hl => ?_)
              exact hb_95 i5 x18 i5 h _ _ _ hc (lv_sub hl [4, 5, 0, 1, 6] rfl)
          · have h := h.1 c17
            refine lv_goto (tgt := 95) hx hb dX3_mostLike_70 (by decide) ?_
            exact hb_95 i3 i4 i5 h _ _ _ hc (lv_sub hl [1, 2, 3, 4, 5] rfl)
  unfold w_X3_mostLike at h
  obtain ⟨H, hH0⟩ : ∃ z, z = s.heap := ⟨_, rfl⟩
  rw [← hH0] at hc ⊢
  obtain ⟨locs, hlc0⟩ : ∃ z : List Loc, z = [] := ⟨_, rfl⟩
  rw [← hlc0] at hc ⊢
  refine lv_aload_n hx hb dX3_mostLike_0 rfl (lv_at hl 0 rfl) ?_
  obtain ⟨hk22, h⟩ := h
  obtain ⟨y23, e24, h⟩ := h
  refine g_getr CF hc hk22 rfl (by decide) (fun _ h9 => List.mem_cons_of_mem _ (List.mem_append_left _ (List.mem_append_left _ (List.mem_append_left _ (List.mem_append_left _ (List.mem_append_left _ (List.mem_append_right _ (h9)))))))) (k := 0) (by decide) (List.mem_cons_of_mem _ (List.mem_append_left _ (List.mem_append_left _ (List.mem_append_left _ (List.mem_append_left _ (List.mem_append_left _ (List.mem_append_left _ (List.mem_append_left _ (List.mem_of_getElem? (i := 0) rfl))))))))) e24 rfl dX3_mostLike_1 ?_
  refine lv_iload_n hx hb dX3_mostLike_4 rfl (lv_at hl 1 rfl) ?_
  obtain ⟨hk25, h⟩ := h
  refine g_callq (va_runV (As := [.int p1]) (rest := []) CF (c_X0_documentAt h) (cwV 1 hts gX3_mostLike_X0_documentAt rfl rfl rfl (by decide +kernel) ⟨Nat.le_of_ble_eq_true rfl, Nat.le_of_ble_eq_true rfl⟩) (hc.preV hk25 rfl (by decide)) rfl rfl hl.1 rfl (lv_room (Nat.le_of_ble_eq_true rfl)) dX3_mostLike_5 ⟨Nat.le_of_ble_eq_true rfl, Nat.le_of_ble_eq_true rfl⟩) hc (fun o26 gq27 H locs hq hc => ?_)
  obtain ⟨rfl, h⟩ := hq
  refine g_astore_nq (lv' := [(2, va_rf o26), (0, .ref p0), (1, .int p1)]) CF dX3_mostLike_8 rfl hl (by decide) rfl (fun ls hl => ?_)
  refine g_aload_nq CF dX3_mostLike_9 rfl (lv_at hl 0 rfl) ?_
  refine g_ifnonnull (tgt := 15) CF dX3_mostLike_10 (by decide) (fun y28 e29 => ?_) (fun e29 => ?_)
  · have hu33 := h.2 y28 e29
    subst e29
    have h := hu33
    refine lv_aload_n hx hb dX3_mostLike_15 rfl (lv_at hl 1 rfl) ?_
    refine lv_aload_n hx hb dX3_mostLike_16 rfl (lv_at hl 0 rfl) ?_
    refine g_callv (va_runV (As := [.ref y28]) (rest := []) CF (c_X3_fillWorths h) (cwV 1 hts gX3_mostLike_X3_fillWorths rfl rfl rfl (by decide +kernel) ⟨Nat.le_of_ble_eq_true rfl, Nat.le_of_ble_eq_true rfl⟩) (hc.preV hk22 rfl (by decide)) rfl rfl hl.1 rfl (lv_room (Nat.le_of_ble_eq_true rfl)) dX3_mostLike_17 ⟨Nat.le_of_ble_eq_true rfl, Nat.le_of_ble_eq_true rfl⟩) hc (fun g31 H locs hq hc => ?_)
    replace h := hq
    refine lv_iconst (v := (-1)) hx hb dX3_mostLike_20 (by decide) ?_
    refine lv_istore_n (lv' := [(3, .int (-1)), (2, .ref y28), (0, .ref p0), (1, .int p1)]) hx hb dX3_mostLike_21 rfl hl (by decide) rfl (fun ls hl => ?_)
    refine lv_iconst (v := 0) hx hb dX3_mostLike_22 (by decide) ?_
    refine lv_istore (lv' := [(4, .int 0), (3, .int (-1)), (2, .ref y28), (0, .ref p0), (1, .int p1)]) hx hb dX3_mostLike_23 hl (by decide) rfl (fun ls hl => ?_)
    refine lv_iconst (v := 0) hx hb dX3_mostLike_25 (by decide) ?_
    refine lv_istore (lv' := [(5, .int 0), (4, .int 0), (3, .int (-1)), (2, .ref y28), (0, .ref p0), (1, .int p1)]) hx hb dX3_mostLike_26 hl (by decide) rfl (fun ls hl => ?_)
    exact hb_28 g31 p0 p1 (-1) 0 0 h _ _ _ hc (lv_sub hl [4, 5, 2, 1, 0] rfl)
  · have hu33 := h.1 e29
    subst e29
    have h := hu33
    refine lv_iconst (v := (-1)) hx hb dX3_mostLike_13 (by decide) ?_
    exact g_reti (r := (-1)) CF hr hlk hc rfl h dX3_mostLike_14
def b_X10_isTerm_16 (g : gS) (is0 : Int32) (Q : Int32 → Prop) : Prop :=
  (is0 = 0 ∨ is0 = 1) ∧ (Q is0)
def b_X10_isTerm_15 (g : gS) (Q : Int32 → Prop) : Prop :=
  b_X10_isTerm_16 g 0 Q
def w_X10_isTerm (g : gS) (p0 : Int32) (Q : Int32 → Prop) : Prop :=
  (p0 < 0 → (b_X10_isTerm_15 g Q)) ∧ (¬ p0 < 0 → ((200 ≤ p0 → (b_X10_isTerm_15 g Q)) ∧ (¬ 200 ≤ p0 → (b_X10_isTerm_16 g 1 Q))))
abbrev r_X10_isTerm : Room := { frames := 0, cells := 0, slots := 0, locals := 0 }
set_option maxHeartbeats 4000000 in
set_option maxRecDepth 100000 in
theorem c_X10_isTerm {l : Launch} {D : va_G} {cA : Nat → ClassId} {sz : Nat} {g : gS} {p0 : Int32} {Q : Int32 → Prop} (h : w_X10_isTerm g p0 Q) : Met l yX10_isTerm wsX10_isTerm r_X10_isTerm (va_Pc [.int p0] (gPre D cA g sz)) (gQi D cA g sz (fun r g2 => g = g2 ∧ Q r)) 0 0 (gA g sz) := by
  refine g_met (cc := cX10_isTerm) (maxL := 1) (ret := (some .boolean)) (own := RX10) (by decide) rfl rfl (Nat.le_of_ble_eq_true rfl) ?_
  intro p e s m args below meth c ls CF hr hlk hnm hc hl
  obtain ⟨hx, hb, hml, hown, hts⟩ := id CF
  have hl : lv_has ls 1 [(0, .int p0)] := hl
  show W p l e r_X10_isTerm s m args below meth c s.heap [] 0 0 (MQ below (gQi D cA g sz (fun r g2 => g = g2 ∧ Q r)) args s 0 0 (gA g sz)) (F0 m 0 ls [])
  have hb_16 : ∀ (is0 : Int32), b_X10_isTerm_16 g is0 Q → ∀ (H : Heap) (locs : List Loc) (ls : Array Slot), gC D cA (gA g sz) s g H locs → lv_has ls 1 [] → W p l e r_X10_isTerm s m args below meth c H locs 0 0 (MQ below (gQi D cA g sz (fun r g2 => g = g2 ∧ Q r)) args s 0 0 (gA g sz)) (F0 m 16 ls [.int is0]) := by
    intro is0 h H locs ls hc hl
    unfold b_X10_isTerm_16 at h
    obtain ⟨hz1, h⟩ := h
    exact g_reti (r := is0) CF hr hlk hc (narrow_01 hz1) ⟨rfl, h⟩ dX10_isTerm_16
  have hb_15 : b_X10_isTerm_15 g Q → ∀ (H : Heap) (locs : List Loc) (ls : Array Slot), gC D cA (gA g sz) s g H locs → lv_has ls 1 [] → W p l e r_X10_isTerm s m args below meth c H locs 0 0 (MQ below (gQi D cA g sz (fun r g2 => g = g2 ∧ Q r)) args s 0 0 (gA g sz)) (F0 m 15 ls []) := by
    intro h H locs ls hc hl
    unfold b_X10_isTerm_15 at h
    refine lv_iconst (v := 0) hx hb dX10_isTerm_15 (by decide) ?_
    exact hb_16 0 h _ _ _ hc (lv_sub hl [] rfl)
  unfold w_X10_isTerm at h
  obtain ⟨H, hH0⟩ : ∃ z, z = s.heap := ⟨_, rfl⟩
  rw [← hH0] at hc ⊢
  obtain ⟨locs, hlc0⟩ : ∃ z : List Loc, z = [] := ⟨_, rfl⟩
  rw [← hlc0] at hc ⊢
  refine lv_iload_n hx hb dX10_isTerm_0 rfl (lv_at hl 0 rfl) ?_
  refine lv_if_lt (tgt := 15) hx hb dX10_isTerm_1 (by decide) (fun c2 => ?_) (fun c2 => ?_)
  · have h := h.1 c2
    exact hb_15  h _ _ _ hc (lv_sub hl [] rfl)
  · have h := h.2 c2
    refine lv_iload_n hx hb dX10_isTerm_4 rfl (lv_at hl 0 rfl) ?_
    refine lv_sipush (v := 200) hx hb dX10_isTerm_5 (by decide) ?_
    refine lv_icmp_ge (tgt := 15) hx hb dX10_isTerm_8 (by decide) (fun c3 => ?_) (fun c3 => ?_)
    · have h := h.1 c3
      exact hb_15  h _ _ _ hc (lv_sub hl [] rfl)
    · have h := h.2 c3
      refine lv_iconst (v := 1) hx hb dX10_isTerm_11 (by decide) ?_
      refine lv_goto (tgt := 16) hx hb dX10_isTerm_12 (by decide) ?_
      exact hb_16 1 h _ _ _ hc (lv_sub hl [] rfl)
def b_X3_countOnce_49 (g : gS) (Q : gS → Prop) : Prop :=
  Q g
def b_X3_countOnce_17 (g : gS) (Q : gS → Prop) : Prop :=
  Q g
def w_X3_countOnce (g0 : gS) (p0 : Nat) (p1 : Int32) (p2 : Int32) (p3 : Int32) (Q : gS → Prop) : Prop :=
  w_X10_isTerm g0 p1 (fun x1 => ((x1 = 0 → (b_X3_countOnce_17 g0 Q)) ∧ (¬ x1 = 0 → (gK g0 p0 = 4 ∧ (∃ y5, gR g0 p0 5 = some y5 ∧ (gK g0 y5 = 21 ∧ (vp_in p1 (gN g0 y5) ∧ (((gI g0 y5 (Int32.toNatClampNeg p1)) = p2 → (b_X3_countOnce_17 g0 Q)) ∧ (¬ (gI g0 y5 (Int32.toNatClampNeg p1)) = p2 → (∃ y10, gR g0 p0 5 = some y10 ∧ (gK g0 y10 = 21 ∧ (vp_in p1 (gN g0 y10) ∧ (∀ g14, g14 = sU g0 y10 (Int32.toNatClampNeg p1) p2 → (gK g14 p0 = 4 ∧ (∃ y17, gR g14 p0 4 = some y17 ∧ (gK g14 y17 = 21 ∧ (vp_in p1 (gN g14 y17) ∧ (vp_in p1 (gN g14 y17) ∧ (∀ g22, g22 = sU g14 y17 (Int32.toNatClampNeg p1) ((gI g14 y17 (Int32.toNatClampNeg p1)) + 1) → ((p3 = 0 → (b_X3_countOnce_49 g22 Q)) ∧ (¬ p3 = 0 → (gK g22 p0 = 4 ∧ (∃ y26, gR g22 p0 3 = some y26 ∧ (gK g22 y26 = 21 ∧ (vp_in p1 (gN g22 y26) ∧ (vp_in p1 (gN g22 y26) ∧ (∀ g31, g31 = sU g22 y26 (Int32.toNatClampNeg p1) ((gI g22 y26 (Int32.toNatClampNeg p1)) + 1) → (b_X3_countOnce_49 g31 Q))))))))))))))))))))))))))))
abbrev r_X3_countOnce : Room := { frames := 1, cells := 0, slots := 0, locals := 20 }
set_option maxHeartbeats 4000000 in
set_option maxRecDepth 100000 in
theorem c_X3_countOnce {l : Launch} {D : va_G} {cA : Nat → ClassId} {sz : Nat} {g0 : gS} {p0 : Nat} {p1 : Int32} {p2 : Int32} {p3 : Int32} {Q : gS → Prop} (h : w_X3_countOnce g0 p0 p1 p2 p3 Q) : Met l yX3_countOnce wsX3_countOnce r_X3_countOnce (va_Pc [.ref p0, .int p1, .int p2, .int p3] (gPre D cA g0 sz)) (gQv D cA g0 sz (Q)) 0 0 (gA g0 sz) := by
  refine g_met (cc := cX3_countOnce) (maxL := 4) (ret := none) (own := RX3) (by decide) rfl rfl (Nat.le_of_ble_eq_true rfl) ?_
  intro p e s m args below meth c ls CF hr hlk hnm hc hl
  obtain ⟨hx, hb, hml, hown, hts⟩ := id CF
  have hl : lv_has ls 4 [(0, .ref p0), (1, .int p1), (2, .int p2), (3, .int p3)] := hl
  show W p l e r_X3_countOnce s m args below meth c s.heap [] 0 0 (MQ below (gQv D cA g0 sz (Q)) args s 0 0 (gA g0 sz)) (F0 m 0 ls [])
  have hb_49 : ∀ (g : gS), b_X3_countOnce_49 g Q → ∀ (H : Heap) (locs : List Loc) (ls : Array Slot), gC D cA (gA g0 sz) s g H locs → lv_has ls 4 [] → W p l e r_X3_countOnce s m args below meth c H locs 0 0 (MQ below (gQv D cA g0 sz (Q)) args s 0 0 (gA g0 sz)) (F0 m 49 ls []) := by
    intro g h H locs ls hc hl
    unfold b_X3_countOnce_49 at h
    exact g_retv CF hr hlk hc h dX3_countOnce_49
  have hb_17 : ∀ (g : gS), b_X3_countOnce_17 g Q → ∀ (H : Heap) (locs : List Loc) (ls : Array Slot), gC D cA (gA g0 sz) s g H locs → lv_has ls 4 [] → W p l e r_X3_countOnce s m args below meth c H locs 0 0 (MQ below (gQv D cA g0 sz (Q)) args s 0 0 (gA g0 sz)) (F0 m 17 ls []) := by
    intro g h H locs ls hc hl
    unfold b_X3_countOnce_17 at h
    exact g_retv CF hr hlk hc h dX3_countOnce_17
  unfold w_X3_countOnce at h
  obtain ⟨H, hH0⟩ : ∃ z, z = s.heap := ⟨_, rfl⟩
  rw [← hH0] at hc ⊢
  obtain ⟨locs, hlc0⟩ : ∃ z : List Loc, z = [] := ⟨_, rfl⟩
  rw [← hlc0] at hc ⊢
  refine lv_iload_n hx hb dX3_countOnce_0 rfl (lv_at hl 1 rfl) ?_
  refine g_calli (va_runSN (As := [.int p1]) (rest := []) CF (c_X10_isTerm h) ⟨va_cnB 1 hts gX3_countOnce_X10_isTerm_n118 rfl rfl rfl (hc.1.2.1 (.methodLinkNest RX3 118 yX10_isTerm "QuarryIndex") (by decide +kernel)) (hts _ (List.mem_cons_of_mem _ (List.mem_append_left _ (List.mem_of_getElem? (i := 4) rfl)))) (by decide +kernel) ⟨Nat.le_of_ble_eq_true rfl, Nat.le_of_ble_eq_true rfl⟩, hts _ (List.mem_cons_of_mem _ (List.mem_append_left _ (List.mem_of_getElem? (i := 3) rfl))), trivial⟩ hc.preS rfl rfl hl.1 rfl (lv_room (Nat.le_of_ble_eq_true rfl)) dX3_countOnce_1 ⟨Nat.le_of_ble_eq_true rfl, Nat.le_of_ble_eq_true rfl⟩) hc (fun x1 gq2 H locs hq hc => ?_)
  obtain ⟨rfl, h⟩ := hq
  refine lv_if_eq (tgt := 17) hx hb dX3_countOnce_4 (by decide) (fun c3 => ?_) (fun c3 => ?_)
  · have h := h.1 c3
    exact hb_17 g0 h _ _ _ hc (lv_sub hl [] rfl)
  · have h := h.2 c3
    refine lv_aload_n hx hb dX3_countOnce_7 rfl (lv_at hl 0 rfl) ?_
    obtain ⟨hk4, h⟩ := h
    obtain ⟨y5, e6, h⟩ := h
    refine g_getr CF hc hk4 rfl (by decide) (fun _ h9 => List.mem_cons_of_mem _ (List.mem_append_right _ (h9))) (k := 5) (by decide) (List.mem_cons_of_mem _ (List.mem_append_left _ (List.mem_of_getElem? (i := 0) rfl))) e6 rfl dX3_countOnce_8 ?_
    refine lv_iload_n hx hb dX3_countOnce_11 rfl (lv_at hl 1 rfl) ?_
    obtain ⟨hk7, h⟩ := h
    obtain ⟨hi8, h⟩ := h
    refine g_iald CF hc hk7 hi8 dX3_countOnce_12 ?_
    refine lv_iload_n hx hb dX3_countOnce_13 rfl (lv_at hl 2 rfl) ?_
    refine lv_icmp_ne (tgt := 18) hx hb dX3_countOnce_14 (by decide) (fun c9 => ?_) (fun c9 => ?_)
    · have h := h.2 c9
      refine lv_aload_n hx hb dX3_countOnce_18 rfl (lv_at hl 0 rfl) ?_
      obtain ⟨y10, e11, h⟩ := h
      refine g_getr CF hc hk4 rfl (by decide) (fun _ h9 => List.mem_cons_of_mem _ (List.mem_append_right _ (h9))) (k := 5) (by decide) (List.mem_cons_of_mem _ (List.mem_append_left _ (List.mem_of_getElem? (i := 0) rfl))) e11 rfl dX3_countOnce_19 ?_
      refine lv_iload_n hx hb dX3_countOnce_22 rfl (lv_at hl 1 rfl) ?_
      refine lv_iload_n hx hb dX3_countOnce_23 rfl (lv_at hl 2 rfl) ?_
      obtain ⟨hk12, h⟩ := h
      obtain ⟨hi13, h⟩ := h
      refine g_iast CF hc hk12 (x := p2) hi13 dX3_countOnce_24 (fun H locs hc => ?_)
      obtain ⟨g14, eg15⟩ : ∃ z, z = sU g0 y10 (Int32.toNatClampNeg p1) p2 := ⟨_, rfl⟩
      have hc : gC D cA (gA g0 sz) s g14 H locs := by rw [eg15]; exact hc
      replace h := h g14 eg15
      refine lv_aload_n hx hb dX3_countOnce_25 rfl (lv_at hl 0 rfl) ?_
      obtain ⟨hk16, h⟩ := h
      obtain ⟨y17, e18, h⟩ := h
      refine g_getr CF hc hk16 rfl (by decide) (fun _ h9 => List.mem_cons_of_mem _ (List.mem_append_right _ (h9))) (k := 4) (by decide) (List.mem_cons_of_mem _ (List.mem_append_left _ (List.mem_of_getElem? (i := 1) rfl))) e18 rfl dX3_countOnce_26 ?_
      refine lv_iload_n hx hb dX3_countOnce_29 rfl (lv_at hl 1 rfl) ?_
      refine lv_dup2_11 hx hb dX3_countOnce_30 rfl rfl ?_
      obtain ⟨hk19, h⟩ := h
      obtain ⟨hi20, h⟩ := h
      refine g_iald CF hc hk19 hi20 dX3_countOnce_31 ?_
      refine lv_iconst (v := 1) hx hb dX3_countOnce_32 (by decide) ?_
      refine lv_iadd hx hb dX3_countOnce_33 ?_
      obtain ⟨hi21, h⟩ := h
      refine g_iast CF hc hk19 (x := ((gI g14 y17 (Int32.toNatClampNeg p1)) + 1)) hi21 dX3_countOnce_34 (fun H locs hc => ?_)
      obtain ⟨g22, eg23⟩ : ∃ z, z = sU g14 y17 (Int32.toNatClampNeg p1) ((gI g14 y17 (Int32.toNatClampNeg p1)) + 1) := ⟨_, rfl⟩
      have hc : gC D cA (gA g0 sz) s g22 H locs := by rw [eg23]; exact hc
      replace h := h g22 eg23
      refine lv_iload_n hx hb dX3_countOnce_35 rfl (lv_at hl 3 rfl) ?_
      refine lv_if_eq (tgt := 49) hx hb dX3_countOnce_36 (by decide) (fun c24 => ?_) (fun c24 => ?_)
      · have h := h.1 c24
        exact hb_49 g22 h _ _ _ hc (lv_sub hl [] rfl)
      · have h := h.2 c24
        refine lv_aload_n hx hb dX3_countOnce_39 rfl (lv_at hl 0 rfl) ?_
        obtain ⟨hk25, h⟩ := h
        obtain ⟨y26, e27, h⟩ := h
        refine g_getr CF hc hk25 rfl (by decide) (fun _ h9 => List.mem_cons_of_mem _ (List.mem_append_right _ (h9))) (k := 3) (by decide) (List.mem_cons_of_mem _ (List.mem_append_left _ (List.mem_of_getElem? (i := 2) rfl))) e27 rfl dX3_countOnce_40 ?_
        refine lv_iload_n hx hb dX3_countOnce_43 rfl (lv_at hl 1 rfl) ?_
        refine lv_dup2_11 hx hb dX3_countOnce_44 rfl rfl ?_
        obtain ⟨hk28, h⟩ := h
        obtain ⟨hi29, h⟩ := h
        refine g_iald CF hc hk28 hi29 dX3_countOnce_45 ?_
        refine lv_iconst (v := 1) hx hb dX3_countOnce_46 (by decide) ?_
        refine lv_iadd hx hb dX3_countOnce_47 ?_
        obtain ⟨hi30, h⟩ := h
        refine g_iast CF hc hk28 (x := ((gI g22 y26 (Int32.toNatClampNeg p1)) + 1)) hi30 dX3_countOnce_48 (fun H locs hc => ?_)
        obtain ⟨g31, eg32⟩ : ∃ z, z = sU g22 y26 (Int32.toNatClampNeg p1) ((gI g22 y26 (Int32.toNatClampNeg p1)) + 1) := ⟨_, rfl⟩
        have hc : gC D cA (gA g0 sz) s g31 H locs := by rw [eg32]; exact hc
        replace h := h g31 eg32
        exact hb_49 g31 h _ _ _ hc (lv_sub hl [] rfl)
    · have h := h.1 c9
      exact hb_17 g0 h _ _ _ hc (lv_sub hl [] rfl)
def b_X3_countTerms_57 (g : gS) (r0 : Nat) (r1 : Nat) (i2 : Int32) (i3 : Int32) (i4 : Int32) (Q : gS → Prop) (k3 : gS → Int32 → Prop) : Prop :=
  k3 g (i4 + 1)
def l_X3_countTerms_28 (r0 : Nat) (r1 : Nat) (i2 : Int32) (i3 : Int32) (i4 : Int32) (r5 : Nat) (Q : gS → Prop) (k3 : gS → Int32 → Prop) (g : gS) (i6 : Int32) (k28 : gS → Int32 → Prop) : Prop :=
  gK g r5 = 10 ∧ (((gI g r5 4) ≤ i6 → (b_X3_countTerms_57 g r0 r1 i2 i3 i4 Q k3)) ∧ (¬ (gI g r5 4) ≤ i6 → (w_X9_differentTermOn g r5 i6 (fun x3 => (gK g r0 = 4 ∧ (w_X3_countOnce g r0 x3 i2 i3 (fun g7 => (k28 g7 (i6 + 1)))))))))
def l_X3_countTerms_3 (r0 : Nat) (r1 : Nat) (i2 : Int32) (i3 : Int32) (Q : gS → Prop) (g : gS) (i4 : Int32) (k3 : gS → Int32 → Prop) : Prop :=
  (3 ≤ i4 → (Q g)) ∧ (¬ 3 ≤ i4 → (gK g r1 = 3 ∧ (w_X2_rowOf g r1 i4 (fun o11 => ((o11 = none → (b_X3_countTerms_57 g r0 r1 i2 i3 i4 Q k3)) ∧ (∀ y13, o11 = some y13 → (lpx2 (l_X3_countTerms_28 r0 r1 i2 i3 i4 y13 Q k3) g 0)))))))
def w_X3_countTerms (g0 : gS) (p0 : Nat) (p1 : Nat) (p2 : Int32) (p3 : Int32) (Q : gS → Prop) : Prop :=
  lpx2 (l_X3_countTerms_3 p0 p1 p2 p3 Q) g0 0
abbrev r_X3_countTerms : Room := { frames := 2, cells := 0, slots := 0, locals := 43 }
set_option maxHeartbeats 4000000 in
set_option maxRecDepth 100000 in
theorem c_X3_countTerms {l : Launch} {D : va_G} {cA : Nat → ClassId} {sz : Nat} {g0 : gS} {p0 : Nat} {p1 : Nat} {p2 : Int32} {p3 : Int32} {Q : gS → Prop} (h : w_X3_countTerms g0 p0 p1 p2 p3 Q) : Met l yX3_countTerms wsX3_countTerms r_X3_countTerms (va_Pc [.ref p0, .ref p1, .int p2, .int p3] (gPre D cA g0 sz)) (gQv D cA g0 sz (Q)) 0 0 (gA g0 sz) := by
  refine g_met (cc := cX3_countTerms) (maxL := 7) (ret := none) (own := RX3) (by decide) rfl rfl (Nat.le_of_ble_eq_true rfl) ?_
  intro p e s m args below meth c ls CF hr hlk hnm hc hl
  obtain ⟨hx, hb, hml, hown, hts⟩ := id CF
  have hl : lv_has ls 7 [(0, .ref p0), (1, .ref p1), (2, .int p2), (3, .int p3)] := hl
  show W p l e r_X3_countTerms s m args below meth c s.heap [] 0 0 (MQ below (gQv D cA g0 sz (Q)) args s 0 0 (gA g0 sz)) (F0 m 0 ls [])
  have hb_3 : ∀ (r0 : Nat) (r1 : Nat) (i2 : Int32) (i3 : Int32), ∀ (g : gS) (i4 : Int32), lpx2 (l_X3_countTerms_3 r0 r1 i2 i3 Q) g i4 → ∀ (H : Heap) (locs : List Loc) (ls : Array Slot), gC D cA (gA g0 sz) s g H locs → lv_has ls 7 [(0, .ref r0), (1, .ref r1), (2, .int i2), (3, .int i3), (4, .int i4)] → W p l e r_X3_countTerms s m args below meth c H locs 0 0 (MQ below (gQv D cA g0 sz (Q)) args s 0 0 (gA g0 sz)) (F0 m 3 ls []) := by
    intro r0 r1 i2 i3
    refine lpx2_run (P := fun (g : gS) (i4 : Int32) => ∀ (H : Heap) (locs : List Loc) (ls : Array Slot), gC D cA (gA g0 sz) s g H locs → lv_has ls 7 [(0, .ref r0), (1, .ref r1), (2, .int i2), (3, .int i3), (4, .int i4)] → W p l e r_X3_countTerms s m args below meth c H locs 0 0 (MQ below (gQv D cA g0 sz (Q)) args s 0 0 (gA g0 sz)) (F0 m 3 ls [])) ?_
    intro k3 hk_3 g i4 h H locs ls hc hl
    have hb_57 : ∀ (g : gS) (i4 : Int32), b_X3_countTerms_57 g r0 r1 i2 i3 i4 Q k3 → ∀ (H : Heap) (locs : List Loc) (ls : Array Slot), gC D cA (gA g0 sz) s g H locs → lv_has ls 7 [(0, .ref r0), (1, .ref r1), (2, .int i2), (3, .int i3), (4, .int i4)] → W p l e r_X3_countTerms s m args below meth c H locs 0 0 (MQ below (gQv D cA g0 sz (Q)) args s 0 0 (gA g0 sz)) (F0 m 57 ls []) := by
      intro g i4 h H locs ls hc hl
      unfold b_X3_countTerms_57 at h
      refine lv_iinc (v := (i4 + 1)) (lv' := [(4, .int (i4 + 1)), (0, .ref r0), (1, .ref r1), (2, .int i2), (3, .int i3)]) hx hb dX3_countTerms_57 hl (k := 4) rfl rfl (by decide) rfl (fun ls hl => ?_)
      refine lv_goto (tgt := 3) hx hb dX3_countTerms_60 (by decide) ?_
      exact hk_3 g (i4 + 1) h _ _ _ hc (lv_sub hl [1, 2, 3, 4, 0] rfl)
    have hb_28 : ∀ (i4 : Int32) (r5 : Nat), ∀ (g : gS) (i6 : Int32), lpx2 (l_X3_countTerms_28 r0 r1 i2 i3 i4 r5 Q k3) g i6 → ∀ (H : Heap) (locs : List Loc) (ls : Array Slot), gC D cA (gA g0 sz) s g H locs → lv_has ls 7 [(0, .ref r0), (1, .ref r1), (2, .int i2), (3, .int i3), (4, .int i4), (5, .ref r5), (6, .int i6)] → W p l e r_X3_countTerms s m args below meth c H locs 0 0 (MQ below (gQv D cA g0 sz (Q)) args s 0 0 (gA g0 sz)) (F0 m 28 ls []) := by
      intro i4 r5
      refine lpx2_run (P := fun (g : gS) (i6 : Int32) => ∀ (H : Heap) (locs : List Loc) (ls : Array Slot), gC D cA (gA g0 sz) s g H locs → lv_has ls 7 [(0, .ref r0), (1, .ref r1), (2, .int i2), (3, .int i3), (4, .int i4), (5, .ref r5), (6, .int i6)] → W p l e r_X3_countTerms s m args below meth c H locs 0 0 (MQ below (gQv D cA g0 sz (Q)) args s 0 0 (gA g0 sz)) (F0 m 28 ls [])) ?_
      intro k28 hk_28 g i6 h H locs ls hc hl
      unfold l_X3_countTerms_28 at h
      refine lv_iload hx hb dX3_countTerms_28 (lv_at hl 6 rfl) ?_
      refine lv_aload hx hb dX3_countTerms_30 (lv_at hl 5 rfl) ?_
      obtain ⟨hk1, h⟩ := h
      refine g_get CF hc hk1 rfl (by decide) (fun _ h9 => List.mem_cons_of_mem _ (List.mem_append_left _ (List.mem_append_left _ (List.mem_append_right _ (h9))))) (k := 4) (by decide) (List.mem_cons_of_mem _ (List.mem_append_left _ (List.mem_append_left _ (List.mem_append_left _ (List.mem_append_left _ (List.mem_of_getElem? (i := 0) rfl)))))) rfl dX3_countTerms_32 ?_
      refine lv_icmp_ge (tgt := 57) hx hb dX3_countTerms_35 (by decide) (fun c2 => ?_) (fun c2 => ?_)
      · have h := h.1 c2
        exact hb_57 g i4 h _ _ _ hc (lv_sub hl [0, 1, 2, 3, 4] rfl)
      · have h := h.2 c2
        refine lv_aload_n hx hb dX3_countTerms_38 rfl (lv_at hl 0 rfl) ?_
        refine lv_aload hx hb dX3_countTerms_39 (lv_at hl 5 rfl) ?_
        refine lv_iload hx hb dX3_countTerms_41 (lv_at hl 6 rfl) ?_
        refine g_calli (va_runV (As := [.int i6]) (rest := [.ref r0]) CF (c_X9_differentTermOn h) (cwV 1 hts gX3_countTerms_X9_differentTermOn rfl rfl rfl (by decide +kernel) ⟨Nat.le_of_ble_eq_true rfl, Nat.le_of_ble_eq_true rfl⟩) (hc.preV hk1 rfl (by decide)) rfl rfl hl.1 rfl (lv_room (Nat.le_of_ble_eq_true rfl)) dX3_countTerms_43 ⟨Nat.le_of_ble_eq_true rfl, Nat.le_of_ble_eq_true rfl⟩) hc (fun x3 gq4 H locs hq hc => ?_)
        obtain ⟨rfl, h⟩ := hq
        refine lv_iload_n hx hb dX3_countTerms_46 rfl (lv_at hl 2 rfl) ?_
        refine lv_iload_n hx hb dX3_countTerms_47 rfl (lv_at hl 3 rfl) ?_
        obtain ⟨hk5, h⟩ := h
        refine g_callv (va_runV (As := [.int x3, .int i2, .int i3]) (rest := []) CF (c_X3_countOnce h) (cwV 3 hts gX3_countTerms_X3_countOnce rfl rfl rfl (by decide +kernel) ⟨Nat.le_of_ble_eq_true rfl, Nat.le_of_ble_eq_true rfl⟩) (hc.preV hk5 rfl (by decide)) rfl rfl hl.1 rfl (lv_room (Nat.le_of_ble_eq_true rfl)) dX3_countTerms_48 ⟨Nat.le_of_ble_eq_true rfl, Nat.le_of_ble_eq_true rfl⟩) hc (fun g7 H locs hq hc => ?_)
        replace h := hq
        refine lv_iinc (v := (i6 + 1)) (lv' := [(6, .int (i6 + 1)), (0, .ref r0), (1, .ref r1), (2, .int i2), (3, .int i3), (4, .int i4), (5, .ref r5)]) hx hb dX3_countTerms_51 hl (k := 6) rfl rfl (by decide) rfl (fun ls hl => ?_)
        refine lv_goto (tgt := 28) hx hb dX3_countTerms_54 (by decide) ?_
        exact hk_28 g7 (i6 + 1) h _ _ _ hc (lv_sub hl [1, 2, 3, 4, 5, 6, 0] rfl)
    unfold l_X3_countTerms_3 at h
    refine lv_iload hx hb dX3_countTerms_3 (lv_at hl 4 rfl) ?_
    refine lv_iconst (v := 3) hx hb dX3_countTerms_5 (by decide) ?_
    refine lv_icmp_ge (tgt := 63) hx hb dX3_countTerms_6 (by decide) (fun c9 => ?_) (fun c9 => ?_)
    · have h := h.1 c9
      exact g_retv CF hr hlk hc h dX3_countTerms_63
    · have h := h.2 c9
      refine lv_aload_n hx hb dX3_countTerms_9 rfl (lv_at hl 1 rfl) ?_
      refine lv_iload hx hb dX3_countTerms_10 (lv_at hl 4 rfl) ?_
      obtain ⟨hk10, h⟩ := h
      refine g_callq (va_runV (As := [.int i4]) (rest := []) CF (c_X2_rowOf h) (cwV 1 hts gX3_countTerms_X2_rowOf rfl rfl rfl (by decide +kernel) ⟨Nat.le_of_ble_eq_true rfl, Nat.le_of_ble_eq_true rfl⟩) (hc.preV hk10 rfl (by decide)) rfl rfl hl.1 rfl (lv_room (Nat.le_of_ble_eq_true rfl)) dX3_countTerms_12 ⟨Nat.le_of_ble_eq_true rfl, Nat.le_of_ble_eq_true rfl⟩) hc (fun o11 gq12 H locs hq hc => ?_)
      obtain ⟨rfl, h⟩ := hq
      refine g_astoreq (lv' := [(5, va_rf o11), (0, .ref r0), (1, .ref r1), (2, .int i2), (3, .int i3), (4, .int i4)]) CF dX3_countTerms_15 hl (by decide) rfl (fun ls hl => ?_)
      refine g_aloadq CF dX3_countTerms_17 (lv_at hl 0 rfl) ?_
      refine g_ifnonnull (tgt := 25) CF dX3_countTerms_19 (by decide) (fun y13 e14 => ?_) (fun e14 => ?_)
      · have hu15 := h.2 y13 e14
        subst e14
        have h := hu15
        refine lv_iconst (v := 0) hx hb dX3_countTerms_25 (by decide) ?_
        refine lv_istore (lv' := [(6, .int 0), (5, .ref y13), (0, .ref r0), (1, .ref r1), (2, .int i2), (3, .int i3), (4, .int i4)]) hx hb dX3_countTerms_26 hl (by decide) rfl (fun ls hl => ?_)
        exact hb_28 i4 y13 g 0 h _ _ _ hc (lv_sub hl [2, 3, 4, 5, 6, 1, 0] rfl)
      · have hu15 := h.1 e14
        subst e14
        have h := hu15
        refine lv_goto (tgt := 57) hx hb dX3_countTerms_22 (by decide) ?_
        exact hb_57 g i4 h _ _ _ hc (lv_sub hl [1, 2, 3, 4, 5] rfl)
  unfold w_X3_countTerms at h
  obtain ⟨H, hH0⟩ : ∃ z, z = s.heap := ⟨_, rfl⟩
  rw [← hH0] at hc ⊢
  obtain ⟨locs, hlc0⟩ : ∃ z : List Loc, z = [] := ⟨_, rfl⟩
  rw [← hlc0] at hc ⊢
  refine lv_iconst (v := 0) hx hb dX3_countTerms_0 (by decide) ?_
  refine lv_istore (lv' := [(4, .int 0), (0, .ref p0), (1, .ref p1), (2, .int p2), (3, .int p3)]) hx hb dX3_countTerms_1 hl (by decide) rfl (fun ls hl => ?_)
  exact hb_3 p0 p1 p2 p3 g0 0 h _ _ _ hc (lv_sub hl [1, 2, 3, 4, 0] rfl)
def b_X3_isCloser_77 (g : gS) (is0 : Int32) (Q : Int32 → Prop) : Prop :=
  (is0 = 0 ∨ is0 = 1) ∧ (Q is0)
def b_X3_isCloser_76 (g : gS) (Q : Int32 → Prop) : Prop :=
  b_X3_isCloser_77 g 0 Q
def b_X3_isCloser_40 (g : gS) (Q : Int32 → Prop) : Prop :=
  Q 1
def b_X3_isCloser_16 (g : gS) (Q : Int32 → Prop) : Prop :=
  Q 0
def w_X3_isCloser (g : gS) (p0 : Nat) (p1 : Int32) (p2 : Int32) (Q : Int32 → Prop) : Prop :=
  w_X10_isTerm g p1 (fun x2 => ((x2 = 0 → (b_X3_isCloser_16 g Q)) ∧ (¬ x2 = 0 → (gK g p0 = 4 ∧ (∃ y6, gR g p0 3 = some y6 ∧ (gK g y6 = 21 ∧ (vp_in p1 (gN g y6) ∧ (((gI g y6 (Int32.toNatClampNeg p1)) = 0 → (b_X3_isCloser_16 g Q)) ∧ (¬ (gI g y6 (Int32.toNatClampNeg p1)) = 0 → (w_X10_isTerm g p2 (fun x11 => ((x11 = 0 → (b_X3_isCloser_40 g Q)) ∧ (¬ x11 = 0 → (∃ y14, gR g p0 3 = some y14 ∧ (gK g y14 = 21 ∧ (vp_in p1 (gN g y14) ∧ (∃ y18, gR g p0 3 = some y18 ∧ (gK g y18 = 21 ∧ (vp_in p2 (gN g y18) ∧ (((gI g y14 (Int32.toNatClampNeg p1)) ≤ (gI g y18 (Int32.toNatClampNeg p2)) → (∃ y23, gR g p0 3 = some y23 ∧ (gK g y23 = 21 ∧ (vp_in p1 (gN g y23) ∧ (∃ y27, gR g p0 3 = some y27 ∧ (gK g y27 = 21 ∧ (vp_in p2 (gN g y27) ∧ (((gI g y23 (Int32.toNatClampNeg p1)) = (gI g y27 (Int32.toNatClampNeg p2)) → (∃ y32, gR g p0 4 = some y32 ∧ (gK g y32 = 21 ∧ (vp_in p1 (gN g y32) ∧ (∃ y36, gR g p0 4 = some y36 ∧ (gK g y36 = 21 ∧ (vp_in p2 (gN g y36) ∧ (((gI g y36 (Int32.toNatClampNeg p2)) ≤ (gI g y32 (Int32.toNatClampNeg p1)) → (b_X3_isCloser_76 g Q)) ∧ (¬ (gI g y36 (Int32.toNatClampNeg p2)) ≤ (gI g y32 (Int32.toNatClampNeg p1)) → (b_X3_isCloser_77 g 1 Q)))))))))) ∧ (¬ (gI g y23 (Int32.toNatClampNeg p1)) = (gI g y27 (Int32.toNatClampNeg p2)) → (b_X3_isCloser_76 g Q)))))))))) ∧ (¬ (gI g y14 (Int32.toNatClampNeg p1)) ≤ (gI g y18 (Int32.toNatClampNeg p2)) → (b_X3_isCloser_40 g Q))))))))))))))))))))))
abbrev r_X3_isCloser : Room := { frames := 1, cells := 0, slots := 0, locals := 20 }
set_option maxHeartbeats 4000000 in
set_option maxRecDepth 100000 in
theorem c_X3_isCloser {l : Launch} {D : va_G} {cA : Nat → ClassId} {sz : Nat} {g : gS} {p0 : Nat} {p1 : Int32} {p2 : Int32} {Q : Int32 → Prop} (h : w_X3_isCloser g p0 p1 p2 Q) : Met l yX3_isCloser wsX3_isCloser r_X3_isCloser (va_Pc [.ref p0, .int p1, .int p2] (gPre D cA g sz)) (gQi D cA g sz (fun r g2 => g = g2 ∧ Q r)) 0 0 (gA g sz) := by
  refine g_met (cc := cX3_isCloser) (maxL := 3) (ret := (some .boolean)) (own := RX3) (by decide) rfl rfl (Nat.le_of_ble_eq_true rfl) ?_
  intro p e s m args below meth c ls CF hr hlk hnm hc hl
  obtain ⟨hx, hb, hml, hown, hts⟩ := id CF
  have hl : lv_has ls 3 [(0, .ref p0), (1, .int p1), (2, .int p2)] := hl
  show W p l e r_X3_isCloser s m args below meth c s.heap [] 0 0 (MQ below (gQi D cA g sz (fun r g2 => g = g2 ∧ Q r)) args s 0 0 (gA g sz)) (F0 m 0 ls [])
  have hb_77 : ∀ (is0 : Int32), b_X3_isCloser_77 g is0 Q → ∀ (H : Heap) (locs : List Loc) (ls : Array Slot), gC D cA (gA g sz) s g H locs → lv_has ls 3 [] → W p l e r_X3_isCloser s m args below meth c H locs 0 0 (MQ below (gQi D cA g sz (fun r g2 => g = g2 ∧ Q r)) args s 0 0 (gA g sz)) (F0 m 77 ls [.int is0]) := by
    intro is0 h H locs ls hc hl
    unfold b_X3_isCloser_77 at h
    obtain ⟨hz1, h⟩ := h
    exact g_reti (r := is0) CF hr hlk hc (narrow_01 hz1) ⟨rfl, h⟩ dX3_isCloser_77
  have hb_76 : b_X3_isCloser_76 g Q → ∀ (H : Heap) (locs : List Loc) (ls : Array Slot), gC D cA (gA g sz) s g H locs → lv_has ls 3 [] → W p l e r_X3_isCloser s m args below meth c H locs 0 0 (MQ below (gQi D cA g sz (fun r g2 => g = g2 ∧ Q r)) args s 0 0 (gA g sz)) (F0 m 76 ls []) := by
    intro h H locs ls hc hl
    unfold b_X3_isCloser_76 at h
    refine lv_iconst (v := 0) hx hb dX3_isCloser_76 (by decide) ?_
    exact hb_77 0 h _ _ _ hc (lv_sub hl [] rfl)
  have hb_40 : b_X3_isCloser_40 g Q → ∀ (H : Heap) (locs : List Loc) (ls : Array Slot), gC D cA (gA g sz) s g H locs → lv_has ls 3 [] → W p l e r_X3_isCloser s m args below meth c H locs 0 0 (MQ below (gQi D cA g sz (fun r g2 => g = g2 ∧ Q r)) args s 0 0 (gA g sz)) (F0 m 40 ls []) := by
    intro h H locs ls hc hl
    unfold b_X3_isCloser_40 at h
    refine lv_iconst (v := 1) hx hb dX3_isCloser_40 (by decide) ?_
    exact g_reti (r := 1) CF hr hlk hc (narrow_01 (by decide : (1 : Int32) = 0 ∨ (1 : Int32) = 1)) ⟨rfl, h⟩ dX3_isCloser_41
  have hb_16 : b_X3_isCloser_16 g Q → ∀ (H : Heap) (locs : List Loc) (ls : Array Slot), gC D cA (gA g sz) s g H locs → lv_has ls 3 [] → W p l e r_X3_isCloser s m args below meth c H locs 0 0 (MQ below (gQi D cA g sz (fun r g2 => g = g2 ∧ Q r)) args s 0 0 (gA g sz)) (F0 m 16 ls []) := by
    intro h H locs ls hc hl
    unfold b_X3_isCloser_16 at h
    refine lv_iconst (v := 0) hx hb dX3_isCloser_16 (by decide) ?_
    exact g_reti (r := 0) CF hr hlk hc (narrow_01 (by decide : (0 : Int32) = 0 ∨ (0 : Int32) = 1)) ⟨rfl, h⟩ dX3_isCloser_17
  unfold w_X3_isCloser at h
  obtain ⟨H, hH0⟩ : ∃ z, z = s.heap := ⟨_, rfl⟩
  rw [← hH0] at hc ⊢
  obtain ⟨locs, hlc0⟩ : ∃ z : List Loc, z = [] := ⟨_, rfl⟩
  rw [← hlc0] at hc ⊢
  refine lv_iload_n hx hb dX3_isCloser_0 rfl (lv_at hl 1 rfl) ?_
  refine g_calli (va_runSN (As := [.int p1]) (rest := []) CF (c_X10_isTerm h) ⟨va_cnB 1 hts gX3_isCloser_X10_isTerm_n118 rfl rfl rfl (hc.1.2.1 (.methodLinkNest RX3 118 yX10_isTerm "QuarryIndex") (by decide +kernel)) (hts _ (List.mem_cons_of_mem _ (List.mem_append_left _ (List.mem_of_getElem? (i := 3) rfl)))) (by decide +kernel) ⟨Nat.le_of_ble_eq_true rfl, Nat.le_of_ble_eq_true rfl⟩, hts _ (List.mem_cons_of_mem _ (List.mem_append_left _ (List.mem_of_getElem? (i := 2) rfl))), trivial⟩ hc.preS rfl rfl hl.1 rfl (lv_room (Nat.le_of_ble_eq_true rfl)) dX3_isCloser_1 ⟨Nat.le_of_ble_eq_true rfl, Nat.le_of_ble_eq_true rfl⟩) hc (fun x2 gq3 H locs hq hc => ?_)
  obtain ⟨rfl, h⟩ := hq
  refine lv_if_eq (tgt := 16) hx hb dX3_isCloser_4 (by decide) (fun c4 => ?_) (fun c4 => ?_)
  · have h := h.1 c4
    exact hb_16  h _ _ _ hc (lv_sub hl [] rfl)
  · have h := h.2 c4
    refine lv_aload_n hx hb dX3_isCloser_7 rfl (lv_at hl 0 rfl) ?_
    obtain ⟨hk5, h⟩ := h
    obtain ⟨y6, e7, h⟩ := h
    refine g_getr CF hc hk5 rfl (by decide) (fun _ h9 => List.mem_cons_of_mem _ (List.mem_append_right _ (h9))) (k := 3) (by decide) (List.mem_cons_of_mem _ (List.mem_append_left _ (List.mem_of_getElem? (i := 0) rfl))) e7 rfl dX3_isCloser_8 ?_
    refine lv_iload_n hx hb dX3_isCloser_11 rfl (lv_at hl 1 rfl) ?_
    obtain ⟨hk8, h⟩ := h
    obtain ⟨hi9, h⟩ := h
    refine g_iald CF hc hk8 hi9 dX3_isCloser_12 ?_
    refine lv_if_ne (tgt := 18) hx hb dX3_isCloser_13 (by decide) (fun c10 => ?_) (fun c10 => ?_)
    · have h := h.2 c10
      refine lv_iload_n hx hb dX3_isCloser_18 rfl (lv_at hl 2 rfl) ?_
      refine g_calli (va_runSN (As := [.int p2]) (rest := []) CF (c_X10_isTerm h) ⟨va_cnB 1 hts gX3_isCloser_X10_isTerm_n118 rfl rfl rfl (hc.1.2.1 (.methodLinkNest RX3 118 yX10_isTerm "QuarryIndex") (by decide +kernel)) (hts _ (List.mem_cons_of_mem _ (List.mem_append_left _ (List.mem_of_getElem? (i := 3) rfl)))) (by decide +kernel) ⟨Nat.le_of_ble_eq_true rfl, Nat.le_of_ble_eq_true rfl⟩, hts _ (List.mem_cons_of_mem _ (List.mem_append_left _ (List.mem_of_getElem? (i := 2) rfl))), trivial⟩ hc.preS rfl rfl hl.1 rfl (lv_room (Nat.le_of_ble_eq_true rfl)) dX3_isCloser_19 ⟨Nat.le_of_ble_eq_true rfl, Nat.le_of_ble_eq_true rfl⟩) hc (fun x11 gq12 H locs hq hc => ?_)
      obtain ⟨rfl, h⟩ := hq
      refine lv_if_eq (tgt := 40) hx hb dX3_isCloser_22 (by decide) (fun c13 => ?_) (fun c13 => ?_)
      · have h := h.1 c13
        exact hb_40  h _ _ _ hc (lv_sub hl [] rfl)
      · have h := h.2 c13
        refine lv_aload_n hx hb dX3_isCloser_25 rfl (lv_at hl 0 rfl) ?_
        obtain ⟨y14, e15, h⟩ := h
        refine g_getr CF hc hk5 rfl (by decide) (fun _ h9 => List.mem_cons_of_mem _ (List.mem_append_right _ (h9))) (k := 3) (by decide) (List.mem_cons_of_mem _ (List.mem_append_left _ (List.mem_of_getElem? (i := 0) rfl))) e15 rfl dX3_isCloser_26 ?_
        refine lv_iload_n hx hb dX3_isCloser_29 rfl (lv_at hl 1 rfl) ?_
        obtain ⟨hk16, h⟩ := h
        obtain ⟨hi17, h⟩ := h
        refine g_iald CF hc hk16 hi17 dX3_isCloser_30 ?_
        refine lv_aload_n hx hb dX3_isCloser_31 rfl (lv_at hl 0 rfl) ?_
        obtain ⟨y18, e19, h⟩ := h
        refine g_getr CF hc hk5 rfl (by decide) (fun _ h9 => List.mem_cons_of_mem _ (List.mem_append_right _ (h9))) (k := 3) (by decide) (List.mem_cons_of_mem _ (List.mem_append_left _ (List.mem_of_getElem? (i := 0) rfl))) e19 rfl dX3_isCloser_32 ?_
        refine lv_iload_n hx hb dX3_isCloser_35 rfl (lv_at hl 2 rfl) ?_
        obtain ⟨hk20, h⟩ := h
        obtain ⟨hi21, h⟩ := h
        refine g_iald CF hc hk20 hi21 dX3_isCloser_36 ?_
        refine lv_icmp_le (tgt := 42) hx hb dX3_isCloser_37 (by decide) (fun c22 => ?_) (fun c22 => ?_)
        · have h := h.1 c22
          refine lv_aload_n hx hb dX3_isCloser_42 rfl (lv_at hl 0 rfl) ?_
          obtain ⟨y23, e24, h⟩ := h
          refine g_getr CF hc hk5 rfl (by decide) (fun _ h9 => List.mem_cons_of_mem _ (List.mem_append_right _ (h9))) (k := 3) (by decide) (List.mem_cons_of_mem _ (List.mem_append_left _ (List.mem_of_getElem? (i := 0) rfl))) e24 rfl dX3_isCloser_43 ?_
          refine lv_iload_n hx hb dX3_isCloser_46 rfl (lv_at hl 1 rfl) ?_
          obtain ⟨hk25, h⟩ := h
          obtain ⟨hi26, h⟩ := h
          refine g_iald CF hc hk25 hi26 dX3_isCloser_47 ?_
          refine lv_aload_n hx hb dX3_isCloser_48 rfl (lv_at hl 0 rfl) ?_
          obtain ⟨y27, e28, h⟩ := h
          refine g_getr CF hc hk5 rfl (by decide) (fun _ h9 => List.mem_cons_of_mem _ (List.mem_append_right _ (h9))) (k := 3) (by decide) (List.mem_cons_of_mem _ (List.mem_append_left _ (List.mem_of_getElem? (i := 0) rfl))) e28 rfl dX3_isCloser_49 ?_
          refine lv_iload_n hx hb dX3_isCloser_52 rfl (lv_at hl 2 rfl) ?_
          obtain ⟨hk29, h⟩ := h
          obtain ⟨hi30, h⟩ := h
          refine g_iald CF hc hk29 hi30 dX3_isCloser_53 ?_
          refine lv_icmp_ne (tgt := 76) hx hb dX3_isCloser_54 (by decide) (fun c31 => ?_) (fun c31 => ?_)
          · have h := h.2 c31
            exact hb_76  h _ _ _ hc (lv_sub hl [] rfl)
          · have h := h.1 c31
            refine lv_aload_n hx hb dX3_isCloser_57 rfl (lv_at hl 0 rfl) ?_
            obtain ⟨y32, e33, h⟩ := h
            refine g_getr CF hc hk5 rfl (by decide) (fun _ h9 => List.mem_cons_of_mem _ (List.mem_append_right _ (h9))) (k := 4) (by decide) (List.mem_cons_of_mem _ (List.mem_append_left _ (List.mem_of_getElem? (i := 1) rfl))) e33 rfl dX3_isCloser_58 ?_
            refine lv_iload_n hx hb dX3_isCloser_61 rfl (lv_at hl 1 rfl) ?_
            obtain ⟨hk34, h⟩ := h
            obtain ⟨hi35, h⟩ := h
            refine g_iald CF hc hk34 hi35 dX3_isCloser_62 ?_
            refine lv_aload_n hx hb dX3_isCloser_63 rfl (lv_at hl 0 rfl) ?_
            obtain ⟨y36, e37, h⟩ := h
            refine g_getr CF hc hk5 rfl (by decide) (fun _ h9 => List.mem_cons_of_mem _ (List.mem_append_right _ (h9))) (k := 4) (by decide) (List.mem_cons_of_mem _ (List.mem_append_left _ (List.mem_of_getElem? (i := 1) rfl))) e37 rfl dX3_isCloser_64 ?_
            refine lv_iload_n hx hb dX3_isCloser_67 rfl (lv_at hl 2 rfl) ?_
            obtain ⟨hk38, h⟩ := h
            obtain ⟨hi39, h⟩ := h
            refine g_iald CF hc hk38 hi39 dX3_isCloser_68 ?_
            refine lv_icmp_ge (tgt := 76) hx hb dX3_isCloser_69 (by decide) (fun c40 => ?_) (fun c40 => ?_)
            · have h := h.1 c40
              exact hb_76  h _ _ _ hc (lv_sub hl [] rfl)
            · have h := h.2 c40
              refine lv_iconst (v := 1) hx hb dX3_isCloser_72 (by decide) ?_
              refine lv_goto (tgt := 77) hx hb dX3_isCloser_73 (by decide) ?_
              exact hb_77 1 h _ _ _ hc (lv_sub hl [] rfl)
        · have h := h.2 c22
          exact hb_40  h _ _ _ hc (lv_sub hl [] rfl)
    · have h := h.1 c10
      exact hb_16  h _ _ _ hc (lv_sub hl [] rfl)
def b_X3_closestTerm_112 (g : gS) (r0 : Nat) (i1 : Int32) (i2 : Int32) (i3 : Int32) (Q : Int32 → gS → Prop) (k78 : Int32 → Int32 → Prop) : Prop :=
  k78 i2 (i3 + 1)
def l_X3_closestTerm_78 (g : gS) (r0 : Nat) (i1 : Int32) (Q : Int32 → gS → Prop) (i2 : Int32) (i3 : Int32) (k78 : Int32 → Int32 → Prop) : Prop :=
  (200 ≤ i3 → (Q i2 g)) ∧ (¬ 200 ≤ i3 → ((i3 = i1 → (b_X3_closestTerm_112 g r0 i1 i2 i3 Q k78)) ∧ (¬ i3 = i1 → (gK g r0 = 4 ∧ (∃ y4, gR g r0 1 = some y4 ∧ (gK g y4 = 5 ∧ (w_X4_isMuted g y4 i3 (fun x7 => ((x7 = 0 → (w_X3_isCloser g r0 i3 i2 (fun x10 => ((x10 = 0 → (b_X3_closestTerm_112 g r0 i1 i2 i3 Q k78)) ∧ (¬ x10 = 0 → (b_X3_closestTerm_112 g r0 i1 i3 i3 Q k78)))))) ∧ (¬ x7 = 0 → (b_X3_closestTerm_112 g r0 i1 i2 i3 Q k78)))))))))))
def b_X3_closestTerm_68 (g : gS) (r0 : Nat) (i1 : Int32) (i2 : Int32) (Q : Int32 → gS → Prop) (k26 : gS → Int32 → Prop) : Prop :=
  k26 g (i2 + 1)
def l_X3_closestTerm_26 (r0 : Nat) (i1 : Int32) (Q : Int32 → gS → Prop) (g : gS) (i2 : Int32) (k26 : gS → Int32 → Prop) : Prop :=
  gK g r0 = 4 ∧ (∃ y14, gR g r0 0 = some y14 ∧ (gK g y14 = 1 ∧ (((gI g y14 1) ≤ i2 → (lpx2 (l_X3_closestTerm_78 g r0 i1 Q) (-1) 0)) ∧ (¬ (gI g y14 1) ≤ i2 → (∃ y18, gR g r0 0 = some y18 ∧ (gK g y18 = 1 ∧ (w_X0_documentAt g y18 i2 (fun o21 => ((o21 = none → (b_X3_closestTerm_68 g r0 i1 i2 Q k26)) ∧ (∀ y23, o21 = some y23 → (gK g y23 = 3 ∧ (w_X2_canBeFound g y23 (fun x26 => ((x26 = 0 → (b_X3_closestTerm_68 g r0 i1 i2 Q k26)) ∧ (¬ x26 = 0 → (w_X2_hasAnywhere g y23 i1 (fun x29 => (w_X3_countTerms g r0 y23 i2 x29 (fun g32 => (b_X3_closestTerm_68 g32 r0 i1 i2 Q k26))))))))))))))))))))
def w_X3_closestTerm (g0 : gS) (p0 : Nat) (p1 : Int32) (Q : Int32 → gS → Prop) : Prop :=
  gK g0 p0 = 4 ∧ (∃ y36, gR g0 p0 3 = some y36 ∧ (w_J7_fill_53178 g0 y36 0 (fun g39 => (gK g39 p0 = 4 ∧ (∃ y42, gR g39 p0 4 = some y42 ∧ (w_J7_fill_53178 g39 y42 0 (fun g45 => (gK g45 p0 = 4 ∧ (∃ y48, gR g45 p0 5 = some y48 ∧ (w_J7_fill_53178 g45 y48 (-1) (fun g51 => (lpx2 (l_X3_closestTerm_26 p0 p1 Q) g51 0))))))))))))
abbrev r_X3_closestTerm : Room := { frames := 3, cells := 0, slots := 0, locals := 69 }
set_option maxHeartbeats 4000000 in
set_option maxRecDepth 100000 in
theorem c_X3_closestTerm {l : Launch} {D : va_G} {cA : Nat → ClassId} {sz : Nat} {g0 : gS} {p0 : Nat} {p1 : Int32} {Q : Int32 → gS → Prop} (h : w_X3_closestTerm g0 p0 p1 Q) : Met l yX3_closestTerm wsX3_closestTerm r_X3_closestTerm (va_Pc [.ref p0, .int p1] (gPre D cA g0 sz)) (gQi D cA g0 sz (Q)) 0 0 (gA g0 sz) := by
  refine g_met (cc := cX3_closestTerm) (maxL := 4) (ret := (some .int)) (own := RX3) (by decide) rfl rfl (Nat.le_of_ble_eq_true rfl) ?_
  intro p e s m args below meth c ls CF hr hlk hnm hc hl
  obtain ⟨hx, hb, hml, hown, hts⟩ := id CF
  have hl : lv_has ls 4 [(0, .ref p0), (1, .int p1)] := hl
  show W p l e r_X3_closestTerm s m args below meth c s.heap [] 0 0 (MQ below (gQi D cA g0 sz (Q)) args s 0 0 (gA g0 sz)) (F0 m 0 ls [])
  have hb_78 : ∀ (g : gS) (r0 : Nat) (i1 : Int32), ∀ (i2 : Int32) (i3 : Int32), lpx2 (l_X3_closestTerm_78 g r0 i1 Q) i2 i3 → ∀ (H : Heap) (locs : List Loc) (ls : Array Slot), gC D cA (gA g0 sz) s g H locs → lv_has ls 4 [(0, .ref r0), (1, .int i1), (2, .int i2), (3, .int i3)] → W p l e r_X3_closestTerm s m args below meth c H locs 0 0 (MQ below (gQi D cA g0 sz (Q)) args s 0 0 (gA g0 sz)) (F0 m 78 ls []) := by
    intro g r0 i1
    refine lpx2_run (P := fun (i2 : Int32) (i3 : Int32) => ∀ (H : Heap) (locs : List Loc) (ls : Array Slot), gC D cA (gA g0 sz) s g H locs → lv_has ls 4 [(0, .ref r0), (1, .int i1), (2, .int i2), (3, .int i3)] → W p l e r_X3_closestTerm s m args below meth c H locs 0 0 (MQ below (gQi D cA g0 sz (Q)) args s 0 0 (gA g0 sz)) (F0 m 78 ls [])) ?_
    intro k78 hk_78 i2 i3 h H locs ls hc hl
    have hb_112 : ∀ (i2 : Int32) (i3 : Int32), b_X3_closestTerm_112 g r0 i1 i2 i3 Q k78 → ∀ (H : Heap) (locs : List Loc) (ls : Array Slot), gC D cA (gA g0 sz) s g H locs → lv_has ls 4 [(0, .ref r0), (1, .int i1), (2, .int i2), (3, .int i3)] → W p l e r_X3_closestTerm s m args below meth c H locs 0 0 (MQ below (gQi D cA g0 sz (Q)) args s 0 0 (gA g0 sz)) (F0 m 112 ls []) := by
      intro i2 i3 h H locs ls hc hl
      unfold b_X3_closestTerm_112 at h
      refine lv_iinc (v := (i3 + 1)) (lv' := [(3, .int (i3 + 1)), (0, .ref r0), (1, .int i1), (2, .int i2)]) hx hb dX3_closestTerm_112 hl (k := 3) rfl rfl (by decide) rfl (fun ls hl => ?_)
      refine lv_goto (tgt := 78) hx hb dX3_closestTerm_115 (by decide) ?_
      exact hk_78 i2 (i3 + 1) h _ _ _ hc (lv_sub hl [1, 2, 3, 0] rfl)
    unfold l_X3_closestTerm_78 at h
    refine lv_iload_n hx hb dX3_closestTerm_78 rfl (lv_at hl 3 rfl) ?_
    refine lv_sipush (v := 200) hx hb dX3_closestTerm_79 (by decide) ?_
    refine lv_icmp_ge (tgt := 118) hx hb dX3_closestTerm_82 (by decide) (fun c1 => ?_) (fun c1 => ?_)
    · have h := h.1 c1
      refine lv_iload_n hx hb dX3_closestTerm_118 rfl (lv_at hl 2 rfl) ?_
      exact g_reti (r := i2) CF hr hlk hc rfl h dX3_closestTerm_119
    · have h := h.2 c1
      refine lv_iload_n hx hb dX3_closestTerm_85 rfl (lv_at hl 3 rfl) ?_
      refine lv_iload_n hx hb dX3_closestTerm_86 rfl (lv_at hl 1 rfl) ?_
      refine lv_icmp_eq (tgt := 112) hx hb dX3_closestTerm_87 (by decide) (fun c2 => ?_) (fun c2 => ?_)
      · have h := h.1 c2
        exact hb_112 i2 i3 h _ _ _ hc (lv_sub hl [0, 1, 2, 3] rfl)
      · have h := h.2 c2
        refine lv_aload_n hx hb dX3_closestTerm_90 rfl (lv_at hl 0 rfl) ?_
        obtain ⟨hk3, h⟩ := h
        obtain ⟨y4, e5, h⟩ := h
        refine g_getr CF hc hk3 rfl (by decide) (fun _ h9 => List.mem_cons_of_mem _ (List.mem_append_left _ (List.mem_append_left _ (List.mem_append_left _ (List.mem_append_left _ (List.mem_append_right _ (h9))))))) (k := 1) (by decide) (List.mem_cons_of_mem _ (List.mem_append_left _ (List.mem_append_left _ (List.mem_append_left _ (List.mem_append_left _ (List.mem_append_left _ (List.mem_append_left _ (List.mem_of_getElem? (i := 5) rfl)))))))) e5 rfl dX3_closestTerm_91 ?_
        refine lv_iload_n hx hb dX3_closestTerm_94 rfl (lv_at hl 3 rfl) ?_
        obtain ⟨hk6, h⟩ := h
        refine g_calli (va_runV (As := [.int i3]) (rest := []) CF (c_X4_isMuted h) (cwV 1 hts gX3_closestTerm_X4_isMuted rfl rfl rfl (by decide +kernel) ⟨Nat.le_of_ble_eq_true rfl, Nat.le_of_ble_eq_true rfl⟩) (hc.preV hk6 rfl (by decide)) rfl rfl hl.1 rfl (lv_room (Nat.le_of_ble_eq_true rfl)) dX3_closestTerm_95 ⟨Nat.le_of_ble_eq_true rfl, Nat.le_of_ble_eq_true rfl⟩) hc (fun x7 gq8 H locs hq hc => ?_)
        obtain ⟨rfl, h⟩ := hq
        refine lv_if_ne (tgt := 112) hx hb dX3_closestTerm_98 (by decide) (fun c9 => ?_) (fun c9 => ?_)
        · have h := h.2 c9
          exact hb_112 i2 i3 h _ _ _ hc (lv_sub hl [0, 1, 2, 3] rfl)
        · have h := h.1 c9
          refine lv_aload_n hx hb dX3_closestTerm_101 rfl (lv_at hl 0 rfl) ?_
          refine lv_iload_n hx hb dX3_closestTerm_102 rfl (lv_at hl 3 rfl) ?_
          refine lv_iload_n hx hb dX3_closestTerm_103 rfl (lv_at hl 2 rfl) ?_
          refine g_calli (va_runV (As := [.int i3, .int i2]) (rest := []) CF (c_X3_isCloser h) (cwV 2 hts gX3_closestTerm_X3_isCloser rfl rfl rfl (by decide +kernel) ⟨Nat.le_of_ble_eq_true rfl, Nat.le_of_ble_eq_true rfl⟩) (hc.preV hk3 rfl (by decide)) rfl rfl hl.1 rfl (lv_room (Nat.le_of_ble_eq_true rfl)) dX3_closestTerm_104 ⟨Nat.le_of_ble_eq_true rfl, Nat.le_of_ble_eq_true rfl⟩) hc (fun x10 gq11 H locs hq hc => ?_)
          obtain ⟨rfl, h⟩ := hq
          refine lv_if_eq (tgt := 112) hx hb dX3_closestTerm_107 (by decide) (fun c12 => ?_) (fun c12 => ?_)
          · have h := h.1 c12
            exact hb_112 i2 i3 h _ _ _ hc (lv_sub hl [0, 1, 2, 3] rfl)
          · have h := h.2 c12
            refine lv_iload_n hx hb dX3_closestTerm_110 rfl (lv_at hl 3 rfl) ?_
            refine lv_istore_n (lv' := [(2, .int i3), (0, .ref r0), (1, .int i1), (3, .int i3)]) hx hb dX3_closestTerm_111 rfl hl (by decide) rfl (fun ls hl => ?_)
            exact hb_112 i3 i3 h _ _ _ hc (lv_sub hl [1, 2, 0, 3] rfl)
  have hb_26 : ∀ (r0 : Nat) (i1 : Int32), ∀ (g : gS) (i2 : Int32), lpx2 (l_X3_closestTerm_26 r0 i1 Q) g i2 → ∀ (H : Heap) (locs : List Loc) (ls : Array Slot), gC D cA (gA g0 sz) s g H locs → lv_has ls 4 [(0, .ref r0), (1, .int i1), (2, .int i2)] → W p l e r_X3_closestTerm s m args below meth c H locs 0 0 (MQ below (gQi D cA g0 sz (Q)) args s 0 0 (gA g0 sz)) (F0 m 26 ls []) := by
    intro r0 i1
    refine lpx2_run (P := fun (g : gS) (i2 : Int32) => ∀ (H : Heap) (locs : List Loc) (ls : Array Slot), gC D cA (gA g0 sz) s g H locs → lv_has ls 4 [(0, .ref r0), (1, .int i1), (2, .int i2)] → W p l e r_X3_closestTerm s m args below meth c H locs 0 0 (MQ below (gQi D cA g0 sz (Q)) args s 0 0 (gA g0 sz)) (F0 m 26 ls [])) ?_
    intro k26 hk_26 g i2 h H locs ls hc hl
    have hb_68 : ∀ (g : gS) (i2 : Int32), b_X3_closestTerm_68 g r0 i1 i2 Q k26 → ∀ (H : Heap) (locs : List Loc) (ls : Array Slot), gC D cA (gA g0 sz) s g H locs → lv_has ls 4 [(0, .ref r0), (1, .int i1), (2, .int i2)] → W p l e r_X3_closestTerm s m args below meth c H locs 0 0 (MQ below (gQi D cA g0 sz (Q)) args s 0 0 (gA g0 sz)) (F0 m 68 ls []) := by
      intro g i2 h H locs ls hc hl
      unfold b_X3_closestTerm_68 at h
      refine lv_iinc (v := (i2 + 1)) (lv' := [(2, .int (i2 + 1)), (0, .ref r0), (1, .int i1)]) hx hb dX3_closestTerm_68 hl (k := 2) rfl rfl (by decide) rfl (fun ls hl => ?_)
      refine lv_goto (tgt := 26) hx hb dX3_closestTerm_71 (by decide) ?_
      exact hk_26 g (i2 + 1) h _ _ _ hc (lv_sub hl [1, 2, 0] rfl)
    unfold l_X3_closestTerm_26 at h
    refine lv_iload_n hx hb dX3_closestTerm_26 rfl (lv_at hl 2 rfl) ?_
    refine lv_aload_n hx hb dX3_closestTerm_27 rfl (lv_at hl 0 rfl) ?_
    obtain ⟨hk13, h⟩ := h
    obtain ⟨y14, e15, h⟩ := h
    refine g_getr CF hc hk13 rfl (by decide) (fun _ h9 => List.mem_cons_of_mem _ (List.mem_append_left _ (List.mem_append_left _ (List.mem_append_left _ (List.mem_append_left _ (List.mem_append_right _ (h9))))))) (k := 0) (by decide) (List.mem_cons_of_mem _ (List.mem_append_left _ (List.mem_append_left _ (List.mem_append_left _ (List.mem_append_left _ (List.mem_append_left _ (List.mem_append_left _ (List.mem_of_getElem? (i := 3) rfl)))))))) e15 rfl dX3_closestTerm_28 ?_
    obtain ⟨hk16, h⟩ := h
    refine g_get CF hc hk16 rfl (by decide) (fun _ h9 => List.mem_cons_of_mem _ (List.mem_append_left _ (List.mem_append_left _ (List.mem_append_left _ (List.mem_append_right _ (h9)))))) (k := 1) (by decide) (List.mem_cons_of_mem _ (List.mem_append_left _ (List.mem_append_left _ (List.mem_append_left _ (List.mem_append_left _ (List.mem_append_left _ (List.mem_append_left _ (List.mem_of_getElem? (i := 4) rfl)))))))) rfl dX3_closestTerm_31 ?_
    refine lv_icmp_ge (tgt := 74) hx hb dX3_closestTerm_34 (by decide) (fun c17 => ?_) (fun c17 => ?_)
    · have h := h.1 c17
      refine lv_iconst (v := (-1)) hx hb dX3_closestTerm_74 (by decide) ?_
      refine lv_istore_n (lv' := [(2, .int (-1)), (0, .ref r0), (1, .int i1)]) hx hb dX3_closestTerm_75 rfl hl (by decide) rfl (fun ls hl => ?_)
      refine lv_iconst (v := 0) hx hb dX3_closestTerm_76 (by decide) ?_
      refine lv_istore_n (lv' := [(3, .int 0), (2, .int (-1)), (0, .ref r0), (1, .int i1)]) hx hb dX3_closestTerm_77 rfl hl (by decide) rfl (fun ls hl => ?_)
      exact hb_78 g r0 i1 (-1) 0 h _ _ _ hc (lv_sub hl [2, 3, 1, 0] rfl)
    · have h := h.2 c17
      refine lv_aload_n hx hb dX3_closestTerm_37 rfl (lv_at hl 0 rfl) ?_
      obtain ⟨y18, e19, h⟩ := h
      refine g_getr CF hc hk13 rfl (by decide) (fun _ h9 => List.mem_cons_of_mem _ (List.mem_append_left _ (List.mem_append_left _ (List.mem_append_left _ (List.mem_append_left _ (List.mem_append_right _ (h9))))))) (k := 0) (by decide) (List.mem_cons_of_mem _ (List.mem_append_left _ (List.mem_append_left _ (List.mem_append_left _ (List.mem_append_left _ (List.mem_append_left _ (List.mem_append_left _ (List.mem_of_getElem? (i := 3) rfl)))))))) e19 rfl dX3_closestTerm_38 ?_
      refine lv_iload_n hx hb dX3_closestTerm_41 rfl (lv_at hl 2 rfl) ?_
      obtain ⟨hk20, h⟩ := h
      refine g_callq (va_runV (As := [.int i2]) (rest := []) CF (c_X0_documentAt h) (cwV 1 hts gX3_closestTerm_X0_documentAt rfl rfl rfl (by decide +kernel) ⟨Nat.le_of_ble_eq_true rfl, Nat.le_of_ble_eq_true rfl⟩) (hc.preV hk20 rfl (by decide)) rfl rfl hl.1 rfl (lv_room (Nat.le_of_ble_eq_true rfl)) dX3_closestTerm_42 ⟨Nat.le_of_ble_eq_true rfl, Nat.le_of_ble_eq_true rfl⟩) hc (fun o21 gq22 H locs hq hc => ?_)
      obtain ⟨rfl, h⟩ := hq
      refine g_astore_nq (lv' := [(3, va_rf o21), (0, .ref r0), (1, .int i1), (2, .int i2)]) CF dX3_closestTerm_45 rfl hl (by decide) rfl (fun ls hl => ?_)
      refine g_aload_nq CF dX3_closestTerm_46 rfl (lv_at hl 0 rfl) ?_
      refine g_ifnull (tgt := 68) CF dX3_closestTerm_47 (by decide) (fun e24 => ?_) (fun y23 e24 => ?_)
      · have hu34 := h.1 e24
        subst e24
        have h := hu34
        exact hb_68 g i2 h _ _ _ hc (lv_sub hl [1, 2, 3] rfl)
      · have hu34 := h.2 y23 e24
        subst e24
        have h := hu34
        refine lv_aload_n hx hb dX3_closestTerm_50 rfl (lv_at hl 0 rfl) ?_
        obtain ⟨hk25, h⟩ := h
        refine g_calli (va_runV (As := []) (rest := []) CF (c_X2_canBeFound h) (cwV 0 hts gX3_closestTerm_X2_canBeFound rfl rfl rfl (by decide +kernel) ⟨Nat.le_of_ble_eq_true rfl, Nat.le_of_ble_eq_true rfl⟩) (hc.preV hk25 rfl (by decide)) rfl rfl hl.1 rfl (lv_room (Nat.le_of_ble_eq_true rfl)) dX3_closestTerm_51 ⟨Nat.le_of_ble_eq_true rfl, Nat.le_of_ble_eq_true rfl⟩) hc (fun x26 gq27 H locs hq hc => ?_)
        obtain ⟨rfl, h⟩ := hq
        refine lv_if_eq (tgt := 68) hx hb dX3_closestTerm_54 (by decide) (fun c28 => ?_) (fun c28 => ?_)
        · have h := h.1 c28
          exact hb_68 g i2 h _ _ _ hc (lv_sub hl [1, 2, 3] rfl)
        · have h := h.2 c28
          refine lv_aload_n hx hb dX3_closestTerm_57 rfl (lv_at hl 1 rfl) ?_
          refine lv_aload_n hx hb dX3_closestTerm_58 rfl (lv_at hl 0 rfl) ?_
          refine lv_iload_n hx hb dX3_closestTerm_59 rfl (lv_at hl 3 rfl) ?_
          refine lv_aload_n hx hb dX3_closestTerm_60 rfl (lv_at hl 0 rfl) ?_
          refine lv_iload_n hx hb dX3_closestTerm_61 rfl (lv_at hl 2 rfl) ?_
          refine g_calli (va_runV (As := [.int i1]) (rest := [.int i2, .ref y23, .ref r0]) CF (c_X2_hasAnywhere h) (cwV 1 hts gX3_closestTerm_X2_hasAnywhere rfl rfl rfl (by decide +kernel) ⟨Nat.le_of_ble_eq_true rfl, Nat.le_of_ble_eq_true rfl⟩) (hc.preV hk25 rfl (by decide)) rfl rfl hl.1 rfl (lv_room (Nat.le_of_ble_eq_true rfl)) dX3_closestTerm_62 ⟨Nat.le_of_ble_eq_true rfl, Nat.le_of_ble_eq_true rfl⟩) hc (fun x29 gq30 H locs hq hc => ?_)
          obtain ⟨rfl, h⟩ := hq
          refine g_callv (va_runV (As := [.ref y23, .int i2, .int x29]) (rest := []) CF (c_X3_countTerms h) (cwV 3 hts gX3_closestTerm_X3_countTerms rfl rfl rfl (by decide +kernel) ⟨Nat.le_of_ble_eq_true rfl, Nat.le_of_ble_eq_true rfl⟩) (hc.preV hk13 rfl (by decide)) rfl rfl hl.1 rfl (lv_room (Nat.le_of_ble_eq_true rfl)) dX3_closestTerm_65 ⟨Nat.le_of_ble_eq_true rfl, Nat.le_of_ble_eq_true rfl⟩) hc (fun g32 H locs hq hc => ?_)
          replace h := hq
          exact hb_68 g32 i2 h _ _ _ hc (lv_sub hl [1, 2, 3] rfl)
  unfold w_X3_closestTerm at h
  obtain ⟨H, hH0⟩ : ∃ z, z = s.heap := ⟨_, rfl⟩
  rw [← hH0] at hc ⊢
  obtain ⟨locs, hlc0⟩ : ∃ z : List Loc, z = [] := ⟨_, rfl⟩
  rw [← hlc0] at hc ⊢
  refine lv_aload_n hx hb dX3_closestTerm_0 rfl (lv_at hl 0 rfl) ?_
  obtain ⟨hk35, h⟩ := h
  obtain ⟨y36, e37, h⟩ := h
  refine g_getr CF hc hk35 rfl (by decide) (fun _ h9 => List.mem_cons_of_mem _ (List.mem_append_left _ (List.mem_append_left _ (List.mem_append_left _ (List.mem_append_left _ (List.mem_append_right _ (h9))))))) (k := 3) (by decide) (List.mem_cons_of_mem _ (List.mem_append_left _ (List.mem_append_left _ (List.mem_append_left _ (List.mem_append_left _ (List.mem_append_left _ (List.mem_append_left _ (List.mem_of_getElem? (i := 0) rfl)))))))) e37 rfl dX3_closestTerm_1 ?_
  refine lv_iconst (v := 0) hx hb dX3_closestTerm_4 (by decide) ?_
  refine g_callv (va_runS (As := [.ref y36, .int 0]) (rest := []) CF (c_J7_fill_53178 h) (va_cwS 2 hts gX3_closestTerm_J7_fill_53178 rfl rfl rfl (by decide +kernel) ⟨Nat.le_of_ble_eq_true rfl, Nat.le_of_ble_eq_true rfl⟩) hc.preS rfl rfl hl.1 rfl (lv_room (Nat.le_of_ble_eq_true rfl)) dX3_closestTerm_5 ⟨Nat.le_of_ble_eq_true rfl, Nat.le_of_ble_eq_true rfl⟩) hc (fun g39 H locs hq hc => ?_)
  replace h := hq
  refine lv_aload_n hx hb dX3_closestTerm_8 rfl (lv_at hl 0 rfl) ?_
  obtain ⟨hk41, h⟩ := h
  obtain ⟨y42, e43, h⟩ := h
  refine g_getr CF hc hk41 rfl (by decide) (fun _ h9 => List.mem_cons_of_mem _ (List.mem_append_left _ (List.mem_append_left _ (List.mem_append_left _ (List.mem_append_left _ (List.mem_append_right _ (h9))))))) (k := 4) (by decide) (List.mem_cons_of_mem _ (List.mem_append_left _ (List.mem_append_left _ (List.mem_append_left _ (List.mem_append_left _ (List.mem_append_left _ (List.mem_append_left _ (List.mem_of_getElem? (i := 1) rfl)))))))) e43 rfl dX3_closestTerm_9 ?_
  refine lv_iconst (v := 0) hx hb dX3_closestTerm_12 (by decide) ?_
  refine g_callv (va_runS (As := [.ref y42, .int 0]) (rest := []) CF (c_J7_fill_53178 h) (va_cwS 2 hts gX3_closestTerm_J7_fill_53178 rfl rfl rfl (by decide +kernel) ⟨Nat.le_of_ble_eq_true rfl, Nat.le_of_ble_eq_true rfl⟩) hc.preS rfl rfl hl.1 rfl (lv_room (Nat.le_of_ble_eq_true rfl)) dX3_closestTerm_13 ⟨Nat.le_of_ble_eq_true rfl, Nat.le_of_ble_eq_true rfl⟩) hc (fun g45 H locs hq hc => ?_)
  replace h := hq
  refine lv_aload_n hx hb dX3_closestTerm_16 rfl (lv_at hl 0 rfl) ?_
  obtain ⟨hk47, h⟩ := h
  obtain ⟨y48, e49, h⟩ := h
  refine g_getr CF hc hk47 rfl (by decide) (fun _ h9 => List.mem_cons_of_mem _ (List.mem_append_left _ (List.mem_append_left _ (List.mem_append_left _ (List.mem_append_left _ (List.mem_append_right _ (h9))))))) (k := 5) (by decide) (List.mem_cons_of_mem _ (List.mem_append_left _ (List.mem_append_left _ (List.mem_append_left _ (List.mem_append_left _ (List.mem_append_left _ (List.mem_append_left _ (List.mem_of_getElem? (i := 2) rfl)))))))) e49 rfl dX3_closestTerm_17 ?_
  refine lv_iconst (v := (-1)) hx hb dX3_closestTerm_20 (by decide) ?_
  refine g_callv (va_runS (As := [.ref y48, .int (-1)]) (rest := []) CF (c_J7_fill_53178 h) (va_cwS 2 hts gX3_closestTerm_J7_fill_53178 rfl rfl rfl (by decide +kernel) ⟨Nat.le_of_ble_eq_true rfl, Nat.le_of_ble_eq_true rfl⟩) hc.preS rfl rfl hl.1 rfl (lv_room (Nat.le_of_ble_eq_true rfl)) dX3_closestTerm_21 ⟨Nat.le_of_ble_eq_true rfl, Nat.le_of_ble_eq_true rfl⟩) hc (fun g51 H locs hq hc => ?_)
  replace h := hq
  refine lv_iconst (v := 0) hx hb dX3_closestTerm_24 (by decide) ?_
  refine lv_istore_n (lv' := [(2, .int 0), (0, .ref p0), (1, .int p1)]) hx hb dX3_closestTerm_25 rfl hl (by decide) rfl (fun ls hl => ?_)
  exact hb_26 p0 p1 g51 0 h _ _ _ hc (lv_sub hl [1, 2, 0] rfl)
def w_X10_init (g0 : gS) (p0 : Nat) (Q : gS → Prop) : Prop :=
  ∀ q1, gK g0 q1 = 0 → (∀ g3, g3 = sNew g0 q1 1 0 → (w_X0_init g3 q1 (fun g6 => (gK g6 p0 = 11 ∧ (∀ g9, g9 = sV g6 p0 0 (some q1) → (∀ q11, gK g9 q11 = 0 → (∀ g13, g13 = sNew g9 q11 5 0 → (w_X4_init g13 q11 (fun g16 => (gK g16 p0 = 11 ∧ (∀ g19, g19 = sV g16 p0 1 (some q11) → (∀ q21, gK g19 q21 = 0 → (∀ g23, g23 = sNew g19 q21 7 0 → (gK g23 p0 = 11 ∧ (∃ y26, gR g23 p0 1 = some y26 ∧ (w_X6_init g23 q21 y26 (fun g29 => (gK g29 p0 = 11 ∧ (∀ g32, g32 = sV g29 p0 2 (some q21) → (∀ q34, gK g32 q34 = 0 → (∀ g36, g36 = sNew g32 q34 8 0 → (w_X7_init g36 q34 (fun g39 => (gK g39 p0 = 11 ∧ (∀ g42, g42 = sV g39 p0 3 (some q34) → (∀ q44, gK g42 q44 = 0 → (∀ g46, g46 = sNew g42 q44 4 0 → (gK g46 p0 = 11 ∧ (∃ y49, gR g46 p0 0 = some y49 ∧ (∃ y51, gR g46 p0 1 = some y51 ∧ (w_X3_init g46 q44 y49 y51 (fun g54 => (gK g54 p0 = 11 ∧ (∀ g57, g57 = sV g54 p0 4 (some q44) → (∀ q59, gK g57 q59 = 0 → (∀ g61, g61 = sNew g57 q59 2 0 → (w_X1_init g61 q59 (fun g64 => (gK g64 p0 = 11 ∧ (∀ g67, g67 = sV g64 p0 5 (some q59) → (∀ q69, gK g67 q69 = 0 → (∀ g71, g71 = sNew g67 q69 9 0 → (gK g71 p0 = 11 ∧ (∃ y74, gR g71 p0 2 = some y74 ∧ (∃ y76, gR g71 p0 1 = some y76 ∧ (∃ y78, gR g71 p0 0 = some y78 ∧ (gK g71 y78 = 1 ∧ (∃ y81, gR g71 y78 5 = some y81 ∧ (w_X8_init g71 q69 y74 y76 y81 1 (fun g84 => (gK g84 p0 = 11 ∧ (∀ g87, g87 = sV g84 p0 6 (some q69) → (∀ q89, gK g87 q89 = 0 → (∀ g91, g91 = sNew g87 q89 9 0 → (gK g91 p0 = 11 ∧ (∃ y94, gR g91 p0 2 = some y94 ∧ (∃ y96, gR g91 p0 1 = some y96 ∧ (∃ y98, gR g91 p0 0 = some y98 ∧ (gK g91 y98 = 1 ∧ (∃ y101, gR g91 y98 5 = some y101 ∧ (w_X8_init g91 q89 y94 y96 y101 0 (fun g104 => (gK g104 p0 = 11 ∧ (∀ g107, g107 = sV g104 p0 7 (some q89) → (∀ q109, gK g107 q109 = 0 → (∀ g111, g111 = sNew g107 q109 9 0 → (gK g111 p0 = 11 ∧ (∃ y114, gR g111 p0 2 = some y114 ∧ (∃ y116, gR g111 p0 1 = some y116 ∧ (∃ y118, gR g111 p0 5 = some y118 ∧ (w_X8_init g111 q109 y114 y116 y118 1 (fun g121 => (gK g121 p0 = 11 ∧ (∀ g124, g124 = sV g121 p0 8 (some q109) → (∀ q126 rr127, gFresh g124 q126 rr127 30 → (∀ g129, g129 = sGrid g124 q126 rr127 30 60 → (gK g129 p0 = 11 ∧ (∀ g132, g132 = sV g129 p0 9 (some q126) → (Q g132)))))))))))))))))))))))))))))))))))))))))))))))))))))))))))))))))))))))))))))))
abbrev r_X10_init : Room := { frames := 3, cells := 72, slots := 5155, locals := 52 }
set_option maxHeartbeats 4000000 in
set_option maxRecDepth 100000 in
theorem c_X10_init {l : Launch} {D : va_G} {cA : Nat → ClassId} {sz : Nat} {g0 : gS} {p0 : Nat} {Q : gS → Prop} (h : w_X10_init g0 p0 Q) : Met l yX10_init wsX10_init r_X10_init (va_Pc [.ref p0] (gPre D cA g0 sz)) (gQv D cA g0 sz (Q)) 72 5155 (gA g0 sz) := by
  refine g_met (cc := cX10_init) (maxL := 1) (ret := none) (own := RX10) (by decide) rfl rfl (Nat.le_of_ble_eq_true rfl) ?_
  intro p e s m args below meth c ls CF hr hlk hnm hc hl
  obtain ⟨hx, hb, hml, hown, hts⟩ := id CF
  have hl : lv_has ls 1 [(0, .ref p0)] := hl
  show W p l e r_X10_init s m args below meth c s.heap [] 0 0 (MQ below (gQv D cA g0 sz (Q)) args s 72 5155 (gA g0 sz)) (F0 m 0 ls [])
  unfold w_X10_init at h
  obtain ⟨H, hH0⟩ : ∃ z, z = s.heap := ⟨_, rfl⟩
  rw [← hH0] at hc ⊢
  obtain ⟨locs, hlc0⟩ : ∃ z : List Loc, z = [] := ⟨_, rfl⟩
  rw [← hlc0] at hc ⊢
  refine lv_aload_n hx hb dX10_init_0 rfl (lv_at hl 0 rfl) ?_
  refine W.objInit hx hb hown (hts _ (List.mem_cons_of_mem _ (List.mem_append_left _ (List.mem_append_left _ (List.mem_append_left _ (List.mem_append_left _ (List.mem_append_left _ (List.mem_append_left _ (List.mem_append_left _ (List.mem_append_left _ (List.mem_append_left _ (List.mem_of_getElem? (i := 0) rfl)))))))))))) (hts _ (List.mem_cons_of_mem _ (List.mem_append_left _ (List.mem_append_left _ (List.mem_append_left _ (List.mem_append_left _ (List.mem_append_left _ (List.mem_append_left _ (List.mem_append_left _ (List.mem_append_left _ (List.mem_append_left _ (List.mem_of_getElem? (i := 1) rfl)))))))))))) (hts _ (List.mem_cons_of_mem _ (List.mem_append_left _ (List.mem_append_left _ (List.mem_append_left _ (List.mem_append_left _ (List.mem_append_left _ (List.mem_append_left _ (List.mem_append_left _ (List.mem_append_left _ (List.mem_append_left _ (List.mem_of_getElem? (i := 2) rfl)))))))))))) rfl (by rw [hml]; exact hl.1) rfl dX10_init_1 (Nat.le_of_ble_eq_true rfl) (Nat.le_of_ble_eq_true rfl) ?_
  refine W.eq (g2 := F0 m 4 ls []) rfl ?_
  refine lv_aload_n hx hb dX10_init_4 rfl (lv_at hl 0 rfl) ?_
  refine g_new CF hc (ci := 0) rfl (by decide) (fun _ h9 => List.mem_cons_of_mem _ (List.mem_append_left _ (List.mem_append_left _ (List.mem_append_left _ (List.mem_append_left _ (List.mem_append_left _ (List.mem_append_left _ (List.mem_append_left _ (List.mem_append_right _ (h9)))))))))) tyX0 tyX0_ok dfX0 (List.mem_cons_of_mem _ (List.mem_append_left _ (List.mem_append_left _ (List.mem_append_left _ (List.mem_append_left _ (List.mem_append_left _ (List.mem_append_left _ (List.mem_append_left _ (List.mem_append_left _ (List.mem_append_left _ (List.mem_of_getElem? (i := 3) rfl))))))))))) (List.mem_cons_of_mem _ (List.mem_append_left _ (List.mem_append_left _ (List.mem_append_left _ (List.mem_append_left _ (List.mem_append_left _ (List.mem_append_left _ (List.mem_append_left _ (List.mem_append_left _ (List.mem_append_left _ (List.mem_of_getElem? (i := 4) rfl))))))))))) (List.mem_cons_of_mem _ (List.mem_append_left _ (List.mem_append_left _ (List.mem_append_left _ (List.mem_append_left _ (List.mem_append_left _ (List.mem_append_left _ (List.mem_append_left _ (List.mem_append_left _ (List.mem_append_left _ (List.mem_of_getElem? (i := 5) rfl))))))))))) (Nat.le_of_ble_eq_true rfl) (Nat.le_of_ble_eq_true rfl) dX10_init_5 (fun q1 H locs hq2 hc => ?_)
  replace h := h q1 hq2
  obtain ⟨g3, eg4⟩ : ∃ z, z = sNew g0 q1 1 0 := ⟨_, rfl⟩
  have hc : gC D cA (gA g0 sz) s g3 H locs := by rw [eg4]; exact hc
  replace h := h g3 eg4
  refine W.widen (k := 1) (n := 6) (Nat.le_of_ble_eq_true rfl) (Nat.le_of_ble_eq_true rfl) ?_
  refine lv_dup hx hb dX10_init_8 rfl ?_
  refine g_callv (va_runIN (b := q1) (As := []) (rest := [.ref q1, .ref p0]) CF (c_X0_init h) ⟨va_cnB 0 hts gX10_init_X0_init_n9 rfl rfl rfl (hc.1.2.1 (.methodLinkNest RX10 9 yX0_init "QuarryIndex") (by decide +kernel)) (hts _ (List.mem_cons_of_mem _ (List.mem_append_left _ (List.mem_append_left _ (List.mem_append_left _ (List.mem_append_left _ (List.mem_append_left _ (List.mem_append_left _ (List.mem_append_left _ (List.mem_append_left _ (List.mem_append_left _ (List.mem_of_getElem? (i := 5) rfl)))))))))))) (by decide +kernel) ⟨Nat.le_of_ble_eq_true rfl, Nat.le_of_ble_eq_true rfl⟩, rfl, hts _ (List.mem_cons_of_mem _ (List.mem_append_left _ (List.mem_append_left _ (List.mem_append_left _ (List.mem_append_left _ (List.mem_append_left _ (List.mem_append_left _ (List.mem_append_left _ (List.mem_append_left _ (List.mem_append_right _ (List.mem_append_left _ (List.mem_of_getElem? (i := 13) rfl))))))))))))⟩ (hc.preS (As := .ref q1 :: [])) rfl rfl hl.1 rfl (lv_room (Nat.le_of_ble_eq_true rfl)) dX10_init_9 ⟨Nat.le_of_ble_eq_true rfl, Nat.le_of_ble_eq_true rfl⟩) hc (fun g6 H locs hq hc => ?_)
  replace h := hq
  refine W.widen (k := 9) (n := 735) (Nat.le_of_ble_eq_true rfl) (Nat.le_of_ble_eq_true rfl) ?_
  obtain ⟨hk8, h⟩ := h
  refine g_putrF CF hc hk8 rfl (by decide) (fun _ h9 => List.mem_cons_of_mem _ (List.mem_append_left _ (List.mem_append_left _ (List.mem_append_left _ (List.mem_append_left _ (List.mem_append_left _ (List.mem_append_left _ (List.mem_append_right _ (h9))))))))) tyX10 tyX10_ok nmX10 (k := 0) (by decide) (List.mem_cons_of_mem _ (List.mem_append_left _ (List.mem_append_left _ (List.mem_append_left _ (List.mem_append_left _ (List.mem_append_left _ (List.mem_append_left _ (List.mem_append_left _ (List.mem_append_left _ (List.mem_append_left _ (List.mem_of_getElem? (i := 6) rfl))))))))))) rfl hnm rfl (some q1) narrow_rf fits_rf rfl dX10_init_12 (fun H locs hc => ?_)
  obtain ⟨g9, eg10⟩ : ∃ z, z = sV g6 p0 0 (some q1) := ⟨_, rfl⟩
  have hc : gC D cA (gA g0 sz) s g9 H locs := by rw [eg10]; exact hc
  replace h := h g9 eg10
  refine lv_aload_n hx hb dX10_init_15 rfl (lv_at hl 0 rfl) ?_
  refine g_new CF hc (ci := 4) rfl (by decide) (fun _ h9 => List.mem_cons_of_mem _ (List.mem_append_left _ (List.mem_append_left _ (List.mem_append_left _ (List.mem_append_left _ (List.mem_append_left _ (List.mem_append_right _ (h9)))))))) tyX4 tyX4_ok dfX4 (List.mem_cons_of_mem _ (List.mem_append_left _ (List.mem_append_left _ (List.mem_append_left _ (List.mem_append_left _ (List.mem_append_left _ (List.mem_append_left _ (List.mem_append_left _ (List.mem_append_left _ (List.mem_append_left _ (List.mem_of_getElem? (i := 7) rfl))))))))))) (List.mem_cons_of_mem _ (List.mem_append_left _ (List.mem_append_left _ (List.mem_append_left _ (List.mem_append_left _ (List.mem_append_left _ (List.mem_append_left _ (List.mem_append_left _ (List.mem_append_left _ (List.mem_append_left _ (List.mem_of_getElem? (i := 8) rfl))))))))))) (List.mem_cons_of_mem _ (List.mem_append_left _ (List.mem_append_left _ (List.mem_append_left _ (List.mem_append_left _ (List.mem_append_left _ (List.mem_append_left _ (List.mem_append_left _ (List.mem_append_left _ (List.mem_append_left _ (List.mem_of_getElem? (i := 9) rfl))))))))))) (Nat.le_of_ble_eq_true rfl) (Nat.le_of_ble_eq_true rfl) dX10_init_16 (fun q11 H locs hq12 hc => ?_)
  replace h := h q11 hq12
  obtain ⟨g13, eg14⟩ : ∃ z, z = sNew g9 q11 5 0 := ⟨_, rfl⟩
  have hc : gC D cA (gA g0 sz) s g13 H locs := by rw [eg14]; exact hc
  replace h := h g13 eg14
  refine W.widen (k := 10) (n := 738) (Nat.le_of_ble_eq_true rfl) (Nat.le_of_ble_eq_true rfl) ?_
  refine lv_dup hx hb dX10_init_19 rfl ?_
  refine g_callv (va_runI (b := q11) (As := []) (rest := [.ref q11, .ref p0]) CF (c_X4_init h) (cwI 0 hts gX10_init_X4_init rfl rfl rfl (hts _ (List.mem_cons_of_mem _ (List.mem_append_left _ (List.mem_append_left _ (List.mem_append_left _ (List.mem_append_left _ (List.mem_append_left _ (List.mem_append_left _ (List.mem_append_left _ (List.mem_append_left _ (List.mem_append_left _ (List.mem_of_getElem? (i := 9) rfl)))))))))))) (hts _ (List.mem_cons_of_mem _ (List.mem_append_left _ (List.mem_append_left _ (List.mem_append_left _ (List.mem_append_left _ (List.mem_append_left _ (List.mem_append_left _ (List.mem_append_left _ (List.mem_append_left _ (List.mem_append_right _ (List.mem_append_right _ (List.mem_append_left _ (List.mem_of_getElem? (i := 3) rfl)))))))))))))) (hts _ (List.mem_cons_of_mem _ (List.mem_append_left _ (List.mem_append_left _ (List.mem_append_left _ (List.mem_append_left _ (List.mem_append_left _ (List.mem_append_left _ (List.mem_append_left _ (List.mem_append_left _ (List.mem_append_right _ (List.mem_append_right _ (List.mem_append_left _ (List.mem_of_getElem? (i := 4) rfl)))))))))))))) rfl (by decide +kernel) ⟨Nat.le_of_ble_eq_true rfl, Nat.le_of_ble_eq_true rfl⟩) (hc.preS (As := .ref q11 :: [])) rfl rfl hl.1 rfl (lv_room (Nat.le_of_ble_eq_true rfl)) dX10_init_20 ⟨Nat.le_of_ble_eq_true rfl, Nat.le_of_ble_eq_true rfl⟩) hc (fun g16 H locs hq hc => ?_)
  replace h := hq
  refine W.widen (k := 13) (n := 1141) (Nat.le_of_ble_eq_true rfl) (Nat.le_of_ble_eq_true rfl) ?_
  obtain ⟨hk18, h⟩ := h
  refine g_putrF CF hc hk18 rfl (by decide) (fun _ h9 => List.mem_cons_of_mem _ (List.mem_append_left _ (List.mem_append_left _ (List.mem_append_left _ (List.mem_append_left _ (List.mem_append_left _ (List.mem_append_left _ (List.mem_append_right _ (h9))))))))) tyX10 tyX10_ok nmX10 (k := 1) (by decide) (List.mem_cons_of_mem _ (List.mem_append_left _ (List.mem_append_left _ (List.mem_append_left _ (List.mem_append_left _ (List.mem_append_left _ (List.mem_append_left _ (List.mem_append_left _ (List.mem_append_left _ (List.mem_append_left _ (List.mem_of_getElem? (i := 10) rfl))))))))))) rfl hnm rfl (some q11) narrow_rf fits_rf rfl dX10_init_23 (fun H locs hc => ?_)
  obtain ⟨g19, eg20⟩ : ∃ z, z = sV g16 p0 1 (some q11) := ⟨_, rfl⟩
  have hc : gC D cA (gA g0 sz) s g19 H locs := by rw [eg20]; exact hc
  replace h := h g19 eg20
  refine lv_aload_n hx hb dX10_init_26 rfl (lv_at hl 0 rfl) ?_
  refine g_new CF hc (ci := 6) rfl (by decide) (fun _ h9 => List.mem_cons_of_mem _ (List.mem_append_left _ (List.mem_append_left _ (List.mem_append_left _ (List.mem_append_left _ (List.mem_append_right _ (h9))))))) tyX6 tyX6_ok dfX6 (List.mem_cons_of_mem _ (List.mem_append_left _ (List.mem_append_left _ (List.mem_append_left _ (List.mem_append_left _ (List.mem_append_left _ (List.mem_append_left _ (List.mem_append_left _ (List.mem_append_left _ (List.mem_append_left _ (List.mem_of_getElem? (i := 11) rfl))))))))))) (List.mem_cons_of_mem _ (List.mem_append_left _ (List.mem_append_left _ (List.mem_append_left _ (List.mem_append_left _ (List.mem_append_left _ (List.mem_append_left _ (List.mem_append_left _ (List.mem_append_left _ (List.mem_append_left _ (List.mem_of_getElem? (i := 12) rfl))))))))))) (List.mem_cons_of_mem _ (List.mem_append_left _ (List.mem_append_left _ (List.mem_append_left _ (List.mem_append_left _ (List.mem_append_left _ (List.mem_append_left _ (List.mem_append_left _ (List.mem_append_left _ (List.mem_append_left _ (List.mem_of_getElem? (i := 13) rfl))))))))))) (Nat.le_of_ble_eq_true rfl) (Nat.le_of_ble_eq_true rfl) dX10_init_27 (fun q21 H locs hq22 hc => ?_)
  replace h := h q21 hq22
  obtain ⟨g23, eg24⟩ : ∃ z, z = sNew g19 q21 7 0 := ⟨_, rfl⟩
  have hc : gC D cA (gA g0 sz) s g23 H locs := by rw [eg24]; exact hc
  replace h := h g23 eg24
  refine W.widen (k := 14) (n := 1146) (Nat.le_of_ble_eq_true rfl) (Nat.le_of_ble_eq_true rfl) ?_
  refine lv_dup hx hb dX10_init_30 rfl ?_
  refine lv_aload_n hx hb dX10_init_31 rfl (lv_at hl 0 rfl) ?_
  obtain ⟨hk25, h⟩ := h
  obtain ⟨y26, e27, h⟩ := h
  refine g_getr CF hc hk25 rfl (by decide) (fun _ h9 => List.mem_cons_of_mem _ (List.mem_append_left _ (List.mem_append_left _ (List.mem_append_left _ (List.mem_append_left _ (List.mem_append_left _ (List.mem_append_left _ (List.mem_append_right _ (h9))))))))) (k := 1) (by decide) (List.mem_cons_of_mem _ (List.mem_append_left _ (List.mem_append_left _ (List.mem_append_left _ (List.mem_append_left _ (List.mem_append_left _ (List.mem_append_left _ (List.mem_append_left _ (List.mem_append_left _ (List.mem_append_left _ (List.mem_of_getElem? (i := 10) rfl))))))))))) e27 rfl dX10_init_32 ?_
  refine g_callv (va_runI (b := q21) (As := [.ref y26]) (rest := [.ref q21, .ref p0]) CF (c_X6_init h) (cwI 1 hts gX10_init_X6_init rfl rfl rfl (hts _ (List.mem_cons_of_mem _ (List.mem_append_left _ (List.mem_append_left _ (List.mem_append_left _ (List.mem_append_left _ (List.mem_append_left _ (List.mem_append_left _ (List.mem_append_left _ (List.mem_append_left _ (List.mem_append_left _ (List.mem_of_getElem? (i := 13) rfl)))))))))))) (hts _ (List.mem_cons_of_mem _ (List.mem_append_left _ (List.mem_append_left _ (List.mem_append_left _ (List.mem_append_left _ (List.mem_append_left _ (List.mem_append_left _ (List.mem_append_left _ (List.mem_append_left _ (List.mem_append_right _ (List.mem_append_right _ (List.mem_append_left _ (List.mem_of_getElem? (i := 15) rfl)))))))))))))) (hts _ (List.mem_cons_of_mem _ (List.mem_append_left _ (List.mem_append_left _ (List.mem_append_left _ (List.mem_append_left _ (List.mem_append_left _ (List.mem_append_left _ (List.mem_append_left _ (List.mem_append_left _ (List.mem_append_right _ (List.mem_append_right _ (List.mem_append_left _ (List.mem_of_getElem? (i := 16) rfl)))))))))))))) rfl (by decide +kernel) ⟨Nat.le_of_ble_eq_true rfl, Nat.le_of_ble_eq_true rfl⟩) (hc.preS (As := .ref q21 :: [.ref y26])) rfl rfl hl.1 rfl (lv_room (Nat.le_of_ble_eq_true rfl)) dX10_init_35 ⟨Nat.le_of_ble_eq_true rfl, Nat.le_of_ble_eq_true rfl⟩) hc (fun g29 H locs hq hc => ?_)
  replace h := hq
  refine W.widen (k := 17) (n := 1218) (Nat.le_of_ble_eq_true rfl) (Nat.le_of_ble_eq_true rfl) ?_
  obtain ⟨hk31, h⟩ := h
  refine g_putrF CF hc hk31 rfl (by decide) (fun _ h9 => List.mem_cons_of_mem _ (List.mem_append_left _ (List.mem_append_left _ (List.mem_append_left _ (List.mem_append_left _ (List.mem_append_left _ (List.mem_append_left _ (List.mem_append_right _ (h9))))))))) tyX10 tyX10_ok nmX10 (k := 2) (by decide) (List.mem_cons_of_mem _ (List.mem_append_left _ (List.mem_append_left _ (List.mem_append_left _ (List.mem_append_left _ (List.mem_append_left _ (List.mem_append_left _ (List.mem_append_left _ (List.mem_append_left _ (List.mem_append_left _ (List.mem_of_getElem? (i := 14) rfl))))))))))) rfl hnm rfl (some q21) narrow_rf fits_rf rfl dX10_init_38 (fun H locs hc => ?_)
  obtain ⟨g32, eg33⟩ : ∃ z, z = sV g29 p0 2 (some q21) := ⟨_, rfl⟩
  have hc : gC D cA (gA g0 sz) s g32 H locs := by rw [eg33]; exact hc
  replace h := h g32 eg33
  refine lv_aload_n hx hb dX10_init_41 rfl (lv_at hl 0 rfl) ?_
  refine g_new CF hc (ci := 7) rfl (by decide) (fun _ h9 => List.mem_cons_of_mem _ (List.mem_append_left _ (List.mem_append_left _ (List.mem_append_left _ (List.mem_append_right _ (h9)))))) tyX7 tyX7_ok dfX7 (List.mem_cons_of_mem _ (List.mem_append_left _ (List.mem_append_left _ (List.mem_append_left _ (List.mem_append_left _ (List.mem_append_left _ (List.mem_append_left _ (List.mem_append_left _ (List.mem_append_left _ (List.mem_append_left _ (List.mem_of_getElem? (i := 15) rfl))))))))))) (List.mem_cons_of_mem _ (List.mem_append_left _ (List.mem_append_left _ (List.mem_append_left _ (List.mem_append_left _ (List.mem_append_left _ (List.mem_append_left _ (List.mem_append_left _ (List.mem_append_left _ (List.mem_append_left _ (List.mem_of_getElem? (i := 16) rfl))))))))))) (List.mem_cons_of_mem _ (List.mem_append_left _ (List.mem_append_left _ (List.mem_append_left _ (List.mem_append_left _ (List.mem_append_left _ (List.mem_append_left _ (List.mem_append_left _ (List.mem_append_left _ (List.mem_append_left _ (List.mem_of_getElem? (i := 17) rfl))))))))))) (Nat.le_of_ble_eq_true rfl) (Nat.le_of_ble_eq_true rfl) dX10_init_42 (fun q34 H locs hq35 hc => ?_)
  replace h := h q34 hq35
  obtain ⟨g36, eg37⟩ : ∃ z, z = sNew g32 q34 8 0 := ⟨_, rfl⟩
  have hc : gC D cA (gA g0 sz) s g36 H locs := by rw [eg37]; exact hc
  replace h := h g36 eg37
  refine W.widen (k := 18) (n := 1222) (Nat.le_of_ble_eq_true rfl) (Nat.le_of_ble_eq_true rfl) ?_
  refine lv_dup hx hb dX10_init_45 rfl ?_
  refine g_callv (va_runIN (b := q34) (As := []) (rest := [.ref q34, .ref p0]) CF (c_X7_init h) ⟨va_cnB 0 hts gX10_init_X7_init_n34 rfl rfl rfl (hc.1.2.1 (.methodLinkNest RX10 34 yX7_init "QuarryIndex") (by decide +kernel)) (hts _ (List.mem_cons_of_mem _ (List.mem_append_left _ (List.mem_append_left _ (List.mem_append_left _ (List.mem_append_left _ (List.mem_append_left _ (List.mem_append_left _ (List.mem_append_left _ (List.mem_append_left _ (List.mem_append_left _ (List.mem_of_getElem? (i := 17) rfl)))))))))))) (by decide +kernel) ⟨Nat.le_of_ble_eq_true rfl, Nat.le_of_ble_eq_true rfl⟩, rfl, hts _ (List.mem_cons_of_mem _ (List.mem_append_left _ (List.mem_append_left _ (List.mem_append_left _ (List.mem_append_left _ (List.mem_append_left _ (List.mem_append_left _ (List.mem_append_left _ (List.mem_append_left _ (List.mem_append_right _ (List.mem_append_right _ (List.mem_append_right _ (List.mem_append_left _ (List.mem_of_getElem? (i := 0) rfl))))))))))))))⟩ (hc.preS (As := .ref q34 :: [])) rfl rfl hl.1 rfl (lv_room (Nat.le_of_ble_eq_true rfl)) dX10_init_46 ⟨Nat.le_of_ble_eq_true rfl, Nat.le_of_ble_eq_true rfl⟩) hc (fun g39 H locs hq hc => ?_)
  replace h := hq
  refine W.widen (k := 21) (n := 1402) (Nat.le_of_ble_eq_true rfl) (Nat.le_of_ble_eq_true rfl) ?_
  obtain ⟨hk41, h⟩ := h
  refine g_putrF CF hc hk41 rfl (by decide) (fun _ h9 => List.mem_cons_of_mem _ (List.mem_append_left _ (List.mem_append_left _ (List.mem_append_left _ (List.mem_append_left _ (List.mem_append_left _ (List.mem_append_left _ (List.mem_append_right _ (h9))))))))) tyX10 tyX10_ok nmX10 (k := 3) (by decide) (List.mem_cons_of_mem _ (List.mem_append_left _ (List.mem_append_left _ (List.mem_append_left _ (List.mem_append_left _ (List.mem_append_left _ (List.mem_append_left _ (List.mem_append_left _ (List.mem_append_left _ (List.mem_append_left _ (List.mem_of_getElem? (i := 18) rfl))))))))))) rfl hnm rfl (some q34) narrow_rf fits_rf rfl dX10_init_49 (fun H locs hc => ?_)
  obtain ⟨g42, eg43⟩ : ∃ z, z = sV g39 p0 3 (some q34) := ⟨_, rfl⟩
  have hc : gC D cA (gA g0 sz) s g42 H locs := by rw [eg43]; exact hc
  replace h := h g42 eg43
  refine lv_aload_n hx hb dX10_init_52 rfl (lv_at hl 0 rfl) ?_
  refine g_new CF hc (ci := 3) rfl (by decide) (fun _ h9 => List.mem_cons_of_mem _ (List.mem_append_left _ (List.mem_append_left _ (List.mem_append_right _ (h9))))) tyX3 tyX3_ok dfX3 (List.mem_cons_of_mem _ (List.mem_append_left _ (List.mem_append_left _ (List.mem_append_left _ (List.mem_append_left _ (List.mem_append_left _ (List.mem_append_left _ (List.mem_append_left _ (List.mem_append_left _ (List.mem_append_left _ (List.mem_of_getElem? (i := 19) rfl))))))))))) (List.mem_cons_of_mem _ (List.mem_append_left _ (List.mem_append_left _ (List.mem_append_left _ (List.mem_append_left _ (List.mem_append_left _ (List.mem_append_left _ (List.mem_append_left _ (List.mem_append_left _ (List.mem_append_left _ (List.mem_of_getElem? (i := 20) rfl))))))))))) (List.mem_cons_of_mem _ (List.mem_append_left _ (List.mem_append_left _ (List.mem_append_left _ (List.mem_append_left _ (List.mem_append_left _ (List.mem_append_left _ (List.mem_append_left _ (List.mem_append_left _ (List.mem_append_left _ (List.mem_of_getElem? (i := 21) rfl))))))))))) (Nat.le_of_ble_eq_true rfl) (Nat.le_of_ble_eq_true rfl) dX10_init_53 (fun q44 H locs hq45 hc => ?_)
  replace h := h q44 hq45
  obtain ⟨g46, eg47⟩ : ∃ z, z = sNew g42 q44 4 0 := ⟨_, rfl⟩
  have hc : gC D cA (gA g0 sz) s g46 H locs := by rw [eg47]; exact hc
  replace h := h g46 eg47
  refine W.widen (k := 22) (n := 1408) (Nat.le_of_ble_eq_true rfl) (Nat.le_of_ble_eq_true rfl) ?_
  refine lv_dup hx hb dX10_init_56 rfl ?_
  refine lv_aload_n hx hb dX10_init_57 rfl (lv_at hl 0 rfl) ?_
  obtain ⟨hk48, h⟩ := h
  obtain ⟨y49, e50, h⟩ := h
  refine g_getr CF hc hk48 rfl (by decide) (fun _ h9 => List.mem_cons_of_mem _ (List.mem_append_left _ (List.mem_append_left _ (List.mem_append_left _ (List.mem_append_left _ (List.mem_append_left _ (List.mem_append_left _ (List.mem_append_right _ (h9))))))))) (k := 0) (by decide) (List.mem_cons_of_mem _ (List.mem_append_left _ (List.mem_append_left _ (List.mem_append_left _ (List.mem_append_left _ (List.mem_append_left _ (List.mem_append_left _ (List.mem_append_left _ (List.mem_append_left _ (List.mem_append_left _ (List.mem_of_getElem? (i := 6) rfl))))))))))) e50 rfl dX10_init_58 ?_
  refine lv_aload_n hx hb dX10_init_61 rfl (lv_at hl 0 rfl) ?_
  obtain ⟨y51, e52, h⟩ := h
  refine g_getr CF hc hk48 rfl (by decide) (fun _ h9 => List.mem_cons_of_mem _ (List.mem_append_left _ (List.mem_append_left _ (List.mem_append_left _ (List.mem_append_left _ (List.mem_append_left _ (List.mem_append_left _ (List.mem_append_right _ (h9))))))))) (k := 1) (by decide) (List.mem_cons_of_mem _ (List.mem_append_left _ (List.mem_append_left _ (List.mem_append_left _ (List.mem_append_left _ (List.mem_append_left _ (List.mem_append_left _ (List.mem_append_left _ (List.mem_append_left _ (List.mem_append_left _ (List.mem_of_getElem? (i := 10) rfl))))))))))) e52 rfl dX10_init_62 ?_
  refine g_callv (va_runI (b := q44) (As := [.ref y49, .ref y51]) (rest := [.ref q44, .ref p0]) CF (c_X3_init h) (cwI 2 hts gX10_init_X3_init rfl rfl rfl (hts _ (List.mem_cons_of_mem _ (List.mem_append_left _ (List.mem_append_left _ (List.mem_append_left _ (List.mem_append_left _ (List.mem_append_left _ (List.mem_append_left _ (List.mem_append_left _ (List.mem_append_left _ (List.mem_append_left _ (List.mem_of_getElem? (i := 21) rfl)))))))))))) (hts _ (List.mem_cons_of_mem _ (List.mem_append_left _ (List.mem_append_left _ (List.mem_append_left _ (List.mem_append_left _ (List.mem_append_left _ (List.mem_append_left _ (List.mem_append_left _ (List.mem_append_left _ (List.mem_append_right _ (List.mem_append_right _ (List.mem_append_right _ (List.mem_append_left _ (List.mem_of_getElem? (i := 7) rfl))))))))))))))) (hts _ (List.mem_cons_of_mem _ (List.mem_append_left _ (List.mem_append_left _ (List.mem_append_left _ (List.mem_append_left _ (List.mem_append_left _ (List.mem_append_left _ (List.mem_append_left _ (List.mem_append_left _ (List.mem_append_right _ (List.mem_append_right _ (List.mem_append_right _ (List.mem_append_left _ (List.mem_of_getElem? (i := 8) rfl))))))))))))))) rfl (by decide +kernel) ⟨Nat.le_of_ble_eq_true rfl, Nat.le_of_ble_eq_true rfl⟩) (hc.preS (As := .ref q44 :: [.ref y49, .ref y51])) rfl rfl hl.1 rfl (lv_room (Nat.le_of_ble_eq_true rfl)) dX10_init_65 ⟨Nat.le_of_ble_eq_true rfl, Nat.le_of_ble_eq_true rfl⟩) hc (fun g54 H locs hq hc => ?_)
  replace h := hq
  refine W.widen (k := 29) (n := 2611) (Nat.le_of_ble_eq_true rfl) (Nat.le_of_ble_eq_true rfl) ?_
  obtain ⟨hk56, h⟩ := h
  refine g_putrF CF hc hk56 rfl (by decide) (fun _ h9 => List.mem_cons_of_mem _ (List.mem_append_left _ (List.mem_append_left _ (List.mem_append_left _ (List.mem_append_left _ (List.mem_append_left _ (List.mem_append_left _ (List.mem_append_right _ (h9))))))))) tyX10 tyX10_ok nmX10 (k := 4) (by decide) (List.mem_cons_of_mem _ (List.mem_append_left _ (List.mem_append_left _ (List.mem_append_left _ (List.mem_append_left _ (List.mem_append_left _ (List.mem_append_left _ (List.mem_append_left _ (List.mem_append_left _ (List.mem_append_left _ (List.mem_of_getElem? (i := 22) rfl))))))))))) rfl hnm rfl (some q44) narrow_rf fits_rf rfl dX10_init_68 (fun H locs hc => ?_)
  obtain ⟨g57, eg58⟩ : ∃ z, z = sV g54 p0 4 (some q44) := ⟨_, rfl⟩
  have hc : gC D cA (gA g0 sz) s g57 H locs := by rw [eg58]; exact hc
  replace h := h g57 eg58
  refine lv_aload_n hx hb dX10_init_71 rfl (lv_at hl 0 rfl) ?_
  refine g_new CF hc (ci := 1) rfl (by decide) (fun _ h9 => List.mem_cons_of_mem _ (List.mem_append_left _ (List.mem_append_right _ (h9)))) tyX1 tyX1_ok dfX1 (List.mem_cons_of_mem _ (List.mem_append_left _ (List.mem_append_left _ (List.mem_append_left _ (List.mem_append_left _ (List.mem_append_left _ (List.mem_append_left _ (List.mem_append_left _ (List.mem_append_left _ (List.mem_append_left _ (List.mem_of_getElem? (i := 23) rfl))))))))))) (List.mem_cons_of_mem _ (List.mem_append_left _ (List.mem_append_left _ (List.mem_append_left _ (List.mem_append_left _ (List.mem_append_left _ (List.mem_append_left _ (List.mem_append_left _ (List.mem_append_left _ (List.mem_append_right _ (List.mem_append_left _ (List.mem_of_getElem? (i := 0) rfl)))))))))))) (List.mem_cons_of_mem _ (List.mem_append_left _ (List.mem_append_left _ (List.mem_append_left _ (List.mem_append_left _ (List.mem_append_left _ (List.mem_append_left _ (List.mem_append_left _ (List.mem_append_left _ (List.mem_append_right _ (List.mem_append_left _ (List.mem_of_getElem? (i := 1) rfl)))))))))))) (Nat.le_of_ble_eq_true rfl) (Nat.le_of_ble_eq_true rfl) dX10_init_72 (fun q59 H locs hq60 hc => ?_)
  replace h := h q59 hq60
  obtain ⟨g61, eg62⟩ : ∃ z, z = sNew g57 q59 2 0 := ⟨_, rfl⟩
  have hc : gC D cA (gA g0 sz) s g61 H locs := by rw [eg62]; exact hc
  replace h := h g61 eg62
  refine W.widen (k := 30) (n := 2614) (Nat.le_of_ble_eq_true rfl) (Nat.le_of_ble_eq_true rfl) ?_
  refine lv_dup hx hb dX10_init_75 rfl ?_
  refine g_callv (va_runIN (b := q59) (As := []) (rest := [.ref q59, .ref p0]) CF (c_X1_init h) ⟨va_cnB 0 hts gX10_init_X1_init_n50 rfl rfl rfl (hc.1.2.1 (.methodLinkNest RX10 50 yX1_init "QuarryIndex") (by decide +kernel)) (hts _ (List.mem_cons_of_mem _ (List.mem_append_left _ (List.mem_append_left _ (List.mem_append_left _ (List.mem_append_left _ (List.mem_append_left _ (List.mem_append_left _ (List.mem_append_left _ (List.mem_append_left _ (List.mem_append_right _ (List.mem_append_left _ (List.mem_of_getElem? (i := 1) rfl))))))))))))) (by decide +kernel) ⟨Nat.le_of_ble_eq_true rfl, Nat.le_of_ble_eq_true rfl⟩, rfl, hts _ (List.mem_cons_of_mem _ (List.mem_append_left _ (List.mem_append_left _ (List.mem_append_left _ (List.mem_append_left _ (List.mem_append_left _ (List.mem_append_left _ (List.mem_append_left _ (List.mem_append_left _ (List.mem_append_right _ (List.mem_append_left _ (List.mem_of_getElem? (i := 21) rfl))))))))))))⟩ (hc.preS (As := .ref q59 :: [])) rfl rfl hl.1 rfl (lv_room (Nat.le_of_ble_eq_true rfl)) dX10_init_76 ⟨Nat.le_of_ble_eq_true rfl, Nat.le_of_ble_eq_true rfl⟩) hc (fun g64 H locs hq hc => ?_)
  replace h := hq
  refine W.widen (k := 35) (n := 3220) (Nat.le_of_ble_eq_true rfl) (Nat.le_of_ble_eq_true rfl) ?_
  obtain ⟨hk66, h⟩ := h
  refine g_putrF CF hc hk66 rfl (by decide) (fun _ h9 => List.mem_cons_of_mem _ (List.mem_append_left _ (List.mem_append_left _ (List.mem_append_left _ (List.mem_append_left _ (List.mem_append_left _ (List.mem_append_left _ (List.mem_append_right _ (h9))))))))) tyX10 tyX10_ok nmX10 (k := 5) (by decide) (List.mem_cons_of_mem _ (List.mem_append_left _ (List.mem_append_left _ (List.mem_append_left _ (List.mem_append_left _ (List.mem_append_left _ (List.mem_append_left _ (List.mem_append_left _ (List.mem_append_left _ (List.mem_append_right _ (List.mem_append_left _ (List.mem_of_getElem? (i := 2) rfl)))))))))))) rfl hnm rfl (some q59) narrow_rf fits_rf rfl dX10_init_79 (fun H locs hc => ?_)
  obtain ⟨g67, eg68⟩ : ∃ z, z = sV g64 p0 5 (some q59) := ⟨_, rfl⟩
  have hc : gC D cA (gA g0 sz) s g67 H locs := by rw [eg68]; exact hc
  replace h := h g67 eg68
  refine lv_aload_n hx hb dX10_init_82 rfl (lv_at hl 0 rfl) ?_
  refine g_new CF hc (ci := 8) rfl (by decide) (fun _ h9 => List.mem_cons_of_mem _ (List.mem_append_right _ (h9))) tyX8 tyX8_ok dfX8 (List.mem_cons_of_mem _ (List.mem_append_left _ (List.mem_append_left _ (List.mem_append_left _ (List.mem_append_left _ (List.mem_append_left _ (List.mem_append_left _ (List.mem_append_left _ (List.mem_append_left _ (List.mem_append_right _ (List.mem_append_left _ (List.mem_of_getElem? (i := 3) rfl)))))))))))) (List.mem_cons_of_mem _ (List.mem_append_left _ (List.mem_append_left _ (List.mem_append_left _ (List.mem_append_left _ (List.mem_append_left _ (List.mem_append_left _ (List.mem_append_left _ (List.mem_append_left _ (List.mem_append_right _ (List.mem_append_left _ (List.mem_of_getElem? (i := 4) rfl)))))))))))) (List.mem_cons_of_mem _ (List.mem_append_left _ (List.mem_append_left _ (List.mem_append_left _ (List.mem_append_left _ (List.mem_append_left _ (List.mem_append_left _ (List.mem_append_left _ (List.mem_append_left _ (List.mem_append_right _ (List.mem_append_left _ (List.mem_of_getElem? (i := 5) rfl)))))))))))) (Nat.le_of_ble_eq_true rfl) (Nat.le_of_ble_eq_true rfl) dX10_init_83 (fun q69 H locs hq70 hc => ?_)
  replace h := h q69 hq70
  obtain ⟨g71, eg72⟩ : ∃ z, z = sNew g67 q69 9 0 := ⟨_, rfl⟩
  have hc : gC D cA (gA g0 sz) s g71 H locs := by rw [eg72]; exact hc
  replace h := h g71 eg72
  refine W.widen (k := 36) (n := 3225) (Nat.le_of_ble_eq_true rfl) (Nat.le_of_ble_eq_true rfl) ?_
  refine lv_dup hx hb dX10_init_86 rfl ?_
  refine lv_aload_n hx hb dX10_init_87 rfl (lv_at hl 0 rfl) ?_
  obtain ⟨hk73, h⟩ := h
  obtain ⟨y74, e75, h⟩ := h
  refine g_getr CF hc hk73 rfl (by decide) (fun _ h9 => List.mem_cons_of_mem _ (List.mem_append_left _ (List.mem_append_left _ (List.mem_append_left _ (List.mem_append_left _ (List.mem_append_left _ (List.mem_append_left _ (List.mem_append_right _ (h9))))))))) (k := 2) (by decide) (List.mem_cons_of_mem _ (List.mem_append_left _ (List.mem_append_left _ (List.mem_append_left _ (List.mem_append_left _ (List.mem_append_left _ (List.mem_append_left _ (List.mem_append_left _ (List.mem_append_left _ (List.mem_append_left _ (List.mem_of_getElem? (i := 14) rfl))))))))))) e75 rfl dX10_init_88 ?_
  refine lv_aload_n hx hb dX10_init_91 rfl (lv_at hl 0 rfl) ?_
  obtain ⟨y76, e77, h⟩ := h
  refine g_getr CF hc hk73 rfl (by decide) (fun _ h9 => List.mem_cons_of_mem _ (List.mem_append_left _ (List.mem_append_left _ (List.mem_append_left _ (List.mem_append_left _ (List.mem_append_left _ (List.mem_append_left _ (List.mem_append_right _ (h9))))))))) (k := 1) (by decide) (List.mem_cons_of_mem _ (List.mem_append_left _ (List.mem_append_left _ (List.mem_append_left _ (List.mem_append_left _ (List.mem_append_left _ (List.mem_append_left _ (List.mem_append_left _ (List.mem_append_left _ (List.mem_append_left _ (List.mem_of_getElem? (i := 10) rfl))))))))))) e77 rfl dX10_init_92 ?_
  refine lv_aload_n hx hb dX10_init_95 rfl (lv_at hl 0 rfl) ?_
  obtain ⟨y78, e79, h⟩ := h
  refine g_getr CF hc hk73 rfl (by decide) (fun _ h9 => List.mem_cons_of_mem _ (List.mem_append_left _ (List.mem_append_left _ (List.mem_append_left _ (List.mem_append_left _ (List.mem_append_left _ (List.mem_append_left _ (List.mem_append_right _ (h9))))))))) (k := 0) (by decide) (List.mem_cons_of_mem _ (List.mem_append_left _ (List.mem_append_left _ (List.mem_append_left _ (List.mem_append_left _ (List.mem_append_left _ (List.mem_append_left _ (List.mem_append_left _ (List.mem_append_left _ (List.mem_append_left _ (List.mem_of_getElem? (i := 6) rfl))))))))))) e79 rfl dX10_init_96 ?_
  obtain ⟨hk80, h⟩ := h
  obtain ⟨y81, e82, h⟩ := h
  refine g_getr CF hc hk80 rfl (by decide) (fun _ h9 => List.mem_cons_of_mem _ (List.mem_append_left _ (List.mem_append_left _ (List.mem_append_left _ (List.mem_append_left _ (List.mem_append_left _ (List.mem_append_left _ (List.mem_append_left _ (List.mem_append_right _ (h9)))))))))) (k := 5) (by decide) (List.mem_cons_of_mem _ (List.mem_append_left _ (List.mem_append_left _ (List.mem_append_left _ (List.mem_append_left _ (List.mem_append_left _ (List.mem_append_left _ (List.mem_append_left _ (List.mem_append_left _ (List.mem_append_right _ (List.mem_append_left _ (List.mem_of_getElem? (i := 6) rfl)))))))))))) e82 rfl dX10_init_99 ?_
  refine lv_iconst (v := 1) hx hb dX10_init_102 (by decide) ?_
  refine g_callv (va_runI (b := q69) (As := [.ref y74, .ref y76, .ref y81, .int 1]) (rest := [.ref q69, .ref p0]) CF (c_X8_init h) (cwI 4 hts gX10_init_X8_init rfl rfl rfl (hts _ (List.mem_cons_of_mem _ (List.mem_append_left _ (List.mem_append_left _ (List.mem_append_left _ (List.mem_append_left _ (List.mem_append_left _ (List.mem_append_left _ (List.mem_append_left _ (List.mem_append_left _ (List.mem_append_right _ (List.mem_append_left _ (List.mem_of_getElem? (i := 5) rfl))))))))))))) (hts _ (List.mem_cons_of_mem _ (List.mem_append_left _ (List.mem_append_left _ (List.mem_append_left _ (List.mem_append_left _ (List.mem_append_left _ (List.mem_append_left _ (List.mem_append_left _ (List.mem_append_left _ (List.mem_append_right _ (List.mem_append_right _ (List.mem_append_right _ (List.mem_append_left _ (List.mem_of_getElem? (i := 18) rfl))))))))))))))) (hts _ (List.mem_cons_of_mem _ (List.mem_append_left _ (List.mem_append_left _ (List.mem_append_left _ (List.mem_append_left _ (List.mem_append_left _ (List.mem_append_left _ (List.mem_append_left _ (List.mem_append_left _ (List.mem_append_right _ (List.mem_append_right _ (List.mem_append_right _ (List.mem_append_left _ (List.mem_of_getElem? (i := 19) rfl))))))))))))))) rfl (by decide +kernel) ⟨Nat.le_of_ble_eq_true rfl, Nat.le_of_ble_eq_true rfl⟩) (hc.preS (As := .ref q69 :: [.ref y74, .ref y76, .ref y81, .int 1])) rfl rfl hl.1 rfl (lv_room (Nat.le_of_ble_eq_true rfl)) dX10_init_103 ⟨Nat.le_of_ble_eq_true rfl, Nat.le_of_ble_eq_true rfl⟩) hc (fun g84 H locs hq hc => ?_)
  replace h := hq
  refine W.widen (k := 37) (n := 3255) (Nat.le_of_ble_eq_true rfl) (Nat.le_of_ble_eq_true rfl) ?_
  obtain ⟨hk86, h⟩ := h
  refine g_putrF CF hc hk86 rfl (by decide) (fun _ h9 => List.mem_cons_of_mem _ (List.mem_append_left _ (List.mem_append_left _ (List.mem_append_left _ (List.mem_append_left _ (List.mem_append_left _ (List.mem_append_left _ (List.mem_append_right _ (h9))))))))) tyX10 tyX10_ok nmX10 (k := 6) (by decide) (List.mem_cons_of_mem _ (List.mem_append_left _ (List.mem_append_left _ (List.mem_append_left _ (List.mem_append_left _ (List.mem_append_left _ (List.mem_append_left _ (List.mem_append_left _ (List.mem_append_left _ (List.mem_append_right _ (List.mem_append_left _ (List.mem_of_getElem? (i := 7) rfl)))))))))))) rfl hnm rfl (some q69) narrow_rf fits_rf rfl dX10_init_106 (fun H locs hc => ?_)
  obtain ⟨g87, eg88⟩ : ∃ z, z = sV g84 p0 6 (some q69) := ⟨_, rfl⟩
  have hc : gC D cA (gA g0 sz) s g87 H locs := by rw [eg88]; exact hc
  replace h := h g87 eg88
  refine lv_aload_n hx hb dX10_init_109 rfl (lv_at hl 0 rfl) ?_
  refine g_new CF hc (ci := 8) rfl (by decide) (fun _ h9 => List.mem_cons_of_mem _ (List.mem_append_right _ (h9))) tyX8 tyX8_ok dfX8 (List.mem_cons_of_mem _ (List.mem_append_left _ (List.mem_append_left _ (List.mem_append_left _ (List.mem_append_left _ (List.mem_append_left _ (List.mem_append_left _ (List.mem_append_left _ (List.mem_append_left _ (List.mem_append_right _ (List.mem_append_left _ (List.mem_of_getElem? (i := 3) rfl)))))))))))) (List.mem_cons_of_mem _ (List.mem_append_left _ (List.mem_append_left _ (List.mem_append_left _ (List.mem_append_left _ (List.mem_append_left _ (List.mem_append_left _ (List.mem_append_left _ (List.mem_append_left _ (List.mem_append_right _ (List.mem_append_left _ (List.mem_of_getElem? (i := 4) rfl)))))))))))) (List.mem_cons_of_mem _ (List.mem_append_left _ (List.mem_append_left _ (List.mem_append_left _ (List.mem_append_left _ (List.mem_append_left _ (List.mem_append_left _ (List.mem_append_left _ (List.mem_append_left _ (List.mem_append_right _ (List.mem_append_left _ (List.mem_of_getElem? (i := 5) rfl)))))))))))) (Nat.le_of_ble_eq_true rfl) (Nat.le_of_ble_eq_true rfl) dX10_init_110 (fun q89 H locs hq90 hc => ?_)
  replace h := h q89 hq90
  obtain ⟨g91, eg92⟩ : ∃ z, z = sNew g87 q89 9 0 := ⟨_, rfl⟩
  have hc : gC D cA (gA g0 sz) s g91 H locs := by rw [eg92]; exact hc
  replace h := h g91 eg92
  refine W.widen (k := 38) (n := 3260) (Nat.le_of_ble_eq_true rfl) (Nat.le_of_ble_eq_true rfl) ?_
  refine lv_dup hx hb dX10_init_113 rfl ?_
  refine lv_aload_n hx hb dX10_init_114 rfl (lv_at hl 0 rfl) ?_
  obtain ⟨hk93, h⟩ := h
  obtain ⟨y94, e95, h⟩ := h
  refine g_getr CF hc hk93 rfl (by decide) (fun _ h9 => List.mem_cons_of_mem _ (List.mem_append_left _ (List.mem_append_left _ (List.mem_append_left _ (List.mem_append_left _ (List.mem_append_left _ (List.mem_append_left _ (List.mem_append_right _ (h9))))))))) (k := 2) (by decide) (List.mem_cons_of_mem _ (List.mem_append_left _ (List.mem_append_left _ (List.mem_append_left _ (List.mem_append_left _ (List.mem_append_left _ (List.mem_append_left _ (List.mem_append_left _ (List.mem_append_left _ (List.mem_append_left _ (List.mem_of_getElem? (i := 14) rfl))))))))))) e95 rfl dX10_init_115 ?_
  refine lv_aload_n hx hb dX10_init_118 rfl (lv_at hl 0 rfl) ?_
  obtain ⟨y96, e97, h⟩ := h
  refine g_getr CF hc hk93 rfl (by decide) (fun _ h9 => List.mem_cons_of_mem _ (List.mem_append_left _ (List.mem_append_left _ (List.mem_append_left _ (List.mem_append_left _ (List.mem_append_left _ (List.mem_append_left _ (List.mem_append_right _ (h9))))))))) (k := 1) (by decide) (List.mem_cons_of_mem _ (List.mem_append_left _ (List.mem_append_left _ (List.mem_append_left _ (List.mem_append_left _ (List.mem_append_left _ (List.mem_append_left _ (List.mem_append_left _ (List.mem_append_left _ (List.mem_append_left _ (List.mem_of_getElem? (i := 10) rfl))))))))))) e97 rfl dX10_init_119 ?_
  refine lv_aload_n hx hb dX10_init_122 rfl (lv_at hl 0 rfl) ?_
  obtain ⟨y98, e99, h⟩ := h
  refine g_getr CF hc hk93 rfl (by decide) (fun _ h9 => List.mem_cons_of_mem _ (List.mem_append_left _ (List.mem_append_left _ (List.mem_append_left _ (List.mem_append_left _ (List.mem_append_left _ (List.mem_append_left _ (List.mem_append_right _ (h9))))))))) (k := 0) (by decide) (List.mem_cons_of_mem _ (List.mem_append_left _ (List.mem_append_left _ (List.mem_append_left _ (List.mem_append_left _ (List.mem_append_left _ (List.mem_append_left _ (List.mem_append_left _ (List.mem_append_left _ (List.mem_append_left _ (List.mem_of_getElem? (i := 6) rfl))))))))))) e99 rfl dX10_init_123 ?_
  obtain ⟨hk100, h⟩ := h
  obtain ⟨y101, e102, h⟩ := h
  refine g_getr CF hc hk100 rfl (by decide) (fun _ h9 => List.mem_cons_of_mem _ (List.mem_append_left _ (List.mem_append_left _ (List.mem_append_left _ (List.mem_append_left _ (List.mem_append_left _ (List.mem_append_left _ (List.mem_append_left _ (List.mem_append_right _ (h9)))))))))) (k := 5) (by decide) (List.mem_cons_of_mem _ (List.mem_append_left _ (List.mem_append_left _ (List.mem_append_left _ (List.mem_append_left _ (List.mem_append_left _ (List.mem_append_left _ (List.mem_append_left _ (List.mem_append_left _ (List.mem_append_right _ (List.mem_append_left _ (List.mem_of_getElem? (i := 6) rfl)))))))))))) e102 rfl dX10_init_126 ?_
  refine lv_iconst (v := 0) hx hb dX10_init_129 (by decide) ?_
  refine g_callv (va_runI (b := q89) (As := [.ref y94, .ref y96, .ref y101, .int 0]) (rest := [.ref q89, .ref p0]) CF (c_X8_init h) (cwI 4 hts gX10_init_X8_init rfl rfl rfl (hts _ (List.mem_cons_of_mem _ (List.mem_append_left _ (List.mem_append_left _ (List.mem_append_left _ (List.mem_append_left _ (List.mem_append_left _ (List.mem_append_left _ (List.mem_append_left _ (List.mem_append_left _ (List.mem_append_right _ (List.mem_append_left _ (List.mem_of_getElem? (i := 5) rfl))))))))))))) (hts _ (List.mem_cons_of_mem _ (List.mem_append_left _ (List.mem_append_left _ (List.mem_append_left _ (List.mem_append_left _ (List.mem_append_left _ (List.mem_append_left _ (List.mem_append_left _ (List.mem_append_left _ (List.mem_append_right _ (List.mem_append_right _ (List.mem_append_right _ (List.mem_append_left _ (List.mem_of_getElem? (i := 18) rfl))))))))))))))) (hts _ (List.mem_cons_of_mem _ (List.mem_append_left _ (List.mem_append_left _ (List.mem_append_left _ (List.mem_append_left _ (List.mem_append_left _ (List.mem_append_left _ (List.mem_append_left _ (List.mem_append_left _ (List.mem_append_right _ (List.mem_append_right _ (List.mem_append_right _ (List.mem_append_left _ (List.mem_of_getElem? (i := 19) rfl))))))))))))))) rfl (by decide +kernel) ⟨Nat.le_of_ble_eq_true rfl, Nat.le_of_ble_eq_true rfl⟩) (hc.preS (As := .ref q89 :: [.ref y94, .ref y96, .ref y101, .int 0])) rfl rfl hl.1 rfl (lv_room (Nat.le_of_ble_eq_true rfl)) dX10_init_130 ⟨Nat.le_of_ble_eq_true rfl, Nat.le_of_ble_eq_true rfl⟩) hc (fun g104 H locs hq hc => ?_)
  replace h := hq
  refine W.widen (k := 39) (n := 3290) (Nat.le_of_ble_eq_true rfl) (Nat.le_of_ble_eq_true rfl) ?_
  obtain ⟨hk106, h⟩ := h
  refine g_putrF CF hc hk106 rfl (by decide) (fun _ h9 => List.mem_cons_of_mem _ (List.mem_append_left _ (List.mem_append_left _ (List.mem_append_left _ (List.mem_append_left _ (List.mem_append_left _ (List.mem_append_left _ (List.mem_append_right _ (h9))))))))) tyX10 tyX10_ok nmX10 (k := 7) (by decide) (List.mem_cons_of_mem _ (List.mem_append_left _ (List.mem_append_left _ (List.mem_append_left _ (List.mem_append_left _ (List.mem_append_left _ (List.mem_append_left _ (List.mem_append_left _ (List.mem_append_left _ (List.mem_append_right _ (List.mem_append_left _ (List.mem_of_getElem? (i := 8) rfl)))))))))))) rfl hnm rfl (some q89) narrow_rf fits_rf rfl dX10_init_133 (fun H locs hc => ?_)
  obtain ⟨g107, eg108⟩ : ∃ z, z = sV g104 p0 7 (some q89) := ⟨_, rfl⟩
  have hc : gC D cA (gA g0 sz) s g107 H locs := by rw [eg108]; exact hc
  replace h := h g107 eg108
  refine lv_aload_n hx hb dX10_init_136 rfl (lv_at hl 0 rfl) ?_
  refine g_new CF hc (ci := 8) rfl (by decide) (fun _ h9 => List.mem_cons_of_mem _ (List.mem_append_right _ (h9))) tyX8 tyX8_ok dfX8 (List.mem_cons_of_mem _ (List.mem_append_left _ (List.mem_append_left _ (List.mem_append_left _ (List.mem_append_left _ (List.mem_append_left _ (List.mem_append_left _ (List.mem_append_left _ (List.mem_append_left _ (List.mem_append_right _ (List.mem_append_left _ (List.mem_of_getElem? (i := 3) rfl)))))))))))) (List.mem_cons_of_mem _ (List.mem_append_left _ (List.mem_append_left _ (List.mem_append_left _ (List.mem_append_left _ (List.mem_append_left _ (List.mem_append_left _ (List.mem_append_left _ (List.mem_append_left _ (List.mem_append_right _ (List.mem_append_left _ (List.mem_of_getElem? (i := 4) rfl)))))))))))) (List.mem_cons_of_mem _ (List.mem_append_left _ (List.mem_append_left _ (List.mem_append_left _ (List.mem_append_left _ (List.mem_append_left _ (List.mem_append_left _ (List.mem_append_left _ (List.mem_append_left _ (List.mem_append_right _ (List.mem_append_left _ (List.mem_of_getElem? (i := 5) rfl)))))))))))) (Nat.le_of_ble_eq_true rfl) (Nat.le_of_ble_eq_true rfl) dX10_init_137 (fun q109 H locs hq110 hc => ?_)
  replace h := h q109 hq110
  obtain ⟨g111, eg112⟩ : ∃ z, z = sNew g107 q109 9 0 := ⟨_, rfl⟩
  have hc : gC D cA (gA g0 sz) s g111 H locs := by rw [eg112]; exact hc
  replace h := h g111 eg112
  refine W.widen (k := 40) (n := 3295) (Nat.le_of_ble_eq_true rfl) (Nat.le_of_ble_eq_true rfl) ?_
  refine lv_dup hx hb dX10_init_140 rfl ?_
  refine lv_aload_n hx hb dX10_init_141 rfl (lv_at hl 0 rfl) ?_
  obtain ⟨hk113, h⟩ := h
  obtain ⟨y114, e115, h⟩ := h
  refine g_getr CF hc hk113 rfl (by decide) (fun _ h9 => List.mem_cons_of_mem _ (List.mem_append_left _ (List.mem_append_left _ (List.mem_append_left _ (List.mem_append_left _ (List.mem_append_left _ (List.mem_append_left _ (List.mem_append_right _ (h9))))))))) (k := 2) (by decide) (List.mem_cons_of_mem _ (List.mem_append_left _ (List.mem_append_left _ (List.mem_append_left _ (List.mem_append_left _ (List.mem_append_left _ (List.mem_append_left _ (List.mem_append_left _ (List.mem_append_left _ (List.mem_append_left _ (List.mem_of_getElem? (i := 14) rfl))))))))))) e115 rfl dX10_init_142 ?_
  refine lv_aload_n hx hb dX10_init_145 rfl (lv_at hl 0 rfl) ?_
  obtain ⟨y116, e117, h⟩ := h
  refine g_getr CF hc hk113 rfl (by decide) (fun _ h9 => List.mem_cons_of_mem _ (List.mem_append_left _ (List.mem_append_left _ (List.mem_append_left _ (List.mem_append_left _ (List.mem_append_left _ (List.mem_append_left _ (List.mem_append_right _ (h9))))))))) (k := 1) (by decide) (List.mem_cons_of_mem _ (List.mem_append_left _ (List.mem_append_left _ (List.mem_append_left _ (List.mem_append_left _ (List.mem_append_left _ (List.mem_append_left _ (List.mem_append_left _ (List.mem_append_left _ (List.mem_append_left _ (List.mem_of_getElem? (i := 10) rfl))))))))))) e117 rfl dX10_init_146 ?_
  refine lv_aload_n hx hb dX10_init_149 rfl (lv_at hl 0 rfl) ?_
  obtain ⟨y118, e119, h⟩ := h
  refine g_getr CF hc hk113 rfl (by decide) (fun _ h9 => List.mem_cons_of_mem _ (List.mem_append_left _ (List.mem_append_left _ (List.mem_append_left _ (List.mem_append_left _ (List.mem_append_left _ (List.mem_append_left _ (List.mem_append_right _ (h9))))))))) (k := 5) (by decide) (List.mem_cons_of_mem _ (List.mem_append_left _ (List.mem_append_left _ (List.mem_append_left _ (List.mem_append_left _ (List.mem_append_left _ (List.mem_append_left _ (List.mem_append_left _ (List.mem_append_left _ (List.mem_append_right _ (List.mem_append_left _ (List.mem_of_getElem? (i := 2) rfl)))))))))))) e119 rfl dX10_init_150 ?_
  refine lv_iconst (v := 1) hx hb dX10_init_153 (by decide) ?_
  refine g_callv (va_runI (b := q109) (As := [.ref y114, .ref y116, .ref y118, .int 1]) (rest := [.ref q109, .ref p0]) CF (c_X8_init h) (cwI 4 hts gX10_init_X8_init rfl rfl rfl (hts _ (List.mem_cons_of_mem _ (List.mem_append_left _ (List.mem_append_left _ (List.mem_append_left _ (List.mem_append_left _ (List.mem_append_left _ (List.mem_append_left _ (List.mem_append_left _ (List.mem_append_left _ (List.mem_append_right _ (List.mem_append_left _ (List.mem_of_getElem? (i := 5) rfl))))))))))))) (hts _ (List.mem_cons_of_mem _ (List.mem_append_left _ (List.mem_append_left _ (List.mem_append_left _ (List.mem_append_left _ (List.mem_append_left _ (List.mem_append_left _ (List.mem_append_left _ (List.mem_append_left _ (List.mem_append_right _ (List.mem_append_right _ (List.mem_append_right _ (List.mem_append_left _ (List.mem_of_getElem? (i := 18) rfl))))))))))))))) (hts _ (List.mem_cons_of_mem _ (List.mem_append_left _ (List.mem_append_left _ (List.mem_append_left _ (List.mem_append_left _ (List.mem_append_left _ (List.mem_append_left _ (List.mem_append_left _ (List.mem_append_left _ (List.mem_append_right _ (List.mem_append_right _ (List.mem_append_right _ (List.mem_append_left _ (List.mem_of_getElem? (i := 19) rfl))))))))))))))) rfl (by decide +kernel) ⟨Nat.le_of_ble_eq_true rfl, Nat.le_of_ble_eq_true rfl⟩) (hc.preS (As := .ref q109 :: [.ref y114, .ref y116, .ref y118, .int 1])) rfl rfl hl.1 rfl (lv_room (Nat.le_of_ble_eq_true rfl)) dX10_init_154 ⟨Nat.le_of_ble_eq_true rfl, Nat.le_of_ble_eq_true rfl⟩) hc (fun g121 H locs hq hc => ?_)
  replace h := hq
  refine W.widen (k := 41) (n := 3325) (Nat.le_of_ble_eq_true rfl) (Nat.le_of_ble_eq_true rfl) ?_
  obtain ⟨hk123, h⟩ := h
  refine g_putrF CF hc hk123 rfl (by decide) (fun _ h9 => List.mem_cons_of_mem _ (List.mem_append_left _ (List.mem_append_left _ (List.mem_append_left _ (List.mem_append_left _ (List.mem_append_left _ (List.mem_append_left _ (List.mem_append_right _ (h9))))))))) tyX10 tyX10_ok nmX10 (k := 8) (by decide) (List.mem_cons_of_mem _ (List.mem_append_left _ (List.mem_append_left _ (List.mem_append_left _ (List.mem_append_left _ (List.mem_append_left _ (List.mem_append_left _ (List.mem_append_left _ (List.mem_append_left _ (List.mem_append_right _ (List.mem_append_left _ (List.mem_of_getElem? (i := 9) rfl)))))))))))) rfl hnm rfl (some q109) narrow_rf fits_rf rfl dX10_init_157 (fun H locs hc => ?_)
  obtain ⟨g124, eg125⟩ : ∃ z, z = sV g121 p0 8 (some q109) := ⟨_, rfl⟩
  have hc : gC D cA (gA g0 sz) s g124 H locs := by rw [eg125]; exact hc
  replace h := h g124 eg125
  refine lv_aload_n hx hb dX10_init_160 rfl (lv_at hl 0 rfl) ?_
  refine lv_bipush (v := 30) hx hb dX10_init_161 (by decide) ?_
  refine lv_bipush (v := 60) hx hb dX10_init_163 (by decide) ?_
  refine g_mna CF hc (List.mem_cons_of_mem _ (List.mem_append_left _ (List.mem_append_left _ (List.mem_append_left _ (List.mem_append_left _ (List.mem_append_left _ (List.mem_append_left _ (List.mem_append_left _ (List.mem_append_left _ (List.mem_append_right _ (List.mem_append_left _ (List.mem_of_getElem? (i := 10) rfl)))))))))))) (List.mem_cons_of_mem _ (List.mem_append_left _ (List.mem_append_left _ (List.mem_append_left _ (List.mem_append_left _ (List.mem_append_left _ (List.mem_append_left _ (List.mem_append_left _ (List.mem_append_left _ (List.mem_append_right _ (List.mem_append_left _ (List.mem_of_getElem? (i := 11) rfl)))))))))))) (n := 30) (k := 60) (N := 30) (M := 60) (by decide) (by decide) (by decide) (by decide) (by decide) (by decide) (Nat.le_of_ble_eq_true rfl) (Nat.le_of_ble_eq_true rfl) dX10_init_165 (fun q126 rr127 H locs hg128 hc => ?_)
  replace h := h q126 rr127 hg128
  refine W.widen (k := 72) (n := 5155) (Nat.le_of_ble_eq_true rfl) (Nat.le_of_ble_eq_true rfl) ?_
  obtain ⟨g129, eg130⟩ : ∃ z, z = sGrid g124 q126 rr127 30 60 := ⟨_, rfl⟩
  have hc : gC D cA (gA g0 sz) s g129 H locs := by rw [eg130]; exact hc
  replace h := h g129 eg130
  obtain ⟨hk131, h⟩ := h
  refine g_putrF CF hc hk131 rfl (by decide) (fun _ h9 => List.mem_cons_of_mem _ (List.mem_append_left _ (List.mem_append_left _ (List.mem_append_left _ (List.mem_append_left _ (List.mem_append_left _ (List.mem_append_left _ (List.mem_append_right _ (h9))))))))) tyX10 tyX10_ok nmX10 (k := 9) (by decide) (List.mem_cons_of_mem _ (List.mem_append_left _ (List.mem_append_left _ (List.mem_append_left _ (List.mem_append_left _ (List.mem_append_left _ (List.mem_append_left _ (List.mem_append_left _ (List.mem_append_left _ (List.mem_append_right _ (List.mem_append_left _ (List.mem_of_getElem? (i := 12) rfl)))))))))))) rfl hnm rfl (some q126) narrow_ra fits_ra rfl dX10_init_169 (fun H locs hc => ?_)
  obtain ⟨g132, eg133⟩ : ∃ z, z = sV g129 p0 9 (some q126) := ⟨_, rfl⟩
  have hc : gC D cA (gA g0 sz) s g132 H locs := by rw [eg133]; exact hc
  replace h := h g132 eg133
  exact g_retv CF hr hlk hc h dX10_init_172
def b_X10_isDate_16 (g : gS) (is0 : Int32) (Q : Int32 → Prop) : Prop :=
  (is0 = 0 ∨ is0 = 1) ∧ (Q is0)
def b_X10_isDate_15 (g : gS) (Q : Int32 → Prop) : Prop :=
  b_X10_isDate_16 g 0 Q
def w_X10_isDate (g : gS) (p0 : Int32) (Q : Int32 → Prop) : Prop :=
  (p0 < 0 → (b_X10_isDate_15 g Q)) ∧ (¬ p0 < 0 → ((10000 ≤ p0 → (b_X10_isDate_15 g Q)) ∧ (¬ 10000 ≤ p0 → (b_X10_isDate_16 g 1 Q))))
abbrev r_X10_isDate : Room := { frames := 0, cells := 0, slots := 0, locals := 0 }
set_option maxHeartbeats 4000000 in
set_option maxRecDepth 100000 in
theorem c_X10_isDate {l : Launch} {D : va_G} {cA : Nat → ClassId} {sz : Nat} {g : gS} {p0 : Int32} {Q : Int32 → Prop} (h : w_X10_isDate g p0 Q) : Met l yX10_isDate wsX10_isDate r_X10_isDate (va_Pc [.int p0] (gPre D cA g sz)) (gQi D cA g sz (fun r g2 => g = g2 ∧ Q r)) 0 0 (gA g sz) := by
  refine g_met (cc := cX10_isDate) (maxL := 1) (ret := (some .boolean)) (own := RX10) (by decide) rfl rfl (Nat.le_of_ble_eq_true rfl) ?_
  intro p e s m args below meth c ls CF hr hlk hnm hc hl
  obtain ⟨hx, hb, hml, hown, hts⟩ := id CF
  have hl : lv_has ls 1 [(0, .int p0)] := hl
  show W p l e r_X10_isDate s m args below meth c s.heap [] 0 0 (MQ below (gQi D cA g sz (fun r g2 => g = g2 ∧ Q r)) args s 0 0 (gA g sz)) (F0 m 0 ls [])
  have hb_16 : ∀ (is0 : Int32), b_X10_isDate_16 g is0 Q → ∀ (H : Heap) (locs : List Loc) (ls : Array Slot), gC D cA (gA g sz) s g H locs → lv_has ls 1 [] → W p l e r_X10_isDate s m args below meth c H locs 0 0 (MQ below (gQi D cA g sz (fun r g2 => g = g2 ∧ Q r)) args s 0 0 (gA g sz)) (F0 m 16 ls [.int is0]) := by
    intro is0 h H locs ls hc hl
    unfold b_X10_isDate_16 at h
    obtain ⟨hz1, h⟩ := h
    exact g_reti (r := is0) CF hr hlk hc (narrow_01 hz1) ⟨rfl, h⟩ dX10_isDate_16
  have hb_15 : b_X10_isDate_15 g Q → ∀ (H : Heap) (locs : List Loc) (ls : Array Slot), gC D cA (gA g sz) s g H locs → lv_has ls 1 [] → W p l e r_X10_isDate s m args below meth c H locs 0 0 (MQ below (gQi D cA g sz (fun r g2 => g = g2 ∧ Q r)) args s 0 0 (gA g sz)) (F0 m 15 ls []) := by
    intro h H locs ls hc hl
    unfold b_X10_isDate_15 at h
    refine lv_iconst (v := 0) hx hb dX10_isDate_15 (by decide) ?_
    exact hb_16 0 h _ _ _ hc (lv_sub hl [] rfl)
  unfold w_X10_isDate at h
  obtain ⟨H, hH0⟩ : ∃ z, z = s.heap := ⟨_, rfl⟩
  rw [← hH0] at hc ⊢
  obtain ⟨locs, hlc0⟩ : ∃ z : List Loc, z = [] := ⟨_, rfl⟩
  rw [← hlc0] at hc ⊢
  refine lv_iload_n hx hb dX10_isDate_0 rfl (lv_at hl 0 rfl) ?_
  refine lv_if_lt (tgt := 15) hx hb dX10_isDate_1 (by decide) (fun c2 => ?_) (fun c2 => ?_)
  · have h := h.1 c2
    exact hb_15  h _ _ _ hc (lv_sub hl [] rfl)
  · have h := h.2 c2
    refine lv_iload_n hx hb dX10_isDate_4 rfl (lv_at hl 0 rfl) ?_
    refine lv_sipush (v := 10000) hx hb dX10_isDate_5 (by decide) ?_
    refine lv_icmp_ge (tgt := 15) hx hb dX10_isDate_8 (by decide) (fun c3 => ?_) (fun c3 => ?_)
    · have h := h.1 c3
      exact hb_15  h _ _ _ hc (lv_sub hl [] rfl)
    · have h := h.2 c3
      refine lv_iconst (v := 1) hx hb dX10_isDate_11 (by decide) ?_
      refine lv_goto (tgt := 16) hx hb dX10_isDate_12 (by decide) ?_
      exact hb_16 1 h _ _ _ hc (lv_sub hl [] rfl)
def b_X10_isKind_15 (g : gS) (is0 : Int32) (Q : Int32 → Prop) : Prop :=
  (is0 = 0 ∨ is0 = 1) ∧ (Q is0)
def b_X10_isKind_14 (g : gS) (Q : Int32 → Prop) : Prop :=
  b_X10_isKind_15 g 0 Q
def w_X10_isKind (g : gS) (p0 : Int32) (Q : Int32 → Prop) : Prop :=
  (p0 < 0 → (b_X10_isKind_14 g Q)) ∧ (¬ p0 < 0 → ((8 ≤ p0 → (b_X10_isKind_14 g Q)) ∧ (¬ 8 ≤ p0 → (b_X10_isKind_15 g 1 Q))))
abbrev r_X10_isKind : Room := { frames := 0, cells := 0, slots := 0, locals := 0 }
set_option maxHeartbeats 4000000 in
set_option maxRecDepth 100000 in
theorem c_X10_isKind {l : Launch} {D : va_G} {cA : Nat → ClassId} {sz : Nat} {g : gS} {p0 : Int32} {Q : Int32 → Prop} (h : w_X10_isKind g p0 Q) : Met l yX10_isKind wsX10_isKind r_X10_isKind (va_Pc [.int p0] (gPre D cA g sz)) (gQi D cA g sz (fun r g2 => g = g2 ∧ Q r)) 0 0 (gA g sz) := by
  refine g_met (cc := cX10_isKind) (maxL := 1) (ret := (some .boolean)) (own := RX10) (by decide) rfl rfl (Nat.le_of_ble_eq_true rfl) ?_
  intro p e s m args below meth c ls CF hr hlk hnm hc hl
  obtain ⟨hx, hb, hml, hown, hts⟩ := id CF
  have hl : lv_has ls 1 [(0, .int p0)] := hl
  show W p l e r_X10_isKind s m args below meth c s.heap [] 0 0 (MQ below (gQi D cA g sz (fun r g2 => g = g2 ∧ Q r)) args s 0 0 (gA g sz)) (F0 m 0 ls [])
  have hb_15 : ∀ (is0 : Int32), b_X10_isKind_15 g is0 Q → ∀ (H : Heap) (locs : List Loc) (ls : Array Slot), gC D cA (gA g sz) s g H locs → lv_has ls 1 [] → W p l e r_X10_isKind s m args below meth c H locs 0 0 (MQ below (gQi D cA g sz (fun r g2 => g = g2 ∧ Q r)) args s 0 0 (gA g sz)) (F0 m 15 ls [.int is0]) := by
    intro is0 h H locs ls hc hl
    unfold b_X10_isKind_15 at h
    obtain ⟨hz1, h⟩ := h
    exact g_reti (r := is0) CF hr hlk hc (narrow_01 hz1) ⟨rfl, h⟩ dX10_isKind_15
  have hb_14 : b_X10_isKind_14 g Q → ∀ (H : Heap) (locs : List Loc) (ls : Array Slot), gC D cA (gA g sz) s g H locs → lv_has ls 1 [] → W p l e r_X10_isKind s m args below meth c H locs 0 0 (MQ below (gQi D cA g sz (fun r g2 => g = g2 ∧ Q r)) args s 0 0 (gA g sz)) (F0 m 14 ls []) := by
    intro h H locs ls hc hl
    unfold b_X10_isKind_14 at h
    refine lv_iconst (v := 0) hx hb dX10_isKind_14 (by decide) ?_
    exact hb_15 0 h _ _ _ hc (lv_sub hl [] rfl)
  unfold w_X10_isKind at h
  obtain ⟨H, hH0⟩ : ∃ z, z = s.heap := ⟨_, rfl⟩
  rw [← hH0] at hc ⊢
  obtain ⟨locs, hlc0⟩ : ∃ z : List Loc, z = [] := ⟨_, rfl⟩
  rw [← hlc0] at hc ⊢
  refine lv_iload_n hx hb dX10_isKind_0 rfl (lv_at hl 0 rfl) ?_
  refine lv_if_lt (tgt := 14) hx hb dX10_isKind_1 (by decide) (fun c2 => ?_) (fun c2 => ?_)
  · have h := h.1 c2
    exact hb_14  h _ _ _ hc (lv_sub hl [] rfl)
  · have h := h.2 c2
    refine lv_iload_n hx hb dX10_isKind_4 rfl (lv_at hl 0 rfl) ?_
    refine lv_bipush (v := 8) hx hb dX10_isKind_5 (by decide) ?_
    refine lv_icmp_ge (tgt := 14) hx hb dX10_isKind_7 (by decide) (fun c3 => ?_) (fun c3 => ?_)
    · have h := h.1 c3
      exact hb_14  h _ _ _ hc (lv_sub hl [] rfl)
    · have h := h.2 c3
      refine lv_iconst (v := 1) hx hb dX10_isKind_10 (by decide) ?_
      refine lv_goto (tgt := 15) hx hb dX10_isKind_11 (by decide) ?_
      exact hb_15 1 h _ _ _ hc (lv_sub hl [] rfl)
def b_X10_open_44 (g : gS) (Q : Int32 → gS → Prop) (X : String → gS → Prop) : Prop :=
  X "java/lang/IllegalStateException" g
def b_X10_open_14 (g : gS) (Q : Int32 → gS → Prop) (X : String → gS → Prop) : Prop :=
  X "java/lang/IllegalArgumentException" g
def w_X10_open (g0 : gS) (p0 : Nat) (p1 : Int32) (p2 : Int32) (Q : Int32 → gS → Prop) (X : String → gS → Prop) : Prop :=
  w_X10_isDate g0 p1 (fun x1 => ((x1 = 0 → (b_X10_open_14 g0 Q X)) ∧ (¬ x1 = 0 → (w_X10_isKind g0 p2 (fun x4 => ((x4 = 0 → (b_X10_open_14 g0 Q X)) ∧ (¬ x4 = 0 → (gK g0 p0 = 11 ∧ (∃ y8, gR g0 p0 0 = some y8 ∧ (gK g0 y8 = 1 ∧ (∀ o11, o11 = gR g0 y8 2 → ((o11 = none → (∃ y15, gR g0 p0 0 = some y15 ∧ (gK g0 y15 = 1 ∧ (w_X0_isFull g0 y15 (fun x18 => ((x18 = 0 → (∃ y21, gR g0 p0 0 = some y21 ∧ (∀ q23, gK g0 q23 = 0 → (∀ g25, g25 = sNew g0 q23 3 0 → (w_X2_init g25 q23 p1 p2 (fun g28 => (gK g28 y21 = 1 ∧ (∀ g31, g31 = sV g28 y21 2 (some q23) → (gK g31 p0 = 11 ∧ (∃ y34, gR g31 p0 0 = some y34 ∧ (gK g31 y34 = 1 ∧ (Q (gI g31 y34 1) g31)))))))))))) ∧ (¬ x18 = 0 → (b_X10_open_44 g0 Q X)))))))) ∧ (∀ y13, o11 = some y13 → (b_X10_open_44 g0 Q X))))))))))))))
abbrev r_X10_open : Room := { frames := 6, cells := 14, slots := 131, locals := 82 }
set_option maxHeartbeats 4000000 in
set_option maxRecDepth 100000 in
theorem c_X10_open {l : Launch} {D : va_G} {cA : Nat → ClassId} {sz : Nat} {g0 : gS} {p0 : Nat} {p1 : Int32} {p2 : Int32} {Q : Int32 → gS → Prop} {X : String → gS → Prop} (hflags : l.stackTraces = false) (h : w_X10_open g0 p0 p1 p2 Q X) : vx_Met l yX10_open wsX10_open r_X10_open (va_Pc [.ref p0, .int p1, .int p2] (gPre D cA g0 sz)) (gQi D cA g0 sz (Q)) (gQx D cA g0 sz (X)) 14 131 (gA g0 sz) := by
  refine g_xmet (cc := cX10_open) (maxL := 3) (ret := (some .int)) (own := RX10) (by decide) rfl rfl (Nat.le_of_ble_eq_true rfl) ?_
  intro p e s m args below meth c ls CF hr hlk hnm hxt hc hl
  obtain ⟨hx, hb, hml, hown, hts⟩ := id CF
  have hl : lv_has ls 3 [(0, .ref p0), (1, .int p1), (2, .int p2)] := hl
  show W p l e r_X10_open s m args below meth c s.heap [] 0 0 (vx_MQ below (gQi D cA g0 sz (Q)) (gQx D cA g0 sz (X)) args s 14 131 (gA g0 sz)) (F0 m 0 ls [])
  have hb_44 : ∀ (g : gS), b_X10_open_44 g Q X → ∀ (H : Heap) (locs : List Loc) (ls : Array Slot), gC D cA (gA g0 sz) s g H locs → lv_has ls 3 [] → W p l e r_X10_open s m args below meth c H locs 0 0 (vx_MQ below (gQi D cA g0 sz (Q)) (gQx D cA g0 sz (X)) args s 14 131 (gA g0 sz)) (F0 m 44 ls []) := by
    intro g h H locs ls hc hl
    unfold b_X10_open_44 at h
    exact g_throwS CF hflags hc (cls := "java/lang/IllegalStateException") (text := "a document is open, or 60 have a number") (names := ["java/lang/RuntimeException", "java/lang/Exception"]) (ik := 100) (is := 102) (ic := 104) (by decide) (by decide) (List.mem_cons_of_mem _ (List.mem_append_left _ (List.mem_append_left _ (List.mem_append_left _ (List.mem_append_left _ (List.mem_append_left _ (List.mem_append_left _ (List.mem_append_left _ (List.mem_of_getElem? (i := 2) rfl))))))))) (List.mem_cons_of_mem _ (List.mem_append_left _ (List.mem_append_left _ (List.mem_append_left _ (List.mem_append_left _ (List.mem_append_left _ (List.mem_append_left _ (List.mem_append_left _ (List.mem_of_getElem? (i := 3) rfl))))))))) (by decide +kernel) (fun _ h9 => List.mem_cons_of_mem _ (List.mem_append_right _ (h9))) ex_104_2 ex_ot ex_100_104_3 hl.1 dX10_open_44 dX10_open_47 dX10_open_48 dX10_open_50 dX10_open_53 hxt (Nat.le_of_ble_eq_true rfl) (Nat.le_of_ble_eq_true rfl) (Nat.le_of_ble_eq_true rfl) (Nat.le_of_ble_eq_true rfl) hlk h (Nat.le_of_ble_eq_true rfl) (Nat.le_of_ble_eq_true rfl)
  have hb_14 : ∀ (g : gS), b_X10_open_14 g Q X → ∀ (H : Heap) (locs : List Loc) (ls : Array Slot), gC D cA (gA g0 sz) s g H locs → lv_has ls 3 [] → W p l e r_X10_open s m args below meth c H locs 0 0 (vx_MQ below (gQi D cA g0 sz (Q)) (gQx D cA g0 sz (X)) args s 14 131 (gA g0 sz)) (F0 m 14 ls []) := by
    intro g h H locs ls hc hl
    unfold b_X10_open_14 at h
    exact g_throwS CF hflags hc (cls := "java/lang/IllegalArgumentException") (text := "there is no such date or kind") (names := ["java/lang/RuntimeException", "java/lang/Exception"]) (ik := 85) (is := 87) (ic := 89) (by decide) (by decide) (List.mem_cons_of_mem _ (List.mem_append_left _ (List.mem_append_left _ (List.mem_append_left _ (List.mem_append_left _ (List.mem_append_left _ (List.mem_append_left _ (List.mem_append_left _ (List.mem_of_getElem? (i := 0) rfl))))))))) (List.mem_cons_of_mem _ (List.mem_append_left _ (List.mem_append_left _ (List.mem_append_left _ (List.mem_append_left _ (List.mem_append_left _ (List.mem_append_left _ (List.mem_append_left _ (List.mem_of_getElem? (i := 1) rfl))))))))) (by decide +kernel) (fun _ h9 => List.mem_cons_of_mem _ (List.mem_append_left _ (List.mem_append_right _ (h9)))) ex_89_2 ex_ot ex_85_89_3 hl.1 dX10_open_14 dX10_open_17 dX10_open_18 dX10_open_20 dX10_open_23 hxt (Nat.le_of_ble_eq_true rfl) (Nat.le_of_ble_eq_true rfl) (Nat.le_of_ble_eq_true rfl) (Nat.le_of_ble_eq_true rfl) hlk h (Nat.le_of_ble_eq_true rfl) (Nat.le_of_ble_eq_true rfl)
  unfold w_X10_open at h
  obtain ⟨H, hH0⟩ : ∃ z, z = s.heap := ⟨_, rfl⟩
  rw [← hH0] at hc ⊢
  obtain ⟨locs, hlc0⟩ : ∃ z : List Loc, z = [] := ⟨_, rfl⟩
  rw [← hlc0] at hc ⊢
  refine lv_iload_n hx hb dX10_open_0 rfl (lv_at hl 1 rfl) ?_
  refine g_calli (va_runS (As := [.int p1]) (rest := []) CF (c_X10_isDate h) (va_cwS 1 hts gX10_open_X10_isDate rfl rfl rfl (by decide +kernel) ⟨Nat.le_of_ble_eq_true rfl, Nat.le_of_ble_eq_true rfl⟩) hc.preS rfl rfl hl.1 rfl (lv_room (Nat.le_of_ble_eq_true rfl)) dX10_open_1 ⟨Nat.le_of_ble_eq_true rfl, Nat.le_of_ble_eq_true rfl⟩) hc (fun x1 gq2 H locs hq hc => ?_)
  obtain ⟨rfl, h⟩ := hq
  refine lv_if_eq (tgt := 14) hx hb dX10_open_4 (by decide) (fun c3 => ?_) (fun c3 => ?_)
  · have h := h.1 c3
    exact hb_14 g0 h _ _ _ hc (lv_sub hl [] rfl)
  · have h := h.2 c3
    refine lv_iload_n hx hb dX10_open_7 rfl (lv_at hl 2 rfl) ?_
    refine g_calli (va_runS (As := [.int p2]) (rest := []) CF (c_X10_isKind h) (va_cwS 1 hts gX10_open_X10_isKind rfl rfl rfl (by decide +kernel) ⟨Nat.le_of_ble_eq_true rfl, Nat.le_of_ble_eq_true rfl⟩) hc.preS rfl rfl hl.1 rfl (lv_room (Nat.le_of_ble_eq_true rfl)) dX10_open_8 ⟨Nat.le_of_ble_eq_true rfl, Nat.le_of_ble_eq_true rfl⟩) hc (fun x4 gq5 H locs hq hc => ?_)
    obtain ⟨rfl, h⟩ := hq
    refine lv_if_ne (tgt := 24) hx hb dX10_open_11 (by decide) (fun c6 => ?_) (fun c6 => ?_)
    · have h := h.2 c6
      refine lv_aload_n hx hb dX10_open_24 rfl (lv_at hl 0 rfl) ?_
      obtain ⟨hk7, h⟩ := h
      obtain ⟨y8, e9, h⟩ := h
      refine g_getr CF hc hk7 rfl (by decide) (fun _ h9 => List.mem_cons_of_mem _ (List.mem_append_left _ (List.mem_append_left _ (List.mem_append_left _ (List.mem_append_left _ (List.mem_append_left _ (List.mem_append_right _ (h9)))))))) (k := 0) (by decide) (List.mem_cons_of_mem _ (List.mem_append_left _ (List.mem_append_left _ (List.mem_append_left _ (List.mem_append_left _ (List.mem_append_left _ (List.mem_append_left _ (List.mem_append_left _ (List.mem_of_getElem? (i := 4) rfl))))))))) e9 rfl dX10_open_25 ?_
      obtain ⟨hk10, h⟩ := h
      refine g_get CF hc hk10 rfl (by decide) (fun _ h9 => List.mem_cons_of_mem _ (List.mem_append_left _ (List.mem_append_left _ (List.mem_append_left _ (List.mem_append_left _ (List.mem_append_right _ (h9))))))) (k := 2) (by decide) (List.mem_cons_of_mem _ (List.mem_append_left _ (List.mem_append_left _ (List.mem_append_left _ (List.mem_append_left _ (List.mem_append_left _ (List.mem_append_left _ (List.mem_append_left _ (List.mem_of_getElem? (i := 5) rfl))))))))) rfl dX10_open_28 ?_
      obtain ⟨o11, eo12⟩ : ∃ z, z = gR g0 y8 2 := ⟨_, rfl⟩
      rw [← eo12]
      replace h := h o11 eo12
      refine g_ifnonnull (tgt := 44) CF dX10_open_31 (by decide) (fun y13 e14 => ?_) (fun e14 => ?_)
      · have hu37 := h.2 y13 e14
        subst e14
        have h := hu37
        exact hb_44 g0 h _ _ _ hc (lv_sub hl [] rfl)
      · have hu37 := h.1 e14
        subst e14
        have h := hu37
        refine lv_aload_n hx hb dX10_open_34 rfl (lv_at hl 0 rfl) ?_
        obtain ⟨y15, e16, h⟩ := h
        refine g_getr CF hc hk7 rfl (by decide) (fun _ h9 => List.mem_cons_of_mem _ (List.mem_append_left _ (List.mem_append_left _ (List.mem_append_left _ (List.mem_append_left _ (List.mem_append_left _ (List.mem_append_right _ (h9)))))))) (k := 0) (by decide) (List.mem_cons_of_mem _ (List.mem_append_left _ (List.mem_append_left _ (List.mem_append_left _ (List.mem_append_left _ (List.mem_append_left _ (List.mem_append_left _ (List.mem_append_left _ (List.mem_of_getElem? (i := 4) rfl))))))))) e16 rfl dX10_open_35 ?_
        obtain ⟨hk17, h⟩ := h
        refine g_calli (va_runV (As := []) (rest := []) CF (c_X0_isFull h) (cwV 0 hts gX10_open_X0_isFull rfl rfl rfl (by decide +kernel) ⟨Nat.le_of_ble_eq_true rfl, Nat.le_of_ble_eq_true rfl⟩) (hc.preV hk17 rfl (by decide)) rfl rfl hl.1 rfl (lv_room (Nat.le_of_ble_eq_true rfl)) dX10_open_38 ⟨Nat.le_of_ble_eq_true rfl, Nat.le_of_ble_eq_true rfl⟩) hc (fun x18 gq19 H locs hq hc => ?_)
        obtain ⟨rfl, h⟩ := hq
        refine lv_if_eq (tgt := 54) hx hb dX10_open_41 (by decide) (fun c20 => ?_) (fun c20 => ?_)
        · have h := h.1 c20
          refine lv_aload_n hx hb dX10_open_54 rfl (lv_at hl 0 rfl) ?_
          obtain ⟨y21, e22, h⟩ := h
          refine g_getr CF hc hk7 rfl (by decide) (fun _ h9 => List.mem_cons_of_mem _ (List.mem_append_left _ (List.mem_append_left _ (List.mem_append_left _ (List.mem_append_left _ (List.mem_append_left _ (List.mem_append_right _ (h9)))))))) (k := 0) (by decide) (List.mem_cons_of_mem _ (List.mem_append_left _ (List.mem_append_left _ (List.mem_append_left _ (List.mem_append_left _ (List.mem_append_left _ (List.mem_append_left _ (List.mem_append_left _ (List.mem_of_getElem? (i := 4) rfl))))))))) e22 rfl dX10_open_55 ?_
          refine g_new CF hc (ci := 2) rfl (by decide) (fun _ h9 => List.mem_cons_of_mem _ (List.mem_append_left _ (List.mem_append_left _ (List.mem_append_left _ (List.mem_append_right _ (h9)))))) tyX2 tyX2_ok dfX2 (List.mem_cons_of_mem _ (List.mem_append_left _ (List.mem_append_left _ (List.mem_append_left _ (List.mem_append_left _ (List.mem_append_left _ (List.mem_append_left _ (List.mem_append_left _ (List.mem_of_getElem? (i := 6) rfl))))))))) (List.mem_cons_of_mem _ (List.mem_append_left _ (List.mem_append_left _ (List.mem_append_left _ (List.mem_append_left _ (List.mem_append_left _ (List.mem_append_left _ (List.mem_append_left _ (List.mem_of_getElem? (i := 7) rfl))))))))) (List.mem_cons_of_mem _ (List.mem_append_left _ (List.mem_append_left _ (List.mem_append_left _ (List.mem_append_left _ (List.mem_append_left _ (List.mem_append_left _ (List.mem_append_left _ (List.mem_of_getElem? (i := 8) rfl))))))))) (Nat.le_of_ble_eq_true rfl) (Nat.le_of_ble_eq_true rfl) dX10_open_58 (fun q23 H locs hq24 hc => ?_)
          replace h := h q23 hq24
          obtain ⟨g25, eg26⟩ : ∃ z, z = sNew g0 q23 3 0 := ⟨_, rfl⟩
          have hc : gC D cA (gA g0 sz) s g25 H locs := by rw [eg26]; exact hc
          replace h := h g25 eg26
          refine W.widen (k := 1) (n := 5) (Nat.le_of_ble_eq_true rfl) (Nat.le_of_ble_eq_true rfl) ?_
          refine lv_dup hx hb dX10_open_61 rfl ?_
          refine lv_iload_n hx hb dX10_open_62 rfl (lv_at hl 1 rfl) ?_
          refine lv_iload_n hx hb dX10_open_63 rfl (lv_at hl 2 rfl) ?_
          refine g_callv (va_runI (b := q23) (As := [.int p1, .int p2]) (rest := [.ref q23, .ref y21]) CF (c_X2_init h) (cwI 2 hts gX10_open_X2_init rfl rfl rfl (hts _ (List.mem_cons_of_mem _ (List.mem_append_left _ (List.mem_append_left _ (List.mem_append_left _ (List.mem_append_left _ (List.mem_append_left _ (List.mem_append_left _ (List.mem_append_left _ (List.mem_of_getElem? (i := 8) rfl)))))))))) (hts _ (List.mem_cons_of_mem _ (List.mem_append_left _ (List.mem_append_left _ (List.mem_append_left _ (List.mem_append_left _ (List.mem_append_left _ (List.mem_append_left _ (List.mem_append_right _ (List.mem_of_getElem? (i := 0) rfl)))))))))) (hts _ (List.mem_cons_of_mem _ (List.mem_append_left _ (List.mem_append_left _ (List.mem_append_left _ (List.mem_append_left _ (List.mem_append_left _ (List.mem_append_left _ (List.mem_append_right _ (List.mem_of_getElem? (i := 1) rfl)))))))))) rfl (by decide +kernel) ⟨Nat.le_of_ble_eq_true rfl, Nat.le_of_ble_eq_true rfl⟩) (hc.preS (As := .ref q23 :: [.int p1, .int p2])) rfl rfl hl.1 rfl (lv_room (Nat.le_of_ble_eq_true rfl)) dX10_open_64 ⟨Nat.le_of_ble_eq_true rfl, Nat.le_of_ble_eq_true rfl⟩) hc (fun g28 H locs hq hc => ?_)
          replace h := hq
          refine W.widen (k := 14) (n := 131) (Nat.le_of_ble_eq_true rfl) (Nat.le_of_ble_eq_true rfl) ?_
          obtain ⟨hk30, h⟩ := h
          refine g_putr CF hc hk30 rfl (by decide) (fun _ h9 => List.mem_cons_of_mem _ (List.mem_append_left _ (List.mem_append_left _ (List.mem_append_left _ (List.mem_append_left _ (List.mem_append_right _ (h9))))))) tyX0 tyX0_ok nmX0 (k := 2) (by decide) (List.mem_cons_of_mem _ (List.mem_append_left _ (List.mem_append_left _ (List.mem_append_left _ (List.mem_append_left _ (List.mem_append_left _ (List.mem_append_left _ (List.mem_append_left _ (List.mem_of_getElem? (i := 5) rfl))))))))) rfl (some q23) narrow_rf fits_rf rfl dX10_open_67 (fun H locs hc => ?_)
          obtain ⟨g31, eg32⟩ : ∃ z, z = sV g28 y21 2 (some q23) := ⟨_, rfl⟩
          have hc : gC D cA (gA g0 sz) s g31 H locs := by rw [eg32]; exact hc
          replace h := h g31 eg32
          refine lv_aload_n hx hb dX10_open_70 rfl (lv_at hl 0 rfl) ?_
          obtain ⟨hk33, h⟩ := h
          obtain ⟨y34, e35, h⟩ := h
          refine g_getr CF hc hk33 rfl (by decide) (fun _ h9 => List.mem_cons_of_mem _ (List.mem_append_left _ (List.mem_append_left _ (List.mem_append_left _ (List.mem_append_left _ (List.mem_append_left _ (List.mem_append_right _ (h9)))))))) (k := 0) (by decide) (List.mem_cons_of_mem _ (List.mem_append_left _ (List.mem_append_left _ (List.mem_append_left _ (List.mem_append_left _ (List.mem_append_left _ (List.mem_append_left _ (List.mem_append_left _ (List.mem_of_getElem? (i := 4) rfl))))))))) e35 rfl dX10_open_71 ?_
          obtain ⟨hk36, h⟩ := h
          refine g_get CF hc hk36 rfl (by decide) (fun _ h9 => List.mem_cons_of_mem _ (List.mem_append_left _ (List.mem_append_left _ (List.mem_append_left _ (List.mem_append_left _ (List.mem_append_right _ (h9))))))) (k := 1) (by decide) (List.mem_cons_of_mem _ (List.mem_append_left _ (List.mem_append_left _ (List.mem_append_left _ (List.mem_append_left _ (List.mem_append_left _ (List.mem_append_left _ (List.mem_append_left _ (List.mem_of_getElem? (i := 9) rfl))))))))) rfl dX10_open_74 ?_
          refine vx_ret ?_
          exact g_reti (r := (gI g31 y34 1)) CF hr hlk hc rfl h dX10_open_77
        · have h := h.2 c20
          exact hb_44 g0 h _ _ _ hc (lv_sub hl [] rfl)
    · have h := h.1 c6
      exact hb_14 g0 h _ _ _ hc (lv_sub hl [] rfl)
def b_X10_isField_14 (g : gS) (is0 : Int32) (Q : Int32 → Prop) : Prop :=
  (is0 = 0 ∨ is0 = 1) ∧ (Q is0)
def b_X10_isField_13 (g : gS) (Q : Int32 → Prop) : Prop :=
  b_X10_isField_14 g 0 Q
def w_X10_isField (g : gS) (p0 : Int32) (Q : Int32 → Prop) : Prop :=
  (p0 < 0 → (b_X10_isField_13 g Q)) ∧ (¬ p0 < 0 → ((3 ≤ p0 → (b_X10_isField_13 g Q)) ∧ (¬ 3 ≤ p0 → (b_X10_isField_14 g 1 Q))))
abbrev r_X10_isField : Room := { frames := 0, cells := 0, slots := 0, locals := 0 }
set_option maxHeartbeats 4000000 in
set_option maxRecDepth 100000 in
theorem c_X10_isField {l : Launch} {D : va_G} {cA : Nat → ClassId} {sz : Nat} {g : gS} {p0 : Int32} {Q : Int32 → Prop} (h : w_X10_isField g p0 Q) : Met l yX10_isField wsX10_isField r_X10_isField (va_Pc [.int p0] (gPre D cA g sz)) (gQi D cA g sz (fun r g2 => g = g2 ∧ Q r)) 0 0 (gA g sz) := by
  refine g_met (cc := cX10_isField) (maxL := 1) (ret := (some .boolean)) (own := RX10) (by decide) rfl rfl (Nat.le_of_ble_eq_true rfl) ?_
  intro p e s m args below meth c ls CF hr hlk hnm hc hl
  obtain ⟨hx, hb, hml, hown, hts⟩ := id CF
  have hl : lv_has ls 1 [(0, .int p0)] := hl
  show W p l e r_X10_isField s m args below meth c s.heap [] 0 0 (MQ below (gQi D cA g sz (fun r g2 => g = g2 ∧ Q r)) args s 0 0 (gA g sz)) (F0 m 0 ls [])
  have hb_14 : ∀ (is0 : Int32), b_X10_isField_14 g is0 Q → ∀ (H : Heap) (locs : List Loc) (ls : Array Slot), gC D cA (gA g sz) s g H locs → lv_has ls 1 [] → W p l e r_X10_isField s m args below meth c H locs 0 0 (MQ below (gQi D cA g sz (fun r g2 => g = g2 ∧ Q r)) args s 0 0 (gA g sz)) (F0 m 14 ls [.int is0]) := by
    intro is0 h H locs ls hc hl
    unfold b_X10_isField_14 at h
    obtain ⟨hz1, h⟩ := h
    exact g_reti (r := is0) CF hr hlk hc (narrow_01 hz1) ⟨rfl, h⟩ dX10_isField_14
  have hb_13 : b_X10_isField_13 g Q → ∀ (H : Heap) (locs : List Loc) (ls : Array Slot), gC D cA (gA g sz) s g H locs → lv_has ls 1 [] → W p l e r_X10_isField s m args below meth c H locs 0 0 (MQ below (gQi D cA g sz (fun r g2 => g = g2 ∧ Q r)) args s 0 0 (gA g sz)) (F0 m 13 ls []) := by
    intro h H locs ls hc hl
    unfold b_X10_isField_13 at h
    refine lv_iconst (v := 0) hx hb dX10_isField_13 (by decide) ?_
    exact hb_14 0 h _ _ _ hc (lv_sub hl [] rfl)
  unfold w_X10_isField at h
  obtain ⟨H, hH0⟩ : ∃ z, z = s.heap := ⟨_, rfl⟩
  rw [← hH0] at hc ⊢
  obtain ⟨locs, hlc0⟩ : ∃ z : List Loc, z = [] := ⟨_, rfl⟩
  rw [← hlc0] at hc ⊢
  refine lv_iload_n hx hb dX10_isField_0 rfl (lv_at hl 0 rfl) ?_
  refine lv_if_lt (tgt := 13) hx hb dX10_isField_1 (by decide) (fun c2 => ?_) (fun c2 => ?_)
  · have h := h.1 c2
    exact hb_13  h _ _ _ hc (lv_sub hl [] rfl)
  · have h := h.2 c2
    refine lv_iload_n hx hb dX10_isField_4 rfl (lv_at hl 0 rfl) ?_
    refine lv_iconst (v := 3) hx hb dX10_isField_5 (by decide) ?_
    refine lv_icmp_ge (tgt := 13) hx hb dX10_isField_6 (by decide) (fun c3 => ?_) (fun c3 => ?_)
    · have h := h.1 c3
      exact hb_13  h _ _ _ hc (lv_sub hl [] rfl)
    · have h := h.2 c3
      refine lv_iconst (v := 1) hx hb dX10_isField_9 (by decide) ?_
      refine lv_goto (tgt := 14) hx hb dX10_isField_10 (by decide) ?_
      exact hb_14 1 h _ _ _ hc (lv_sub hl [] rfl)
def b_X10_write_66 (g : gS) (Q : Int32 → gS → Prop) (X : String → gS → Prop) : Prop :=
  X "java/lang/IllegalStateException" g
def b_X10_write_14 (g : gS) (Q : Int32 → gS → Prop) (X : String → gS → Prop) : Prop :=
  X "java/lang/IllegalArgumentException" g
def w_X10_write (g0 : gS) (p0 : Nat) (p1 : Int32) (p2 : Int32) (Q : Int32 → gS → Prop) (X : String → gS → Prop) : Prop :=
  w_X10_isField g0 p1 (fun x1 => ((x1 = 0 → (b_X10_write_14 g0 Q X)) ∧ (¬ x1 = 0 → (w_X10_isTerm g0 p2 (fun x4 => ((x4 = 0 → (b_X10_write_14 g0 Q X)) ∧ (¬ x4 = 0 → (gK g0 p0 = 11 ∧ (∃ y8, gR g0 p0 0 = some y8 ∧ (gK g0 y8 = 1 ∧ (∀ o11, o11 = gR g0 y8 2 → ((o11 = none → (X "java/lang/IllegalStateException" g0)) ∧ (∀ y13, o11 = some y13 → (gK g0 y13 = 3 ∧ (w_X2_rowOf g0 y13 p1 (fun o16 => ((o16 = none → (b_X10_write_66 g0 Q X)) ∧ (∀ y18, o16 = some y18 → (gK g0 y18 = 10 ∧ (w_X9_isFull g0 y18 (fun x21 => ((x21 = 0 → (w_X9_append g0 y18 p2 (fun g25 => (gK g25 y18 = 10 ∧ (Q (gI g25 y18 3) g25))))) ∧ (¬ x21 = 0 → (b_X10_write_66 g0 Q X))))))))))))))))))))))))
abbrev r_X10_write : Room := { frames := 6, cells := 1, slots := 6, locals := 82 }
set_option maxHeartbeats 4000000 in
set_option maxRecDepth 100000 in
theorem c_X10_write {l : Launch} {D : va_G} {cA : Nat → ClassId} {sz : Nat} {g0 : gS} {p0 : Nat} {p1 : Int32} {p2 : Int32} {Q : Int32 → gS → Prop} {X : String → gS → Prop} (hflags : l.stackTraces = false) (h : w_X10_write g0 p0 p1 p2 Q X) : vx_Met l yX10_write wsX10_write r_X10_write (va_Pc [.ref p0, .int p1, .int p2] (gPre D cA g0 sz)) (gQi D cA g0 sz (Q)) (gQx D cA g0 sz (X)) 1 6 (gA g0 sz) := by
  refine g_xmet (cc := cX10_write) (maxL := 5) (ret := (some .int)) (own := RX10) (by decide) rfl rfl (Nat.le_of_ble_eq_true rfl) ?_
  intro p e s m args below meth c ls CF hr hlk hnm hxt hc hl
  obtain ⟨hx, hb, hml, hown, hts⟩ := id CF
  have hl : lv_has ls 5 [(0, .ref p0), (1, .int p1), (2, .int p2)] := hl
  show W p l e r_X10_write s m args below meth c s.heap [] 0 0 (vx_MQ below (gQi D cA g0 sz (Q)) (gQx D cA g0 sz (X)) args s 1 6 (gA g0 sz)) (F0 m 0 ls [])
  have hb_66 : ∀ (g : gS), b_X10_write_66 g Q X → ∀ (H : Heap) (locs : List Loc) (ls : Array Slot), gC D cA (gA g0 sz) s g H locs → lv_has ls 5 [] → W p l e r_X10_write s m args below meth c H locs 0 0 (vx_MQ below (gQi D cA g0 sz (Q)) (gQx D cA g0 sz (X)) args s 1 6 (gA g0 sz)) (F0 m 66 ls []) := by
    intro g h H locs ls hc hl
    unfold b_X10_write_66 at h
    exact g_throwS CF hflags hc (cls := "java/lang/IllegalStateException") (text := "the field is full") (names := ["java/lang/RuntimeException", "java/lang/Exception"]) (ik := 100) (is := 131) (ic := 104) (by decide) (by decide) (List.mem_cons_of_mem _ (List.mem_append_left _ (List.mem_append_left _ (List.mem_append_left _ (List.mem_append_left _ (List.mem_append_left _ (List.mem_append_left _ (List.mem_append_left _ (List.mem_of_getElem? (i := 2) rfl))))))))) (List.mem_cons_of_mem _ (List.mem_append_left _ (List.mem_append_left _ (List.mem_append_left _ (List.mem_append_left _ (List.mem_append_left _ (List.mem_append_left _ (List.mem_append_left _ (List.mem_of_getElem? (i := 3) rfl))))))))) (by decide +kernel) (fun _ h9 => List.mem_cons_of_mem _ (List.mem_append_right _ (h9))) ex_104_2 ex_ot ex_100_104_3 hl.1 dX10_write_66 dX10_write_69 dX10_write_70 dX10_write_72 dX10_write_75 hxt (Nat.le_of_ble_eq_true rfl) (Nat.le_of_ble_eq_true rfl) (Nat.le_of_ble_eq_true rfl) (Nat.le_of_ble_eq_true rfl) hlk h (Nat.le_of_ble_eq_true rfl) (Nat.le_of_ble_eq_true rfl)
  have hb_14 : ∀ (g : gS), b_X10_write_14 g Q X → ∀ (H : Heap) (locs : List Loc) (ls : Array Slot), gC D cA (gA g0 sz) s g H locs → lv_has ls 5 [] → W p l e r_X10_write s m args below meth c H locs 0 0 (vx_MQ below (gQi D cA g0 sz (Q)) (gQx D cA g0 sz (X)) args s 1 6 (gA g0 sz)) (F0 m 14 ls []) := by
    intro g h H locs ls hc hl
    unfold b_X10_write_14 at h
    exact g_throwS CF hflags hc (cls := "java/lang/IllegalArgumentException") (text := "there is no such field or term") (names := ["java/lang/RuntimeException", "java/lang/Exception"]) (ik := 85) (is := 120) (ic := 89) (by decide) (by decide) (List.mem_cons_of_mem _ (List.mem_append_left _ (List.mem_append_left _ (List.mem_append_left _ (List.mem_append_left _ (List.mem_append_left _ (List.mem_append_left _ (List.mem_append_left _ (List.mem_of_getElem? (i := 0) rfl))))))))) (List.mem_cons_of_mem _ (List.mem_append_left _ (List.mem_append_left _ (List.mem_append_left _ (List.mem_append_left _ (List.mem_append_left _ (List.mem_append_left _ (List.mem_append_left _ (List.mem_of_getElem? (i := 1) rfl))))))))) (by decide +kernel) (fun _ h9 => List.mem_cons_of_mem _ (List.mem_append_left _ (List.mem_append_right _ (h9)))) ex_89_2 ex_ot ex_85_89_3 hl.1 dX10_write_14 dX10_write_17 dX10_write_18 dX10_write_20 dX10_write_23 hxt (Nat.le_of_ble_eq_true rfl) (Nat.le_of_ble_eq_true rfl) (Nat.le_of_ble_eq_true rfl) (Nat.le_of_ble_eq_true rfl) hlk h (Nat.le_of_ble_eq_true rfl) (Nat.le_of_ble_eq_true rfl)
  unfold w_X10_write at h
  obtain ⟨H, hH0⟩ : ∃ z, z = s.heap := ⟨_, rfl⟩
  rw [← hH0] at hc ⊢
  obtain ⟨locs, hlc0⟩ : ∃ z : List Loc, z = [] := ⟨_, rfl⟩
  rw [← hlc0] at hc ⊢
  refine lv_iload_n hx hb dX10_write_0 rfl (lv_at hl 1 rfl) ?_
  refine g_calli (va_runS (As := [.int p1]) (rest := []) CF (c_X10_isField h) (va_cwS 1 hts gX10_write_X10_isField rfl rfl rfl (by decide +kernel) ⟨Nat.le_of_ble_eq_true rfl, Nat.le_of_ble_eq_true rfl⟩) hc.preS rfl rfl hl.1 rfl (lv_room (Nat.le_of_ble_eq_true rfl)) dX10_write_1 ⟨Nat.le_of_ble_eq_true rfl, Nat.le_of_ble_eq_true rfl⟩) hc (fun x1 gq2 H locs hq hc => ?_)
  obtain ⟨rfl, h⟩ := hq
  refine lv_if_eq (tgt := 14) hx hb dX10_write_4 (by decide) (fun c3 => ?_) (fun c3 => ?_)
  · have h := h.1 c3
    exact hb_14 g0 h _ _ _ hc (lv_sub hl [] rfl)
  · have h := h.2 c3
    refine lv_iload_n hx hb dX10_write_7 rfl (lv_at hl 2 rfl) ?_
    refine g_calli (va_runS (As := [.int p2]) (rest := []) CF (c_X10_isTerm h) (va_cwS 1 hts gX10_write_X10_isTerm rfl rfl rfl (by decide +kernel) ⟨Nat.le_of_ble_eq_true rfl, Nat.le_of_ble_eq_true rfl⟩) hc.preS rfl rfl hl.1 rfl (lv_room (Nat.le_of_ble_eq_true rfl)) dX10_write_8 ⟨Nat.le_of_ble_eq_true rfl, Nat.le_of_ble_eq_true rfl⟩) hc (fun x4 gq5 H locs hq hc => ?_)
    obtain ⟨rfl, h⟩ := hq
    refine lv_if_ne (tgt := 24) hx hb dX10_write_11 (by decide) (fun c6 => ?_) (fun c6 => ?_)
    · have h := h.2 c6
      refine lv_aload_n hx hb dX10_write_24 rfl (lv_at hl 0 rfl) ?_
      obtain ⟨hk7, h⟩ := h
      obtain ⟨y8, e9, h⟩ := h
      refine g_getr CF hc hk7 rfl (by decide) (fun _ h9 => List.mem_cons_of_mem _ (List.mem_append_left _ (List.mem_append_left _ (List.mem_append_left _ (List.mem_append_left _ (List.mem_append_left _ (List.mem_append_right _ (h9)))))))) (k := 0) (by decide) (List.mem_cons_of_mem _ (List.mem_append_left _ (List.mem_append_left _ (List.mem_append_left _ (List.mem_append_left _ (List.mem_append_left _ (List.mem_append_left _ (List.mem_append_left _ (List.mem_of_getElem? (i := 4) rfl))))))))) e9 rfl dX10_write_25 ?_
      obtain ⟨hk10, h⟩ := h
      refine g_get CF hc hk10 rfl (by decide) (fun _ h9 => List.mem_cons_of_mem _ (List.mem_append_left _ (List.mem_append_left _ (List.mem_append_left _ (List.mem_append_left _ (List.mem_append_right _ (h9))))))) (k := 2) (by decide) (List.mem_cons_of_mem _ (List.mem_append_left _ (List.mem_append_left _ (List.mem_append_left _ (List.mem_append_left _ (List.mem_append_left _ (List.mem_append_left _ (List.mem_append_left _ (List.mem_of_getElem? (i := 5) rfl))))))))) rfl dX10_write_28 ?_
      obtain ⟨o11, eo12⟩ : ∃ z, z = gR g0 y8 2 := ⟨_, rfl⟩
      rw [← eo12]
      replace h := h o11 eo12
      refine g_astore_nq (lv' := [(3, va_rf o11), (0, .ref p0), (1, .int p1), (2, .int p2)]) CF dX10_write_31 rfl hl (by decide) rfl (fun ls hl => ?_)
      refine g_aload_nq CF dX10_write_32 rfl (lv_at hl 0 rfl) ?_
      refine g_ifnonnull (tgt := 46) CF dX10_write_33 (by decide) (fun y13 e14 => ?_) (fun e14 => ?_)
      · have hu29 := h.2 y13 e14
        subst e14
        have h := hu29
        refine lv_aload_n hx hb dX10_write_46 rfl (lv_at hl 0 rfl) ?_
        refine lv_iload_n hx hb dX10_write_47 rfl (lv_at hl 2 rfl) ?_
        obtain ⟨hk15, h⟩ := h
        refine g_callq (va_runV (As := [.int p1]) (rest := []) CF (c_X2_rowOf h) (cwV 1 hts gX10_write_X2_rowOf rfl rfl rfl (by decide +kernel) ⟨Nat.le_of_ble_eq_true rfl, Nat.le_of_ble_eq_true rfl⟩) (hc.preV hk15 rfl (by decide)) rfl rfl hl.1 rfl (lv_room (Nat.le_of_ble_eq_true rfl)) dX10_write_48 ⟨Nat.le_of_ble_eq_true rfl, Nat.le_of_ble_eq_true rfl⟩) hc (fun o16 gq17 H locs hq hc => ?_)
        obtain ⟨rfl, h⟩ := hq
        refine g_astoreq (lv' := [(4, va_rf o16), (3, .ref y13), (0, .ref p0), (1, .int p1), (2, .int p2)]) CF dX10_write_51 hl (by decide) rfl (fun ls hl => ?_)
        refine g_aloadq CF dX10_write_53 (lv_at hl 0 rfl) ?_
        refine g_ifnull (tgt := 66) CF dX10_write_55 (by decide) (fun e19 => ?_) (fun y18 e19 => ?_)
        · have hu28 := h.1 e19
          subst e19
          have h := hu28
          exact hb_66 g0 h _ _ _ hc (lv_sub hl [] rfl)
        · have hu28 := h.2 y18 e19
          subst e19
          have h := hu28
          refine lv_aload hx hb dX10_write_58 (lv_at hl 0 rfl) ?_
          obtain ⟨hk20, h⟩ := h
          refine g_calli (va_runV (As := []) (rest := []) CF (c_X9_isFull h) (cwV 0 hts gX10_write_X9_isFull rfl rfl rfl (by decide +kernel) ⟨Nat.le_of_ble_eq_true rfl, Nat.le_of_ble_eq_true rfl⟩) (hc.preV hk20 rfl (by decide)) rfl rfl hl.1 rfl (lv_room (Nat.le_of_ble_eq_true rfl)) dX10_write_60 ⟨Nat.le_of_ble_eq_true rfl, Nat.le_of_ble_eq_true rfl⟩) hc (fun x21 gq22 H locs hq hc => ?_)
          obtain ⟨rfl, h⟩ := hq
          refine lv_if_eq (tgt := 76) hx hb dX10_write_63 (by decide) (fun c23 => ?_) (fun c23 => ?_)
          · have h := h.1 c23
            refine lv_aload hx hb dX10_write_76 (lv_at hl 0 rfl) ?_
            refine lv_iload_n hx hb dX10_write_78 rfl (lv_at hl 4 rfl) ?_
            refine g_callv (va_runV (As := [.int p2]) (rest := []) CF (c_X9_append h) (cwV 1 hts gX10_write_X9_append rfl rfl rfl (by decide +kernel) ⟨Nat.le_of_ble_eq_true rfl, Nat.le_of_ble_eq_true rfl⟩) (hc.preV hk20 rfl (by decide)) rfl rfl hl.1 rfl (lv_room (Nat.le_of_ble_eq_true rfl)) dX10_write_79 ⟨Nat.le_of_ble_eq_true rfl, Nat.le_of_ble_eq_true rfl⟩) hc (fun g25 H locs hq hc => ?_)
            replace h := hq
            refine lv_aload hx hb dX10_write_82 (lv_at hl 0 rfl) ?_
            obtain ⟨hk27, h⟩ := h
            refine g_get CF hc hk27 rfl (by decide) (fun _ h9 => List.mem_cons_of_mem _ (List.mem_append_left _ (List.mem_append_left _ (List.mem_append_left _ (List.mem_append_right _ (h9)))))) (k := 3) (by decide) (List.mem_cons_of_mem _ (List.mem_append_left _ (List.mem_append_left _ (List.mem_append_left _ (List.mem_append_left _ (List.mem_append_left _ (List.mem_append_left _ (List.mem_append_left _ (List.mem_of_getElem? (i := 6) rfl))))))))) rfl dX10_write_84 ?_
            refine W.widen (k := 1) (n := 6) (Nat.le_of_ble_eq_true rfl) (Nat.le_of_ble_eq_true rfl) ?_
            refine vx_ret ?_
            exact g_reti (r := (gI g25 y18 3)) CF hr hlk hc rfl h dX10_write_87
          · have h := h.2 c23
            exact hb_66 g0 h _ _ _ hc (lv_sub hl [] rfl)
      · have hu29 := h.1 e14
        subst e14
        have h := hu29
        exact g_throwS CF hflags hc (cls := "java/lang/IllegalStateException") (text := "no document is open") (names := ["java/lang/RuntimeException", "java/lang/Exception"]) (ik := 100) (is := 122) (ic := 104) (by decide) (by decide) (List.mem_cons_of_mem _ (List.mem_append_left _ (List.mem_append_left _ (List.mem_append_left _ (List.mem_append_left _ (List.mem_append_left _ (List.mem_append_left _ (List.mem_append_left _ (List.mem_of_getElem? (i := 2) rfl))))))))) (List.mem_cons_of_mem _ (List.mem_append_left _ (List.mem_append_left _ (List.mem_append_left _ (List.mem_append_left _ (List.mem_append_left _ (List.mem_append_left _ (List.mem_append_left _ (List.mem_of_getElem? (i := 3) rfl))))))))) (by decide +kernel) (fun _ h9 => List.mem_cons_of_mem _ (List.mem_append_right _ (h9))) ex_104_2 ex_ot ex_100_104_3 hl.1 dX10_write_36 dX10_write_39 dX10_write_40 dX10_write_42 dX10_write_45 hxt (Nat.le_of_ble_eq_true rfl) (Nat.le_of_ble_eq_true rfl) (Nat.le_of_ble_eq_true rfl) (Nat.le_of_ble_eq_true rfl) hlk h (Nat.le_of_ble_eq_true rfl) (Nat.le_of_ble_eq_true rfl)
    · have h := h.1 c6
      exact hb_14 g0 h _ _ _ hc (lv_sub hl [] rfl)
def w_X10_close (g0 : gS) (p0 : Nat) (Q : Int32 → gS → Prop) (X : String → gS → Prop) : Prop :=
  gK g0 p0 = 11 ∧ (∃ y2, gR g0 p0 0 = some y2 ∧ (gK g0 y2 = 1 ∧ (∀ o5, o5 = gR g0 y2 2 → ((o5 = none → (X "java/lang/IllegalStateException" g0)) ∧ (∀ y7, o5 = some y7 → (∃ y9, gR g0 p0 0 = some y9 ∧ (gK g0 y9 = 1 ∧ (w_X0_takeIn g0 y9 (fun g13 => (gK g13 p0 = 11 ∧ (∃ y16, gR g13 p0 0 = some y16 ∧ (gK g13 y16 = 1 ∧ (w_X0_bufferSize g13 y16 (fun x19 => (Q x19 g13)))))))))))))))
abbrev r_X10_close : Room := { frames := 6, cells := 1, slots := 6, locals := 82 }
set_option maxHeartbeats 4000000 in
set_option maxRecDepth 100000 in
theorem c_X10_close {l : Launch} {D : va_G} {cA : Nat → ClassId} {sz : Nat} {g0 : gS} {p0 : Nat} {Q : Int32 → gS → Prop} {X : String → gS → Prop} (hflags : l.stackTraces = false) (h : w_X10_close g0 p0 Q X) : vx_Met l yX10_close wsX10_close r_X10_close (va_Pc [.ref p0] (gPre D cA g0 sz)) (gQi D cA g0 sz (Q)) (gQx D cA g0 sz (X)) 1 6 (gA g0 sz) := by
  refine g_xmet (cc := cX10_close) (maxL := 1) (ret := (some .int)) (own := RX10) (by decide) rfl rfl (Nat.le_of_ble_eq_true rfl) ?_
  intro p e s m args below meth c ls CF hr hlk hnm hxt hc hl
  obtain ⟨hx, hb, hml, hown, hts⟩ := id CF
  have hl : lv_has ls 1 [(0, .ref p0)] := hl
  show W p l e r_X10_close s m args below meth c s.heap [] 0 0 (vx_MQ below (gQi D cA g0 sz (Q)) (gQx D cA g0 sz (X)) args s 1 6 (gA g0 sz)) (F0 m 0 ls [])
  unfold w_X10_close at h
  obtain ⟨H, hH0⟩ : ∃ z, z = s.heap := ⟨_, rfl⟩
  rw [← hH0] at hc ⊢
  obtain ⟨locs, hlc0⟩ : ∃ z : List Loc, z = [] := ⟨_, rfl⟩
  rw [← hlc0] at hc ⊢
  refine lv_aload_n hx hb dX10_close_0 rfl (lv_at hl 0 rfl) ?_
  obtain ⟨hk1, h⟩ := h
  obtain ⟨y2, e3, h⟩ := h
  refine g_getr CF hc hk1 rfl (by decide) (fun _ h9 => List.mem_cons_of_mem _ (List.mem_append_left _ (List.mem_append_left _ (List.mem_append_left _ (List.mem_append_right _ (h9)))))) (k := 0) (by decide) (List.mem_cons_of_mem _ (List.mem_append_left _ (List.mem_append_left _ (List.mem_append_left _ (List.mem_append_left _ (List.mem_append_left _ (List.mem_of_getElem? (i := 2) rfl))))))) e3 rfl dX10_close_1 ?_
  obtain ⟨hk4, h⟩ := h
  refine g_get CF hc hk4 rfl (by decide) (fun _ h9 => List.mem_cons_of_mem _ (List.mem_append_left _ (List.mem_append_left _ (List.mem_append_right _ (h9))))) (k := 2) (by decide) (List.mem_cons_of_mem _ (List.mem_append_left _ (List.mem_append_left _ (List.mem_append_left _ (List.mem_append_left _ (List.mem_append_left _ (List.mem_of_getElem? (i := 3) rfl))))))) rfl dX10_close_4 ?_
  obtain ⟨o5, eo6⟩ : ∃ z, z = gR g0 y2 2 := ⟨_, rfl⟩
  rw [← eo6]
  replace h := h o5 eo6
  refine g_ifnonnull (tgt := 20) CF dX10_close_7 (by decide) (fun y7 e8 => ?_) (fun e8 => ?_)
  · have hu21 := h.2 y7 e8
    subst e8
    have h := hu21
    refine lv_aload_n hx hb dX10_close_20 rfl (lv_at hl 0 rfl) ?_
    obtain ⟨y9, e10, h⟩ := h
    refine g_getr CF hc hk1 rfl (by decide) (fun _ h9 => List.mem_cons_of_mem _ (List.mem_append_left _ (List.mem_append_left _ (List.mem_append_left _ (List.mem_append_right _ (h9)))))) (k := 0) (by decide) (List.mem_cons_of_mem _ (List.mem_append_left _ (List.mem_append_left _ (List.mem_append_left _ (List.mem_append_left _ (List.mem_append_left _ (List.mem_of_getElem? (i := 2) rfl))))))) e10 rfl dX10_close_21 ?_
    obtain ⟨hk11, h⟩ := h
    refine g_callv (va_runV (As := []) (rest := []) CF (c_X0_takeIn h) (cwV 0 hts gX10_close_X0_takeIn rfl rfl rfl (by decide +kernel) ⟨Nat.le_of_ble_eq_true rfl, Nat.le_of_ble_eq_true rfl⟩) (hc.preV hk11 rfl (by decide)) rfl rfl hl.1 rfl (lv_room (Nat.le_of_ble_eq_true rfl)) dX10_close_24 ⟨Nat.le_of_ble_eq_true rfl, Nat.le_of_ble_eq_true rfl⟩) hc (fun g13 H locs hq hc => ?_)
    replace h := hq
    refine lv_aload_n hx hb dX10_close_27 rfl (lv_at hl 0 rfl) ?_
    obtain ⟨hk15, h⟩ := h
    obtain ⟨y16, e17, h⟩ := h
    refine g_getr CF hc hk15 rfl (by decide) (fun _ h9 => List.mem_cons_of_mem _ (List.mem_append_left _ (List.mem_append_left _ (List.mem_append_left _ (List.mem_append_right _ (h9)))))) (k := 0) (by decide) (List.mem_cons_of_mem _ (List.mem_append_left _ (List.mem_append_left _ (List.mem_append_left _ (List.mem_append_left _ (List.mem_append_left _ (List.mem_of_getElem? (i := 2) rfl))))))) e17 rfl dX10_close_28 ?_
    obtain ⟨hk18, h⟩ := h
    refine g_calli (va_runV (As := []) (rest := []) CF (c_X0_bufferSize h) (cwV 0 hts gX10_close_X0_bufferSize rfl rfl rfl (by decide +kernel) ⟨Nat.le_of_ble_eq_true rfl, Nat.le_of_ble_eq_true rfl⟩) (hc.preV hk18 rfl (by decide)) rfl rfl hl.1 rfl (lv_room (Nat.le_of_ble_eq_true rfl)) dX10_close_31 ⟨Nat.le_of_ble_eq_true rfl, Nat.le_of_ble_eq_true rfl⟩) hc (fun x19 gq20 H locs hq hc => ?_)
    obtain ⟨rfl, h⟩ := hq
    refine W.widen (k := 1) (n := 6) (Nat.le_of_ble_eq_true rfl) (Nat.le_of_ble_eq_true rfl) ?_
    refine vx_ret ?_
    exact g_reti (r := x19) CF hr hlk hc rfl h dX10_close_34
  · have hu21 := h.1 e8
    subst e8
    have h := hu21
    exact g_throwS CF hflags hc (cls := "java/lang/IllegalStateException") (text := "no document is open") (names := ["java/lang/RuntimeException", "java/lang/Exception"]) (ik := 100) (is := 122) (ic := 104) (by decide) (by decide) (List.mem_cons_of_mem _ (List.mem_append_left _ (List.mem_append_left _ (List.mem_append_left _ (List.mem_append_left _ (List.mem_append_left _ (List.mem_of_getElem? (i := 0) rfl))))))) (List.mem_cons_of_mem _ (List.mem_append_left _ (List.mem_append_left _ (List.mem_append_left _ (List.mem_append_left _ (List.mem_append_left _ (List.mem_of_getElem? (i := 1) rfl))))))) (by decide +kernel) (fun _ h9 => List.mem_cons_of_mem _ (List.mem_append_right _ (h9))) ex_104_2 ex_ot ex_100_104_3 hl.1 dX10_close_10 dX10_close_13 dX10_close_14 dX10_close_16 dX10_close_19 hxt (Nat.le_of_ble_eq_true rfl) (Nat.le_of_ble_eq_true rfl) (Nat.le_of_ble_eq_true rfl) (Nat.le_of_ble_eq_true rfl) hlk h (Nat.le_of_ble_eq_true rfl) (Nat.le_of_ble_eq_true rfl)
def b_X10_remove_35 (g : gS) (r2 : Nat) (is0 : Int32) (Q : Int32 → gS → Prop) (X : String → gS → Prop) : Prop :=
  gK g r2 = 3 ∧ (∀ g2, g2 = sU g r2 4 1 → ((is0 = 0 ∨ is0 = 1) ∧ (Q is0 g2)))
def w_X10_remove (g0 : gS) (p0 : Nat) (p1 : Int32) (Q : Int32 → gS → Prop) (X : String → gS → Prop) : Prop :=
  gK g0 p0 = 11 ∧ (∃ y6, gR g0 p0 0 = some y6 ∧ (gK g0 y6 = 1 ∧ (w_X0_documentAt g0 y6 p1 (fun o9 => ((o9 = none → (X "java/lang/IndexOutOfBoundsException" g0)) ∧ (∀ y11, o9 = some y11 → (gK g0 y11 = 3 ∧ (((gI g0 y11 4) = 0 → (b_X10_remove_35 g0 y11 1 Q X)) ∧ (¬ (gI g0 y11 4) = 0 → (b_X10_remove_35 g0 y11 0 Q X))))))))))
abbrev r_X10_remove : Room := { frames := 6, cells := 1, slots := 6, locals := 82 }
set_option maxHeartbeats 4000000 in
set_option maxRecDepth 100000 in
theorem c_X10_remove {l : Launch} {D : va_G} {cA : Nat → ClassId} {sz : Nat} {g0 : gS} {p0 : Nat} {p1 : Int32} {Q : Int32 → gS → Prop} {X : String → gS → Prop} (hflags : l.stackTraces = false) (h : w_X10_remove g0 p0 p1 Q X) : vx_Met l yX10_remove wsX10_remove r_X10_remove (va_Pc [.ref p0, .int p1] (gPre D cA g0 sz)) (gQi D cA g0 sz (Q)) (gQx D cA g0 sz (X)) 1 6 (gA g0 sz) := by
  refine g_xmet (cc := cX10_remove) (maxL := 4) (ret := (some .boolean)) (own := RX10) (by decide) rfl rfl (Nat.le_of_ble_eq_true rfl) ?_
  intro p e s m args below meth c ls CF hr hlk hnm hxt hc hl
  obtain ⟨hx, hb, hml, hown, hts⟩ := id CF
  have hl : lv_has ls 4 [(0, .ref p0), (1, .int p1)] := hl
  show W p l e r_X10_remove s m args below meth c s.heap [] 0 0 (vx_MQ below (gQi D cA g0 sz (Q)) (gQx D cA g0 sz (X)) args s 1 6 (gA g0 sz)) (F0 m 0 ls [])
  have hb_35 : ∀ (g : gS) (r2 : Nat) (is0 : Int32), b_X10_remove_35 g r2 is0 Q X → ∀ (H : Heap) (locs : List Loc) (ls : Array Slot), gC D cA (gA g0 sz) s g H locs → lv_has ls 4 [(2, .ref r2)] → W p l e r_X10_remove s m args below meth c H locs 0 0 (vx_MQ below (gQi D cA g0 sz (Q)) (gQx D cA g0 sz (X)) args s 1 6 (gA g0 sz)) (F0 m 35 ls [.int is0]) := by
    intro g r2 is0 h H locs ls hc hl
    unfold b_X10_remove_35 at h
    refine lv_istore_n (lv' := [(3, .int is0), (2, .ref r2)]) hx hb dX10_remove_35 rfl hl (by decide) rfl (fun ls hl => ?_)
    refine lv_aload_n hx hb dX10_remove_36 rfl (lv_at hl 1 rfl) ?_
    refine lv_iconst (v := 1) hx hb dX10_remove_37 (by decide) ?_
    obtain ⟨hk1, h⟩ := h
    refine g_puti CF hc hk1 rfl (by decide) (fun _ h9 => List.mem_cons_of_mem _ (List.mem_append_left _ (List.mem_append_left _ (List.mem_append_right _ (h9))))) tyX2 tyX2_ok nmX2 (k := 4) (by decide) (List.mem_cons_of_mem _ (List.mem_append_left _ (List.mem_append_left _ (List.mem_append_left _ (List.mem_append_left _ (List.mem_of_getElem? (i := 3) rfl)))))) rfl (v := 1) (narrow_01 (by decide : (1 : Int32) = 0 ∨ (1 : Int32) = 1)) (fits_01 (by decide : (1 : Int32) = 0 ∨ (1 : Int32) = 1)) rfl dX10_remove_38 (fun H locs hc => ?_)
    obtain ⟨g2, eg3⟩ : ∃ z, z = sU g r2 4 1 := ⟨_, rfl⟩
    have hc : gC D cA (gA g0 sz) s g2 H locs := by rw [eg3]; exact hc
    replace h := h g2 eg3
    refine lv_iload_n hx hb dX10_remove_41 rfl (lv_at hl 0 rfl) ?_
    refine W.widen (k := 1) (n := 6) (Nat.le_of_ble_eq_true rfl) (Nat.le_of_ble_eq_true rfl) ?_
    obtain ⟨hz4, h⟩ := h
    refine vx_ret ?_
    exact g_reti (r := is0) CF hr hlk hc (narrow_01 hz4) h dX10_remove_42
  unfold w_X10_remove at h
  obtain ⟨H, hH0⟩ : ∃ z, z = s.heap := ⟨_, rfl⟩
  rw [← hH0] at hc ⊢
  obtain ⟨locs, hlc0⟩ : ∃ z : List Loc, z = [] := ⟨_, rfl⟩
  rw [← hlc0] at hc ⊢
  refine lv_aload_n hx hb dX10_remove_0 rfl (lv_at hl 0 rfl) ?_
  obtain ⟨hk5, h⟩ := h
  obtain ⟨y6, e7, h⟩ := h
  refine g_getr CF hc hk5 rfl (by decide) (fun _ h9 => List.mem_cons_of_mem _ (List.mem_append_left _ (List.mem_append_left _ (List.mem_append_left _ (List.mem_append_right _ (h9)))))) (k := 0) (by decide) (List.mem_cons_of_mem _ (List.mem_append_left _ (List.mem_append_left _ (List.mem_append_left _ (List.mem_append_left _ (List.mem_of_getElem? (i := 2) rfl)))))) e7 rfl dX10_remove_1 ?_
  refine lv_iload_n hx hb dX10_remove_4 rfl (lv_at hl 1 rfl) ?_
  obtain ⟨hk8, h⟩ := h
  refine g_callq (va_runV (As := [.int p1]) (rest := []) CF (c_X0_documentAt h) (cwV 1 hts gX10_remove_X0_documentAt rfl rfl rfl (by decide +kernel) ⟨Nat.le_of_ble_eq_true rfl, Nat.le_of_ble_eq_true rfl⟩) (hc.preV hk8 rfl (by decide)) rfl rfl hl.1 rfl (lv_room (Nat.le_of_ble_eq_true rfl)) dX10_remove_5 ⟨Nat.le_of_ble_eq_true rfl, Nat.le_of_ble_eq_true rfl⟩) hc (fun o9 gq10 H locs hq hc => ?_)
  obtain ⟨rfl, h⟩ := hq
  refine g_astore_nq (lv' := [(2, va_rf o9), (0, .ref p0), (1, .int p1)]) CF dX10_remove_8 rfl hl (by decide) rfl (fun ls hl => ?_)
  refine g_aload_nq CF dX10_remove_9 rfl (lv_at hl 0 rfl) ?_
  refine g_ifnonnull (tgt := 23) CF dX10_remove_10 (by decide) (fun y11 e12 => ?_) (fun e12 => ?_)
  · have hu15 := h.2 y11 e12
    subst e12
    have h := hu15
    refine lv_aload_n hx hb dX10_remove_23 rfl (lv_at hl 0 rfl) ?_
    obtain ⟨hk13, h⟩ := h
    refine g_get CF hc hk13 rfl (by decide) (fun _ h9 => List.mem_cons_of_mem _ (List.mem_append_left _ (List.mem_append_left _ (List.mem_append_right _ (h9))))) (k := 4) (by decide) (List.mem_cons_of_mem _ (List.mem_append_left _ (List.mem_append_left _ (List.mem_append_left _ (List.mem_append_left _ (List.mem_of_getElem? (i := 3) rfl)))))) rfl dX10_remove_24 ?_
    refine lv_if_ne (tgt := 34) hx hb dX10_remove_27 (by decide) (fun c14 => ?_) (fun c14 => ?_)
    · have h := h.2 c14
      refine lv_iconst (v := 0) hx hb dX10_remove_34 (by decide) ?_
      exact hb_35 g0 y11 0 h _ _ _ hc (lv_sub hl [0] rfl)
    · have h := h.1 c14
      refine lv_iconst (v := 1) hx hb dX10_remove_30 (by decide) ?_
      refine lv_goto (tgt := 35) hx hb dX10_remove_31 (by decide) ?_
      exact hb_35 g0 y11 1 h _ _ _ hc (lv_sub hl [0] rfl)
  · have hu15 := h.1 e12
    subst e12
    have h := hu15
    exact g_throwS CF hflags hc (cls := "java/lang/IndexOutOfBoundsException") (text := "there is no such document") (names := ["java/lang/RuntimeException", "java/lang/Exception"]) (ik := 151) (is := 153) (ic := 155) (by decide) (by decide) (List.mem_cons_of_mem _ (List.mem_append_left _ (List.mem_append_left _ (List.mem_append_left _ (List.mem_append_left _ (List.mem_of_getElem? (i := 0) rfl)))))) (List.mem_cons_of_mem _ (List.mem_append_left _ (List.mem_append_left _ (List.mem_append_left _ (List.mem_append_left _ (List.mem_of_getElem? (i := 1) rfl)))))) (by decide +kernel) (fun _ h9 => List.mem_cons_of_mem _ (List.mem_append_right _ (h9))) ex_155_2 ex_ot ex_151_155_3 hl.1 dX10_remove_13 dX10_remove_16 dX10_remove_17 dX10_remove_19 dX10_remove_22 hxt (Nat.le_of_ble_eq_true rfl) (Nat.le_of_ble_eq_true rfl) (Nat.le_of_ble_eq_true rfl) (Nat.le_of_ble_eq_true rfl) hlk h (Nat.le_of_ble_eq_true rfl) (Nat.le_of_ble_eq_true rfl)
def w_X10_setMute (g0 : gS) (p0 : Nat) (p1 : Int32) (p2 : Int32) (Q : Int32 → gS → Prop) (X : String → gS → Prop) : Prop :=
  w_X10_isTerm g0 p1 (fun x1 => ((x1 = 0 → (X "java/lang/IllegalArgumentException" g0)) ∧ (¬ x1 = 0 → (gK g0 p0 = 11 ∧ (∃ y5, gR g0 p0 1 = some y5 ∧ (gK g0 y5 = 5 ∧ (w_X4_isMuted g0 y5 p1 (fun x8 => (∃ y10, gR g0 p0 1 = some y10 ∧ (gK g0 y10 = 5 ∧ (w_X4_putMute g0 y10 p1 p2 (fun g14 => ((x8 = 0 ∨ x8 = 1) ∧ (Q x8 g14))))))))))))))
abbrev r_X10_setMute : Room := { frames := 6, cells := 1, slots := 6, locals := 82 }
set_option maxHeartbeats 4000000 in
set_option maxRecDepth 100000 in
theorem c_X10_setMute {l : Launch} {D : va_G} {cA : Nat → ClassId} {sz : Nat} {g0 : gS} {p0 : Nat} {p1 : Int32} {p2 : Int32} {Q : Int32 → gS → Prop} {X : String → gS → Prop} (hflags : l.stackTraces = false) (h : w_X10_setMute g0 p0 p1 p2 Q X) : vx_Met l yX10_setMute wsX10_setMute r_X10_setMute (va_Pc [.ref p0, .int p1, .int p2] (gPre D cA g0 sz)) (gQi D cA g0 sz (Q)) (gQx D cA g0 sz (X)) 1 6 (gA g0 sz) := by
  refine g_xmet (cc := cX10_setMute) (maxL := 4) (ret := (some .boolean)) (own := RX10) (by decide) rfl rfl (Nat.le_of_ble_eq_true rfl) ?_
  intro p e s m args below meth c ls CF hr hlk hnm hxt hc hl
  obtain ⟨hx, hb, hml, hown, hts⟩ := id CF
  have hl : lv_has ls 4 [(0, .ref p0), (1, .int p1), (2, .int p2)] := hl
  show W p l e r_X10_setMute s m args below meth c s.heap [] 0 0 (vx_MQ below (gQi D cA g0 sz (Q)) (gQx D cA g0 sz (X)) args s 1 6 (gA g0 sz)) (F0 m 0 ls [])
  unfold w_X10_setMute at h
  obtain ⟨H, hH0⟩ : ∃ z, z = s.heap := ⟨_, rfl⟩
  rw [← hH0] at hc ⊢
  obtain ⟨locs, hlc0⟩ : ∃ z : List Loc, z = [] := ⟨_, rfl⟩
  rw [← hlc0] at hc ⊢
  refine lv_iload_n hx hb dX10_setMute_0 rfl (lv_at hl 1 rfl) ?_
  refine g_calli (va_runS (As := [.int p1]) (rest := []) CF (c_X10_isTerm h) (va_cwS 1 hts gX10_setMute_X10_isTerm rfl rfl rfl (by decide +kernel) ⟨Nat.le_of_ble_eq_true rfl, Nat.le_of_ble_eq_true rfl⟩) hc.preS rfl rfl hl.1 rfl (lv_room (Nat.le_of_ble_eq_true rfl)) dX10_setMute_1 ⟨Nat.le_of_ble_eq_true rfl, Nat.le_of_ble_eq_true rfl⟩) hc (fun x1 gq2 H locs hq hc => ?_)
  obtain ⟨rfl, h⟩ := hq
  refine lv_if_ne (tgt := 17) hx hb dX10_setMute_4 (by decide) (fun c3 => ?_) (fun c3 => ?_)
  · have h := h.2 c3
    refine lv_aload_n hx hb dX10_setMute_17 rfl (lv_at hl 0 rfl) ?_
    obtain ⟨hk4, h⟩ := h
    obtain ⟨y5, e6, h⟩ := h
    refine g_getr CF hc hk4 rfl (by decide) (fun _ h9 => List.mem_cons_of_mem _ (List.mem_append_left _ (List.mem_append_left _ (List.mem_append_right _ (h9))))) (k := 1) (by decide) (List.mem_cons_of_mem _ (List.mem_append_left _ (List.mem_append_left _ (List.mem_append_left _ (List.mem_of_getElem? (i := 2) rfl))))) e6 rfl dX10_setMute_18 ?_
    refine lv_iload_n hx hb dX10_setMute_21 rfl (lv_at hl 1 rfl) ?_
    obtain ⟨hk7, h⟩ := h
    refine g_calli (va_runV (As := [.int p1]) (rest := []) CF (c_X4_isMuted h) (cwV 1 hts gX10_setMute_X4_isMuted rfl rfl rfl (by decide +kernel) ⟨Nat.le_of_ble_eq_true rfl, Nat.le_of_ble_eq_true rfl⟩) (hc.preV hk7 rfl (by decide)) rfl rfl hl.1 rfl (lv_room (Nat.le_of_ble_eq_true rfl)) dX10_setMute_22 ⟨Nat.le_of_ble_eq_true rfl, Nat.le_of_ble_eq_true rfl⟩) hc (fun x8 gq9 H locs hq hc => ?_)
    obtain ⟨rfl, h⟩ := hq
    refine lv_istore_n (lv' := [(3, .int x8), (0, .ref p0), (1, .int p1), (2, .int p2)]) hx hb dX10_setMute_25 rfl hl (by decide) rfl (fun ls hl => ?_)
    refine lv_aload_n hx hb dX10_setMute_26 rfl (lv_at hl 1 rfl) ?_
    obtain ⟨y10, e11, h⟩ := h
    refine g_getr CF hc hk4 rfl (by decide) (fun _ h9 => List.mem_cons_of_mem _ (List.mem_append_left _ (List.mem_append_left _ (List.mem_append_right _ (h9))))) (k := 1) (by decide) (List.mem_cons_of_mem _ (List.mem_append_left _ (List.mem_append_left _ (List.mem_append_left _ (List.mem_of_getElem? (i := 2) rfl))))) e11 rfl dX10_setMute_27 ?_
    refine lv_iload_n hx hb dX10_setMute_30 rfl (lv_at hl 2 rfl) ?_
    refine lv_iload_n hx hb dX10_setMute_31 rfl (lv_at hl 3 rfl) ?_
    obtain ⟨hk12, h⟩ := h
    refine g_callv (va_runV (As := [.int p1, .int p2]) (rest := []) CF (c_X4_putMute h) (cwV 2 hts gX10_setMute_X4_putMute rfl rfl rfl (by decide +kernel) ⟨Nat.le_of_ble_eq_true rfl, Nat.le_of_ble_eq_true rfl⟩) (hc.preV hk12 rfl (by decide)) rfl rfl hl.1 rfl (lv_room (Nat.le_of_ble_eq_true rfl)) dX10_setMute_32 ⟨Nat.le_of_ble_eq_true rfl, Nat.le_of_ble_eq_true rfl⟩) hc (fun g14 H locs hq hc => ?_)
    replace h := hq
    refine lv_iload_n hx hb dX10_setMute_35 rfl (lv_at hl 0 rfl) ?_
    refine W.widen (k := 1) (n := 6) (Nat.le_of_ble_eq_true rfl) (Nat.le_of_ble_eq_true rfl) ?_
    obtain ⟨hz16, h⟩ := h
    refine vx_ret ?_
    exact g_reti (r := x8) CF hr hlk hc (narrow_01 hz16) h dX10_setMute_36
  · have h := h.1 c3
    exact g_throwS CF hflags hc (cls := "java/lang/IllegalArgumentException") (text := "there is no such term") (names := ["java/lang/RuntimeException", "java/lang/Exception"]) (ik := 85) (is := 160) (ic := 89) (by decide) (by decide) (List.mem_cons_of_mem _ (List.mem_append_left _ (List.mem_append_left _ (List.mem_append_left _ (List.mem_of_getElem? (i := 0) rfl))))) (List.mem_cons_of_mem _ (List.mem_append_left _ (List.mem_append_left _ (List.mem_append_left _ (List.mem_of_getElem? (i := 1) rfl))))) (by decide +kernel) (fun _ h9 => List.mem_cons_of_mem _ (List.mem_append_right _ (h9))) ex_89_2 ex_ot ex_85_89_3 hl.1 dX10_setMute_7 dX10_setMute_10 dX10_setMute_11 dX10_setMute_13 dX10_setMute_16 hxt (Nat.le_of_ble_eq_true rfl) (Nat.le_of_ble_eq_true rfl) (Nat.le_of_ble_eq_true rfl) (Nat.le_of_ble_eq_true rfl) hlk h (Nat.le_of_ble_eq_true rfl) (Nat.le_of_ble_eq_true rfl)
def b_X10_setAlias_24 (g : gS) (Q : Int32 → gS → Prop) (X : String → gS → Prop) : Prop :=
  X "java/lang/IllegalArgumentException" g
def b_X10_setAlias_19 (g : gS) (r0 : Nat) (i1 : Int32) (i2 : Int32) (Q : Int32 → gS → Prop) (X : String → gS → Prop) : Prop :=
  (i2 = i1 → (b_X10_setAlias_24 g Q X)) ∧ (¬ i2 = i1 → (gK g r0 = 11 ∧ (∃ y3, gR g r0 1 = some y3 ∧ (gK g y3 = 5 ∧ (w_X4_aliasOf g y3 i1 (fun x6 => (∃ y8, gR g r0 1 = some y8 ∧ (gK g y8 = 5 ∧ (w_X4_putAlias g y8 i1 i2 (fun g12 => (Q x6 g12)))))))))))
def w_X10_setAlias (g0 : gS) (p0 : Nat) (p1 : Int32) (p2 : Int32) (Q : Int32 → gS → Prop) (X : String → gS → Prop) : Prop :=
  w_X10_isTerm g0 p1 (fun x14 => ((x14 = 0 → (b_X10_setAlias_24 g0 Q X)) ∧ (¬ x14 = 0 → ((p2 = (-1) → (b_X10_setAlias_19 g0 p0 p1 p2 Q X)) ∧ (¬ p2 = (-1) → (w_X10_isTerm g0 p2 (fun x18 => ((x18 = 0 → (b_X10_setAlias_24 g0 Q X)) ∧ (¬ x18 = 0 → (b_X10_setAlias_19 g0 p0 p1 p2 Q X))))))))))
abbrev r_X10_setAlias : Room := { frames := 6, cells := 1, slots := 6, locals := 82 }
set_option maxHeartbeats 4000000 in
set_option maxRecDepth 100000 in
theorem c_X10_setAlias {l : Launch} {D : va_G} {cA : Nat → ClassId} {sz : Nat} {g0 : gS} {p0 : Nat} {p1 : Int32} {p2 : Int32} {Q : Int32 → gS → Prop} {X : String → gS → Prop} (hflags : l.stackTraces = false) (h : w_X10_setAlias g0 p0 p1 p2 Q X) : vx_Met l yX10_setAlias wsX10_setAlias r_X10_setAlias (va_Pc [.ref p0, .int p1, .int p2] (gPre D cA g0 sz)) (gQi D cA g0 sz (Q)) (gQx D cA g0 sz (X)) 1 6 (gA g0 sz) := by
  refine g_xmet (cc := cX10_setAlias) (maxL := 4) (ret := (some .int)) (own := RX10) (by decide) rfl rfl (Nat.le_of_ble_eq_true rfl) ?_
  intro p e s m args below meth c ls CF hr hlk hnm hxt hc hl
  obtain ⟨hx, hb, hml, hown, hts⟩ := id CF
  have hl : lv_has ls 4 [(0, .ref p0), (1, .int p1), (2, .int p2)] := hl
  show W p l e r_X10_setAlias s m args below meth c s.heap [] 0 0 (vx_MQ below (gQi D cA g0 sz (Q)) (gQx D cA g0 sz (X)) args s 1 6 (gA g0 sz)) (F0 m 0 ls [])
  have hb_24 : ∀ (g : gS), b_X10_setAlias_24 g Q X → ∀ (H : Heap) (locs : List Loc) (ls : Array Slot), gC D cA (gA g0 sz) s g H locs → lv_has ls 4 [] → W p l e r_X10_setAlias s m args below meth c H locs 0 0 (vx_MQ below (gQi D cA g0 sz (Q)) (gQx D cA g0 sz (X)) args s 1 6 (gA g0 sz)) (F0 m 24 ls []) := by
    intro g h H locs ls hc hl
    unfold b_X10_setAlias_24 at h
    exact g_throwS CF hflags hc (cls := "java/lang/IllegalArgumentException") (text := "there is no such term or alias") (names := ["java/lang/RuntimeException", "java/lang/Exception"]) (ik := 85) (is := 169) (ic := 89) (by decide) (by decide) (List.mem_cons_of_mem _ (List.mem_append_left _ (List.mem_append_left _ (List.mem_append_left _ (List.mem_of_getElem? (i := 0) rfl))))) (List.mem_cons_of_mem _ (List.mem_append_left _ (List.mem_append_left _ (List.mem_append_left _ (List.mem_of_getElem? (i := 1) rfl))))) (by decide +kernel) (fun _ h9 => List.mem_cons_of_mem _ (List.mem_append_right _ (h9))) ex_89_2 ex_ot ex_85_89_3 hl.1 dX10_setAlias_24 dX10_setAlias_27 dX10_setAlias_28 dX10_setAlias_30 dX10_setAlias_33 hxt (Nat.le_of_ble_eq_true rfl) (Nat.le_of_ble_eq_true rfl) (Nat.le_of_ble_eq_true rfl) (Nat.le_of_ble_eq_true rfl) hlk h (Nat.le_of_ble_eq_true rfl) (Nat.le_of_ble_eq_true rfl)
  have hb_19 : ∀ (g : gS) (r0 : Nat) (i1 : Int32) (i2 : Int32), b_X10_setAlias_19 g r0 i1 i2 Q X → ∀ (H : Heap) (locs : List Loc) (ls : Array Slot), gC D cA (gA g0 sz) s g H locs → lv_has ls 4 [(0, .ref r0), (1, .int i1), (2, .int i2)] → W p l e r_X10_setAlias s m args below meth c H locs 0 0 (vx_MQ below (gQi D cA g0 sz (Q)) (gQx D cA g0 sz (X)) args s 1 6 (gA g0 sz)) (F0 m 19 ls []) := by
    intro g r0 i1 i2 h H locs ls hc hl
    unfold b_X10_setAlias_19 at h
    refine lv_iload_n hx hb dX10_setAlias_19 rfl (lv_at hl 2 rfl) ?_
    refine lv_iload_n hx hb dX10_setAlias_20 rfl (lv_at hl 1 rfl) ?_
    refine lv_icmp_ne (tgt := 34) hx hb dX10_setAlias_21 (by decide) (fun c1 => ?_) (fun c1 => ?_)
    · have h := h.2 c1
      refine lv_aload_n hx hb dX10_setAlias_34 rfl (lv_at hl 0 rfl) ?_
      obtain ⟨hk2, h⟩ := h
      obtain ⟨y3, e4, h⟩ := h
      refine g_getr CF hc hk2 rfl (by decide) (fun _ h9 => List.mem_cons_of_mem _ (List.mem_append_left _ (List.mem_append_left _ (List.mem_append_right _ (h9))))) (k := 1) (by decide) (List.mem_cons_of_mem _ (List.mem_append_left _ (List.mem_append_left _ (List.mem_append_left _ (List.mem_of_getElem? (i := 2) rfl))))) e4 rfl dX10_setAlias_35 ?_
      refine lv_iload_n hx hb dX10_setAlias_38 rfl (lv_at hl 1 rfl) ?_
      obtain ⟨hk5, h⟩ := h
      refine g_calli (va_runV (As := [.int i1]) (rest := []) CF (c_X4_aliasOf h) (cwV 1 hts gX10_setAlias_X4_aliasOf rfl rfl rfl (by decide +kernel) ⟨Nat.le_of_ble_eq_true rfl, Nat.le_of_ble_eq_true rfl⟩) (hc.preV hk5 rfl (by decide)) rfl rfl hl.1 rfl (lv_room (Nat.le_of_ble_eq_true rfl)) dX10_setAlias_39 ⟨Nat.le_of_ble_eq_true rfl, Nat.le_of_ble_eq_true rfl⟩) hc (fun x6 gq7 H locs hq hc => ?_)
      obtain ⟨rfl, h⟩ := hq
      refine lv_istore_n (lv' := [(3, .int x6), (0, .ref r0), (1, .int i1), (2, .int i2)]) hx hb dX10_setAlias_42 rfl hl (by decide) rfl (fun ls hl => ?_)
      refine lv_aload_n hx hb dX10_setAlias_43 rfl (lv_at hl 1 rfl) ?_
      obtain ⟨y8, e9, h⟩ := h
      refine g_getr CF hc hk2 rfl (by decide) (fun _ h9 => List.mem_cons_of_mem _ (List.mem_append_left _ (List.mem_append_left _ (List.mem_append_right _ (h9))))) (k := 1) (by decide) (List.mem_cons_of_mem _ (List.mem_append_left _ (List.mem_append_left _ (List.mem_append_left _ (List.mem_of_getElem? (i := 2) rfl))))) e9 rfl dX10_setAlias_44 ?_
      refine lv_iload_n hx hb dX10_setAlias_47 rfl (lv_at hl 2 rfl) ?_
      refine lv_iload_n hx hb dX10_setAlias_48 rfl (lv_at hl 3 rfl) ?_
      obtain ⟨hk10, h⟩ := h
      refine g_callv (va_runV (As := [.int i1, .int i2]) (rest := []) CF (c_X4_putAlias h) (cwV 2 hts gX10_setAlias_X4_putAlias rfl rfl rfl (by decide +kernel) ⟨Nat.le_of_ble_eq_true rfl, Nat.le_of_ble_eq_true rfl⟩) (hc.preV hk10 rfl (by decide)) rfl rfl hl.1 rfl (lv_room (Nat.le_of_ble_eq_true rfl)) dX10_setAlias_49 ⟨Nat.le_of_ble_eq_true rfl, Nat.le_of_ble_eq_true rfl⟩) hc (fun g12 H locs hq hc => ?_)
      replace h := hq
      refine lv_iload_n hx hb dX10_setAlias_52 rfl (lv_at hl 0 rfl) ?_
      refine W.widen (k := 1) (n := 6) (Nat.le_of_ble_eq_true rfl) (Nat.le_of_ble_eq_true rfl) ?_
      refine vx_ret ?_
      exact g_reti (r := x6) CF hr hlk hc rfl h dX10_setAlias_53
    · have h := h.1 c1
      exact hb_24 g h _ _ _ hc (lv_sub hl [] rfl)
  unfold w_X10_setAlias at h
  obtain ⟨H, hH0⟩ : ∃ z, z = s.heap := ⟨_, rfl⟩
  rw [← hH0] at hc ⊢
  obtain ⟨locs, hlc0⟩ : ∃ z : List Loc, z = [] := ⟨_, rfl⟩
  rw [← hlc0] at hc ⊢
  refine lv_iload_n hx hb dX10_setAlias_0 rfl (lv_at hl 1 rfl) ?_
  refine g_calli (va_runS (As := [.int p1]) (rest := []) CF (c_X10_isTerm h) (va_cwS 1 hts gX10_setAlias_X10_isTerm rfl rfl rfl (by decide +kernel) ⟨Nat.le_of_ble_eq_true rfl, Nat.le_of_ble_eq_true rfl⟩) hc.preS rfl rfl hl.1 rfl (lv_room (Nat.le_of_ble_eq_true rfl)) dX10_setAlias_1 ⟨Nat.le_of_ble_eq_true rfl, Nat.le_of_ble_eq_true rfl⟩) hc (fun x14 gq15 H locs hq hc => ?_)
  obtain ⟨rfl, h⟩ := hq
  refine lv_if_eq (tgt := 24) hx hb dX10_setAlias_4 (by decide) (fun c16 => ?_) (fun c16 => ?_)
  · have h := h.1 c16
    exact hb_24 g0 h _ _ _ hc (lv_sub hl [] rfl)
  · have h := h.2 c16
    refine lv_iload_n hx hb dX10_setAlias_7 rfl (lv_at hl 2 rfl) ?_
    refine lv_iconst (v := (-1)) hx hb dX10_setAlias_8 (by decide) ?_
    refine lv_icmp_eq (tgt := 19) hx hb dX10_setAlias_9 (by decide) (fun c17 => ?_) (fun c17 => ?_)
    · have h := h.1 c17
      exact hb_19 g0 p0 p1 p2 h _ _ _ hc (lv_sub hl [0, 1, 2] rfl)
    · have h := h.2 c17
      refine lv_iload_n hx hb dX10_setAlias_12 rfl (lv_at hl 2 rfl) ?_
      refine g_calli (va_runS (As := [.int p2]) (rest := []) CF (c_X10_isTerm h) (va_cwS 1 hts gX10_setAlias_X10_isTerm rfl rfl rfl (by decide +kernel) ⟨Nat.le_of_ble_eq_true rfl, Nat.le_of_ble_eq_true rfl⟩) hc.preS rfl rfl hl.1 rfl (lv_room (Nat.le_of_ble_eq_true rfl)) dX10_setAlias_13 ⟨Nat.le_of_ble_eq_true rfl, Nat.le_of_ble_eq_true rfl⟩) hc (fun x18 gq19 H locs hq hc => ?_)
      obtain ⟨rfl, h⟩ := hq
      refine lv_if_eq (tgt := 24) hx hb dX10_setAlias_16 (by decide) (fun c20 => ?_) (fun c20 => ?_)
      · have h := h.1 c20
        exact hb_24 g0 h _ _ _ hc (lv_sub hl [] rfl)
      · have h := h.2 c20
        exact hb_19 g0 p0 p1 p2 h _ _ _ hc (lv_sub hl [0, 1, 2] rfl)
