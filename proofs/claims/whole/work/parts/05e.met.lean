def b_X8_termValue_174 (g : gS) (is0 : Int32) (Q : Int32 → Prop) : Prop :=
  Q is0
def b_X8_termValue_157 (g : gS) (r0 : Nat) (r1 : Nat) (o2 : Option Nat) (i3 : Int32) (i4 : Int32) (i5 : Int32) (i6 : Int32) (i7 : Int32) (Q : Int32 → Prop) (k52 : Int32 → Int32 → Int32 → Prop) : Prop :=
  k52 i5 i6 (i7 + 1)
def b_X8_termValue_120 (g : gS) (r0 : Nat) (r1 : Nat) (o2 : Option Nat) (i3 : Int32) (i4 : Int32) (i6 : Int32) (i7 : Int32) (r8 : Nat) (i9 : Int32) (i10 : Int32) (is0 : Int32) (Q : Int32 → Prop) (k52 : Int32 → Int32 → Int32 → Prop) : Prop :=
  gK g r8 = 10 ∧ (gK g r0 = 9 ∧ (w_X8_taste g r0 i3 i9 (gI g r8 3) i7 (fun x3 => (w_X8_taste g r0 i4 i10 (gI g r8 3) i7 (fun x5 => (b_X8_termValue_157 g r0 r1 o2 i3 i4 is0 (i6 + (x3 + x5)) i7 Q k52))))))
def b_X8_termValue_115 (g : gS) (r0 : Nat) (r1 : Nat) (o2 : Option Nat) (i3 : Int32) (i4 : Int32) (i6 : Int32) (i7 : Int32) (r8 : Nat) (i9 : Int32) (i10 : Int32) (Q : Int32 → Prop) (k52 : Int32 → Int32 → Int32 → Prop) : Prop :=
  b_X8_termValue_120 g r0 r1 o2 i3 i4 i6 i7 r8 i9 i10 1 Q k52
def l_X8_termValue_52 (g : gS) (r0 : Nat) (r1 : Nat) (o2 : Option Nat) (i3 : Int32) (i4 : Int32) (Q : Int32 → Prop) (i5 : Int32) (i6 : Int32) (i7 : Int32) (k52 : Int32 → Int32 → Int32 → Prop) : Prop :=
  (3 ≤ i7 → ((i5 = 0 → (b_X8_termValue_174 g (-1) Q)) ∧ (¬ i5 = 0 → (b_X8_termValue_174 g i6 Q)))) ∧ (¬ 3 ≤ i7 → (∃ y9, o2 = some y9 ∧ (gK g y9 = 3 ∧ (w_X2_rowOf g y9 i7 (fun o13 => ((o13 = none → (b_X8_termValue_157 g r0 r1 (some y9) i3 i4 i5 i6 i7 Q k52)) ∧ (∀ y15, o13 = some y15 → (gK g r1 = 6 ∧ (w_X5_isFor g r1 i7 (fun x18 => ((x18 = 0 → (b_X8_termValue_157 g r0 r1 (some y9) i3 i4 i5 i6 i7 Q k52)) ∧ (¬ x18 = 0 → (gK g y15 = 10 ∧ (w_X9_countOf g y15 i3 (fun x22 => (w_X9_countOf g y15 i4 (fun x24 => ((i5 = 0 → ((0 < x22 → (b_X8_termValue_115 g r0 r1 (some y9) i3 i4 i6 i7 y15 x22 x24 Q k52)) ∧ (¬ 0 < x22 → ((x24 ≤ 0 → (b_X8_termValue_120 g r0 r1 (some y9) i3 i4 i6 i7 y15 x22 x24 0 Q k52)) ∧ (¬ x24 ≤ 0 → (b_X8_termValue_115 g r0 r1 (some y9) i3 i4 i6 i7 y15 x22 x24 Q k52)))))) ∧ (¬ i5 = 0 → (b_X8_termValue_115 g r0 r1 (some y9) i3 i4 i6 i7 y15 x22 x24 Q k52))))))))))))))))))))
def b_X8_termValue_41 (g : gS) (r0 : Nat) (r1 : Nat) (o2 : Option Nat) (i3 : Int32) (is0 : Int32) (Q : Int32 → Prop) : Prop :=
  lpx3 (l_X8_termValue_52 g r0 r1 o2 i3 is0 Q) 0 0 0
def w_X8_termValue (g : gS) (p0 : Nat) (p1 : Nat) (p2 : Option Nat) (Q : Int32 → Prop) : Prop :=
  gK g p0 = 9 ∧ (∃ y31, gR g p0 1 = some y31 ∧ (gK g p1 = 6 ∧ (gK g y31 = 5 ∧ (w_X4_unmuted g y31 (gI g p1 1) (fun x35 => (((gI g p0 3) = 0 → (b_X8_termValue_41 g p0 p1 p2 x35 (-1) Q)) ∧ (¬ (gI g p0 3) = 0 → (∃ y38, gR g p0 1 = some y38 ∧ (∃ y40, gR g p0 1 = some y40 ∧ (gK g y40 = 5 ∧ (w_X4_aliasOf g y40 (gI g p1 1) (fun x43 => (gK g y38 = 5 ∧ (w_X4_unmuted g y38 x43 (fun x46 => (b_X8_termValue_41 g p0 p1 p2 x35 x46 Q))))))))))))))))
abbrev r_X8_termValue : Room := { frames := 2, cells := 0, slots := 0, locals := 52 }
set_option maxHeartbeats 4000000 in
set_option maxRecDepth 100000 in
theorem c_X8_termValue {l : Launch} {D : va_G} {cA : Nat → ClassId} {sz : Nat} {g : gS} {p0 : Nat} {p1 : Nat} {p2 : Option Nat} {Q : Int32 → Prop} (h : w_X8_termValue g p0 p1 p2 Q) : Met l yX8_termValue wsX8_termValue r_X8_termValue (va_Pc [.ref p0, .ref p1, va_rf p2] (gPre D cA g sz)) (gQi D cA g sz (fun r g2 => g = g2 ∧ Q r)) 0 0 (gA g sz) := by
  refine g_met (cc := cX8_termValue) (maxL := 11) (ret := (some .int)) (own := RX8) (by decide) rfl rfl (by cases p2 <;> exact Nat.le_of_ble_eq_true rfl) ?_
  intro p e s m args below meth c ls CF hr hlk hnm hc hl
  obtain ⟨hx, hb, hml, hown, hts⟩ := id CF
  have hl : lv_has ls 11 [(0, .ref p0), (1, .ref p1), (2, va_rf p2)] := (by cases p2 <;> exact hl)
  show W p l e r_X8_termValue s m args below meth c s.heap [] 0 0 (MQ below (gQi D cA g sz (fun r g2 => g = g2 ∧ Q r)) args s 0 0 (gA g sz)) (F0 m 0 ls [])
  have hb_174 : ∀ (is0 : Int32), b_X8_termValue_174 g is0 Q → ∀ (H : Heap) (locs : List Loc) (ls : Array Slot), gC D cA (gA g sz) s g H locs → lv_has ls 11 [] → W p l e r_X8_termValue s m args below meth c H locs 0 0 (MQ below (gQi D cA g sz (fun r g2 => g = g2 ∧ Q r)) args s 0 0 (gA g sz)) (F0 m 174 ls [.int is0]) := by
    intro is0 h H locs ls hc hl
    unfold b_X8_termValue_174 at h
    exact g_reti (r := is0) CF hr hlk hc rfl ⟨rfl, h⟩ dX8_termValue_174
  have hb_52 : ∀ (r0 : Nat) (r1 : Nat) (o2 : Option Nat) (i3 : Int32) (i4 : Int32), ∀ (i5 : Int32) (i6 : Int32) (i7 : Int32), lpx3 (l_X8_termValue_52 g r0 r1 o2 i3 i4 Q) i5 i6 i7 → ∀ (H : Heap) (locs : List Loc) (ls : Array Slot), gC D cA (gA g sz) s g H locs → lv_has ls 11 [(0, .ref r0), (1, .ref r1), (2, va_rf o2), (3, .int i3), (4, .int i4), (5, .int i5), (6, .int i6), (7, .int i7)] → W p l e r_X8_termValue s m args below meth c H locs 0 0 (MQ below (gQi D cA g sz (fun r g2 => g = g2 ∧ Q r)) args s 0 0 (gA g sz)) (F0 m 52 ls []) := by
    intro r0 r1 o2 i3 i4
    refine lpx3_run (P := fun (i5 : Int32) (i6 : Int32) (i7 : Int32) => ∀ (H : Heap) (locs : List Loc) (ls : Array Slot), gC D cA (gA g sz) s g H locs → lv_has ls 11 [(0, .ref r0), (1, .ref r1), (2, va_rf o2), (3, .int i3), (4, .int i4), (5, .int i5), (6, .int i6), (7, .int i7)] → W p l e r_X8_termValue s m args below meth c H locs 0 0 (MQ below (gQi D cA g sz (fun r g2 => g = g2 ∧ Q r)) args s 0 0 (gA g sz)) (F0 m 52 ls [])) ?_
    intro k52 hk_52 i5 i6 i7 h H locs ls hc hl
    have hb_157 : ∀ (i5 : Int32) (i6 : Int32) (i7 : Int32), b_X8_termValue_157 g r0 r1 o2 i3 i4 i5 i6 i7 Q k52 → ∀ (H : Heap) (locs : List Loc) (ls : Array Slot), gC D cA (gA g sz) s g H locs → lv_has ls 11 [(0, .ref r0), (1, .ref r1), (2, va_rf o2), (3, .int i3), (4, .int i4), (5, .int i5), (6, .int i6), (7, .int i7)] → W p l e r_X8_termValue s m args below meth c H locs 0 0 (MQ below (gQi D cA g sz (fun r g2 => g = g2 ∧ Q r)) args s 0 0 (gA g sz)) (F0 m 157 ls []) := by
      intro i5 i6 i7 h H locs ls hc hl
      unfold b_X8_termValue_157 at h
      refine lv_iinc (v := (i7 + 1)) (lv' := [(7, .int (i7 + 1)), (0, .ref r0), (1, .ref r1), (2, va_rf o2), (3, .int i3), (4, .int i4), (5, .int i5), (6, .int i6)]) hx hb dX8_termValue_157 hl (k := 7) rfl rfl (by decide) rfl (fun ls hl => ?_)
      refine lv_goto (tgt := 52) hx hb dX8_termValue_160 (by decide) ?_
      exact hk_52 i5 i6 (i7 + 1) h _ _ _ hc (lv_sub hl [1, 2, 3, 4, 5, 6, 7, 0] rfl)
    have hb_120 : ∀ (i6 : Int32) (i7 : Int32) (r8 : Nat) (i9 : Int32) (i10 : Int32) (is0 : Int32), b_X8_termValue_120 g r0 r1 o2 i3 i4 i6 i7 r8 i9 i10 is0 Q k52 → ∀ (H : Heap) (locs : List Loc) (ls : Array Slot), gC D cA (gA g sz) s g H locs → lv_has ls 11 [(0, .ref r0), (1, .ref r1), (2, va_rf o2), (3, .int i3), (4, .int i4), (6, .int i6), (7, .int i7), (8, .ref r8), (9, .int i9), (10, .int i10)] → W p l e r_X8_termValue s m args below meth c H locs 0 0 (MQ below (gQi D cA g sz (fun r g2 => g = g2 ∧ Q r)) args s 0 0 (gA g sz)) (F0 m 120 ls [.int is0]) := by
      intro i6 i7 r8 i9 i10 is0 h H locs ls hc hl
      unfold b_X8_termValue_120 at h
      refine lv_istore (lv' := [(5, .int is0), (0, .ref r0), (1, .ref r1), (2, va_rf o2), (3, .int i3), (4, .int i4), (6, .int i6), (7, .int i7), (8, .ref r8), (9, .int i9), (10, .int i10)]) hx hb dX8_termValue_120 hl (by decide) rfl (fun ls hl => ?_)
      refine lv_iload hx hb dX8_termValue_122 (lv_at hl 6 rfl) ?_
      refine lv_aload_n hx hb dX8_termValue_124 rfl (lv_at hl 1 rfl) ?_
      refine lv_iload_n hx hb dX8_termValue_125 rfl (lv_at hl 4 rfl) ?_
      refine lv_iload hx hb dX8_termValue_126 (lv_at hl 9 rfl) ?_
      refine lv_aload hx hb dX8_termValue_128 (lv_at hl 8 rfl) ?_
      obtain ⟨hk1, h⟩ := h
      refine g_get CF hc hk1 rfl (by decide) (fun _ h9 => List.mem_cons_of_mem _ (List.mem_append_left _ (List.mem_append_left _ (List.mem_append_left _ (List.mem_append_right _ (h9)))))) (k := 3) (by decide) (List.mem_cons_of_mem _ (List.mem_append_left _ (List.mem_append_left _ (List.mem_append_left _ (List.mem_append_left _ (List.mem_append_left _ (List.mem_append_left _ (List.mem_append_left _ (List.mem_of_getElem? (i := 3) rfl))))))))) rfl dX8_termValue_130 ?_
      refine lv_iload hx hb dX8_termValue_133 (lv_at hl 7 rfl) ?_
      obtain ⟨hk2, h⟩ := h
      refine g_calli (va_runV (As := [.int i3, .int i9, .int (gI g r8 3), .int i7]) (rest := [.int i6]) CF (c_X8_taste h) (cwV 4 hts gX8_termValue_X8_taste rfl rfl rfl (by decide +kernel) ⟨Nat.le_of_ble_eq_true rfl, Nat.le_of_ble_eq_true rfl⟩) (hc.preV hk2 rfl (by decide)) rfl rfl hl.1 rfl (lv_room (Nat.le_of_ble_eq_true rfl)) dX8_termValue_135 ⟨Nat.le_of_ble_eq_true rfl, Nat.le_of_ble_eq_true rfl⟩) hc (fun x3 gq4 H locs hq hc => ?_)
      obtain ⟨rfl, h⟩ := hq
      refine lv_aload_n hx hb dX8_termValue_138 rfl (lv_at hl 1 rfl) ?_
      refine lv_iload hx hb dX8_termValue_139 (lv_at hl 5 rfl) ?_
      refine lv_iload hx hb dX8_termValue_141 (lv_at hl 10 rfl) ?_
      refine lv_aload hx hb dX8_termValue_143 (lv_at hl 8 rfl) ?_
      refine g_get CF hc hk1 rfl (by decide) (fun _ h9 => List.mem_cons_of_mem _ (List.mem_append_left _ (List.mem_append_left _ (List.mem_append_left _ (List.mem_append_right _ (h9)))))) (k := 3) (by decide) (List.mem_cons_of_mem _ (List.mem_append_left _ (List.mem_append_left _ (List.mem_append_left _ (List.mem_append_left _ (List.mem_append_left _ (List.mem_append_left _ (List.mem_append_left _ (List.mem_of_getElem? (i := 3) rfl))))))))) rfl dX8_termValue_145 ?_
      refine lv_iload hx hb dX8_termValue_148 (lv_at hl 7 rfl) ?_
      refine g_calli (va_runV (As := [.int i4, .int i10, .int (gI g r8 3), .int i7]) (rest := [.int x3, .int i6]) CF (c_X8_taste h) (cwV 4 hts gX8_termValue_X8_taste rfl rfl rfl (by decide +kernel) ⟨Nat.le_of_ble_eq_true rfl, Nat.le_of_ble_eq_true rfl⟩) (hc.preV hk2 rfl (by decide)) rfl rfl hl.1 rfl (lv_room (Nat.le_of_ble_eq_true rfl)) dX8_termValue_150 ⟨Nat.le_of_ble_eq_true rfl, Nat.le_of_ble_eq_true rfl⟩) hc (fun x5 gq6 H locs hq hc => ?_)
      obtain ⟨rfl, h⟩ := hq
      refine lv_iadd hx hb dX8_termValue_153 ?_
      refine lv_iadd hx hb dX8_termValue_154 ?_
      refine lv_istore (lv' := [(6, .int (i6 + (x3 + x5))), (5, .int is0), (0, .ref r0), (1, .ref r1), (2, va_rf o2), (3, .int i3), (4, .int i4), (7, .int i7), (8, .ref r8), (9, .int i9), (10, .int i10)]) hx hb dX8_termValue_155 hl (by decide) rfl (fun ls hl => ?_)
      exact hb_157 is0 (i6 + (x3 + x5)) i7 h _ _ _ hc (lv_sub hl [2, 3, 4, 5, 6, 1, 0, 7] rfl)
    have hb_115 : ∀ (i6 : Int32) (i7 : Int32) (r8 : Nat) (i9 : Int32) (i10 : Int32), b_X8_termValue_115 g r0 r1 o2 i3 i4 i6 i7 r8 i9 i10 Q k52 → ∀ (H : Heap) (locs : List Loc) (ls : Array Slot), gC D cA (gA g sz) s g H locs → lv_has ls 11 [(0, .ref r0), (1, .ref r1), (2, va_rf o2), (3, .int i3), (4, .int i4), (6, .int i6), (7, .int i7), (8, .ref r8), (9, .int i9), (10, .int i10)] → W p l e r_X8_termValue s m args below meth c H locs 0 0 (MQ below (gQi D cA g sz (fun r g2 => g = g2 ∧ Q r)) args s 0 0 (gA g sz)) (F0 m 115 ls []) := by
      intro i6 i7 r8 i9 i10 h H locs ls hc hl
      unfold b_X8_termValue_115 at h
      refine lv_iconst (v := 1) hx hb dX8_termValue_115 (by decide) ?_
      refine lv_goto (tgt := 120) hx hb dX8_termValue_116 (by decide) ?_
      exact hb_120 i6 i7 r8 i9 i10 1 h _ _ _ hc (lv_sub hl [0, 1, 2, 3, 4, 5, 6, 7, 8, 9] rfl)
    unfold l_X8_termValue_52 at h
    refine lv_iload hx hb dX8_termValue_52 (lv_at hl 7 rfl) ?_
    refine lv_iconst (v := 3) hx hb dX8_termValue_54 (by decide) ?_
    refine lv_icmp_ge (tgt := 163) hx hb dX8_termValue_55 (by decide) (fun c7 => ?_) (fun c7 => ?_)
    · have h := h.1 c7
      refine lv_iload hx hb dX8_termValue_163 (lv_at hl 5 rfl) ?_
      refine lv_if_eq (tgt := 173) hx hb dX8_termValue_165 (by decide) (fun c8 => ?_) (fun c8 => ?_)
      · have h := h.1 c8
        refine lv_iconst (v := (-1)) hx hb dX8_termValue_173 (by decide) ?_
        exact hb_174 (-1) h _ _ _ hc (lv_sub hl [] rfl)
      · have h := h.2 c8
        refine lv_iload hx hb dX8_termValue_168 (lv_at hl 6 rfl) ?_
        refine lv_goto (tgt := 174) hx hb dX8_termValue_170 (by decide) ?_
        exact hb_174 i6 h _ _ _ hc (lv_sub hl [] rfl)
    · have h := h.2 c7
      refine g_aload_nq CF dX8_termValue_58 rfl (lv_at hl 2 rfl) ?_
      refine lv_iload hx hb dX8_termValue_59 (lv_at hl 7 rfl) ?_
      obtain ⟨y9, e10, hu11⟩ := h
      subst e10
      have h := hu11
      obtain ⟨hk12, h⟩ := h
      refine g_callq (va_runV (As := [.int i7]) (rest := []) CF (c_X2_rowOf h) (cwV 1 hts gX8_termValue_X2_rowOf rfl rfl rfl (by decide +kernel) ⟨Nat.le_of_ble_eq_true rfl, Nat.le_of_ble_eq_true rfl⟩) (hc.preV hk12 rfl (by decide)) rfl rfl hl.1 rfl (lv_room (Nat.le_of_ble_eq_true rfl)) dX8_termValue_61 ⟨Nat.le_of_ble_eq_true rfl, Nat.le_of_ble_eq_true rfl⟩) hc (fun o13 gq14 H locs hq hc => ?_)
      obtain ⟨rfl, h⟩ := hq
      refine g_astoreq (lv' := [(8, va_rf o13), (0, .ref r0), (1, .ref r1), (2, .ref y9), (3, .int i3), (4, .int i4), (5, .int i5), (6, .int i6), (7, .int i7)]) CF dX8_termValue_64 hl (by decide) rfl (fun ls hl => ?_)
      refine g_aloadq CF dX8_termValue_66 (lv_at hl 0 rfl) ?_
      refine g_ifnull (tgt := 157) CF dX8_termValue_68 (by decide) (fun e16 => ?_) (fun y15 e16 => ?_)
      · have hu29 := h.1 e16
        subst e16
        have h := hu29
        exact hb_157 i5 i6 i7 h _ _ _ hc (lv_sub hl [1, 2, 3, 4, 5, 6, 7, 8] rfl)
      · have hu29 := h.2 y15 e16
        subst e16
        have h := hu29
        refine lv_aload_n hx hb dX8_termValue_71 rfl (lv_at hl 2 rfl) ?_
        refine lv_iload hx hb dX8_termValue_72 (lv_at hl 8 rfl) ?_
        obtain ⟨hk17, h⟩ := h
        refine g_calli (va_runV (As := [.int i7]) (rest := []) CF (c_X5_isFor h) (cwV 1 hts gX8_termValue_X5_isFor rfl rfl rfl (by decide +kernel) ⟨Nat.le_of_ble_eq_true rfl, Nat.le_of_ble_eq_true rfl⟩) (hc.preV hk17 rfl (by decide)) rfl rfl hl.1 rfl (lv_room (Nat.le_of_ble_eq_true rfl)) dX8_termValue_74 ⟨Nat.le_of_ble_eq_true rfl, Nat.le_of_ble_eq_true rfl⟩) hc (fun x18 gq19 H locs hq hc => ?_)
        obtain ⟨rfl, h⟩ := hq
        refine lv_if_ne (tgt := 83) hx hb dX8_termValue_77 (by decide) (fun c20 => ?_) (fun c20 => ?_)
        · have h := h.2 c20
          refine lv_aload hx hb dX8_termValue_83 (lv_at hl 0 rfl) ?_
          refine lv_iload_n hx hb dX8_termValue_85 rfl (lv_at hl 4 rfl) ?_
          obtain ⟨hk21, h⟩ := h
          refine g_calli (va_runV (As := [.int i3]) (rest := []) CF (c_X9_countOf h) (cwV 1 hts gX8_termValue_X9_countOf rfl rfl rfl (by decide +kernel) ⟨Nat.le_of_ble_eq_true rfl, Nat.le_of_ble_eq_true rfl⟩) (hc.preV hk21 rfl (by decide)) rfl rfl hl.1 rfl (lv_room (Nat.le_of_ble_eq_true rfl)) dX8_termValue_86 ⟨Nat.le_of_ble_eq_true rfl, Nat.le_of_ble_eq_true rfl⟩) hc (fun x22 gq23 H locs hq hc => ?_)
          obtain ⟨rfl, h⟩ := hq
          refine lv_istore (lv' := [(9, .int x22), (8, .ref y15), (0, .ref r0), (1, .ref r1), (2, .ref y9), (3, .int i3), (4, .int i4), (5, .int i5), (6, .int i6), (7, .int i7)]) hx hb dX8_termValue_89 hl (by decide) rfl (fun ls hl => ?_)
          refine lv_aload hx hb dX8_termValue_91 (lv_at hl 1 rfl) ?_
          refine lv_iload hx hb dX8_termValue_93 (lv_at hl 6 rfl) ?_
          refine g_calli (va_runV (As := [.int i4]) (rest := []) CF (c_X9_countOf h) (cwV 1 hts gX8_termValue_X9_countOf rfl rfl rfl (by decide +kernel) ⟨Nat.le_of_ble_eq_true rfl, Nat.le_of_ble_eq_true rfl⟩) (hc.preV hk21 rfl (by decide)) rfl rfl hl.1 rfl (lv_room (Nat.le_of_ble_eq_true rfl)) dX8_termValue_95 ⟨Nat.le_of_ble_eq_true rfl, Nat.le_of_ble_eq_true rfl⟩) hc (fun x24 gq25 H locs hq hc => ?_)
          obtain ⟨rfl, h⟩ := hq
          refine lv_istore (lv' := [(10, .int x24), (9, .int x22), (8, .ref y15), (0, .ref r0), (1, .ref r1), (2, .ref y9), (3, .int i3), (4, .int i4), (5, .int i5), (6, .int i6), (7, .int i7)]) hx hb dX8_termValue_98 hl (by decide) rfl (fun ls hl => ?_)
          refine lv_iload hx hb dX8_termValue_100 (lv_at hl 8 rfl) ?_
          refine lv_if_ne (tgt := 115) hx hb dX8_termValue_102 (by decide) (fun c26 => ?_) (fun c26 => ?_)
          · have h := h.2 c26
            exact hb_115 i6 i7 y15 x22 x24 h _ _ _ hc (lv_sub hl [3, 4, 5, 6, 7, 9, 10, 2, 1, 0] rfl)
          · have h := h.1 c26
            refine lv_iload hx hb dX8_termValue_105 (lv_at hl 1 rfl) ?_
            refine lv_if_gt (tgt := 115) hx hb dX8_termValue_107 (by decide) (fun c27 => ?_) (fun c27 => ?_)
            · have h := h.1 c27
              exact hb_115 i6 i7 y15 x22 x24 h _ _ _ hc (lv_sub hl [3, 4, 5, 6, 7, 9, 10, 2, 1, 0] rfl)
            · have h := h.2 c27
              refine lv_iload hx hb dX8_termValue_110 (lv_at hl 0 rfl) ?_
              refine lv_if_le (tgt := 119) hx hb dX8_termValue_112 (by decide) (fun c28 => ?_) (fun c28 => ?_)
              · have h := h.1 c28
                refine lv_iconst (v := 0) hx hb dX8_termValue_119 (by decide) ?_
                exact hb_120 i6 i7 y15 x22 x24 0 h _ _ _ hc (lv_sub hl [3, 4, 5, 6, 7, 9, 10, 2, 1, 0] rfl)
              · have h := h.2 c28
                exact hb_115 i6 i7 y15 x22 x24 h _ _ _ hc (lv_sub hl [3, 4, 5, 6, 7, 9, 10, 2, 1, 0] rfl)
        · have h := h.1 c20
          refine lv_goto (tgt := 157) hx hb dX8_termValue_80 (by decide) ?_
          exact hb_157 i5 i6 i7 h _ _ _ hc (lv_sub hl [1, 2, 3, 4, 5, 6, 7, 8] rfl)
  have hb_41 : ∀ (r0 : Nat) (r1 : Nat) (o2 : Option Nat) (i3 : Int32) (is0 : Int32), b_X8_termValue_41 g r0 r1 o2 i3 is0 Q → ∀ (H : Heap) (locs : List Loc) (ls : Array Slot), gC D cA (gA g sz) s g H locs → lv_has ls 11 [(0, .ref r0), (1, .ref r1), (2, va_rf o2), (3, .int i3)] → W p l e r_X8_termValue s m args below meth c H locs 0 0 (MQ below (gQi D cA g sz (fun r g2 => g = g2 ∧ Q r)) args s 0 0 (gA g sz)) (F0 m 41 ls [.int is0]) := by
    intro r0 r1 o2 i3 is0 h H locs ls hc hl
    unfold b_X8_termValue_41 at h
    refine lv_istore (lv' := [(4, .int is0), (0, .ref r0), (1, .ref r1), (2, va_rf o2), (3, .int i3)]) hx hb dX8_termValue_41 hl (by decide) rfl (fun ls hl => ?_)
    refine lv_iconst (v := 0) hx hb dX8_termValue_43 (by decide) ?_
    refine lv_istore (lv' := [(5, .int 0), (4, .int is0), (0, .ref r0), (1, .ref r1), (2, va_rf o2), (3, .int i3)]) hx hb dX8_termValue_44 hl (by decide) rfl (fun ls hl => ?_)
    refine lv_iconst (v := 0) hx hb dX8_termValue_46 (by decide) ?_
    refine lv_istore (lv' := [(6, .int 0), (5, .int 0), (4, .int is0), (0, .ref r0), (1, .ref r1), (2, va_rf o2), (3, .int i3)]) hx hb dX8_termValue_47 hl (by decide) rfl (fun ls hl => ?_)
    refine lv_iconst (v := 0) hx hb dX8_termValue_49 (by decide) ?_
    refine lv_istore (lv' := [(7, .int 0), (6, .int 0), (5, .int 0), (4, .int is0), (0, .ref r0), (1, .ref r1), (2, va_rf o2), (3, .int i3)]) hx hb dX8_termValue_50 hl (by decide) rfl (fun ls hl => ?_)
    exact hb_52 r0 r1 o2 i3 is0 0 0 0 h _ _ _ hc (lv_sub hl [4, 5, 6, 7, 3, 2, 1, 0] rfl)
  unfold w_X8_termValue at h
  obtain ⟨H, hH0⟩ : ∃ z, z = s.heap := ⟨_, rfl⟩
  rw [← hH0] at hc ⊢
  obtain ⟨locs, hlc0⟩ : ∃ z : List Loc, z = [] := ⟨_, rfl⟩
  rw [← hlc0] at hc ⊢
  refine lv_aload_n hx hb dX8_termValue_0 rfl (lv_at hl 0 rfl) ?_
  obtain ⟨hk30, h⟩ := h
  obtain ⟨y31, e32, h⟩ := h
  refine g_getr CF hc hk30 rfl (by decide) (fun _ h9 => List.mem_cons_of_mem _ (List.mem_append_left _ (List.mem_append_left _ (List.mem_append_left _ (List.mem_append_left _ (List.mem_append_left _ (List.mem_append_right _ (h9)))))))) (k := 1) (by decide) (List.mem_cons_of_mem _ (List.mem_append_left _ (List.mem_append_left _ (List.mem_append_left _ (List.mem_append_left _ (List.mem_append_left _ (List.mem_append_left _ (List.mem_append_left _ (List.mem_of_getElem? (i := 0) rfl))))))))) e32 rfl dX8_termValue_1 ?_
  refine lv_aload_n hx hb dX8_termValue_4 rfl (lv_at hl 1 rfl) ?_
  obtain ⟨hk33, h⟩ := h
  refine g_get CF hc hk33 rfl (by decide) (fun _ h9 => List.mem_cons_of_mem _ (List.mem_append_left _ (List.mem_append_left _ (List.mem_append_left _ (List.mem_append_left _ (List.mem_append_right _ (h9))))))) (k := 1) (by decide) (List.mem_cons_of_mem _ (List.mem_append_left _ (List.mem_append_left _ (List.mem_append_left _ (List.mem_append_left _ (List.mem_append_left _ (List.mem_append_left _ (List.mem_append_left _ (List.mem_of_getElem? (i := 1) rfl))))))))) rfl dX8_termValue_5 ?_
  obtain ⟨hk34, h⟩ := h
  refine g_calli (va_runV (As := [.int (gI g p1 1)]) (rest := []) CF (c_X4_unmuted h) (cwV 1 hts gX8_termValue_X4_unmuted rfl rfl rfl (by decide +kernel) ⟨Nat.le_of_ble_eq_true rfl, Nat.le_of_ble_eq_true rfl⟩) (hc.preV hk34 rfl (by decide)) rfl rfl hl.1 rfl (lv_room (Nat.le_of_ble_eq_true rfl)) dX8_termValue_8 ⟨Nat.le_of_ble_eq_true rfl, Nat.le_of_ble_eq_true rfl⟩) hc (fun x35 gq36 H locs hq hc => ?_)
  obtain ⟨rfl, h⟩ := hq
  refine lv_istore_n (lv' := [(3, .int x35), (0, .ref p0), (1, .ref p1), (2, va_rf p2)]) hx hb dX8_termValue_11 rfl hl (by decide) (by cases p2 <;> rfl) (fun ls hl => ?_)
  refine lv_aload_n hx hb dX8_termValue_12 rfl (lv_at hl 1 rfl) ?_
  refine g_get CF hc hk30 rfl (by decide) (fun _ h9 => List.mem_cons_of_mem _ (List.mem_append_left _ (List.mem_append_left _ (List.mem_append_left _ (List.mem_append_left _ (List.mem_append_left _ (List.mem_append_right _ (h9)))))))) (k := 3) (by decide) (List.mem_cons_of_mem _ (List.mem_append_left _ (List.mem_append_left _ (List.mem_append_left _ (List.mem_append_left _ (List.mem_append_left _ (List.mem_append_left _ (List.mem_append_left _ (List.mem_of_getElem? (i := 2) rfl))))))))) rfl dX8_termValue_13 ?_
  refine lv_if_eq (tgt := 40) hx hb dX8_termValue_16 (by decide) (fun c37 => ?_) (fun c37 => ?_)
  · have h := h.1 c37
    refine lv_iconst (v := (-1)) hx hb dX8_termValue_40 (by decide) ?_
    exact hb_41 p0 p1 p2 x35 (-1) h _ _ _ hc (lv_sub hl [1, 2, 3, 0] rfl)
  · have h := h.2 c37
    refine lv_aload_n hx hb dX8_termValue_19 rfl (lv_at hl 1 rfl) ?_
    obtain ⟨y38, e39, h⟩ := h
    refine g_getr CF hc hk30 rfl (by decide) (fun _ h9 => List.mem_cons_of_mem _ (List.mem_append_left _ (List.mem_append_left _ (List.mem_append_left _ (List.mem_append_left _ (List.mem_append_left _ (List.mem_append_right _ (h9)))))))) (k := 1) (by decide) (List.mem_cons_of_mem _ (List.mem_append_left _ (List.mem_append_left _ (List.mem_append_left _ (List.mem_append_left _ (List.mem_append_left _ (List.mem_append_left _ (List.mem_append_left _ (List.mem_of_getElem? (i := 0) rfl))))))))) e39 rfl dX8_termValue_20 ?_
    refine lv_aload_n hx hb dX8_termValue_23 rfl (lv_at hl 1 rfl) ?_
    obtain ⟨y40, e41, h⟩ := h
    refine g_getr CF hc hk30 rfl (by decide) (fun _ h9 => List.mem_cons_of_mem _ (List.mem_append_left _ (List.mem_append_left _ (List.mem_append_left _ (List.mem_append_left _ (List.mem_append_left _ (List.mem_append_right _ (h9)))))))) (k := 1) (by decide) (List.mem_cons_of_mem _ (List.mem_append_left _ (List.mem_append_left _ (List.mem_append_left _ (List.mem_append_left _ (List.mem_append_left _ (List.mem_append_left _ (List.mem_append_left _ (List.mem_of_getElem? (i := 0) rfl))))))))) e41 rfl dX8_termValue_24 ?_
    refine lv_aload_n hx hb dX8_termValue_27 rfl (lv_at hl 2 rfl) ?_
    refine g_get CF hc hk33 rfl (by decide) (fun _ h9 => List.mem_cons_of_mem _ (List.mem_append_left _ (List.mem_append_left _ (List.mem_append_left _ (List.mem_append_left _ (List.mem_append_right _ (h9))))))) (k := 1) (by decide) (List.mem_cons_of_mem _ (List.mem_append_left _ (List.mem_append_left _ (List.mem_append_left _ (List.mem_append_left _ (List.mem_append_left _ (List.mem_append_left _ (List.mem_append_left _ (List.mem_of_getElem? (i := 1) rfl))))))))) rfl dX8_termValue_28 ?_
    obtain ⟨hk42, h⟩ := h
    refine g_calli (va_runV (As := [.int (gI g p1 1)]) (rest := [.ref y38]) CF (c_X4_aliasOf h) (cwV 1 hts gX8_termValue_X4_aliasOf rfl rfl rfl (by decide +kernel) ⟨Nat.le_of_ble_eq_true rfl, Nat.le_of_ble_eq_true rfl⟩) (hc.preV hk42 rfl (by decide)) rfl rfl hl.1 rfl (lv_room (Nat.le_of_ble_eq_true rfl)) dX8_termValue_31 ⟨Nat.le_of_ble_eq_true rfl, Nat.le_of_ble_eq_true rfl⟩) hc (fun x43 gq44 H locs hq hc => ?_)
    obtain ⟨rfl, h⟩ := hq
    obtain ⟨hk45, h⟩ := h
    refine g_calli (va_runV (As := [.int x43]) (rest := []) CF (c_X4_unmuted h) (cwV 1 hts gX8_termValue_X4_unmuted rfl rfl rfl (by decide +kernel) ⟨Nat.le_of_ble_eq_true rfl, Nat.le_of_ble_eq_true rfl⟩) (hc.preV hk45 rfl (by decide)) rfl rfl hl.1 rfl (lv_room (Nat.le_of_ble_eq_true rfl)) dX8_termValue_34 ⟨Nat.le_of_ble_eq_true rfl, Nat.le_of_ble_eq_true rfl⟩) hc (fun x46 gq47 H locs hq hc => ?_)
    obtain ⟨rfl, h⟩ := hq
    refine lv_goto (tgt := 41) hx hb dX8_termValue_37 (by decide) ?_
    exact hb_41 p0 p1 p2 x35 x46 h _ _ _ hc (lv_sub hl [1, 2, 3, 0] rfl)
def b_X8_valueAt_23 (g : gS) (is0 : Int32) (Q : Int32 → Prop) : Prop :=
  Q is0
def b_X8_valueAt_13 (g : gS) (Q : Int32 → Prop) : Prop :=
  b_X8_valueAt_23 g (-1) Q
def w_X8_valueAt (g : gS) (p0 : Nat) (p1 : Int32) (Q : Int32 → Prop) : Prop :=
  (p1 < 0 → (b_X8_valueAt_13 g Q)) ∧ (¬ p1 < 0 → (gK g p0 = 9 ∧ (∃ y3, gR g p0 4 = some y3 ∧ (gK g y3 = 21 ∧ ((p1 < (nI (gN g y3)) → (∃ y7, gR g p0 4 = some y7 ∧ (gK g y7 = 21 ∧ (vp_in p1 (gN g y7) ∧ (b_X8_valueAt_23 g (gI g y7 (Int32.toNatClampNeg p1)) Q))))) ∧ (¬ p1 < (nI (gN g y3)) → (b_X8_valueAt_13 g Q)))))))
abbrev r_X8_valueAt : Room := { frames := 0, cells := 0, slots := 0, locals := 0 }
set_option maxHeartbeats 4000000 in
set_option maxRecDepth 100000 in
theorem c_X8_valueAt {l : Launch} {D : va_G} {cA : Nat → ClassId} {sz : Nat} {g : gS} {p0 : Nat} {p1 : Int32} {Q : Int32 → Prop} (h : w_X8_valueAt g p0 p1 Q) : Met l yX8_valueAt wsX8_valueAt r_X8_valueAt (va_Pc [.ref p0, .int p1] (gPre D cA g sz)) (gQi D cA g sz (fun r g2 => g = g2 ∧ Q r)) 0 0 (gA g sz) := by
  refine g_met (cc := cX8_valueAt) (maxL := 2) (ret := (some .int)) (own := RX8) (by decide) rfl rfl (Nat.le_of_ble_eq_true rfl) ?_
  intro p e s m args below meth c ls CF hr hlk hnm hc hl
  obtain ⟨hx, hb, hml, hown, hts⟩ := id CF
  have hl : lv_has ls 2 [(0, .ref p0), (1, .int p1)] := hl
  show W p l e r_X8_valueAt s m args below meth c s.heap [] 0 0 (MQ below (gQi D cA g sz (fun r g2 => g = g2 ∧ Q r)) args s 0 0 (gA g sz)) (F0 m 0 ls [])
  have hb_23 : ∀ (is0 : Int32), b_X8_valueAt_23 g is0 Q → ∀ (H : Heap) (locs : List Loc) (ls : Array Slot), gC D cA (gA g sz) s g H locs → lv_has ls 2 [] → W p l e r_X8_valueAt s m args below meth c H locs 0 0 (MQ below (gQi D cA g sz (fun r g2 => g = g2 ∧ Q r)) args s 0 0 (gA g sz)) (F0 m 23 ls [.int is0]) := by
    intro is0 h H locs ls hc hl
    unfold b_X8_valueAt_23 at h
    exact g_reti (r := is0) CF hr hlk hc rfl ⟨rfl, h⟩ dX8_valueAt_23
  have hb_13 : b_X8_valueAt_13 g Q → ∀ (H : Heap) (locs : List Loc) (ls : Array Slot), gC D cA (gA g sz) s g H locs → lv_has ls 2 [] → W p l e r_X8_valueAt s m args below meth c H locs 0 0 (MQ below (gQi D cA g sz (fun r g2 => g = g2 ∧ Q r)) args s 0 0 (gA g sz)) (F0 m 13 ls []) := by
    intro h H locs ls hc hl
    unfold b_X8_valueAt_13 at h
    refine lv_iconst (v := (-1)) hx hb dX8_valueAt_13 (by decide) ?_
    refine lv_goto (tgt := 23) hx hb dX8_valueAt_14 (by decide) ?_
    exact hb_23 (-1) h _ _ _ hc (lv_sub hl [] rfl)
  unfold w_X8_valueAt at h
  obtain ⟨H, hH0⟩ : ∃ z, z = s.heap := ⟨_, rfl⟩
  rw [← hH0] at hc ⊢
  obtain ⟨locs, hlc0⟩ : ∃ z : List Loc, z = [] := ⟨_, rfl⟩
  rw [← hlc0] at hc ⊢
  refine lv_iload_n hx hb dX8_valueAt_0 rfl (lv_at hl 1 rfl) ?_
  refine lv_if_lt (tgt := 13) hx hb dX8_valueAt_1 (by decide) (fun c1 => ?_) (fun c1 => ?_)
  · have h := h.1 c1
    exact hb_13  h _ _ _ hc (lv_sub hl [] rfl)
  · have h := h.2 c1
    refine lv_iload_n hx hb dX8_valueAt_4 rfl (lv_at hl 1 rfl) ?_
    refine lv_aload_n hx hb dX8_valueAt_5 rfl (lv_at hl 0 rfl) ?_
    obtain ⟨hk2, h⟩ := h
    obtain ⟨y3, e4, h⟩ := h
    refine g_getr CF hc hk2 rfl (by decide) (fun _ h9 => List.mem_cons_of_mem _ (List.mem_append_right _ (h9))) (k := 4) (by decide) (List.mem_cons_of_mem _ (List.mem_append_left _ (List.mem_of_getElem? (i := 0) rfl))) e4 rfl dX8_valueAt_6 ?_
    obtain ⟨hk5, h⟩ := h
    refine g_alen CF hc (j := 0) hk5 (by decide) dX8_valueAt_9 ?_
    refine lv_icmp_lt (tgt := 17) hx hb dX8_valueAt_10 (by decide) (fun c6 => ?_) (fun c6 => ?_)
    · have h := h.1 c6
      refine lv_aload_n hx hb dX8_valueAt_17 rfl (lv_at hl 0 rfl) ?_
      obtain ⟨y7, e8, h⟩ := h
      refine g_getr CF hc hk2 rfl (by decide) (fun _ h9 => List.mem_cons_of_mem _ (List.mem_append_right _ (h9))) (k := 4) (by decide) (List.mem_cons_of_mem _ (List.mem_append_left _ (List.mem_of_getElem? (i := 0) rfl))) e8 rfl dX8_valueAt_18 ?_
      refine lv_iload_n hx hb dX8_valueAt_21 rfl (lv_at hl 1 rfl) ?_
      obtain ⟨hk9, h⟩ := h
      obtain ⟨hi10, h⟩ := h
      refine g_iald CF hc hk9 hi10 dX8_valueAt_22 ?_
      exact hb_23 (gI g y7 (Int32.toNatClampNeg p1)) h _ _ _ hc (lv_sub hl [] rfl)
    · have h := h.2 c6
      exact hb_13  h _ _ _ hc (lv_sub hl [] rfl)
def b_X8_sumOfAtLeast_62 (g : gS) (is0 : Int32) (Q : Int32 → Prop) : Prop :=
  Q is0
def b_X8_sumOfAtLeast_45 (g : gS) (r0 : Nat) (r1 : Nat) (i2 : Int32) (i3 : Int32) (i4 : Int32) (i5 : Int32) (Q : Int32 → Prop) (k8 : Int32 → Int32 → Int32 → Prop) : Prop :=
  k8 i3 i4 (i5 + 1)
def l_X8_sumOfAtLeast_8 (g : gS) (r0 : Nat) (r1 : Nat) (i2 : Int32) (Q : Int32 → Prop) (i3 : Int32) (i4 : Int32) (i5 : Int32) (k8 : Int32 → Int32 → Int32 → Prop) : Prop :=
  gK g r1 = 6 ∧ (w_X5_partCount g r1 (fun x2 => ((x2 ≤ i5 → ((i3 < i2 → (b_X8_sumOfAtLeast_62 g (-1) Q)) ∧ (¬ i3 < i2 → (b_X8_sumOfAtLeast_62 g i4 Q)))) ∧ (¬ x2 ≤ i5 → (w_X5_partAt g r1 i5 (fun x6 => (gK g r0 = 9 ∧ (w_X8_valueAt g r0 x6 (fun x9 => ((x9 = (-1) → (b_X8_sumOfAtLeast_45 g r0 r1 i2 i3 i4 i5 Q k8)) ∧ (¬ x9 = (-1) → (b_X8_sumOfAtLeast_45 g r0 r1 i2 (i3 + 1) (i4 + x9) i5 Q k8))))))))))))
def w_X8_sumOfAtLeast (g : gS) (p0 : Nat) (p1 : Nat) (p2 : Int32) (Q : Int32 → Prop) : Prop :=
  lpx3 (l_X8_sumOfAtLeast_8 g p0 p1 p2 Q) 0 0 0
abbrev r_X8_sumOfAtLeast : Room := { frames := 1, cells := 0, slots := 0, locals := 21 }
set_option maxHeartbeats 4000000 in
set_option maxRecDepth 100000 in
theorem c_X8_sumOfAtLeast {l : Launch} {D : va_G} {cA : Nat → ClassId} {sz : Nat} {g : gS} {p0 : Nat} {p1 : Nat} {p2 : Int32} {Q : Int32 → Prop} (h : w_X8_sumOfAtLeast g p0 p1 p2 Q) : Met l yX8_sumOfAtLeast wsX8_sumOfAtLeast r_X8_sumOfAtLeast (va_Pc [.ref p0, .ref p1, .int p2] (gPre D cA g sz)) (gQi D cA g sz (fun r g2 => g = g2 ∧ Q r)) 0 0 (gA g sz) := by
  refine g_met (cc := cX8_sumOfAtLeast) (maxL := 7) (ret := (some .int)) (own := RX8) (by decide) rfl rfl (Nat.le_of_ble_eq_true rfl) ?_
  intro p e s m args below meth c ls CF hr hlk hnm hc hl
  obtain ⟨hx, hb, hml, hown, hts⟩ := id CF
  have hl : lv_has ls 7 [(0, .ref p0), (1, .ref p1), (2, .int p2)] := hl
  show W p l e r_X8_sumOfAtLeast s m args below meth c s.heap [] 0 0 (MQ below (gQi D cA g sz (fun r g2 => g = g2 ∧ Q r)) args s 0 0 (gA g sz)) (F0 m 0 ls [])
  have hb_62 : ∀ (is0 : Int32), b_X8_sumOfAtLeast_62 g is0 Q → ∀ (H : Heap) (locs : List Loc) (ls : Array Slot), gC D cA (gA g sz) s g H locs → lv_has ls 7 [] → W p l e r_X8_sumOfAtLeast s m args below meth c H locs 0 0 (MQ below (gQi D cA g sz (fun r g2 => g = g2 ∧ Q r)) args s 0 0 (gA g sz)) (F0 m 62 ls [.int is0]) := by
    intro is0 h H locs ls hc hl
    unfold b_X8_sumOfAtLeast_62 at h
    exact g_reti (r := is0) CF hr hlk hc rfl ⟨rfl, h⟩ dX8_sumOfAtLeast_62
  have hb_8 : ∀ (r0 : Nat) (r1 : Nat) (i2 : Int32), ∀ (i3 : Int32) (i4 : Int32) (i5 : Int32), lpx3 (l_X8_sumOfAtLeast_8 g r0 r1 i2 Q) i3 i4 i5 → ∀ (H : Heap) (locs : List Loc) (ls : Array Slot), gC D cA (gA g sz) s g H locs → lv_has ls 7 [(0, .ref r0), (1, .ref r1), (2, .int i2), (3, .int i3), (4, .int i4), (5, .int i5)] → W p l e r_X8_sumOfAtLeast s m args below meth c H locs 0 0 (MQ below (gQi D cA g sz (fun r g2 => g = g2 ∧ Q r)) args s 0 0 (gA g sz)) (F0 m 8 ls []) := by
    intro r0 r1 i2
    refine lpx3_run (P := fun (i3 : Int32) (i4 : Int32) (i5 : Int32) => ∀ (H : Heap) (locs : List Loc) (ls : Array Slot), gC D cA (gA g sz) s g H locs → lv_has ls 7 [(0, .ref r0), (1, .ref r1), (2, .int i2), (3, .int i3), (4, .int i4), (5, .int i5)] → W p l e r_X8_sumOfAtLeast s m args below meth c H locs 0 0 (MQ below (gQi D cA g sz (fun r g2 => g = g2 ∧ Q r)) args s 0 0 (gA g sz)) (F0 m 8 ls [])) ?_
    intro k8 hk_8 i3 i4 i5 h H locs ls hc hl
    have hb_45 : ∀ (i3 : Int32) (i4 : Int32) (i5 : Int32), b_X8_sumOfAtLeast_45 g r0 r1 i2 i3 i4 i5 Q k8 → ∀ (H : Heap) (locs : List Loc) (ls : Array Slot), gC D cA (gA g sz) s g H locs → lv_has ls 7 [(0, .ref r0), (1, .ref r1), (2, .int i2), (3, .int i3), (4, .int i4), (5, .int i5)] → W p l e r_X8_sumOfAtLeast s m args below meth c H locs 0 0 (MQ below (gQi D cA g sz (fun r g2 => g = g2 ∧ Q r)) args s 0 0 (gA g sz)) (F0 m 45 ls []) := by
      intro i3 i4 i5 h H locs ls hc hl
      unfold b_X8_sumOfAtLeast_45 at h
      refine lv_iinc (v := (i5 + 1)) (lv' := [(5, .int (i5 + 1)), (0, .ref r0), (1, .ref r1), (2, .int i2), (3, .int i3), (4, .int i4)]) hx hb dX8_sumOfAtLeast_45 hl (k := 5) rfl rfl (by decide) rfl (fun ls hl => ?_)
      refine lv_goto (tgt := 8) hx hb dX8_sumOfAtLeast_48 (by decide) ?_
      exact hk_8 i3 i4 (i5 + 1) h _ _ _ hc (lv_sub hl [1, 2, 3, 4, 5, 0] rfl)
    unfold l_X8_sumOfAtLeast_8 at h
    refine lv_iload hx hb dX8_sumOfAtLeast_8 (lv_at hl 5 rfl) ?_
    refine lv_aload_n hx hb dX8_sumOfAtLeast_10 rfl (lv_at hl 1 rfl) ?_
    obtain ⟨hk1, h⟩ := h
    refine g_calli (va_runV (As := []) (rest := [.int i5]) CF (c_X5_partCount h) (cwV 0 hts gX8_sumOfAtLeast_X5_partCount rfl rfl rfl (by decide +kernel) ⟨Nat.le_of_ble_eq_true rfl, Nat.le_of_ble_eq_true rfl⟩) (hc.preV hk1 rfl (by decide)) rfl rfl hl.1 rfl (lv_room (Nat.le_of_ble_eq_true rfl)) dX8_sumOfAtLeast_11 ⟨Nat.le_of_ble_eq_true rfl, Nat.le_of_ble_eq_true rfl⟩) hc (fun x2 gq3 H locs hq hc => ?_)
    obtain ⟨rfl, h⟩ := hq
    refine lv_icmp_ge (tgt := 51) hx hb dX8_sumOfAtLeast_14 (by decide) (fun c4 => ?_) (fun c4 => ?_)
    · have h := h.1 c4
      refine lv_iload_n hx hb dX8_sumOfAtLeast_51 rfl (lv_at hl 3 rfl) ?_
      refine lv_iload_n hx hb dX8_sumOfAtLeast_52 rfl (lv_at hl 2 rfl) ?_
      refine lv_icmp_lt (tgt := 61) hx hb dX8_sumOfAtLeast_53 (by decide) (fun c5 => ?_) (fun c5 => ?_)
      · have h := h.1 c5
        refine lv_iconst (v := (-1)) hx hb dX8_sumOfAtLeast_61 (by decide) ?_
        exact hb_62 (-1) h _ _ _ hc (lv_sub hl [] rfl)
      · have h := h.2 c5
        refine lv_iload hx hb dX8_sumOfAtLeast_56 (lv_at hl 4 rfl) ?_
        refine lv_goto (tgt := 62) hx hb dX8_sumOfAtLeast_58 (by decide) ?_
        exact hb_62 i4 h _ _ _ hc (lv_sub hl [] rfl)
    · have h := h.2 c4
      refine lv_aload_n hx hb dX8_sumOfAtLeast_17 rfl (lv_at hl 0 rfl) ?_
      refine lv_aload_n hx hb dX8_sumOfAtLeast_18 rfl (lv_at hl 1 rfl) ?_
      refine lv_iload hx hb dX8_sumOfAtLeast_19 (lv_at hl 5 rfl) ?_
      refine g_calli (va_runV (As := [.int i5]) (rest := [.ref r0]) CF (c_X5_partAt h) (cwV 1 hts gX8_sumOfAtLeast_X5_partAt rfl rfl rfl (by decide +kernel) ⟨Nat.le_of_ble_eq_true rfl, Nat.le_of_ble_eq_true rfl⟩) (hc.preV hk1 rfl (by decide)) rfl rfl hl.1 rfl (lv_room (Nat.le_of_ble_eq_true rfl)) dX8_sumOfAtLeast_21 ⟨Nat.le_of_ble_eq_true rfl, Nat.le_of_ble_eq_true rfl⟩) hc (fun x6 gq7 H locs hq hc => ?_)
      obtain ⟨rfl, h⟩ := hq
      obtain ⟨hk8, h⟩ := h
      refine g_calli (va_runV (As := [.int x6]) (rest := []) CF (c_X8_valueAt h) (cwV 1 hts gX8_sumOfAtLeast_X8_valueAt rfl rfl rfl (by decide +kernel) ⟨Nat.le_of_ble_eq_true rfl, Nat.le_of_ble_eq_true rfl⟩) (hc.preV hk8 rfl (by decide)) rfl rfl hl.1 rfl (lv_room (Nat.le_of_ble_eq_true rfl)) dX8_sumOfAtLeast_24 ⟨Nat.le_of_ble_eq_true rfl, Nat.le_of_ble_eq_true rfl⟩) hc (fun x9 gq10 H locs hq hc => ?_)
      obtain ⟨rfl, h⟩ := hq
      refine lv_istore (lv' := [(6, .int x9), (0, .ref r0), (1, .ref r1), (2, .int i2), (3, .int i3), (4, .int i4), (5, .int i5)]) hx hb dX8_sumOfAtLeast_27 hl (by decide) rfl (fun ls hl => ?_)
      refine lv_iload hx hb dX8_sumOfAtLeast_29 (lv_at hl 0 rfl) ?_
      refine lv_iconst (v := (-1)) hx hb dX8_sumOfAtLeast_31 (by decide) ?_
      refine lv_icmp_eq (tgt := 45) hx hb dX8_sumOfAtLeast_32 (by decide) (fun c11 => ?_) (fun c11 => ?_)
      · have h := h.1 c11
        exact hb_45 i3 i4 i5 h _ _ _ hc (lv_sub hl [1, 2, 3, 4, 5, 6] rfl)
      · have h := h.2 c11
        refine lv_iinc (v := (i3 + 1)) (lv' := [(3, .int (i3 + 1)), (6, .int x9), (0, .ref r0), (1, .ref r1), (2, .int i2), (4, .int i4), (5, .int i5)]) hx hb dX8_sumOfAtLeast_35 hl (k := 4) rfl rfl (by decide) rfl (fun ls hl => ?_)
        refine lv_iload hx hb dX8_sumOfAtLeast_38 (lv_at hl 5 rfl) ?_
        refine lv_iload hx hb dX8_sumOfAtLeast_40 (lv_at hl 1 rfl) ?_
        refine lv_iadd hx hb dX8_sumOfAtLeast_42 ?_
        refine lv_istore (lv' := [(4, .int (i4 + x9)), (3, .int (i3 + 1)), (6, .int x9), (0, .ref r0), (1, .ref r1), (2, .int i2), (5, .int i5)]) hx hb dX8_sumOfAtLeast_43 hl (by decide) rfl (fun ls hl => ?_)
        exact hb_45 (i3 + 1) (i4 + x9) i5 h _ _ _ hc (lv_sub hl [3, 4, 5, 1, 0, 6] rfl)
  unfold w_X8_sumOfAtLeast at h
  obtain ⟨H, hH0⟩ : ∃ z, z = s.heap := ⟨_, rfl⟩
  rw [← hH0] at hc ⊢
  obtain ⟨locs, hlc0⟩ : ∃ z : List Loc, z = [] := ⟨_, rfl⟩
  rw [← hlc0] at hc ⊢
  refine lv_iconst (v := 0) hx hb dX8_sumOfAtLeast_0 (by decide) ?_
  refine lv_istore_n (lv' := [(3, .int 0), (0, .ref p0), (1, .ref p1), (2, .int p2)]) hx hb dX8_sumOfAtLeast_1 rfl hl (by decide) rfl (fun ls hl => ?_)
  refine lv_iconst (v := 0) hx hb dX8_sumOfAtLeast_2 (by decide) ?_
  refine lv_istore (lv' := [(4, .int 0), (3, .int 0), (0, .ref p0), (1, .ref p1), (2, .int p2)]) hx hb dX8_sumOfAtLeast_3 hl (by decide) rfl (fun ls hl => ?_)
  refine lv_iconst (v := 0) hx hb dX8_sumOfAtLeast_5 (by decide) ?_
  refine lv_istore (lv' := [(5, .int 0), (4, .int 0), (3, .int 0), (0, .ref p0), (1, .ref p1), (2, .int p2)]) hx hb dX8_sumOfAtLeast_6 hl (by decide) rfl (fun ls hl => ?_)
  exact hb_8 p0 p1 p2 0 0 0 h _ _ _ hc (lv_sub hl [3, 4, 5, 2, 1, 0] rfl)
def b_X8_isNearIn_90 (g : gS) (r0 : Nat) (r1 : Nat) (r2 : Nat) (i3 : Int32) (i4 : Int32) (i5 : Int32) (Q : Int32 → Prop) (k3 : Int32 → Prop) : Prop :=
  k3 (i5 + 1)
def b_X8_isNearIn_84 (g : gS) (r0 : Nat) (r1 : Nat) (r2 : Nat) (i3 : Int32) (i4 : Int32) (i5 : Int32) (i6 : Int32) (Q : Int32 → Prop) (k3 : Int32 → Prop) (k39 : Int32 → Prop) : Prop :=
  k39 (i6 + 1)
def l_X8_isNearIn_39 (g : gS) (r0 : Nat) (r1 : Nat) (r2 : Nat) (i3 : Int32) (i4 : Int32) (i5 : Int32) (Q : Int32 → Prop) (k3 : Int32 → Prop) (i6 : Int32) (k39 : Int32 → Prop) : Prop :=
  gK g r1 = 10 ∧ (((gI g r1 3) ≤ i6 → (b_X8_isNearIn_90 g r0 r1 r2 i3 i4 i5 Q k3)) ∧ (¬ (gI g r1 3) ≤ i6 → (gK g r2 = 6 ∧ (w_X5_isApartAsAsked g r2 (i6 - i5) (fun x4 => ((x4 = 0 → (b_X8_isNearIn_84 g r0 r1 r2 i3 i4 i5 i6 Q k3 k39)) ∧ (¬ x4 = 0 → (gK g r0 = 9 ∧ (∃ y8, gR g r0 1 = some y8 ∧ (w_X9_termOn g r1 i6 (fun x10 => (gK g y8 = 5 ∧ (w_X4_finds g y8 i4 x10 (gI g r0 3) (fun x13 => ((x13 = 0 → (b_X8_isNearIn_84 g r0 r1 r2 i3 i4 i5 i6 Q k3 k39)) ∧ (¬ x13 = 0 → (Q 1)))))))))))))))))
def l_X8_isNearIn_3 (g : gS) (r0 : Nat) (r1 : Nat) (r2 : Nat) (i3 : Int32) (i4 : Int32) (Q : Int32 → Prop) (i5 : Int32) (k3 : Int32 → Prop) : Prop :=
  gK g r1 = 10 ∧ (((gI g r1 3) ≤ i5 → (Q 0)) ∧ (¬ (gI g r1 3) ≤ i5 → (gK g r0 = 9 ∧ (∃ y19, gR g r0 1 = some y19 ∧ (w_X9_termOn g r1 i5 (fun x21 => (gK g y19 = 5 ∧ (w_X4_finds g y19 i3 x21 (gI g r0 3) (fun x24 => ((x24 = 0 → (b_X8_isNearIn_90 g r0 r1 r2 i3 i4 i5 Q k3)) ∧ (¬ x24 = 0 → (lpx1 (l_X8_isNearIn_39 g r0 r1 r2 i3 i4 i5 Q k3) 0))))))))))))
def w_X8_isNearIn (g : gS) (p0 : Nat) (p1 : Nat) (p2 : Nat) (p3 : Int32) (p4 : Int32) (Q : Int32 → Prop) : Prop :=
  lpx1 (l_X8_isNearIn_3 g p0 p1 p2 p3 p4 Q) 0
abbrev r_X8_isNearIn : Room := { frames := 1, cells := 0, slots := 0, locals := 23 }
set_option maxHeartbeats 4000000 in
set_option maxRecDepth 100000 in
theorem c_X8_isNearIn {l : Launch} {D : va_G} {cA : Nat → ClassId} {sz : Nat} {g : gS} {p0 : Nat} {p1 : Nat} {p2 : Nat} {p3 : Int32} {p4 : Int32} {Q : Int32 → Prop} (h : w_X8_isNearIn g p0 p1 p2 p3 p4 Q) : Met l yX8_isNearIn wsX8_isNearIn r_X8_isNearIn (va_Pc [.ref p0, .ref p1, .ref p2, .int p3, .int p4] (gPre D cA g sz)) (gQi D cA g sz (fun r g2 => g = g2 ∧ Q r)) 0 0 (gA g sz) := by
  refine g_met (cc := cX8_isNearIn) (maxL := 7) (ret := (some .boolean)) (own := RX8) (by decide) rfl rfl (Nat.le_of_ble_eq_true rfl) ?_
  intro p e s m args below meth c ls CF hr hlk hnm hc hl
  obtain ⟨hx, hb, hml, hown, hts⟩ := id CF
  have hl : lv_has ls 7 [(0, .ref p0), (1, .ref p1), (2, .ref p2), (3, .int p3), (4, .int p4)] := hl
  show W p l e r_X8_isNearIn s m args below meth c s.heap [] 0 0 (MQ below (gQi D cA g sz (fun r g2 => g = g2 ∧ Q r)) args s 0 0 (gA g sz)) (F0 m 0 ls [])
  have hb_3 : ∀ (r0 : Nat) (r1 : Nat) (r2 : Nat) (i3 : Int32) (i4 : Int32), ∀ (i5 : Int32), lpx1 (l_X8_isNearIn_3 g r0 r1 r2 i3 i4 Q) i5 → ∀ (H : Heap) (locs : List Loc) (ls : Array Slot), gC D cA (gA g sz) s g H locs → lv_has ls 7 [(0, .ref r0), (1, .ref r1), (2, .ref r2), (3, .int i3), (4, .int i4), (5, .int i5)] → W p l e r_X8_isNearIn s m args below meth c H locs 0 0 (MQ below (gQi D cA g sz (fun r g2 => g = g2 ∧ Q r)) args s 0 0 (gA g sz)) (F0 m 3 ls []) := by
    intro r0 r1 r2 i3 i4
    refine lpx1_run (P := fun (i5 : Int32) => ∀ (H : Heap) (locs : List Loc) (ls : Array Slot), gC D cA (gA g sz) s g H locs → lv_has ls 7 [(0, .ref r0), (1, .ref r1), (2, .ref r2), (3, .int i3), (4, .int i4), (5, .int i5)] → W p l e r_X8_isNearIn s m args below meth c H locs 0 0 (MQ below (gQi D cA g sz (fun r g2 => g = g2 ∧ Q r)) args s 0 0 (gA g sz)) (F0 m 3 ls [])) ?_
    intro k3 hk_3 i5 h H locs ls hc hl
    have hb_90 : ∀ (i5 : Int32), b_X8_isNearIn_90 g r0 r1 r2 i3 i4 i5 Q k3 → ∀ (H : Heap) (locs : List Loc) (ls : Array Slot), gC D cA (gA g sz) s g H locs → lv_has ls 7 [(0, .ref r0), (1, .ref r1), (2, .ref r2), (3, .int i3), (4, .int i4), (5, .int i5)] → W p l e r_X8_isNearIn s m args below meth c H locs 0 0 (MQ below (gQi D cA g sz (fun r g2 => g = g2 ∧ Q r)) args s 0 0 (gA g sz)) (F0 m 90 ls []) := by
      intro i5 h H locs ls hc hl
      unfold b_X8_isNearIn_90 at h
      refine lv_iinc (v := (i5 + 1)) (lv' := [(5, .int (i5 + 1)), (0, .ref r0), (1, .ref r1), (2, .ref r2), (3, .int i3), (4, .int i4)]) hx hb dX8_isNearIn_90 hl (k := 5) rfl rfl (by decide) rfl (fun ls hl => ?_)
      refine lv_goto (tgt := 3) hx hb dX8_isNearIn_93 (by decide) ?_
      exact hk_3 (i5 + 1) h _ _ _ hc (lv_sub hl [1, 2, 3, 4, 5, 0] rfl)
    have hb_39 : ∀ (i5 : Int32), ∀ (i6 : Int32), lpx1 (l_X8_isNearIn_39 g r0 r1 r2 i3 i4 i5 Q k3) i6 → ∀ (H : Heap) (locs : List Loc) (ls : Array Slot), gC D cA (gA g sz) s g H locs → lv_has ls 7 [(0, .ref r0), (1, .ref r1), (2, .ref r2), (3, .int i3), (4, .int i4), (5, .int i5), (6, .int i6)] → W p l e r_X8_isNearIn s m args below meth c H locs 0 0 (MQ below (gQi D cA g sz (fun r g2 => g = g2 ∧ Q r)) args s 0 0 (gA g sz)) (F0 m 39 ls []) := by
      intro i5
      refine lpx1_run (P := fun (i6 : Int32) => ∀ (H : Heap) (locs : List Loc) (ls : Array Slot), gC D cA (gA g sz) s g H locs → lv_has ls 7 [(0, .ref r0), (1, .ref r1), (2, .ref r2), (3, .int i3), (4, .int i4), (5, .int i5), (6, .int i6)] → W p l e r_X8_isNearIn s m args below meth c H locs 0 0 (MQ below (gQi D cA g sz (fun r g2 => g = g2 ∧ Q r)) args s 0 0 (gA g sz)) (F0 m 39 ls [])) ?_
      intro k39 hk_39 i6 h H locs ls hc hl
      have hb_84 : ∀ (i6 : Int32), b_X8_isNearIn_84 g r0 r1 r2 i3 i4 i5 i6 Q k3 k39 → ∀ (H : Heap) (locs : List Loc) (ls : Array Slot), gC D cA (gA g sz) s g H locs → lv_has ls 7 [(0, .ref r0), (1, .ref r1), (2, .ref r2), (3, .int i3), (4, .int i4), (5, .int i5), (6, .int i6)] → W p l e r_X8_isNearIn s m args below meth c H locs 0 0 (MQ below (gQi D cA g sz (fun r g2 => g = g2 ∧ Q r)) args s 0 0 (gA g sz)) (F0 m 84 ls []) := by
        intro i6 h H locs ls hc hl
        unfold b_X8_isNearIn_84 at h
        refine lv_iinc (v := (i6 + 1)) (lv' := [(6, .int (i6 + 1)), (0, .ref r0), (1, .ref r1), (2, .ref r2), (3, .int i3), (4, .int i4), (5, .int i5)]) hx hb dX8_isNearIn_84 hl (k := 6) rfl rfl (by decide) rfl (fun ls hl => ?_)
        refine lv_goto (tgt := 39) hx hb dX8_isNearIn_87 (by decide) ?_
        exact hk_39 (i6 + 1) h _ _ _ hc (lv_sub hl [1, 2, 3, 4, 5, 6, 0] rfl)
      unfold l_X8_isNearIn_39 at h
      refine lv_iload hx hb dX8_isNearIn_39 (lv_at hl 6 rfl) ?_
      refine lv_aload_n hx hb dX8_isNearIn_41 rfl (lv_at hl 1 rfl) ?_
      obtain ⟨hk1, h⟩ := h
      refine g_get CF hc hk1 rfl (by decide) (fun _ h9 => List.mem_cons_of_mem _ (List.mem_append_left _ (List.mem_append_left _ (List.mem_append_left _ (List.mem_append_right _ (h9)))))) (k := 3) (by decide) (List.mem_cons_of_mem _ (List.mem_append_left _ (List.mem_append_left _ (List.mem_append_left _ (List.mem_append_left _ (List.mem_of_getElem? (i := 0) rfl)))))) rfl dX8_isNearIn_42 ?_
      refine lv_icmp_ge (tgt := 90) hx hb dX8_isNearIn_45 (by decide) (fun c2 => ?_) (fun c2 => ?_)
      · have h := h.1 c2
        exact hb_90 i5 h _ _ _ hc (lv_sub hl [0, 1, 2, 3, 4, 5] rfl)
      · have h := h.2 c2
        refine lv_aload_n hx hb dX8_isNearIn_48 rfl (lv_at hl 2 rfl) ?_
        refine lv_iload hx hb dX8_isNearIn_49 (lv_at hl 6 rfl) ?_
        refine lv_iload hx hb dX8_isNearIn_51 (lv_at hl 5 rfl) ?_
        refine lv_isub hx hb dX8_isNearIn_53 ?_
        obtain ⟨hk3, h⟩ := h
        refine g_calli (va_runV (As := [.int (i6 - i5)]) (rest := []) CF (c_X5_isApartAsAsked h) (cwV 1 hts gX8_isNearIn_X5_isApartAsAsked rfl rfl rfl (by decide +kernel) ⟨Nat.le_of_ble_eq_true rfl, Nat.le_of_ble_eq_true rfl⟩) (hc.preV hk3 rfl (by decide)) rfl rfl hl.1 rfl (lv_room (Nat.le_of_ble_eq_true rfl)) dX8_isNearIn_54 ⟨Nat.le_of_ble_eq_true rfl, Nat.le_of_ble_eq_true rfl⟩) hc (fun x4 gq5 H locs hq hc => ?_)
        obtain ⟨rfl, h⟩ := hq
        refine lv_if_eq (tgt := 84) hx hb dX8_isNearIn_57 (by decide) (fun c6 => ?_) (fun c6 => ?_)
        · have h := h.1 c6
          exact hb_84 i6 h _ _ _ hc (lv_sub hl [0, 1, 2, 3, 4, 5, 6] rfl)
        · have h := h.2 c6
          refine lv_aload_n hx hb dX8_isNearIn_60 rfl (lv_at hl 0 rfl) ?_
          obtain ⟨hk7, h⟩ := h
          obtain ⟨y8, e9, h⟩ := h
          refine g_getr CF hc hk7 rfl (by decide) (fun _ h9 => List.mem_cons_of_mem _ (List.mem_append_left _ (List.mem_append_left _ (List.mem_append_right _ (h9))))) (k := 1) (by decide) (List.mem_cons_of_mem _ (List.mem_append_left _ (List.mem_append_left _ (List.mem_append_left _ (List.mem_append_left _ (List.mem_of_getElem? (i := 1) rfl)))))) e9 rfl dX8_isNearIn_61 ?_
          refine lv_iload hx hb dX8_isNearIn_64 (lv_at hl 4 rfl) ?_
          refine lv_aload_n hx hb dX8_isNearIn_66 rfl (lv_at hl 1 rfl) ?_
          refine lv_iload hx hb dX8_isNearIn_67 (lv_at hl 6 rfl) ?_
          refine g_calli (va_runV (As := [.int i6]) (rest := [.int i4, .ref y8]) CF (c_X9_termOn h) (cwV 1 hts gX8_isNearIn_X9_termOn rfl rfl rfl (by decide +kernel) ⟨Nat.le_of_ble_eq_true rfl, Nat.le_of_ble_eq_true rfl⟩) (hc.preV hk1 rfl (by decide)) rfl rfl hl.1 rfl (lv_room (Nat.le_of_ble_eq_true rfl)) dX8_isNearIn_69 ⟨Nat.le_of_ble_eq_true rfl, Nat.le_of_ble_eq_true rfl⟩) hc (fun x10 gq11 H locs hq hc => ?_)
          obtain ⟨rfl, h⟩ := hq
          refine lv_aload_n hx hb dX8_isNearIn_72 rfl (lv_at hl 0 rfl) ?_
          refine g_get CF hc hk7 rfl (by decide) (fun _ h9 => List.mem_cons_of_mem _ (List.mem_append_left _ (List.mem_append_left _ (List.mem_append_right _ (h9))))) (k := 3) (by decide) (List.mem_cons_of_mem _ (List.mem_append_left _ (List.mem_append_left _ (List.mem_append_left _ (List.mem_append_left _ (List.mem_of_getElem? (i := 2) rfl)))))) rfl dX8_isNearIn_73 ?_
          obtain ⟨hk12, h⟩ := h
          refine g_calli (va_runV (As := [.int i4, .int x10, .int (gI g r0 3)]) (rest := []) CF (c_X4_finds h) (cwV 3 hts gX8_isNearIn_X4_finds rfl rfl rfl (by decide +kernel) ⟨Nat.le_of_ble_eq_true rfl, Nat.le_of_ble_eq_true rfl⟩) (hc.preV hk12 rfl (by decide)) rfl rfl hl.1 rfl (lv_room (Nat.le_of_ble_eq_true rfl)) dX8_isNearIn_76 ⟨Nat.le_of_ble_eq_true rfl, Nat.le_of_ble_eq_true rfl⟩) hc (fun x13 gq14 H locs hq hc => ?_)
          obtain ⟨rfl, h⟩ := hq
          refine lv_if_eq (tgt := 84) hx hb dX8_isNearIn_79 (by decide) (fun c15 => ?_) (fun c15 => ?_)
          · have h := h.1 c15
            exact hb_84 i6 h _ _ _ hc (lv_sub hl [0, 1, 2, 3, 4, 5, 6] rfl)
          · have h := h.2 c15
            refine lv_iconst (v := 1) hx hb dX8_isNearIn_82 (by decide) ?_
            exact g_reti (r := 1) CF hr hlk hc (narrow_01 (by decide : (1 : Int32) = 0 ∨ (1 : Int32) = 1)) ⟨rfl, h⟩ dX8_isNearIn_83
    unfold l_X8_isNearIn_3 at h
    refine lv_iload hx hb dX8_isNearIn_3 (lv_at hl 5 rfl) ?_
    refine lv_aload_n hx hb dX8_isNearIn_5 rfl (lv_at hl 1 rfl) ?_
    obtain ⟨hk16, h⟩ := h
    refine g_get CF hc hk16 rfl (by decide) (fun _ h9 => List.mem_cons_of_mem _ (List.mem_append_left _ (List.mem_append_left _ (List.mem_append_left _ (List.mem_append_right _ (h9)))))) (k := 3) (by decide) (List.mem_cons_of_mem _ (List.mem_append_left _ (List.mem_append_left _ (List.mem_append_left _ (List.mem_append_left _ (List.mem_of_getElem? (i := 0) rfl)))))) rfl dX8_isNearIn_6 ?_
    refine lv_icmp_ge (tgt := 96) hx hb dX8_isNearIn_9 (by decide) (fun c17 => ?_) (fun c17 => ?_)
    · have h := h.1 c17
      refine lv_iconst (v := 0) hx hb dX8_isNearIn_96 (by decide) ?_
      exact g_reti (r := 0) CF hr hlk hc (narrow_01 (by decide : (0 : Int32) = 0 ∨ (0 : Int32) = 1)) ⟨rfl, h⟩ dX8_isNearIn_97
    · have h := h.2 c17
      refine lv_aload_n hx hb dX8_isNearIn_12 rfl (lv_at hl 0 rfl) ?_
      obtain ⟨hk18, h⟩ := h
      obtain ⟨y19, e20, h⟩ := h
      refine g_getr CF hc hk18 rfl (by decide) (fun _ h9 => List.mem_cons_of_mem _ (List.mem_append_left _ (List.mem_append_left _ (List.mem_append_right _ (h9))))) (k := 1) (by decide) (List.mem_cons_of_mem _ (List.mem_append_left _ (List.mem_append_left _ (List.mem_append_left _ (List.mem_append_left _ (List.mem_of_getElem? (i := 1) rfl)))))) e20 rfl dX8_isNearIn_13 ?_
      refine lv_iload_n hx hb dX8_isNearIn_16 rfl (lv_at hl 3 rfl) ?_
      refine lv_aload_n hx hb dX8_isNearIn_17 rfl (lv_at hl 1 rfl) ?_
      refine lv_iload hx hb dX8_isNearIn_18 (lv_at hl 5 rfl) ?_
      refine g_calli (va_runV (As := [.int i5]) (rest := [.int i3, .ref y19]) CF (c_X9_termOn h) (cwV 1 hts gX8_isNearIn_X9_termOn rfl rfl rfl (by decide +kernel) ⟨Nat.le_of_ble_eq_true rfl, Nat.le_of_ble_eq_true rfl⟩) (hc.preV hk16 rfl (by decide)) rfl rfl hl.1 rfl (lv_room (Nat.le_of_ble_eq_true rfl)) dX8_isNearIn_20 ⟨Nat.le_of_ble_eq_true rfl, Nat.le_of_ble_eq_true rfl⟩) hc (fun x21 gq22 H locs hq hc => ?_)
      obtain ⟨rfl, h⟩ := hq
      refine lv_aload_n hx hb dX8_isNearIn_23 rfl (lv_at hl 0 rfl) ?_
      refine g_get CF hc hk18 rfl (by decide) (fun _ h9 => List.mem_cons_of_mem _ (List.mem_append_left _ (List.mem_append_left _ (List.mem_append_right _ (h9))))) (k := 3) (by decide) (List.mem_cons_of_mem _ (List.mem_append_left _ (List.mem_append_left _ (List.mem_append_left _ (List.mem_append_left _ (List.mem_of_getElem? (i := 2) rfl)))))) rfl dX8_isNearIn_24 ?_
      obtain ⟨hk23, h⟩ := h
      refine g_calli (va_runV (As := [.int i3, .int x21, .int (gI g r0 3)]) (rest := []) CF (c_X4_finds h) (cwV 3 hts gX8_isNearIn_X4_finds rfl rfl rfl (by decide +kernel) ⟨Nat.le_of_ble_eq_true rfl, Nat.le_of_ble_eq_true rfl⟩) (hc.preV hk23 rfl (by decide)) rfl rfl hl.1 rfl (lv_room (Nat.le_of_ble_eq_true rfl)) dX8_isNearIn_27 ⟨Nat.le_of_ble_eq_true rfl, Nat.le_of_ble_eq_true rfl⟩) hc (fun x24 gq25 H locs hq hc => ?_)
      obtain ⟨rfl, h⟩ := hq
      refine lv_if_ne (tgt := 36) hx hb dX8_isNearIn_30 (by decide) (fun c26 => ?_) (fun c26 => ?_)
      · have h := h.2 c26
        refine lv_iconst (v := 0) hx hb dX8_isNearIn_36 (by decide) ?_
        refine lv_istore (lv' := [(6, .int 0), (0, .ref r0), (1, .ref r1), (2, .ref r2), (3, .int i3), (4, .int i4), (5, .int i5)]) hx hb dX8_isNearIn_37 hl (by decide) rfl (fun ls hl => ?_)
        exact hb_39 i5 0 h _ _ _ hc (lv_sub hl [1, 2, 3, 4, 5, 6, 0] rfl)
      · have h := h.1 c26
        refine lv_goto (tgt := 90) hx hb dX8_isNearIn_33 (by decide) ?_
        exact hb_90 i5 h _ _ _ hc (lv_sub hl [0, 1, 2, 3, 4, 5] rfl)
  unfold w_X8_isNearIn at h
  obtain ⟨H, hH0⟩ : ∃ z, z = s.heap := ⟨_, rfl⟩
  rw [← hH0] at hc ⊢
  obtain ⟨locs, hlc0⟩ : ∃ z : List Loc, z = [] := ⟨_, rfl⟩
  rw [← hlc0] at hc ⊢
  refine lv_iconst (v := 0) hx hb dX8_isNearIn_0 (by decide) ?_
  refine lv_istore (lv' := [(5, .int 0), (0, .ref p0), (1, .ref p1), (2, .ref p2), (3, .int p3), (4, .int p4)]) hx hb dX8_isNearIn_1 hl (by decide) rfl (fun ls hl => ?_)
  exact hb_3 p0 p1 p2 p3 p4 0 h _ _ _ hc (lv_sub hl [1, 2, 3, 4, 5, 0] rfl)
def b_X8_nearValue_151 (g : gS) (is0 : Int32) (Q : Int32 → Prop) : Prop :=
  Q is0
def b_X8_nearValue_128 (g : gS) (r0 : Nat) (r1 : Nat) (o2 : Option Nat) (r3 : Nat) (r4 : Nat) (i5 : Int32) (i6 : Int32) (i7 : Int32) (Q : Int32 → Prop) (k56 : Int32 → Int32 → Prop) : Prop :=
  k56 i6 (i7 + 1)
def b_X8_nearValue_94 (g : gS) (r0 : Nat) (r1 : Nat) (o2 : Option Nat) (r3 : Nat) (r4 : Nat) (i5 : Int32) (i6 : Int32) (i7 : Int32) (o8 : Option Nat) (is0 : Int32) (Q : Int32 → Prop) (k56 : Int32 → Int32 → Prop) : Prop :=
  (o8 = none → (b_X8_nearValue_128 g r0 r1 o2 r3 r4 i5 i6 i7 Q k56)) ∧ (∀ y1, o8 = some y1 → ((is0 = 0 → (b_X8_nearValue_128 g r0 r1 o2 r3 r4 i5 i6 i7 Q k56)) ∧ (¬ is0 = 0 → (gK g r3 = 6 ∧ (gK g r4 = 6 ∧ (gK g r0 = 9 ∧ (w_X8_isNearIn g r0 y1 r1 (gI g r3 1) (gI g r4 1) (fun x7 => ((x7 = 0 → (b_X8_nearValue_128 g r0 r1 o2 r3 r4 i5 i6 i7 Q k56)) ∧ (¬ x7 = 0 → (b_X8_nearValue_128 g r0 r1 o2 r3 r4 i5 (i6 + 1) i7 Q k56)))))))))))
def b_X8_nearValue_93 (g : gS) (r0 : Nat) (r1 : Nat) (o2 : Option Nat) (r3 : Nat) (r4 : Nat) (i5 : Int32) (i6 : Int32) (i7 : Int32) (o8 : Option Nat) (Q : Int32 → Prop) (k56 : Int32 → Int32 → Prop) : Prop :=
  b_X8_nearValue_94 g r0 r1 o2 r3 r4 i5 i6 i7 o8 0 Q k56
def l_X8_nearValue_56 (g : gS) (r0 : Nat) (r1 : Nat) (o2 : Option Nat) (r3 : Nat) (r4 : Nat) (i5 : Int32) (Q : Int32 → Prop) (i6 : Int32) (i7 : Int32) (k56 : Int32 → Int32 → Prop) : Prop :=
  (3 ≤ i7 → ((i6 = 0 → (b_X8_nearValue_151 g (-1) Q)) ∧ (¬ i6 = 0 → (b_X8_nearValue_151 g (i5 + (100 * i6)) Q)))) ∧ (¬ 3 ≤ i7 → (∃ y13, o2 = some y13 ∧ (gK g y13 = 3 ∧ (w_X2_rowOf g y13 i7 (fun o17 => (gK g r3 = 6 ∧ (w_X5_isFor g r3 i7 (fun x20 => ((x20 = 0 → (b_X8_nearValue_93 g r0 r1 (some y13) r3 r4 i5 i6 i7 o17 Q k56)) ∧ (¬ x20 = 0 → (gK g r4 = 6 ∧ (w_X5_isFor g r4 i7 (fun x24 => ((x24 = 0 → (b_X8_nearValue_93 g r0 r1 (some y13) r3 r4 i5 i6 i7 o17 Q k56)) ∧ (¬ x24 = 0 → (b_X8_nearValue_94 g r0 r1 (some y13) r3 r4 i5 i6 i7 o17 1 Q k56))))))))))))))))
def b_X8_nearValue_48 (g : gS) (Q : Int32 → Prop) : Prop :=
  Q (-1)
def w_X8_nearValue (g : gS) (p0 : Nat) (p1 : Nat) (p2 : Option Nat) (Q : Int32 → Prop) : Prop :=
  gK g p0 = 9 ∧ (∃ y28, gR g p0 0 = some y28 ∧ (gK g p1 = 6 ∧ (gK g y28 = 7 ∧ (w_X6_nodeAt g y28 (gI g p1 3) (fun o32 => (∃ y34, gR g p0 0 = some y34 ∧ (gK g y34 = 7 ∧ (w_X6_nodeAt g y34 (gI g p1 4) (fun o37 => (w_X8_sumOfAtLeast g p0 p1 2 (fun x39 => ((o32 = none → (b_X8_nearValue_48 g Q)) ∧ (∀ y41, o32 = some y41 → ((o37 = none → (b_X8_nearValue_48 g Q)) ∧ (∀ y43, o37 = some y43 → ((x39 = (-1) → (b_X8_nearValue_48 g Q)) ∧ (¬ x39 = (-1) → (lpx2 (l_X8_nearValue_56 g p0 p1 p2 y41 y43 x39 Q) 0 0))))))))))))))))))
abbrev r_X8_nearValue : Room := { frames := 2, cells := 0, slots := 0, locals := 49 }
set_option maxHeartbeats 4000000 in
set_option maxRecDepth 100000 in
theorem c_X8_nearValue {l : Launch} {D : va_G} {cA : Nat → ClassId} {sz : Nat} {g : gS} {p0 : Nat} {p1 : Nat} {p2 : Option Nat} {Q : Int32 → Prop} (h : w_X8_nearValue g p0 p1 p2 Q) : Met l yX8_nearValue wsX8_nearValue r_X8_nearValue (va_Pc [.ref p0, .ref p1, va_rf p2] (gPre D cA g sz)) (gQi D cA g sz (fun r g2 => g = g2 ∧ Q r)) 0 0 (gA g sz) := by
  refine g_met (cc := cX8_nearValue) (maxL := 10) (ret := (some .int)) (own := RX8) (by decide) rfl rfl (by cases p2 <;> exact Nat.le_of_ble_eq_true rfl) ?_
  intro p e s m args below meth c ls CF hr hlk hnm hc hl
  obtain ⟨hx, hb, hml, hown, hts⟩ := id CF
  have hl : lv_has ls 10 [(0, .ref p0), (1, .ref p1), (2, va_rf p2)] := (by cases p2 <;> exact hl)
  show W p l e r_X8_nearValue s m args below meth c s.heap [] 0 0 (MQ below (gQi D cA g sz (fun r g2 => g = g2 ∧ Q r)) args s 0 0 (gA g sz)) (F0 m 0 ls [])
  have hb_151 : ∀ (is0 : Int32), b_X8_nearValue_151 g is0 Q → ∀ (H : Heap) (locs : List Loc) (ls : Array Slot), gC D cA (gA g sz) s g H locs → lv_has ls 10 [] → W p l e r_X8_nearValue s m args below meth c H locs 0 0 (MQ below (gQi D cA g sz (fun r g2 => g = g2 ∧ Q r)) args s 0 0 (gA g sz)) (F0 m 151 ls [.int is0]) := by
    intro is0 h H locs ls hc hl
    unfold b_X8_nearValue_151 at h
    exact g_reti (r := is0) CF hr hlk hc rfl ⟨rfl, h⟩ dX8_nearValue_151
  have hb_56 : ∀ (r0 : Nat) (r1 : Nat) (o2 : Option Nat) (r3 : Nat) (r4 : Nat) (i5 : Int32), ∀ (i6 : Int32) (i7 : Int32), lpx2 (l_X8_nearValue_56 g r0 r1 o2 r3 r4 i5 Q) i6 i7 → ∀ (H : Heap) (locs : List Loc) (ls : Array Slot), gC D cA (gA g sz) s g H locs → lv_has ls 10 [(0, .ref r0), (1, .ref r1), (2, va_rf o2), (3, .ref r3), (4, .ref r4), (5, .int i5), (6, .int i6), (7, .int i7)] → W p l e r_X8_nearValue s m args below meth c H locs 0 0 (MQ below (gQi D cA g sz (fun r g2 => g = g2 ∧ Q r)) args s 0 0 (gA g sz)) (F0 m 56 ls []) := by
    intro r0 r1 o2 r3 r4 i5
    refine lpx2_run (P := fun (i6 : Int32) (i7 : Int32) => ∀ (H : Heap) (locs : List Loc) (ls : Array Slot), gC D cA (gA g sz) s g H locs → lv_has ls 10 [(0, .ref r0), (1, .ref r1), (2, va_rf o2), (3, .ref r3), (4, .ref r4), (5, .int i5), (6, .int i6), (7, .int i7)] → W p l e r_X8_nearValue s m args below meth c H locs 0 0 (MQ below (gQi D cA g sz (fun r g2 => g = g2 ∧ Q r)) args s 0 0 (gA g sz)) (F0 m 56 ls [])) ?_
    intro k56 hk_56 i6 i7 h H locs ls hc hl
    have hb_128 : ∀ (i6 : Int32) (i7 : Int32), b_X8_nearValue_128 g r0 r1 o2 r3 r4 i5 i6 i7 Q k56 → ∀ (H : Heap) (locs : List Loc) (ls : Array Slot), gC D cA (gA g sz) s g H locs → lv_has ls 10 [(0, .ref r0), (1, .ref r1), (2, va_rf o2), (3, .ref r3), (4, .ref r4), (5, .int i5), (6, .int i6), (7, .int i7)] → W p l e r_X8_nearValue s m args below meth c H locs 0 0 (MQ below (gQi D cA g sz (fun r g2 => g = g2 ∧ Q r)) args s 0 0 (gA g sz)) (F0 m 128 ls []) := by
      intro i6 i7 h H locs ls hc hl
      unfold b_X8_nearValue_128 at h
      refine lv_iinc (v := (i7 + 1)) (lv' := [(7, .int (i7 + 1)), (0, .ref r0), (1, .ref r1), (2, va_rf o2), (3, .ref r3), (4, .ref r4), (5, .int i5), (6, .int i6)]) hx hb dX8_nearValue_128 hl (k := 7) rfl rfl (by decide) rfl (fun ls hl => ?_)
      refine lv_goto (tgt := 56) hx hb dX8_nearValue_131 (by decide) ?_
      exact hk_56 i6 (i7 + 1) h _ _ _ hc (lv_sub hl [1, 2, 3, 4, 5, 6, 7, 0] rfl)
    have hb_94 : ∀ (i6 : Int32) (i7 : Int32) (o8 : Option Nat) (is0 : Int32), b_X8_nearValue_94 g r0 r1 o2 r3 r4 i5 i6 i7 o8 is0 Q k56 → ∀ (H : Heap) (locs : List Loc) (ls : Array Slot), gC D cA (gA g sz) s g H locs → lv_has ls 10 [(0, .ref r0), (1, .ref r1), (2, va_rf o2), (3, .ref r3), (4, .ref r4), (5, .int i5), (6, .int i6), (7, .int i7), (8, va_rf o8)] → W p l e r_X8_nearValue s m args below meth c H locs 0 0 (MQ below (gQi D cA g sz (fun r g2 => g = g2 ∧ Q r)) args s 0 0 (gA g sz)) (F0 m 94 ls [.int is0]) := by
      intro i6 i7 o8 is0 h H locs ls hc hl
      unfold b_X8_nearValue_94 at h
      refine lv_istore (lv' := [(9, .int is0), (0, .ref r0), (1, .ref r1), (2, va_rf o2), (3, .ref r3), (4, .ref r4), (5, .int i5), (6, .int i6), (7, .int i7), (8, va_rf o8)]) hx hb dX8_nearValue_94 hl (by decide) (by cases o8 <;> rfl) (fun ls hl => ?_)
      refine g_aloadq CF dX8_nearValue_96 (lv_at hl 9 rfl) ?_
      refine g_ifnull (tgt := 128) CF dX8_nearValue_98 (by decide) (fun e2 => ?_) (fun y1 e2 => ?_)
      · have hu10 := h.1 e2
        subst e2
        have h := hu10
        exact hb_128 i6 i7 h _ _ _ hc (lv_sub hl [1, 2, 3, 4, 5, 6, 7, 8] rfl)
      · have hu10 := h.2 y1 e2
        subst e2
        have h := hu10
        refine lv_iload hx hb dX8_nearValue_101 (lv_at hl 0 rfl) ?_
        refine lv_if_eq (tgt := 128) hx hb dX8_nearValue_103 (by decide) (fun c3 => ?_) (fun c3 => ?_)
        · have h := h.1 c3
          exact hb_128 i6 i7 h _ _ _ hc (lv_sub hl [1, 2, 3, 4, 5, 6, 7, 8] rfl)
        · have h := h.2 c3
          refine lv_aload_n hx hb dX8_nearValue_106 rfl (lv_at hl 1 rfl) ?_
          refine lv_aload hx hb dX8_nearValue_107 (lv_at hl 9 rfl) ?_
          refine lv_aload_n hx hb dX8_nearValue_109 rfl (lv_at hl 2 rfl) ?_
          refine lv_aload_n hx hb dX8_nearValue_110 rfl (lv_at hl 4 rfl) ?_
          obtain ⟨hk4, h⟩ := h
          refine g_get CF hc hk4 rfl (by decide) (fun _ h9 => List.mem_cons_of_mem _ (List.mem_append_left _ (List.mem_append_left _ (List.mem_append_left _ (List.mem_append_left _ (List.mem_append_right _ (h9))))))) (k := 1) (by decide) (List.mem_cons_of_mem _ (List.mem_append_left _ (List.mem_append_left _ (List.mem_append_left _ (List.mem_append_left _ (List.mem_append_left _ (List.mem_append_left _ (List.mem_append_left _ (List.mem_of_getElem? (i := 3) rfl))))))))) rfl dX8_nearValue_111 ?_
          refine lv_aload hx hb dX8_nearValue_114 (lv_at hl 5 rfl) ?_
          obtain ⟨hk5, h⟩ := h
          refine g_get CF hc hk5 rfl (by decide) (fun _ h9 => List.mem_cons_of_mem _ (List.mem_append_left _ (List.mem_append_left _ (List.mem_append_left _ (List.mem_append_left _ (List.mem_append_right _ (h9))))))) (k := 1) (by decide) (List.mem_cons_of_mem _ (List.mem_append_left _ (List.mem_append_left _ (List.mem_append_left _ (List.mem_append_left _ (List.mem_append_left _ (List.mem_append_left _ (List.mem_append_left _ (List.mem_of_getElem? (i := 3) rfl))))))))) rfl dX8_nearValue_116 ?_
          obtain ⟨hk6, h⟩ := h
          refine g_calli (va_runV (As := [.ref y1, .ref r1, .int (gI g r3 1), .int (gI g r4 1)]) (rest := []) CF (c_X8_isNearIn h) (cwV 4 hts gX8_nearValue_X8_isNearIn rfl rfl rfl (by decide +kernel) ⟨Nat.le_of_ble_eq_true rfl, Nat.le_of_ble_eq_true rfl⟩) (hc.preV hk6 rfl (by decide)) rfl rfl hl.1 rfl (lv_room (Nat.le_of_ble_eq_true rfl)) dX8_nearValue_119 ⟨Nat.le_of_ble_eq_true rfl, Nat.le_of_ble_eq_true rfl⟩) hc (fun x7 gq8 H locs hq hc => ?_)
          obtain ⟨rfl, h⟩ := hq
          refine lv_if_eq (tgt := 128) hx hb dX8_nearValue_122 (by decide) (fun c9 => ?_) (fun c9 => ?_)
          · have h := h.1 c9
            exact hb_128 i6 i7 h _ _ _ hc (lv_sub hl [1, 2, 3, 4, 5, 6, 7, 8] rfl)
          · have h := h.2 c9
            refine lv_iinc (v := (i6 + 1)) (lv' := [(6, .int (i6 + 1)), (9, .int is0), (0, .ref r0), (1, .ref r1), (2, va_rf o2), (3, .ref r3), (4, .ref r4), (5, .int i5), (7, .int i7), (8, .ref y1)]) hx hb dX8_nearValue_125 hl (k := 7) rfl rfl (by decide) rfl (fun ls hl => ?_)
            exact hb_128 (i6 + 1) i7 h _ _ _ hc (lv_sub hl [2, 3, 4, 5, 6, 7, 0, 8] rfl)
    have hb_93 : ∀ (i6 : Int32) (i7 : Int32) (o8 : Option Nat), b_X8_nearValue_93 g r0 r1 o2 r3 r4 i5 i6 i7 o8 Q k56 → ∀ (H : Heap) (locs : List Loc) (ls : Array Slot), gC D cA (gA g sz) s g H locs → lv_has ls 10 [(0, .ref r0), (1, .ref r1), (2, va_rf o2), (3, .ref r3), (4, .ref r4), (5, .int i5), (6, .int i6), (7, .int i7), (8, va_rf o8)] → W p l e r_X8_nearValue s m args below meth c H locs 0 0 (MQ below (gQi D cA g sz (fun r g2 => g = g2 ∧ Q r)) args s 0 0 (gA g sz)) (F0 m 93 ls []) := by
      intro i6 i7 o8 h H locs ls hc hl
      unfold b_X8_nearValue_93 at h
      refine lv_iconst (v := 0) hx hb dX8_nearValue_93 (by decide) ?_
      exact hb_94 i6 i7 o8 0 h _ _ _ hc (lv_sub hl [0, 1, 2, 3, 4, 5, 6, 7, 8] rfl)
    unfold l_X8_nearValue_56 at h
    refine lv_iload hx hb dX8_nearValue_56 (lv_at hl 7 rfl) ?_
    refine lv_iconst (v := 3) hx hb dX8_nearValue_58 (by decide) ?_
    refine lv_icmp_ge (tgt := 134) hx hb dX8_nearValue_59 (by decide) (fun c11 => ?_) (fun c11 => ?_)
    · have h := h.1 c11
      refine lv_iload hx hb dX8_nearValue_134 (lv_at hl 6 rfl) ?_
      refine lv_if_ne (tgt := 143) hx hb dX8_nearValue_136 (by decide) (fun c12 => ?_) (fun c12 => ?_)
      · have h := h.2 c12
        refine lv_iload hx hb dX8_nearValue_143 (lv_at hl 5 rfl) ?_
        refine lv_bipush (v := 100) hx hb dX8_nearValue_145 (by decide) ?_
        refine lv_iload hx hb dX8_nearValue_147 (lv_at hl 6 rfl) ?_
        refine lv_imul hx hb dX8_nearValue_149 ?_
        refine lv_iadd hx hb dX8_nearValue_150 ?_
        exact hb_151 (i5 + (100 * i6)) h _ _ _ hc (lv_sub hl [] rfl)
      · have h := h.1 c12
        refine lv_iconst (v := (-1)) hx hb dX8_nearValue_139 (by decide) ?_
        refine lv_goto (tgt := 151) hx hb dX8_nearValue_140 (by decide) ?_
        exact hb_151 (-1) h _ _ _ hc (lv_sub hl [] rfl)
    · have h := h.2 c11
      refine g_aload_nq CF dX8_nearValue_62 rfl (lv_at hl 2 rfl) ?_
      refine lv_iload hx hb dX8_nearValue_63 (lv_at hl 7 rfl) ?_
      obtain ⟨y13, e14, hu15⟩ := h
      subst e14
      have h := hu15
      obtain ⟨hk16, h⟩ := h
      refine g_callq (va_runV (As := [.int i7]) (rest := []) CF (c_X2_rowOf h) (cwV 1 hts gX8_nearValue_X2_rowOf rfl rfl rfl (by decide +kernel) ⟨Nat.le_of_ble_eq_true rfl, Nat.le_of_ble_eq_true rfl⟩) (hc.preV hk16 rfl (by decide)) rfl rfl hl.1 rfl (lv_room (Nat.le_of_ble_eq_true rfl)) dX8_nearValue_65 ⟨Nat.le_of_ble_eq_true rfl, Nat.le_of_ble_eq_true rfl⟩) hc (fun o17 gq18 H locs hq hc => ?_)
      obtain ⟨rfl, h⟩ := hq
      refine g_astoreq (lv' := [(8, va_rf o17), (0, .ref r0), (1, .ref r1), (2, .ref y13), (3, .ref r3), (4, .ref r4), (5, .int i5), (6, .int i6), (7, .int i7)]) CF dX8_nearValue_68 hl (by decide) rfl (fun ls hl => ?_)
      refine lv_aload_n hx hb dX8_nearValue_70 rfl (lv_at hl 4 rfl) ?_
      refine lv_iload hx hb dX8_nearValue_71 (lv_at hl 8 rfl) ?_
      obtain ⟨hk19, h⟩ := h
      refine g_calli (va_runV (As := [.int i7]) (rest := []) CF (c_X5_isFor h) (cwV 1 hts gX8_nearValue_X5_isFor rfl rfl rfl (by decide +kernel) ⟨Nat.le_of_ble_eq_true rfl, Nat.le_of_ble_eq_true rfl⟩) (hc.preV hk19 rfl (by decide)) rfl rfl hl.1 rfl (lv_room (Nat.le_of_ble_eq_true rfl)) dX8_nearValue_73 ⟨Nat.le_of_ble_eq_true rfl, Nat.le_of_ble_eq_true rfl⟩) hc (fun x20 gq21 H locs hq hc => ?_)
      obtain ⟨rfl, h⟩ := hq
      refine lv_if_eq (tgt := 93) hx hb dX8_nearValue_76 (by decide) (fun c22 => ?_) (fun c22 => ?_)
      · have h := h.1 c22
        exact hb_93 i6 i7 o17 h _ _ _ hc (lv_sub hl [1, 2, 3, 4, 5, 6, 7, 8, 0] rfl)
      · have h := h.2 c22
        refine lv_aload hx hb dX8_nearValue_79 (lv_at hl 5 rfl) ?_
        refine lv_iload hx hb dX8_nearValue_81 (lv_at hl 8 rfl) ?_
        obtain ⟨hk23, h⟩ := h
        refine g_calli (va_runV (As := [.int i7]) (rest := []) CF (c_X5_isFor h) (cwV 1 hts gX8_nearValue_X5_isFor rfl rfl rfl (by decide +kernel) ⟨Nat.le_of_ble_eq_true rfl, Nat.le_of_ble_eq_true rfl⟩) (hc.preV hk23 rfl (by decide)) rfl rfl hl.1 rfl (lv_room (Nat.le_of_ble_eq_true rfl)) dX8_nearValue_83 ⟨Nat.le_of_ble_eq_true rfl, Nat.le_of_ble_eq_true rfl⟩) hc (fun x24 gq25 H locs hq hc => ?_)
        obtain ⟨rfl, h⟩ := hq
        refine lv_if_eq (tgt := 93) hx hb dX8_nearValue_86 (by decide) (fun c26 => ?_) (fun c26 => ?_)
        · have h := h.1 c26
          exact hb_93 i6 i7 o17 h _ _ _ hc (lv_sub hl [1, 2, 3, 4, 5, 6, 7, 8, 0] rfl)
        · have h := h.2 c26
          refine lv_iconst (v := 1) hx hb dX8_nearValue_89 (by decide) ?_
          refine lv_goto (tgt := 94) hx hb dX8_nearValue_90 (by decide) ?_
          exact hb_94 i6 i7 o17 1 h _ _ _ hc (lv_sub hl [1, 2, 3, 4, 5, 6, 7, 8, 0] rfl)
  have hb_48 : b_X8_nearValue_48 g Q → ∀ (H : Heap) (locs : List Loc) (ls : Array Slot), gC D cA (gA g sz) s g H locs → lv_has ls 10 [] → W p l e r_X8_nearValue s m args below meth c H locs 0 0 (MQ below (gQi D cA g sz (fun r g2 => g = g2 ∧ Q r)) args s 0 0 (gA g sz)) (F0 m 48 ls []) := by
    intro h H locs ls hc hl
    unfold b_X8_nearValue_48 at h
    refine lv_iconst (v := (-1)) hx hb dX8_nearValue_48 (by decide) ?_
    exact g_reti (r := (-1)) CF hr hlk hc rfl ⟨rfl, h⟩ dX8_nearValue_49
  unfold w_X8_nearValue at h
  obtain ⟨H, hH0⟩ : ∃ z, z = s.heap := ⟨_, rfl⟩
  rw [← hH0] at hc ⊢
  obtain ⟨locs, hlc0⟩ : ∃ z : List Loc, z = [] := ⟨_, rfl⟩
  rw [← hlc0] at hc ⊢
  refine lv_aload_n hx hb dX8_nearValue_0 rfl (lv_at hl 0 rfl) ?_
  obtain ⟨hk27, h⟩ := h
  obtain ⟨y28, e29, h⟩ := h
  refine g_getr CF hc hk27 rfl (by decide) (fun _ h9 => List.mem_cons_of_mem _ (List.mem_append_left _ (List.mem_append_left _ (List.mem_append_left _ (List.mem_append_left _ (List.mem_append_left _ (List.mem_append_right _ (h9)))))))) (k := 0) (by decide) (List.mem_cons_of_mem _ (List.mem_append_left _ (List.mem_append_left _ (List.mem_append_left _ (List.mem_append_left _ (List.mem_append_left _ (List.mem_append_left _ (List.mem_append_left _ (List.mem_of_getElem? (i := 0) rfl))))))))) e29 rfl dX8_nearValue_1 ?_
  refine lv_aload_n hx hb dX8_nearValue_4 rfl (lv_at hl 1 rfl) ?_
  obtain ⟨hk30, h⟩ := h
  refine g_get CF hc hk30 rfl (by decide) (fun _ h9 => List.mem_cons_of_mem _ (List.mem_append_left _ (List.mem_append_left _ (List.mem_append_left _ (List.mem_append_left _ (List.mem_append_right _ (h9))))))) (k := 3) (by decide) (List.mem_cons_of_mem _ (List.mem_append_left _ (List.mem_append_left _ (List.mem_append_left _ (List.mem_append_left _ (List.mem_append_left _ (List.mem_append_left _ (List.mem_append_left _ (List.mem_of_getElem? (i := 1) rfl))))))))) rfl dX8_nearValue_5 ?_
  obtain ⟨hk31, h⟩ := h
  refine g_callq (va_runV (As := [.int (gI g p1 3)]) (rest := []) CF (c_X6_nodeAt h) (cwV 1 hts gX8_nearValue_X6_nodeAt rfl rfl rfl (by decide +kernel) ⟨Nat.le_of_ble_eq_true rfl, Nat.le_of_ble_eq_true rfl⟩) (hc.preV hk31 rfl (by decide)) rfl rfl hl.1 rfl (lv_room (Nat.le_of_ble_eq_true rfl)) dX8_nearValue_8 ⟨Nat.le_of_ble_eq_true rfl, Nat.le_of_ble_eq_true rfl⟩) hc (fun o32 gq33 H locs hq hc => ?_)
  obtain ⟨rfl, h⟩ := hq
  refine g_astore_nq (lv' := [(3, va_rf o32), (0, .ref p0), (1, .ref p1), (2, va_rf p2)]) CF dX8_nearValue_11 rfl hl (by decide) (by cases p2 <;> rfl) (fun ls hl => ?_)
  refine lv_aload_n hx hb dX8_nearValue_12 rfl (lv_at hl 1 rfl) ?_
  obtain ⟨y34, e35, h⟩ := h
  refine g_getr CF hc hk27 rfl (by decide) (fun _ h9 => List.mem_cons_of_mem _ (List.mem_append_left _ (List.mem_append_left _ (List.mem_append_left _ (List.mem_append_left _ (List.mem_append_left _ (List.mem_append_right _ (h9)))))))) (k := 0) (by decide) (List.mem_cons_of_mem _ (List.mem_append_left _ (List.mem_append_left _ (List.mem_append_left _ (List.mem_append_left _ (List.mem_append_left _ (List.mem_append_left _ (List.mem_append_left _ (List.mem_of_getElem? (i := 0) rfl))))))))) e35 rfl dX8_nearValue_13 ?_
  refine lv_aload_n hx hb dX8_nearValue_16 rfl (lv_at hl 2 rfl) ?_
  refine g_get CF hc hk30 rfl (by decide) (fun _ h9 => List.mem_cons_of_mem _ (List.mem_append_left _ (List.mem_append_left _ (List.mem_append_left _ (List.mem_append_left _ (List.mem_append_right _ (h9))))))) (k := 4) (by decide) (List.mem_cons_of_mem _ (List.mem_append_left _ (List.mem_append_left _ (List.mem_append_left _ (List.mem_append_left _ (List.mem_append_left _ (List.mem_append_left _ (List.mem_append_left _ (List.mem_of_getElem? (i := 2) rfl))))))))) rfl dX8_nearValue_17 ?_
  obtain ⟨hk36, h⟩ := h
  refine g_callq (va_runV (As := [.int (gI g p1 4)]) (rest := []) CF (c_X6_nodeAt h) (cwV 1 hts gX8_nearValue_X6_nodeAt rfl rfl rfl (by decide +kernel) ⟨Nat.le_of_ble_eq_true rfl, Nat.le_of_ble_eq_true rfl⟩) (hc.preV hk36 rfl (by decide)) rfl rfl hl.1 rfl (lv_room (Nat.le_of_ble_eq_true rfl)) dX8_nearValue_20 ⟨Nat.le_of_ble_eq_true rfl, Nat.le_of_ble_eq_true rfl⟩) hc (fun o37 gq38 H locs hq hc => ?_)
  obtain ⟨rfl, h⟩ := hq
  refine g_astoreq (lv' := [(4, va_rf o37), (3, va_rf o32), (0, .ref p0), (1, .ref p1), (2, va_rf p2)]) CF dX8_nearValue_23 hl (by decide) (by cases o32 <;> rfl) (fun ls hl => ?_)
  refine lv_aload_n hx hb dX8_nearValue_25 rfl (lv_at hl 2 rfl) ?_
  refine lv_aload_n hx hb dX8_nearValue_26 rfl (lv_at hl 3 rfl) ?_
  refine lv_iconst (v := 2) hx hb dX8_nearValue_27 (by decide) ?_
  refine g_calli (va_runV (As := [.ref p1, .int 2]) (rest := []) CF (c_X8_sumOfAtLeast h) (cwV 2 hts gX8_nearValue_X8_sumOfAtLeast rfl rfl rfl (by decide +kernel) ⟨Nat.le_of_ble_eq_true rfl, Nat.le_of_ble_eq_true rfl⟩) (hc.preV hk27 rfl (by decide)) rfl rfl hl.1 rfl (lv_room (Nat.le_of_ble_eq_true rfl)) dX8_nearValue_28 ⟨Nat.le_of_ble_eq_true rfl, Nat.le_of_ble_eq_true rfl⟩) hc (fun x39 gq40 H locs hq hc => ?_)
  obtain ⟨rfl, h⟩ := hq
  refine lv_istore (lv' := [(5, .int x39), (4, va_rf o37), (3, va_rf o32), (0, .ref p0), (1, .ref p1), (2, va_rf p2)]) hx hb dX8_nearValue_31 hl (by decide) (by cases o37 <;> rfl) (fun ls hl => ?_)
  refine g_aload_nq CF dX8_nearValue_33 rfl (lv_at hl 2 rfl) ?_
  refine g_ifnull (tgt := 48) CF dX8_nearValue_34 (by decide) (fun e42 => ?_) (fun y41 e42 => ?_)
  · have hu47 := h.1 e42
    subst e42
    have h := hu47
    exact hb_48  h _ _ _ hc (lv_sub hl [] rfl)
  · have hu47 := h.2 y41 e42
    subst e42
    have h := hu47
    refine g_aloadq CF dX8_nearValue_37 (lv_at hl 1 rfl) ?_
    refine g_ifnull (tgt := 48) CF dX8_nearValue_39 (by decide) (fun e44 => ?_) (fun y43 e44 => ?_)
    · have hu46 := h.1 e44
      subst e44
      have h := hu46
      exact hb_48  h _ _ _ hc (lv_sub hl [] rfl)
    · have hu46 := h.2 y43 e44
      subst e44
      have h := hu46
      refine lv_iload hx hb dX8_nearValue_42 (lv_at hl 0 rfl) ?_
      refine lv_iconst (v := (-1)) hx hb dX8_nearValue_44 (by decide) ?_
      refine lv_icmp_ne (tgt := 50) hx hb dX8_nearValue_45 (by decide) (fun c45 => ?_) (fun c45 => ?_)
      · have h := h.2 c45
        refine lv_iconst (v := 0) hx hb dX8_nearValue_50 (by decide) ?_
        refine lv_istore (lv' := [(6, .int 0), (5, .int x39), (4, .ref y43), (3, .ref y41), (0, .ref p0), (1, .ref p1), (2, va_rf p2)]) hx hb dX8_nearValue_51 hl (by decide) rfl (fun ls hl => ?_)
        refine lv_iconst (v := 0) hx hb dX8_nearValue_53 (by decide) ?_
        refine lv_istore (lv' := [(7, .int 0), (6, .int 0), (5, .int x39), (4, .ref y43), (3, .ref y41), (0, .ref p0), (1, .ref p1), (2, va_rf p2)]) hx hb dX8_nearValue_54 hl (by decide) rfl (fun ls hl => ?_)
        exact hb_56 p0 p1 p2 y41 y43 x39 0 0 h _ _ _ hc (lv_sub hl [5, 6, 7, 4, 3, 2, 1, 0] rfl)
      · have h := h.1 c45
        exact hb_48  h _ _ _ hc (lv_sub hl [] rfl)
def b_X8_scaledValue_15 (g : gS) (is0 : Int32) (Q : Int32 → Prop) : Prop :=
  Q is0
def w_X8_scaledValue (g : gS) (p0 : Int32) (p1 : Int32) (Q : Int32 → Prop) : Prop :=
  (p0 = (-1) → (b_X8_scaledValue_15 g (-1) Q)) ∧ (¬ p0 = (-1) → (b_X8_scaledValue_15 g ((p0 * p1) / 100) Q))
abbrev r_X8_scaledValue : Room := { frames := 0, cells := 0, slots := 0, locals := 0 }
set_option maxHeartbeats 4000000 in
set_option maxRecDepth 100000 in
theorem c_X8_scaledValue {l : Launch} {D : va_G} {cA : Nat → ClassId} {sz : Nat} {g : gS} {p0 : Int32} {p1 : Int32} {Q : Int32 → Prop} (h : w_X8_scaledValue g p0 p1 Q) : Met l yX8_scaledValue wsX8_scaledValue r_X8_scaledValue (va_Pc [.int p0, .int p1] (gPre D cA g sz)) (gQi D cA g sz (fun r g2 => g = g2 ∧ Q r)) 0 0 (gA g sz) := by
  refine g_met (cc := cX8_scaledValue) (maxL := 2) (ret := (some .int)) (own := RX8) (by decide) rfl rfl (Nat.le_of_ble_eq_true rfl) ?_
  intro p e s m args below meth c ls CF hr hlk hnm hc hl
  obtain ⟨hx, hb, hml, hown, hts⟩ := id CF
  have hl : lv_has ls 2 [(0, .int p0), (1, .int p1)] := hl
  show W p l e r_X8_scaledValue s m args below meth c s.heap [] 0 0 (MQ below (gQi D cA g sz (fun r g2 => g = g2 ∧ Q r)) args s 0 0 (gA g sz)) (F0 m 0 ls [])
  have hb_15 : ∀ (is0 : Int32), b_X8_scaledValue_15 g is0 Q → ∀ (H : Heap) (locs : List Loc) (ls : Array Slot), gC D cA (gA g sz) s g H locs → lv_has ls 2 [] → W p l e r_X8_scaledValue s m args below meth c H locs 0 0 (MQ below (gQi D cA g sz (fun r g2 => g = g2 ∧ Q r)) args s 0 0 (gA g sz)) (F0 m 15 ls [.int is0]) := by
    intro is0 h H locs ls hc hl
    unfold b_X8_scaledValue_15 at h
    exact g_reti (r := is0) CF hr hlk hc rfl ⟨rfl, h⟩ dX8_scaledValue_15
  unfold w_X8_scaledValue at h
  obtain ⟨H, hH0⟩ : ∃ z, z = s.heap := ⟨_, rfl⟩
  rw [← hH0] at hc ⊢
  obtain ⟨locs, hlc0⟩ : ∃ z : List Loc, z = [] := ⟨_, rfl⟩
  rw [← hlc0] at hc ⊢
  refine lv_iload_n hx hb dX8_scaledValue_0 rfl (lv_at hl 0 rfl) ?_
  refine lv_iconst (v := (-1)) hx hb dX8_scaledValue_1 (by decide) ?_
  refine lv_icmp_ne (tgt := 9) hx hb dX8_scaledValue_2 (by decide) (fun c1 => ?_) (fun c1 => ?_)
  · have h := h.2 c1
    refine lv_iload_n hx hb dX8_scaledValue_9 rfl (lv_at hl 0 rfl) ?_
    refine lv_iload_n hx hb dX8_scaledValue_10 rfl (lv_at hl 1 rfl) ?_
    refine lv_imul hx hb dX8_scaledValue_11 ?_
    refine lv_bipush (v := 100) hx hb dX8_scaledValue_12 (by decide) ?_
    refine lv_idiv hx hb dX8_scaledValue_14 (by decide) ?_
    exact hb_15 ((p0 * p1) / 100) h _ _ _ hc (lv_sub hl [] rfl)
  · have h := h.1 c1
    refine lv_iconst (v := (-1)) hx hb dX8_scaledValue_5 (by decide) ?_
    refine lv_goto (tgt := 15) hx hb dX8_scaledValue_6 (by decide) ?_
    exact hb_15 (-1) h _ _ _ hc (lv_sub hl [] rfl)
def b_X8_valueOf_171 (g : gS) (is0 : Int32) (Q : Int32 → Prop) : Prop :=
  Q is0
def b_X8_valueOf_150 (g : gS) (is0 : Int32) (Q : Int32 → Prop) : Prop :=
  Q is0
def b_X8_valueOf_149 (g : gS) (Q : Int32 → Prop) : Prop :=
  b_X8_valueOf_150 g (-1) Q
def b_X8_valueOf_115 (g : gS) (is0 : Int32) (Q : Int32 → Prop) : Prop :=
  Q is0
def w_X8_valueOf (g : gS) (p0 : Nat) (p1 : Option Nat) (p2 : Option Nat) (Q : Int32 → Prop) : Prop :=
  (p1 = none → (Q (-1))) ∧ (∀ y1, p1 = some y1 → (gK g y1 = 6 ∧ (((gI g y1 0).toInt < 0 ∨ 8 < (gI g y1 0).toInt → (Q (-1))) ∧ ((gI g y1 0).toInt = 0 → (gK g p0 = 9 ∧ (w_X8_termValue g p0 y1 p2 (fun x6 => (Q x6))))) ∧ ((gI g y1 0).toInt = 1 → (gK g p0 = 9 ∧ (w_X8_sumOfAtLeast g p0 y1 2 (fun x9 => (Q x9))))) ∧ ((gI g y1 0).toInt = 2 → (gK g p0 = 9 ∧ (w_X8_sumOfAtLeast g p0 y1 1 (fun x12 => (Q x12))))) ∧ ((gI g y1 0).toInt = 3 → (gK g p0 = 9 ∧ (w_X8_valueAt g p0 (gI g y1 4) (fun x15 => ((x15 = (-1) → (w_X8_valueAt g p0 (gI g y1 3) (fun x18 => (b_X8_valueOf_115 g x18 Q)))) ∧ (¬ x15 = (-1) → (b_X8_valueOf_115 g (-1) Q))))))) ∧ ((gI g y1 0).toInt = 4 → (gK g p0 = 9 ∧ (w_X8_nearValue g p0 y1 p2 (fun x21 => (Q x21))))) ∧ ((gI g y1 0).toInt = 5 → (∃ y23, p2 = some y23 ∧ (gK g y23 = 3 ∧ (((gI g y23 0) < (gI g y1 7) → (b_X8_valueOf_149 g Q)) ∧ (¬ (gI g y23 0) < (gI g y1 7) → (((gI g y1 8) < (gI g y23 0) → (b_X8_valueOf_149 g Q)) ∧ (¬ (gI g y1 8) < (gI g y23 0) → (b_X8_valueOf_150 g 0 Q)))))))) ∧ ((gI g y1 0).toInt = 6 → (∃ y29, p2 = some y29 ∧ (gK g y29 = 3 ∧ (((((gI g y1 9) >>> ((gI g y29 1) &&& 31)) &&& 1) = 1 → (b_X8_valueOf_171 g 0 Q)) ∧ (¬ (((gI g y1 9) >>> ((gI g y29 1) &&& 31)) &&& 1) = 1 → (b_X8_valueOf_171 g (-1) Q)))))) ∧ ((gI g y1 0).toInt = 7 → (gK g p0 = 9 ∧ (w_X8_valueAt g p0 (gI g y1 3) (fun x35 => (w_X8_scaledValue g x35 (gI g y1 10) (fun x37 => (Q x37))))))) ∧ ((gI g y1 0).toInt = 8 → (gK g p0 = 9 ∧ (w_X8_sumOfAtLeast g p0 y1 (gI g y1 12) (fun x40 => (Q x40))))))))
abbrev r_X8_valueOf : Room := { frames := 3, cells := 0, slots := 0, locals := 82 }
set_option maxHeartbeats 4000000 in
set_option maxRecDepth 100000 in
theorem c_X8_valueOf {l : Launch} {D : va_G} {cA : Nat → ClassId} {sz : Nat} {g : gS} {p0 : Nat} {p1 : Option Nat} {p2 : Option Nat} {Q : Int32 → Prop} (h : w_X8_valueOf g p0 p1 p2 Q) : Met l yX8_valueOf wsX8_valueOf r_X8_valueOf (va_Pc [.ref p0, va_rf p1, va_rf p2] (gPre D cA g sz)) (gQi D cA g sz (fun r g2 => g = g2 ∧ Q r)) 0 0 (gA g sz) := by
  refine g_met (cc := cX8_valueOf) (maxL := 3) (ret := (some .int)) (own := RX8) (by decide) rfl rfl (by cases p1 <;> cases p2 <;> exact Nat.le_of_ble_eq_true rfl) ?_
  intro p e s m args below meth c ls CF hr hlk hnm hc hl
  obtain ⟨hx, hb, hml, hown, hts⟩ := id CF
  have hl : lv_has ls 3 [(0, .ref p0), (1, va_rf p1), (2, va_rf p2)] := (by cases p1 <;> cases p2 <;> exact hl)
  show W p l e r_X8_valueOf s m args below meth c s.heap [] 0 0 (MQ below (gQi D cA g sz (fun r g2 => g = g2 ∧ Q r)) args s 0 0 (gA g sz)) (F0 m 0 ls [])
  have hb_171 : ∀ (is0 : Int32), b_X8_valueOf_171 g is0 Q → ∀ (H : Heap) (locs : List Loc) (ls : Array Slot), gC D cA (gA g sz) s g H locs → lv_has ls 3 [] → W p l e r_X8_valueOf s m args below meth c H locs 0 0 (MQ below (gQi D cA g sz (fun r g2 => g = g2 ∧ Q r)) args s 0 0 (gA g sz)) (F0 m 171 ls [.int is0]) := by
    intro is0 h H locs ls hc hl
    unfold b_X8_valueOf_171 at h
    exact g_reti (r := is0) CF hr hlk hc rfl ⟨rfl, h⟩ dX8_valueOf_171
  have hb_150 : ∀ (is0 : Int32), b_X8_valueOf_150 g is0 Q → ∀ (H : Heap) (locs : List Loc) (ls : Array Slot), gC D cA (gA g sz) s g H locs → lv_has ls 3 [] → W p l e r_X8_valueOf s m args below meth c H locs 0 0 (MQ below (gQi D cA g sz (fun r g2 => g = g2 ∧ Q r)) args s 0 0 (gA g sz)) (F0 m 150 ls [.int is0]) := by
    intro is0 h H locs ls hc hl
    unfold b_X8_valueOf_150 at h
    exact g_reti (r := is0) CF hr hlk hc rfl ⟨rfl, h⟩ dX8_valueOf_150
  have hb_149 : b_X8_valueOf_149 g Q → ∀ (H : Heap) (locs : List Loc) (ls : Array Slot), gC D cA (gA g sz) s g H locs → lv_has ls 3 [] → W p l e r_X8_valueOf s m args below meth c H locs 0 0 (MQ below (gQi D cA g sz (fun r g2 => g = g2 ∧ Q r)) args s 0 0 (gA g sz)) (F0 m 149 ls []) := by
    intro h H locs ls hc hl
    unfold b_X8_valueOf_149 at h
    refine lv_iconst (v := (-1)) hx hb dX8_valueOf_149 (by decide) ?_
    exact hb_150 (-1) h _ _ _ hc (lv_sub hl [] rfl)
  have hb_115 : ∀ (is0 : Int32), b_X8_valueOf_115 g is0 Q → ∀ (H : Heap) (locs : List Loc) (ls : Array Slot), gC D cA (gA g sz) s g H locs → lv_has ls 3 [] → W p l e r_X8_valueOf s m args below meth c H locs 0 0 (MQ below (gQi D cA g sz (fun r g2 => g = g2 ∧ Q r)) args s 0 0 (gA g sz)) (F0 m 115 ls [.int is0]) := by
    intro is0 h H locs ls hc hl
    unfold b_X8_valueOf_115 at h
    exact g_reti (r := is0) CF hr hlk hc rfl ⟨rfl, h⟩ dX8_valueOf_115
  unfold w_X8_valueOf at h
  obtain ⟨H, hH0⟩ : ∃ z, z = s.heap := ⟨_, rfl⟩
  rw [← hH0] at hc ⊢
  obtain ⟨locs, hlc0⟩ : ∃ z : List Loc, z = [] := ⟨_, rfl⟩
  rw [← hlc0] at hc ⊢
  refine g_aload_nq CF dX8_valueOf_0 rfl (lv_at hl 1 rfl) ?_
  refine g_ifnonnull (tgt := 6) CF dX8_valueOf_1 (by decide) (fun y1 e2 => ?_) (fun e2 => ?_)
  · have hu42 := h.2 y1 e2
    subst e2
    have h := hu42
    refine lv_aload_n hx hb dX8_valueOf_6 rfl (lv_at hl 1 rfl) ?_
    obtain ⟨hk3, h⟩ := h
    refine g_get CF hc hk3 rfl (by decide) (fun _ h9 => List.mem_cons_of_mem _ (List.mem_append_left _ (List.mem_append_left _ (List.mem_append_left _ (List.mem_append_left _ (List.mem_append_left _ (List.mem_append_left _ (List.mem_append_right _ (h9))))))))) (k := 0) (by decide) (List.mem_cons_of_mem _ (List.mem_append_left _ (List.mem_append_left _ (List.mem_append_left _ (List.mem_append_left _ (List.mem_append_left _ (List.mem_append_left _ (List.mem_append_left _ (List.mem_append_left _ (List.mem_of_getElem? (i := 0) rfl)))))))))) rfl dX8_valueOf_7 ?_
    by_cases hd4 : (gI g y1 0).toInt < 0 ∨ 8 < (gI g y1 0).toInt
    · replace h := h.1 hd4
      refine lv_tableOut (tgt := 188) hx hb dX8_valueOf_10 hd4 (by decide) ?_
      refine lv_iconst (v := (-1)) hx hb dX8_valueOf_188 (by decide) ?_
      exact g_reti (r := (-1)) CF hr hlk hc rfl ⟨rfl, h⟩ dX8_valueOf_189
    · replace h := h.2
      rcases (show (gI g y1 0).toInt = 0 ∨ (gI g y1 0).toInt = 1 ∨ (gI g y1 0).toInt = 2 ∨ (gI g y1 0).toInt = 3 ∨ (gI g y1 0).toInt = 4 ∨ (gI g y1 0).toInt = 5 ∨ (gI g y1 0).toInt = 6 ∨ (gI g y1 0).toInt = 7 ∨ (gI g y1 0).toInt = 8 by omega) with hs | hs | hs | hs | hs | hs | hs | hs | hs
      · have h := h.1 hs
        refine lv_tableIn (off := 50) (tgt := 60) hx hb dX8_valueOf_10 (by omega) (by omega) (by rw [hs]; rfl) (by decide) ?_
        refine lv_aload_n hx hb dX8_valueOf_60 rfl (lv_at hl 0 rfl) ?_
        refine lv_aload_n hx hb dX8_valueOf_61 rfl (lv_at hl 1 rfl) ?_
        refine g_aload_nq CF dX8_valueOf_62 rfl (lv_at hl 2 rfl) ?_
        obtain ⟨hk5, h⟩ := h
        refine g_calli (va_runV (As := [.ref y1, va_rf p2]) (rest := []) CF (c_X8_termValue h) (cwV 2 hts gX8_valueOf_X8_termValue rfl rfl rfl (by decide +kernel) ⟨Nat.le_of_ble_eq_true rfl, Nat.le_of_ble_eq_true rfl⟩) (hc.preV hk5 rfl (by decide)) rfl rfl hl.1 rfl (lv_room (Nat.le_of_ble_eq_true rfl)) dX8_valueOf_63 ⟨Nat.le_of_ble_eq_true rfl, Nat.le_of_ble_eq_true rfl⟩) hc (fun x6 gq7 H locs hq hc => ?_)
        obtain ⟨rfl, h⟩ := hq
        exact g_reti (r := x6) CF hr hlk hc rfl ⟨rfl, h⟩ dX8_valueOf_66
      · have h := h.2.1 hs
        refine lv_tableIn (off := 57) (tgt := 67) hx hb dX8_valueOf_10 (by omega) (by omega) (by rw [hs]; rfl) (by decide) ?_
        refine lv_aload_n hx hb dX8_valueOf_67 rfl (lv_at hl 0 rfl) ?_
        refine lv_aload_n hx hb dX8_valueOf_68 rfl (lv_at hl 1 rfl) ?_
        refine lv_iconst (v := 2) hx hb dX8_valueOf_69 (by decide) ?_
        obtain ⟨hk8, h⟩ := h
        refine g_calli (va_runV (As := [.ref y1, .int 2]) (rest := []) CF (c_X8_sumOfAtLeast h) (cwV 2 hts gX8_valueOf_X8_sumOfAtLeast rfl rfl rfl (by decide +kernel) ⟨Nat.le_of_ble_eq_true rfl, Nat.le_of_ble_eq_true rfl⟩) (hc.preV hk8 rfl (by decide)) rfl rfl hl.1 rfl (lv_room (Nat.le_of_ble_eq_true rfl)) dX8_valueOf_70 ⟨Nat.le_of_ble_eq_true rfl, Nat.le_of_ble_eq_true rfl⟩) hc (fun x9 gq10 H locs hq hc => ?_)
        obtain ⟨rfl, h⟩ := hq
        exact g_reti (r := x9) CF hr hlk hc rfl ⟨rfl, h⟩ dX8_valueOf_73
      · have h := h.2.2.1 hs
        refine lv_tableIn (off := 64) (tgt := 74) hx hb dX8_valueOf_10 (by omega) (by omega) (by rw [hs]; rfl) (by decide) ?_
        refine lv_aload_n hx hb dX8_valueOf_74 rfl (lv_at hl 0 rfl) ?_
        refine lv_aload_n hx hb dX8_valueOf_75 rfl (lv_at hl 1 rfl) ?_
        refine lv_iconst (v := 1) hx hb dX8_valueOf_76 (by decide) ?_
        obtain ⟨hk11, h⟩ := h
        refine g_calli (va_runV (As := [.ref y1, .int 1]) (rest := []) CF (c_X8_sumOfAtLeast h) (cwV 2 hts gX8_valueOf_X8_sumOfAtLeast rfl rfl rfl (by decide +kernel) ⟨Nat.le_of_ble_eq_true rfl, Nat.le_of_ble_eq_true rfl⟩) (hc.preV hk11 rfl (by decide)) rfl rfl hl.1 rfl (lv_room (Nat.le_of_ble_eq_true rfl)) dX8_valueOf_77 ⟨Nat.le_of_ble_eq_true rfl, Nat.le_of_ble_eq_true rfl⟩) hc (fun x12 gq13 H locs hq hc => ?_)
        obtain ⟨rfl, h⟩ := hq
        exact g_reti (r := x12) CF hr hlk hc rfl ⟨rfl, h⟩ dX8_valueOf_80
      · have h := h.2.2.2.1 hs
        refine lv_tableIn (off := 81) (tgt := 91) hx hb dX8_valueOf_10 (by omega) (by omega) (by rw [hs]; rfl) (by decide) ?_
        refine lv_aload_n hx hb dX8_valueOf_91 rfl (lv_at hl 0 rfl) ?_
        refine lv_aload_n hx hb dX8_valueOf_92 rfl (lv_at hl 1 rfl) ?_
        refine g_get CF hc hk3 rfl (by decide) (fun _ h9 => List.mem_cons_of_mem _ (List.mem_append_left _ (List.mem_append_left _ (List.mem_append_left _ (List.mem_append_left _ (List.mem_append_left _ (List.mem_append_left _ (List.mem_append_right _ (h9))))))))) (k := 4) (by decide) (List.mem_cons_of_mem _ (List.mem_append_left _ (List.mem_append_left _ (List.mem_append_left _ (List.mem_append_left _ (List.mem_append_left _ (List.mem_append_left _ (List.mem_append_left _ (List.mem_append_left _ (List.mem_of_getElem? (i := 2) rfl)))))))))) rfl dX8_valueOf_93 ?_
        obtain ⟨hk14, h⟩ := h
        refine g_calli (va_runV (As := [.int (gI g y1 4)]) (rest := []) CF (c_X8_valueAt h) (cwV 1 hts gX8_valueOf_X8_valueAt rfl rfl rfl (by decide +kernel) ⟨Nat.le_of_ble_eq_true rfl, Nat.le_of_ble_eq_true rfl⟩) (hc.preV hk14 rfl (by decide)) rfl rfl hl.1 rfl (lv_room (Nat.le_of_ble_eq_true rfl)) dX8_valueOf_96 ⟨Nat.le_of_ble_eq_true rfl, Nat.le_of_ble_eq_true rfl⟩) hc (fun x15 gq16 H locs hq hc => ?_)
        obtain ⟨rfl, h⟩ := hq
        refine lv_iconst (v := (-1)) hx hb dX8_valueOf_99 (by decide) ?_
        refine lv_icmp_ne (tgt := 114) hx hb dX8_valueOf_100 (by decide) (fun c17 => ?_) (fun c17 => ?_)
        · have h := h.2 c17
          refine lv_iconst (v := (-1)) hx hb dX8_valueOf_114 (by decide) ?_
          exact hb_115 (-1) h _ _ _ hc (lv_sub hl [] rfl)
        · have h := h.1 c17
          refine lv_aload_n hx hb dX8_valueOf_103 rfl (lv_at hl 0 rfl) ?_
          refine lv_aload_n hx hb dX8_valueOf_104 rfl (lv_at hl 1 rfl) ?_
          refine g_get CF hc hk3 rfl (by decide) (fun _ h9 => List.mem_cons_of_mem _ (List.mem_append_left _ (List.mem_append_left _ (List.mem_append_left _ (List.mem_append_left _ (List.mem_append_left _ (List.mem_append_left _ (List.mem_append_right _ (h9))))))))) (k := 3) (by decide) (List.mem_cons_of_mem _ (List.mem_append_left _ (List.mem_append_left _ (List.mem_append_left _ (List.mem_append_left _ (List.mem_append_left _ (List.mem_append_left _ (List.mem_append_left _ (List.mem_append_left _ (List.mem_of_getElem? (i := 3) rfl)))))))))) rfl dX8_valueOf_105 ?_
          refine g_calli (va_runV (As := [.int (gI g y1 3)]) (rest := []) CF (c_X8_valueAt h) (cwV 1 hts gX8_valueOf_X8_valueAt rfl rfl rfl (by decide +kernel) ⟨Nat.le_of_ble_eq_true rfl, Nat.le_of_ble_eq_true rfl⟩) (hc.preV hk14 rfl (by decide)) rfl rfl hl.1 rfl (lv_room (Nat.le_of_ble_eq_true rfl)) dX8_valueOf_108 ⟨Nat.le_of_ble_eq_true rfl, Nat.le_of_ble_eq_true rfl⟩) hc (fun x18 gq19 H locs hq hc => ?_)
          obtain ⟨rfl, h⟩ := hq
          refine lv_goto (tgt := 115) hx hb dX8_valueOf_111 (by decide) ?_
          exact hb_115 x18 h _ _ _ hc (lv_sub hl [] rfl)
      · have h := h.2.2.2.2.1 hs
        refine lv_tableIn (off := 106) (tgt := 116) hx hb dX8_valueOf_10 (by omega) (by omega) (by rw [hs]; rfl) (by decide) ?_
        refine lv_aload_n hx hb dX8_valueOf_116 rfl (lv_at hl 0 rfl) ?_
        refine lv_aload_n hx hb dX8_valueOf_117 rfl (lv_at hl 1 rfl) ?_
        refine g_aload_nq CF dX8_valueOf_118 rfl (lv_at hl 2 rfl) ?_
        obtain ⟨hk20, h⟩ := h
        refine g_calli (va_runV (As := [.ref y1, va_rf p2]) (rest := []) CF (c_X8_nearValue h) (cwV 2 hts gX8_valueOf_X8_nearValue rfl rfl rfl (by decide +kernel) ⟨Nat.le_of_ble_eq_true rfl, Nat.le_of_ble_eq_true rfl⟩) (hc.preV hk20 rfl (by decide)) rfl rfl hl.1 rfl (lv_room (Nat.le_of_ble_eq_true rfl)) dX8_valueOf_119 ⟨Nat.le_of_ble_eq_true rfl, Nat.le_of_ble_eq_true rfl⟩) hc (fun x21 gq22 H locs hq hc => ?_)
        obtain ⟨rfl, h⟩ := hq
        exact g_reti (r := x21) CF hr hlk hc rfl ⟨rfl, h⟩ dX8_valueOf_122
      · have h := h.2.2.2.2.2.1 hs
        refine lv_tableIn (off := 113) (tgt := 123) hx hb dX8_valueOf_10 (by omega) (by omega) (by rw [hs]; rfl) (by decide) ?_
        refine g_aload_nq CF dX8_valueOf_123 rfl (lv_at hl 2 rfl) ?_
        obtain ⟨y23, e24, hu25⟩ := h
        subst e24
        have h := hu25
        obtain ⟨hk26, h⟩ := h
        refine g_get CF hc hk26 rfl (by decide) (fun _ h9 => List.mem_cons_of_mem _ (List.mem_append_left _ (List.mem_append_left _ (List.mem_append_left _ (List.mem_append_left _ (List.mem_append_left _ (List.mem_append_right _ (h9)))))))) (k := 0) (by decide) (List.mem_cons_of_mem _ (List.mem_append_left _ (List.mem_append_left _ (List.mem_append_left _ (List.mem_append_left _ (List.mem_append_left _ (List.mem_append_left _ (List.mem_append_left _ (List.mem_append_left _ (List.mem_of_getElem? (i := 4) rfl)))))))))) rfl dX8_valueOf_124 ?_
        refine lv_aload_n hx hb dX8_valueOf_127 rfl (lv_at hl 1 rfl) ?_
        refine g_get CF hc hk3 rfl (by decide) (fun _ h9 => List.mem_cons_of_mem _ (List.mem_append_left _ (List.mem_append_left _ (List.mem_append_left _ (List.mem_append_left _ (List.mem_append_left _ (List.mem_append_left _ (List.mem_append_right _ (h9))))))))) (k := 7) (by decide) (List.mem_cons_of_mem _ (List.mem_append_left _ (List.mem_append_left _ (List.mem_append_left _ (List.mem_append_left _ (List.mem_append_left _ (List.mem_append_left _ (List.mem_append_left _ (List.mem_append_left _ (List.mem_of_getElem? (i := 5) rfl)))))))))) rfl dX8_valueOf_128 ?_
        refine lv_icmp_lt (tgt := 149) hx hb dX8_valueOf_131 (by decide) (fun c27 => ?_) (fun c27 => ?_)
        · have h := h.1 c27
          exact hb_149  h _ _ _ hc (lv_sub hl [] rfl)
        · have h := h.2 c27
          refine lv_aload_n hx hb dX8_valueOf_134 rfl (lv_at hl 2 rfl) ?_
          refine g_get CF hc hk26 rfl (by decide) (fun _ h9 => List.mem_cons_of_mem _ (List.mem_append_left _ (List.mem_append_left _ (List.mem_append_left _ (List.mem_append_left _ (List.mem_append_left _ (List.mem_append_right _ (h9)))))))) (k := 0) (by decide) (List.mem_cons_of_mem _ (List.mem_append_left _ (List.mem_append_left _ (List.mem_append_left _ (List.mem_append_left _ (List.mem_append_left _ (List.mem_append_left _ (List.mem_append_left _ (List.mem_append_left _ (List.mem_of_getElem? (i := 4) rfl)))))))))) rfl dX8_valueOf_135 ?_
          refine lv_aload_n hx hb dX8_valueOf_138 rfl (lv_at hl 1 rfl) ?_
          refine g_get CF hc hk3 rfl (by decide) (fun _ h9 => List.mem_cons_of_mem _ (List.mem_append_left _ (List.mem_append_left _ (List.mem_append_left _ (List.mem_append_left _ (List.mem_append_left _ (List.mem_append_left _ (List.mem_append_right _ (h9))))))))) (k := 8) (by decide) (List.mem_cons_of_mem _ (List.mem_append_left _ (List.mem_append_left _ (List.mem_append_left _ (List.mem_append_left _ (List.mem_append_left _ (List.mem_append_left _ (List.mem_append_left _ (List.mem_append_left _ (List.mem_of_getElem? (i := 6) rfl)))))))))) rfl dX8_valueOf_139 ?_
          refine lv_icmp_gt (tgt := 149) hx hb dX8_valueOf_142 (by decide) (fun c28 => ?_) (fun c28 => ?_)
          · have h := h.1 c28
            exact hb_149  h _ _ _ hc (lv_sub hl [] rfl)
          · have h := h.2 c28
            refine lv_iconst (v := 0) hx hb dX8_valueOf_145 (by decide) ?_
            refine lv_goto (tgt := 150) hx hb dX8_valueOf_146 (by decide) ?_
            exact hb_150 0 h _ _ _ hc (lv_sub hl [] rfl)
      · have h := h.2.2.2.2.2.2.1 hs
        refine lv_tableIn (off := 141) (tgt := 151) hx hb dX8_valueOf_10 (by omega) (by omega) (by rw [hs]; rfl) (by decide) ?_
        refine lv_aload_n hx hb dX8_valueOf_151 rfl (lv_at hl 1 rfl) ?_
        refine g_get CF hc hk3 rfl (by decide) (fun _ h9 => List.mem_cons_of_mem _ (List.mem_append_left _ (List.mem_append_left _ (List.mem_append_left _ (List.mem_append_left _ (List.mem_append_left _ (List.mem_append_left _ (List.mem_append_right _ (h9))))))))) (k := 9) (by decide) (List.mem_cons_of_mem _ (List.mem_append_left _ (List.mem_append_left _ (List.mem_append_left _ (List.mem_append_left _ (List.mem_append_left _ (List.mem_append_left _ (List.mem_append_left _ (List.mem_append_left _ (List.mem_of_getElem? (i := 7) rfl)))))))))) rfl dX8_valueOf_152 ?_
        refine g_aload_nq CF dX8_valueOf_155 rfl (lv_at hl 2 rfl) ?_
        obtain ⟨y29, e30, hu31⟩ := h
        subst e30
        have h := hu31
        obtain ⟨hk32, h⟩ := h
        refine g_get CF hc hk32 rfl (by decide) (fun _ h9 => List.mem_cons_of_mem _ (List.mem_append_left _ (List.mem_append_left _ (List.mem_append_left _ (List.mem_append_left _ (List.mem_append_left _ (List.mem_append_right _ (h9)))))))) (k := 1) (by decide) (List.mem_cons_of_mem _ (List.mem_append_left _ (List.mem_append_left _ (List.mem_append_left _ (List.mem_append_left _ (List.mem_append_left _ (List.mem_append_left _ (List.mem_append_left _ (List.mem_append_left _ (List.mem_of_getElem? (i := 8) rfl)))))))))) rfl dX8_valueOf_156 ?_
        refine lv_ishr hx hb dX8_valueOf_159 ?_
        refine lv_iconst (v := 1) hx hb dX8_valueOf_160 (by decide) ?_
        refine lv_iand hx hb dX8_valueOf_161 ?_
        refine lv_iconst (v := 1) hx hb dX8_valueOf_162 (by decide) ?_
        refine lv_icmp_ne (tgt := 170) hx hb dX8_valueOf_163 (by decide) (fun c33 => ?_) (fun c33 => ?_)
        · have h := h.2 c33
          refine lv_iconst (v := (-1)) hx hb dX8_valueOf_170 (by decide) ?_
          exact hb_171 (-1) h _ _ _ hc (lv_sub hl [] rfl)
        · have h := h.1 c33
          refine lv_iconst (v := 0) hx hb dX8_valueOf_166 (by decide) ?_
          refine lv_goto (tgt := 171) hx hb dX8_valueOf_167 (by decide) ?_
          exact hb_171 0 h _ _ _ hc (lv_sub hl [] rfl)
      · have h := h.2.2.2.2.2.2.2.1 hs
        refine lv_tableIn (off := 162) (tgt := 172) hx hb dX8_valueOf_10 (by omega) (by omega) (by rw [hs]; rfl) (by decide) ?_
        refine lv_aload_n hx hb dX8_valueOf_172 rfl (lv_at hl 0 rfl) ?_
        refine lv_aload_n hx hb dX8_valueOf_173 rfl (lv_at hl 1 rfl) ?_
        refine g_get CF hc hk3 rfl (by decide) (fun _ h9 => List.mem_cons_of_mem _ (List.mem_append_left _ (List.mem_append_left _ (List.mem_append_left _ (List.mem_append_left _ (List.mem_append_left _ (List.mem_append_left _ (List.mem_append_right _ (h9))))))))) (k := 3) (by decide) (List.mem_cons_of_mem _ (List.mem_append_left _ (List.mem_append_left _ (List.mem_append_left _ (List.mem_append_left _ (List.mem_append_left _ (List.mem_append_left _ (List.mem_append_left _ (List.mem_append_left _ (List.mem_of_getElem? (i := 3) rfl)))))))))) rfl dX8_valueOf_174 ?_
        obtain ⟨hk34, h⟩ := h
        refine g_calli (va_runV (As := [.int (gI g y1 3)]) (rest := []) CF (c_X8_valueAt h) (cwV 1 hts gX8_valueOf_X8_valueAt rfl rfl rfl (by decide +kernel) ⟨Nat.le_of_ble_eq_true rfl, Nat.le_of_ble_eq_true rfl⟩) (hc.preV hk34 rfl (by decide)) rfl rfl hl.1 rfl (lv_room (Nat.le_of_ble_eq_true rfl)) dX8_valueOf_177 ⟨Nat.le_of_ble_eq_true rfl, Nat.le_of_ble_eq_true rfl⟩) hc (fun x35 gq36 H locs hq hc => ?_)
        obtain ⟨rfl, h⟩ := hq
        refine lv_aload_n hx hb dX8_valueOf_180 rfl (lv_at hl 1 rfl) ?_
        refine g_get CF hc hk3 rfl (by decide) (fun _ h9 => List.mem_cons_of_mem _ (List.mem_append_left _ (List.mem_append_left _ (List.mem_append_left _ (List.mem_append_left _ (List.mem_append_left _ (List.mem_append_left _ (List.mem_append_right _ (h9))))))))) (k := 10) (by decide) (List.mem_cons_of_mem _ (List.mem_append_left _ (List.mem_append_left _ (List.mem_append_left _ (List.mem_append_left _ (List.mem_append_left _ (List.mem_append_left _ (List.mem_append_left _ (List.mem_append_left _ (List.mem_of_getElem? (i := 9) rfl)))))))))) rfl dX8_valueOf_181 ?_
        refine g_calli (va_runS (As := [.int x35, .int (gI g y1 10)]) (rest := []) CF (c_X8_scaledValue h) (va_cwS 2 hts gX8_valueOf_X8_scaledValue rfl rfl rfl (by decide +kernel) ⟨Nat.le_of_ble_eq_true rfl, Nat.le_of_ble_eq_true rfl⟩) hc.preS rfl rfl hl.1 rfl (lv_room (Nat.le_of_ble_eq_true rfl)) dX8_valueOf_184 ⟨Nat.le_of_ble_eq_true rfl, Nat.le_of_ble_eq_true rfl⟩) hc (fun x37 gq38 H locs hq hc => ?_)
        obtain ⟨rfl, h⟩ := hq
        exact g_reti (r := x37) CF hr hlk hc rfl ⟨rfl, h⟩ dX8_valueOf_187
      · have h := h.2.2.2.2.2.2.2.2 hs
        refine lv_tableIn (off := 71) (tgt := 81) hx hb dX8_valueOf_10 (by omega) (by omega) (by rw [hs]; rfl) (by decide) ?_
        refine lv_aload_n hx hb dX8_valueOf_81 rfl (lv_at hl 0 rfl) ?_
        refine lv_aload_n hx hb dX8_valueOf_82 rfl (lv_at hl 1 rfl) ?_
        refine lv_aload_n hx hb dX8_valueOf_83 rfl (lv_at hl 1 rfl) ?_
        refine g_get CF hc hk3 rfl (by decide) (fun _ h9 => List.mem_cons_of_mem _ (List.mem_append_left _ (List.mem_append_left _ (List.mem_append_left _ (List.mem_append_left _ (List.mem_append_left _ (List.mem_append_left _ (List.mem_append_right _ (h9))))))))) (k := 12) (by decide) (List.mem_cons_of_mem _ (List.mem_append_left _ (List.mem_append_left _ (List.mem_append_left _ (List.mem_append_left _ (List.mem_append_left _ (List.mem_append_left _ (List.mem_append_left _ (List.mem_append_left _ (List.mem_of_getElem? (i := 1) rfl)))))))))) rfl dX8_valueOf_84 ?_
        obtain ⟨hk39, h⟩ := h
        refine g_calli (va_runV (As := [.ref y1, .int (gI g y1 12)]) (rest := []) CF (c_X8_sumOfAtLeast h) (cwV 2 hts gX8_valueOf_X8_sumOfAtLeast rfl rfl rfl (by decide +kernel) ⟨Nat.le_of_ble_eq_true rfl, Nat.le_of_ble_eq_true rfl⟩) (hc.preV hk39 rfl (by decide)) rfl rfl hl.1 rfl (lv_room (Nat.le_of_ble_eq_true rfl)) dX8_valueOf_87 ⟨Nat.le_of_ble_eq_true rfl, Nat.le_of_ble_eq_true rfl⟩) hc (fun x40 gq41 H locs hq hc => ?_)
        obtain ⟨rfl, h⟩ := hq
        exact g_reti (r := x40) CF hr hlk hc rfl ⟨rfl, h⟩ dX8_valueOf_90
  · have hu42 := h.1 e2
    subst e2
    have h := hu42
    refine lv_iconst (v := (-1)) hx hb dX8_valueOf_4 (by decide) ?_
    exact g_reti (r := (-1)) CF hr hlk hc rfl ⟨rfl, h⟩ dX8_valueOf_5
def b_X8_scoreOf_46 (g : gS) (r0 : Nat) (i2 : Int32) (Q : Int32 → gS → Prop) : Prop :=
  gK g r0 = 9 ∧ (w_X8_valueAt g r0 i2 (fun x2 => (Q x2 g)))
def l_X8_scoreOf_2 (r0 : Nat) (o1 : Option Nat) (i2 : Int32) (Q : Int32 → gS → Prop) (g : gS) (i3 : Int32) (k2 : gS → Int32 → Prop) : Prop :=
  (i2 < i3 → (b_X8_scoreOf_46 g r0 i2 Q)) ∧ (¬ i2 < i3 → (gK g r0 = 9 ∧ (∃ y6, gR g r0 4 = some y6 ∧ (gK g y6 = 21 ∧ (((nI (gN g y6)) ≤ i3 → (b_X8_scoreOf_46 g r0 i2 Q)) ∧ (¬ (nI (gN g y6)) ≤ i3 → (∃ y10, gR g r0 4 = some y10 ∧ (∃ y12, gR g r0 0 = some y12 ∧ (gK g y12 = 7 ∧ (w_X6_nodeAt g y12 i3 (fun o15 => (w_X8_valueOf g r0 o15 o1 (fun x17 => (gK g y10 = 21 ∧ (vp_in i3 (gN g y10) ∧ (∀ g21, g21 = sU g y10 (Int32.toNatClampNeg i3) (if 1000000 < x17 then 1000000 else x17) → (k2 g21 (i3 + 1))))))))))))))))))
def w_X8_scoreOf (g0 : gS) (p0 : Nat) (p1 : Option Nat) (p2 : Int32) (Q : Int32 → gS → Prop) : Prop :=
  lpx2 (l_X8_scoreOf_2 p0 p1 p2 Q) g0 0
abbrev r_X8_scoreOf : Room := { frames := 4, cells := 0, slots := 0, locals := 104 }
set_option maxHeartbeats 4000000 in
set_option maxRecDepth 100000 in
theorem c_X8_scoreOf {l : Launch} {D : va_G} {cA : Nat → ClassId} {sz : Nat} {g0 : gS} {p0 : Nat} {p1 : Option Nat} {p2 : Int32} {Q : Int32 → gS → Prop} (h : w_X8_scoreOf g0 p0 p1 p2 Q) : Met l yX8_scoreOf wsX8_scoreOf r_X8_scoreOf (va_Pc [.ref p0, va_rf p1, .int p2] (gPre D cA g0 sz)) (gQi D cA g0 sz (Q)) 0 0 (gA g0 sz) := by
  refine g_met (cc := cX8_scoreOf) (maxL := 4) (ret := (some .int)) (own := RX8) (by decide) rfl rfl (by cases p1 <;> exact Nat.le_of_ble_eq_true rfl) ?_
  intro p e s m args below meth c ls CF hr hlk hnm hc hl
  obtain ⟨hx, hb, hml, hown, hts⟩ := id CF
  have hl : lv_has ls 4 [(0, .ref p0), (1, va_rf p1), (2, .int p2)] := (by cases p1 <;> exact hl)
  show W p l e r_X8_scoreOf s m args below meth c s.heap [] 0 0 (MQ below (gQi D cA g0 sz (Q)) args s 0 0 (gA g0 sz)) (F0 m 0 ls [])
  have hb_46 : ∀ (g : gS) (r0 : Nat) (i2 : Int32), b_X8_scoreOf_46 g r0 i2 Q → ∀ (H : Heap) (locs : List Loc) (ls : Array Slot), gC D cA (gA g0 sz) s g H locs → lv_has ls 4 [(0, .ref r0), (2, .int i2)] → W p l e r_X8_scoreOf s m args below meth c H locs 0 0 (MQ below (gQi D cA g0 sz (Q)) args s 0 0 (gA g0 sz)) (F0 m 46 ls []) := by
    intro g r0 i2 h H locs ls hc hl
    unfold b_X8_scoreOf_46 at h
    refine lv_aload_n hx hb dX8_scoreOf_46 rfl (lv_at hl 0 rfl) ?_
    refine lv_iload_n hx hb dX8_scoreOf_47 rfl (lv_at hl 1 rfl) ?_
    obtain ⟨hk1, h⟩ := h
    refine g_calli (va_runV (As := [.int i2]) (rest := []) CF (c_X8_valueAt h) (cwV 1 hts gX8_scoreOf_X8_valueAt rfl rfl rfl (by decide +kernel) ⟨Nat.le_of_ble_eq_true rfl, Nat.le_of_ble_eq_true rfl⟩) (hc.preV hk1 rfl (by decide)) rfl rfl hl.1 rfl (lv_room (Nat.le_of_ble_eq_true rfl)) dX8_scoreOf_48 ⟨Nat.le_of_ble_eq_true rfl, Nat.le_of_ble_eq_true rfl⟩) hc (fun x2 gq3 H locs hq hc => ?_)
    obtain ⟨rfl, h⟩ := hq
    exact g_reti (r := x2) CF hr hlk hc rfl h dX8_scoreOf_51
  have hb_2 : ∀ (r0 : Nat) (o1 : Option Nat) (i2 : Int32), ∀ (g : gS) (i3 : Int32), lpx2 (l_X8_scoreOf_2 r0 o1 i2 Q) g i3 → ∀ (H : Heap) (locs : List Loc) (ls : Array Slot), gC D cA (gA g0 sz) s g H locs → lv_has ls 4 [(0, .ref r0), (1, va_rf o1), (2, .int i2), (3, .int i3)] → W p l e r_X8_scoreOf s m args below meth c H locs 0 0 (MQ below (gQi D cA g0 sz (Q)) args s 0 0 (gA g0 sz)) (F0 m 2 ls []) := by
    intro r0 o1 i2
    refine lpx2_run (P := fun (g : gS) (i3 : Int32) => ∀ (H : Heap) (locs : List Loc) (ls : Array Slot), gC D cA (gA g0 sz) s g H locs → lv_has ls 4 [(0, .ref r0), (1, va_rf o1), (2, .int i2), (3, .int i3)] → W p l e r_X8_scoreOf s m args below meth c H locs 0 0 (MQ below (gQi D cA g0 sz (Q)) args s 0 0 (gA g0 sz)) (F0 m 2 ls [])) ?_
    intro k2 hk_2 g i3 h H locs ls hc hl
    unfold l_X8_scoreOf_2 at h
    refine lv_iload_n hx hb dX8_scoreOf_2 rfl (lv_at hl 3 rfl) ?_
    refine lv_iload_n hx hb dX8_scoreOf_3 rfl (lv_at hl 2 rfl) ?_
    refine lv_icmp_gt (tgt := 46) hx hb dX8_scoreOf_4 (by decide) (fun c4 => ?_) (fun c4 => ?_)
    · have h := h.1 c4
      exact hb_46 g r0 i2 h _ _ _ hc (lv_sub hl [0, 2] rfl)
    · have h := h.2 c4
      refine lv_iload_n hx hb dX8_scoreOf_7 rfl (lv_at hl 3 rfl) ?_
      refine lv_aload_n hx hb dX8_scoreOf_8 rfl (lv_at hl 0 rfl) ?_
      obtain ⟨hk5, h⟩ := h
      obtain ⟨y6, e7, h⟩ := h
      refine g_getr CF hc hk5 rfl (by decide) (fun _ h9 => List.mem_cons_of_mem _ (List.mem_append_left _ (List.mem_append_left _ (List.mem_append_left _ (List.mem_append_left _ (List.mem_append_left _ (List.mem_append_left _ (List.mem_append_right _ (h9))))))))) (k := 4) (by decide) (List.mem_cons_of_mem _ (List.mem_append_left _ (List.mem_append_left _ (List.mem_append_left _ (List.mem_append_left _ (List.mem_append_left _ (List.mem_append_left _ (List.mem_append_left _ (List.mem_append_left _ (List.mem_of_getElem? (i := 0) rfl)))))))))) e7 rfl dX8_scoreOf_9 ?_
      obtain ⟨hk8, h⟩ := h
      refine g_alen CF hc (j := 0) hk8 (by decide) dX8_scoreOf_12 ?_
      refine lv_icmp_ge (tgt := 46) hx hb dX8_scoreOf_13 (by decide) (fun c9 => ?_) (fun c9 => ?_)
      · have h := h.1 c9
        exact hb_46 g r0 i2 h _ _ _ hc (lv_sub hl [0, 2] rfl)
      · have h := h.2 c9
        refine lv_aload_n hx hb dX8_scoreOf_16 rfl (lv_at hl 0 rfl) ?_
        obtain ⟨y10, e11, h⟩ := h
        refine g_getr CF hc hk5 rfl (by decide) (fun _ h9 => List.mem_cons_of_mem _ (List.mem_append_left _ (List.mem_append_left _ (List.mem_append_left _ (List.mem_append_left _ (List.mem_append_left _ (List.mem_append_left _ (List.mem_append_right _ (h9))))))))) (k := 4) (by decide) (List.mem_cons_of_mem _ (List.mem_append_left _ (List.mem_append_left _ (List.mem_append_left _ (List.mem_append_left _ (List.mem_append_left _ (List.mem_append_left _ (List.mem_append_left _ (List.mem_append_left _ (List.mem_of_getElem? (i := 0) rfl)))))))))) e11 rfl dX8_scoreOf_17 ?_
        refine lv_iload_n hx hb dX8_scoreOf_20 rfl (lv_at hl 3 rfl) ?_
        refine lv_aload_n hx hb dX8_scoreOf_21 rfl (lv_at hl 0 rfl) ?_
        refine lv_aload_n hx hb dX8_scoreOf_22 rfl (lv_at hl 0 rfl) ?_
        obtain ⟨y12, e13, h⟩ := h
        refine g_getr CF hc hk5 rfl (by decide) (fun _ h9 => List.mem_cons_of_mem _ (List.mem_append_left _ (List.mem_append_left _ (List.mem_append_left _ (List.mem_append_left _ (List.mem_append_left _ (List.mem_append_left _ (List.mem_append_right _ (h9))))))))) (k := 0) (by decide) (List.mem_cons_of_mem _ (List.mem_append_left _ (List.mem_append_left _ (List.mem_append_left _ (List.mem_append_left _ (List.mem_append_left _ (List.mem_append_left _ (List.mem_append_left _ (List.mem_append_left _ (List.mem_of_getElem? (i := 1) rfl)))))))))) e13 rfl dX8_scoreOf_23 ?_
        refine lv_iload_n hx hb dX8_scoreOf_26 rfl (lv_at hl 3 rfl) ?_
        obtain ⟨hk14, h⟩ := h
        refine g_callq (va_runV (As := [.int i3]) (rest := [.ref r0, .int i3, .ref y10]) CF (c_X6_nodeAt h) (cwV 1 hts gX8_scoreOf_X6_nodeAt rfl rfl rfl (by decide +kernel) ⟨Nat.le_of_ble_eq_true rfl, Nat.le_of_ble_eq_true rfl⟩) (hc.preV hk14 rfl (by decide)) rfl rfl hl.1 rfl (lv_room (Nat.le_of_ble_eq_true rfl)) dX8_scoreOf_27 ⟨Nat.le_of_ble_eq_true rfl, Nat.le_of_ble_eq_true rfl⟩) hc (fun o15 gq16 H locs hq hc => ?_)
        obtain ⟨rfl, h⟩ := hq
        refine g_aload_nq CF dX8_scoreOf_30 rfl (lv_at hl 1 rfl) ?_
        refine g_calli (va_runV (As := [va_rf o15, va_rf o1]) (rest := [.int i3, .ref y10]) CF (c_X8_valueOf h) (cwV 2 hts gX8_scoreOf_X8_valueOf rfl rfl rfl (by decide +kernel) ⟨Nat.le_of_ble_eq_true rfl, Nat.le_of_ble_eq_true rfl⟩) (hc.preV hk5 rfl (by decide)) rfl rfl hl.1 rfl (lv_room (Nat.le_of_ble_eq_true rfl)) dX8_scoreOf_31 ⟨Nat.le_of_ble_eq_true rfl, Nat.le_of_ble_eq_true rfl⟩) hc (fun x17 gq18 H locs hq hc => ?_)
        obtain ⟨rfl, h⟩ := hq
        refine lv_ldc (v := 1000000) hx hb hown (hts _ (List.mem_cons_of_mem _ (List.mem_append_left _ (List.mem_append_left _ (List.mem_append_left _ (List.mem_append_left _ (List.mem_append_left _ (List.mem_append_left _ (List.mem_append_left _ (List.mem_append_left _ (List.mem_of_getElem? (i := 2) rfl))))))))))) dX8_scoreOf_34 ?_
        refine va_mmin hx hb (hml.trans hl.1.symm) hown (hts _ (List.mem_cons_of_mem _ (List.mem_append_left _ (List.mem_append_left _ (List.mem_append_left _ (List.mem_append_left _ (List.mem_append_left _ (List.mem_append_left _ (List.mem_append_left _ (List.mem_append_left _ (List.mem_of_getElem? (i := 3) rfl))))))))))) (hts _ (List.mem_cons_of_mem _ (List.mem_append_left _ (List.mem_append_left _ (List.mem_append_left _ (List.mem_append_left _ (List.mem_append_left _ (List.mem_append_left _ (List.mem_append_left _ (List.mem_append_left _ (List.mem_of_getElem? (i := 4) rfl))))))))))) (hts _ (List.mem_cons_of_mem _ (List.mem_append_left _ (List.mem_append_left _ (List.mem_append_left _ (List.mem_append_left _ (List.mem_append_left _ (List.mem_append_left _ (List.mem_append_left _ (List.mem_append_left _ (List.mem_of_getElem? (i := 5) rfl))))))))))) (hts _ (List.mem_cons_of_mem _ (List.mem_append_left _ (List.mem_append_left _ (List.mem_append_left _ (List.mem_append_left _ (List.mem_append_left _ (List.mem_append_left _ (List.mem_append_left _ (List.mem_append_left _ (List.mem_of_getElem? (i := 6) rfl))))))))))) (Nat.le_of_ble_eq_true rfl) (Nat.le_of_ble_eq_true rfl) (Nat.le_of_ble_eq_true rfl) (Nat.le_of_ble_eq_true rfl) dX8_scoreOf_36 ?_
        obtain ⟨hk19, h⟩ := h
        obtain ⟨hi20, h⟩ := h
        refine g_iast CF hc hk19 (x := (if 1000000 < x17 then 1000000 else x17)) hi20 dX8_scoreOf_39 (fun H locs hc => ?_)
        obtain ⟨g21, eg22⟩ : ∃ z, z = sU g y10 (Int32.toNatClampNeg i3) (if 1000000 < x17 then 1000000 else x17) := ⟨_, rfl⟩
        have hc : gC D cA (gA g0 sz) s g21 H locs := by rw [eg22]; exact hc
        replace h := h g21 eg22
        refine lv_iinc (v := (i3 + 1)) (lv' := [(3, .int (i3 + 1)), (0, .ref r0), (1, va_rf o1), (2, .int i2)]) hx hb dX8_scoreOf_40 hl (k := 3) rfl rfl (by decide) rfl (fun ls hl => ?_)
        refine lv_goto (tgt := 2) hx hb dX8_scoreOf_43 (by decide) ?_
        exact hk_2 g21 (i3 + 1) h _ _ _ hc (lv_sub hl [1, 2, 3, 0] rfl)
  unfold w_X8_scoreOf at h
  obtain ⟨H, hH0⟩ : ∃ z, z = s.heap := ⟨_, rfl⟩
  rw [← hH0] at hc ⊢
  obtain ⟨locs, hlc0⟩ : ∃ z : List Loc, z = [] := ⟨_, rfl⟩
  rw [← hlc0] at hc ⊢
  refine lv_iconst (v := 0) hx hb dX8_scoreOf_0 (by decide) ?_
  refine lv_istore_n (lv' := [(3, .int 0), (0, .ref p0), (1, va_rf p1), (2, .int p2)]) hx hb dX8_scoreOf_1 rfl hl (by decide) rfl (fun ls hl => ?_)
  exact hb_2 p0 p1 p2 g0 0 h _ _ _ hc (lv_sub hl [1, 2, 3, 0] rfl)
def w_X3_init (g0 : gS) (p0 : Nat) (p1 : Nat) (p2 : Nat) (Q : gS → Prop) : Prop :=
  ∀ q1 rr2, gFresh g0 q1 rr2 3 → (∀ g4, g4 = sGrid g0 q1 rr2 3 200 → (gK g4 p0 = 4 ∧ (∀ g7, g7 = sV g4 p0 2 (some q1) → (∀ q9, gK g7 q9 = 0 → (∀ g11, g11 = sNew g7 q9 21 200 → (gK g11 p0 = 4 ∧ (∀ g14, g14 = sV g11 p0 3 (some q9) → (∀ q16, gK g14 q16 = 0 → (∀ g18, g18 = sNew g14 q16 21 200 → (gK g18 p0 = 4 ∧ (∀ g21, g21 = sV g18 p0 4 (some q16) → (∀ q23, gK g21 q23 = 0 → (∀ g25, g25 = sNew g21 q23 21 200 → (gK g25 p0 = 4 ∧ (∀ g28, g28 = sV g25 p0 5 (some q23) → (gK g28 p0 = 4 ∧ (∀ g31, g31 = sV g28 p0 0 (some p1) → (gK g31 p0 = 4 ∧ (∀ g34, g34 = sV g31 p0 1 (some p2) → (Q g34))))))))))))))))))))
abbrev r_X3_init : Room := { frames := 1, cells := 7, slots := 1203, locals := 12 }
set_option maxHeartbeats 4000000 in
set_option maxRecDepth 100000 in
theorem c_X3_init {l : Launch} {D : va_G} {cA : Nat → ClassId} {sz : Nat} {g0 : gS} {p0 : Nat} {p1 : Nat} {p2 : Nat} {Q : gS → Prop} (h : w_X3_init g0 p0 p1 p2 Q) : Met l yX3_init wsX3_init r_X3_init (va_Pc [.ref p0, .ref p1, .ref p2] (gPre D cA g0 sz)) (gQv D cA g0 sz (Q)) 7 1203 (gA g0 sz) := by
  refine g_met (cc := cX3_init) (maxL := 3) (ret := none) (own := RX3) (by decide) rfl rfl (Nat.le_of_ble_eq_true rfl) ?_
  intro p e s m args below meth c ls CF hr hlk hnm hc hl
  obtain ⟨hx, hb, hml, hown, hts⟩ := id CF
  have hl : lv_has ls 3 [(0, .ref p0), (1, .ref p1), (2, .ref p2)] := hl
  show W p l e r_X3_init s m args below meth c s.heap [] 0 0 (MQ below (gQv D cA g0 sz (Q)) args s 7 1203 (gA g0 sz)) (F0 m 0 ls [])
  unfold w_X3_init at h
  obtain ⟨H, hH0⟩ : ∃ z, z = s.heap := ⟨_, rfl⟩
  rw [← hH0] at hc ⊢
  obtain ⟨locs, hlc0⟩ : ∃ z : List Loc, z = [] := ⟨_, rfl⟩
  rw [← hlc0] at hc ⊢
  refine lv_aload_n hx hb dX3_init_0 rfl (lv_at hl 0 rfl) ?_
  refine W.objInit hx hb hown (hts _ (List.mem_cons_of_mem _ (List.mem_append_left _ (List.mem_of_getElem? (i := 0) rfl)))) (hts _ (List.mem_cons_of_mem _ (List.mem_append_left _ (List.mem_of_getElem? (i := 1) rfl)))) (hts _ (List.mem_cons_of_mem _ (List.mem_append_left _ (List.mem_of_getElem? (i := 2) rfl)))) rfl (by rw [hml]; exact hl.1) rfl dX3_init_1 (Nat.le_of_ble_eq_true rfl) (Nat.le_of_ble_eq_true rfl) ?_
  refine W.eq (g2 := F0 m 4 ls []) rfl ?_
  refine lv_aload_n hx hb dX3_init_4 rfl (lv_at hl 0 rfl) ?_
  refine lv_iconst (v := 3) hx hb dX3_init_5 (by decide) ?_
  refine lv_sipush (v := 200) hx hb dX3_init_6 (by decide) ?_
  refine g_mna CF hc (List.mem_cons_of_mem _ (List.mem_append_left _ (List.mem_of_getElem? (i := 3) rfl))) (List.mem_cons_of_mem _ (List.mem_append_left _ (List.mem_of_getElem? (i := 4) rfl))) (n := 3) (k := 200) (N := 3) (M := 200) (by decide) (by decide) (by decide) (by decide) (by decide) (by decide) (Nat.le_of_ble_eq_true rfl) (Nat.le_of_ble_eq_true rfl) dX3_init_9 (fun q1 rr2 H locs hg3 hc => ?_)
  replace h := h q1 rr2 hg3
  refine W.widen (k := 4) (n := 603) (Nat.le_of_ble_eq_true rfl) (Nat.le_of_ble_eq_true rfl) ?_
  obtain ⟨g4, eg5⟩ : ∃ z, z = sGrid g0 q1 rr2 3 200 := ⟨_, rfl⟩
  have hc : gC D cA (gA g0 sz) s g4 H locs := by rw [eg5]; exact hc
  replace h := h g4 eg5
  obtain ⟨hk6, h⟩ := h
  refine g_putrF CF hc hk6 rfl (by decide) (fun _ h9 => List.mem_cons_of_mem _ (List.mem_append_right _ (h9))) tyX3 tyX3_ok nmX3 (k := 2) (by decide) (List.mem_cons_of_mem _ (List.mem_append_left _ (List.mem_of_getElem? (i := 5) rfl))) rfl hnm rfl (some q1) narrow_ra fits_ra rfl dX3_init_13 (fun H locs hc => ?_)
  obtain ⟨g7, eg8⟩ : ∃ z, z = sV g4 p0 2 (some q1) := ⟨_, rfl⟩
  have hc : gC D cA (gA g0 sz) s g7 H locs := by rw [eg8]; exact hc
  replace h := h g7 eg8
  refine lv_aload_n hx hb dX3_init_16 rfl (lv_at hl 0 rfl) ?_
  refine lv_sipush (v := 200) hx hb dX3_init_17 (by decide) ?_
  refine g_newi CF hc (List.mem_cons_of_mem _ (List.mem_append_left _ (List.mem_of_getElem? (i := 4) rfl))) (n := 200) (N := 200) (by decide) (by decide) (by decide) (Nat.le_of_ble_eq_true rfl) (Nat.le_of_ble_eq_true rfl) dX3_init_20 (fun q9 H locs hq10 hc => ?_)
  replace h := h q9 hq10
  obtain ⟨g11, eg12⟩ : ∃ z, z = sNew g7 q9 21 200 := ⟨_, rfl⟩
  have hc : gC D cA (gA g0 sz) s g11 H locs := by rw [eg12]; exact hc
  replace h := h g11 eg12
  refine W.widen (k := 5) (n := 803) (Nat.le_of_ble_eq_true rfl) (Nat.le_of_ble_eq_true rfl) ?_
  obtain ⟨hk13, h⟩ := h
  refine g_putrF CF hc hk13 rfl (by decide) (fun _ h9 => List.mem_cons_of_mem _ (List.mem_append_right _ (h9))) tyX3 tyX3_ok nmX3 (k := 3) (by decide) (List.mem_cons_of_mem _ (List.mem_append_left _ (List.mem_of_getElem? (i := 6) rfl))) rfl hnm rfl (some q9) narrow_ra fits_ra rfl dX3_init_22 (fun H locs hc => ?_)
  obtain ⟨g14, eg15⟩ : ∃ z, z = sV g11 p0 3 (some q9) := ⟨_, rfl⟩
  have hc : gC D cA (gA g0 sz) s g14 H locs := by rw [eg15]; exact hc
  replace h := h g14 eg15
  refine lv_aload_n hx hb dX3_init_25 rfl (lv_at hl 0 rfl) ?_
  refine lv_sipush (v := 200) hx hb dX3_init_26 (by decide) ?_
  refine g_newi CF hc (List.mem_cons_of_mem _ (List.mem_append_left _ (List.mem_of_getElem? (i := 4) rfl))) (n := 200) (N := 200) (by decide) (by decide) (by decide) (Nat.le_of_ble_eq_true rfl) (Nat.le_of_ble_eq_true rfl) dX3_init_29 (fun q16 H locs hq17 hc => ?_)
  replace h := h q16 hq17
  obtain ⟨g18, eg19⟩ : ∃ z, z = sNew g14 q16 21 200 := ⟨_, rfl⟩
  have hc : gC D cA (gA g0 sz) s g18 H locs := by rw [eg19]; exact hc
  replace h := h g18 eg19
  refine W.widen (k := 6) (n := 1003) (Nat.le_of_ble_eq_true rfl) (Nat.le_of_ble_eq_true rfl) ?_
  obtain ⟨hk20, h⟩ := h
  refine g_putrF CF hc hk20 rfl (by decide) (fun _ h9 => List.mem_cons_of_mem _ (List.mem_append_right _ (h9))) tyX3 tyX3_ok nmX3 (k := 4) (by decide) (List.mem_cons_of_mem _ (List.mem_append_left _ (List.mem_of_getElem? (i := 7) rfl))) rfl hnm rfl (some q16) narrow_ra fits_ra rfl dX3_init_31 (fun H locs hc => ?_)
  obtain ⟨g21, eg22⟩ : ∃ z, z = sV g18 p0 4 (some q16) := ⟨_, rfl⟩
  have hc : gC D cA (gA g0 sz) s g21 H locs := by rw [eg22]; exact hc
  replace h := h g21 eg22
  refine lv_aload_n hx hb dX3_init_34 rfl (lv_at hl 0 rfl) ?_
  refine lv_sipush (v := 200) hx hb dX3_init_35 (by decide) ?_
  refine g_newi CF hc (List.mem_cons_of_mem _ (List.mem_append_left _ (List.mem_of_getElem? (i := 4) rfl))) (n := 200) (N := 200) (by decide) (by decide) (by decide) (Nat.le_of_ble_eq_true rfl) (Nat.le_of_ble_eq_true rfl) dX3_init_38 (fun q23 H locs hq24 hc => ?_)
  replace h := h q23 hq24
  obtain ⟨g25, eg26⟩ : ∃ z, z = sNew g21 q23 21 200 := ⟨_, rfl⟩
  have hc : gC D cA (gA g0 sz) s g25 H locs := by rw [eg26]; exact hc
  replace h := h g25 eg26
  refine W.widen (k := 7) (n := 1203) (Nat.le_of_ble_eq_true rfl) (Nat.le_of_ble_eq_true rfl) ?_
  obtain ⟨hk27, h⟩ := h
  refine g_putrF CF hc hk27 rfl (by decide) (fun _ h9 => List.mem_cons_of_mem _ (List.mem_append_right _ (h9))) tyX3 tyX3_ok nmX3 (k := 5) (by decide) (List.mem_cons_of_mem _ (List.mem_append_left _ (List.mem_of_getElem? (i := 8) rfl))) rfl hnm rfl (some q23) narrow_ra fits_ra rfl dX3_init_40 (fun H locs hc => ?_)
  obtain ⟨g28, eg29⟩ : ∃ z, z = sV g25 p0 5 (some q23) := ⟨_, rfl⟩
  have hc : gC D cA (gA g0 sz) s g28 H locs := by rw [eg29]; exact hc
  replace h := h g28 eg29
  refine lv_aload_n hx hb dX3_init_43 rfl (lv_at hl 0 rfl) ?_
  refine lv_aload_n hx hb dX3_init_44 rfl (lv_at hl 1 rfl) ?_
  obtain ⟨hk30, h⟩ := h
  refine g_putrF CF hc hk30 rfl (by decide) (fun _ h9 => List.mem_cons_of_mem _ (List.mem_append_right _ (h9))) tyX3 tyX3_ok nmX3 (k := 0) (by decide) (List.mem_cons_of_mem _ (List.mem_append_left _ (List.mem_of_getElem? (i := 9) rfl))) rfl hnm rfl (some p1) narrow_rf fits_rf rfl dX3_init_45 (fun H locs hc => ?_)
  obtain ⟨g31, eg32⟩ : ∃ z, z = sV g28 p0 0 (some p1) := ⟨_, rfl⟩
  have hc : gC D cA (gA g0 sz) s g31 H locs := by rw [eg32]; exact hc
  replace h := h g31 eg32
  refine lv_aload_n hx hb dX3_init_48 rfl (lv_at hl 0 rfl) ?_
  refine lv_aload_n hx hb dX3_init_49 rfl (lv_at hl 2 rfl) ?_
  obtain ⟨hk33, h⟩ := h
  refine g_putrF CF hc hk33 rfl (by decide) (fun _ h9 => List.mem_cons_of_mem _ (List.mem_append_right _ (h9))) tyX3 tyX3_ok nmX3 (k := 1) (by decide) (List.mem_cons_of_mem _ (List.mem_append_left _ (List.mem_of_getElem? (i := 10) rfl))) rfl hnm rfl (some p2) narrow_rf fits_rf rfl dX3_init_50 (fun H locs hc => ?_)
  obtain ⟨g34, eg35⟩ : ∃ z, z = sV g31 p0 1 (some p2) := ⟨_, rfl⟩
  have hc : gC D cA (gA g0 sz) s g34 H locs := by rw [eg35]; exact hc
  replace h := h g34 eg35
  exact g_retv CF hr hlk hc h dX3_init_53
def b_X3_fillWorthsOf_71 (g : gS) (r0 : Nat) (r1 : Nat) (i2 : Int32) (r3 : Nat) (i4 : Int32) (Q : gS → Prop) (k3 : gS → Int32 → Prop) : Prop :=
  k3 g (i4 + 1)
def l_X3_fillWorthsOf_3 (r0 : Nat) (r1 : Nat) (i2 : Int32) (r3 : Nat) (Q : gS → Prop) (g : gS) (i4 : Int32) (k3 : gS → Int32 → Prop) : Prop :=
  gK g r1 = 10 ∧ (((gI g r1 4) ≤ i4 → (Q g)) ∧ (¬ (gI g r1 4) ≤ i4 → (w_X9_differentTermOn g r1 i4 (fun x3 => ((x3 < 0 → (b_X3_fillWorthsOf_71 g r0 r1 i2 r3 i4 Q k3)) ∧ (¬ x3 < 0 → (gK g r3 = 21 ∧ (((nI (gN g r3)) ≤ x3 → (b_X3_fillWorthsOf_71 g r0 r1 i2 r3 i4 Q k3)) ∧ (¬ (nI (gN g r3)) ≤ x3 → (gK g r0 = 4 ∧ (∃ y9, gR g r0 1 = some y9 ∧ (gK g y9 = 5 ∧ (w_X4_isMuted g y9 x3 (fun x12 => ((x12 = 0 → (∃ y15, gR g r0 0 = some y15 ∧ (gK g y15 = 1 ∧ (∃ y18, gR g y15 5 = some y18 ∧ (∃ y20, gR g r0 0 = some y20 ∧ (gK g y20 = 1 ∧ (∃ y23, gR g y20 5 = some y23 ∧ (gK g y23 = 2 ∧ (w_X1_spreadOf g y23 x3 i2 (fun x26 => (gK g y18 = 2 ∧ (w_X1_rarityOf g y18 x26 (fun x29 => (vp_in x3 (gN g r3) ∧ (∀ g32, g32 = sU g r3 (Int32.toNatClampNeg x3) x29 → (b_X3_fillWorthsOf_71 g32 r0 r1 i2 r3 i4 Q k3)))))))))))))))) ∧ (¬ x12 = 0 → (b_X3_fillWorthsOf_71 g r0 r1 i2 r3 i4 Q k3)))))))))))))))))
def w_X3_fillWorthsOf (g0 : gS) (p0 : Nat) (p1 : Nat) (p2 : Int32) (p3 : Nat) (Q : gS → Prop) : Prop :=
  lpx2 (l_X3_fillWorthsOf_3 p0 p1 p2 p3 Q) g0 0
abbrev r_X3_fillWorthsOf : Room := { frames := 1, cells := 0, slots := 0, locals := 25 }
set_option maxHeartbeats 4000000 in
set_option maxRecDepth 100000 in
theorem c_X3_fillWorthsOf {l : Launch} {D : va_G} {cA : Nat → ClassId} {sz : Nat} {g0 : gS} {p0 : Nat} {p1 : Nat} {p2 : Int32} {p3 : Nat} {Q : gS → Prop} (h : w_X3_fillWorthsOf g0 p0 p1 p2 p3 Q) : Met l yX3_fillWorthsOf wsX3_fillWorthsOf r_X3_fillWorthsOf (va_Pc [.ref p0, .ref p1, .int p2, .ref p3] (gPre D cA g0 sz)) (gQv D cA g0 sz (Q)) 0 0 (gA g0 sz) := by
  refine g_met (cc := cX3_fillWorthsOf) (maxL := 6) (ret := none) (own := RX3) (by decide) rfl rfl (Nat.le_of_ble_eq_true rfl) ?_
  intro p e s m args below meth c ls CF hr hlk hnm hc hl
  obtain ⟨hx, hb, hml, hown, hts⟩ := id CF
  have hl : lv_has ls 6 [(0, .ref p0), (1, .ref p1), (2, .int p2), (3, .ref p3)] := hl
  show W p l e r_X3_fillWorthsOf s m args below meth c s.heap [] 0 0 (MQ below (gQv D cA g0 sz (Q)) args s 0 0 (gA g0 sz)) (F0 m 0 ls [])
  have hb_3 : ∀ (r0 : Nat) (r1 : Nat) (i2 : Int32) (r3 : Nat), ∀ (g : gS) (i4 : Int32), lpx2 (l_X3_fillWorthsOf_3 r0 r1 i2 r3 Q) g i4 → ∀ (H : Heap) (locs : List Loc) (ls : Array Slot), gC D cA (gA g0 sz) s g H locs → lv_has ls 6 [(0, .ref r0), (1, .ref r1), (2, .int i2), (3, .ref r3), (4, .int i4)] → W p l e r_X3_fillWorthsOf s m args below meth c H locs 0 0 (MQ below (gQv D cA g0 sz (Q)) args s 0 0 (gA g0 sz)) (F0 m 3 ls []) := by
    intro r0 r1 i2 r3
    refine lpx2_run (P := fun (g : gS) (i4 : Int32) => ∀ (H : Heap) (locs : List Loc) (ls : Array Slot), gC D cA (gA g0 sz) s g H locs → lv_has ls 6 [(0, .ref r0), (1, .ref r1), (2, .int i2), (3, .ref r3), (4, .int i4)] → W p l e r_X3_fillWorthsOf s m args below meth c H locs 0 0 (MQ below (gQv D cA g0 sz (Q)) args s 0 0 (gA g0 sz)) (F0 m 3 ls [])) ?_
    intro k3 hk_3 g i4 h H locs ls hc hl
    have hb_71 : ∀ (g : gS) (i4 : Int32), b_X3_fillWorthsOf_71 g r0 r1 i2 r3 i4 Q k3 → ∀ (H : Heap) (locs : List Loc) (ls : Array Slot), gC D cA (gA g0 sz) s g H locs → lv_has ls 6 [(0, .ref r0), (1, .ref r1), (2, .int i2), (3, .ref r3), (4, .int i4)] → W p l e r_X3_fillWorthsOf s m args below meth c H locs 0 0 (MQ below (gQv D cA g0 sz (Q)) args s 0 0 (gA g0 sz)) (F0 m 71 ls []) := by
      intro g i4 h H locs ls hc hl
      unfold b_X3_fillWorthsOf_71 at h
      refine lv_iinc (v := (i4 + 1)) (lv' := [(4, .int (i4 + 1)), (0, .ref r0), (1, .ref r1), (2, .int i2), (3, .ref r3)]) hx hb dX3_fillWorthsOf_71 hl (k := 4) rfl rfl (by decide) rfl (fun ls hl => ?_)
      refine lv_goto (tgt := 3) hx hb dX3_fillWorthsOf_74 (by decide) ?_
      exact hk_3 g (i4 + 1) h _ _ _ hc (lv_sub hl [1, 2, 3, 4, 0] rfl)
    unfold l_X3_fillWorthsOf_3 at h
    refine lv_iload hx hb dX3_fillWorthsOf_3 (lv_at hl 4 rfl) ?_
    refine lv_aload_n hx hb dX3_fillWorthsOf_5 rfl (lv_at hl 1 rfl) ?_
    obtain ⟨hk1, h⟩ := h
    refine g_get CF hc hk1 rfl (by decide) (fun _ h9 => List.mem_cons_of_mem _ (List.mem_append_left _ (List.mem_append_left _ (List.mem_append_left _ (List.mem_append_left _ (List.mem_append_right _ (h9))))))) (k := 4) (by decide) (List.mem_cons_of_mem _ (List.mem_append_left _ (List.mem_append_left _ (List.mem_append_left _ (List.mem_append_left _ (List.mem_append_left _ (List.mem_append_left _ (List.mem_of_getElem? (i := 0) rfl)))))))) rfl dX3_fillWorthsOf_6 ?_
    refine lv_icmp_ge (tgt := 77) hx hb dX3_fillWorthsOf_9 (by decide) (fun c2 => ?_) (fun c2 => ?_)
    · have h := h.1 c2
      exact g_retv CF hr hlk hc h dX3_fillWorthsOf_77
    · have h := h.2 c2
      refine lv_aload_n hx hb dX3_fillWorthsOf_12 rfl (lv_at hl 1 rfl) ?_
      refine lv_iload hx hb dX3_fillWorthsOf_13 (lv_at hl 4 rfl) ?_
      refine g_calli (va_runV (As := [.int i4]) (rest := []) CF (c_X9_differentTermOn h) (cwV 1 hts gX3_fillWorthsOf_X9_differentTermOn rfl rfl rfl (by decide +kernel) ⟨Nat.le_of_ble_eq_true rfl, Nat.le_of_ble_eq_true rfl⟩) (hc.preV hk1 rfl (by decide)) rfl rfl hl.1 rfl (lv_room (Nat.le_of_ble_eq_true rfl)) dX3_fillWorthsOf_15 ⟨Nat.le_of_ble_eq_true rfl, Nat.le_of_ble_eq_true rfl⟩) hc (fun x3 gq4 H locs hq hc => ?_)
      obtain ⟨rfl, h⟩ := hq
      refine lv_istore (lv' := [(5, .int x3), (0, .ref r0), (1, .ref r1), (2, .int i2), (3, .ref r3), (4, .int i4)]) hx hb dX3_fillWorthsOf_18 hl (by decide) rfl (fun ls hl => ?_)
      refine lv_iload hx hb dX3_fillWorthsOf_20 (lv_at hl 0 rfl) ?_
      refine lv_if_lt (tgt := 71) hx hb dX3_fillWorthsOf_22 (by decide) (fun c5 => ?_) (fun c5 => ?_)
      · have h := h.1 c5
        exact hb_71 g i4 h _ _ _ hc (lv_sub hl [1, 2, 3, 4, 5] rfl)
      · have h := h.2 c5
        refine lv_iload hx hb dX3_fillWorthsOf_25 (lv_at hl 0 rfl) ?_
        refine lv_aload_n hx hb dX3_fillWorthsOf_27 rfl (lv_at hl 4 rfl) ?_
        obtain ⟨hk6, h⟩ := h
        refine g_alen CF hc (j := 0) hk6 (by decide) dX3_fillWorthsOf_28 ?_
        refine lv_icmp_ge (tgt := 71) hx hb dX3_fillWorthsOf_29 (by decide) (fun c7 => ?_) (fun c7 => ?_)
        · have h := h.1 c7
          exact hb_71 g i4 h _ _ _ hc (lv_sub hl [1, 2, 3, 4, 5] rfl)
        · have h := h.2 c7
          refine lv_aload_n hx hb dX3_fillWorthsOf_32 rfl (lv_at hl 1 rfl) ?_
          obtain ⟨hk8, h⟩ := h
          obtain ⟨y9, e10, h⟩ := h
          refine g_getr CF hc hk8 rfl (by decide) (fun _ h9 => List.mem_cons_of_mem _ (List.mem_append_left _ (List.mem_append_left _ (List.mem_append_left _ (List.mem_append_right _ (h9)))))) (k := 1) (by decide) (List.mem_cons_of_mem _ (List.mem_append_left _ (List.mem_append_left _ (List.mem_append_left _ (List.mem_append_left _ (List.mem_append_left _ (List.mem_append_left _ (List.mem_of_getElem? (i := 1) rfl)))))))) e10 rfl dX3_fillWorthsOf_33 ?_
          refine lv_iload hx hb dX3_fillWorthsOf_36 (lv_at hl 0 rfl) ?_
          obtain ⟨hk11, h⟩ := h
          refine g_calli (va_runV (As := [.int x3]) (rest := []) CF (c_X4_isMuted h) (cwV 1 hts gX3_fillWorthsOf_X4_isMuted rfl rfl rfl (by decide +kernel) ⟨Nat.le_of_ble_eq_true rfl, Nat.le_of_ble_eq_true rfl⟩) (hc.preV hk11 rfl (by decide)) rfl rfl hl.1 rfl (lv_room (Nat.le_of_ble_eq_true rfl)) dX3_fillWorthsOf_38 ⟨Nat.le_of_ble_eq_true rfl, Nat.le_of_ble_eq_true rfl⟩) hc (fun x12 gq13 H locs hq hc => ?_)
          obtain ⟨rfl, h⟩ := hq
          refine lv_if_ne (tgt := 71) hx hb dX3_fillWorthsOf_41 (by decide) (fun c14 => ?_) (fun c14 => ?_)
          · have h := h.2 c14
            exact hb_71 g i4 h _ _ _ hc (lv_sub hl [1, 2, 3, 4, 5] rfl)
          · have h := h.1 c14
            refine lv_aload_n hx hb dX3_fillWorthsOf_44 rfl (lv_at hl 4 rfl) ?_
            refine lv_iload hx hb dX3_fillWorthsOf_45 (lv_at hl 0 rfl) ?_
            refine lv_aload_n hx hb dX3_fillWorthsOf_47 rfl (lv_at hl 1 rfl) ?_
            obtain ⟨y15, e16, h⟩ := h
            refine g_getr CF hc hk8 rfl (by decide) (fun _ h9 => List.mem_cons_of_mem _ (List.mem_append_left _ (List.mem_append_left _ (List.mem_append_left _ (List.mem_append_right _ (h9)))))) (k := 0) (by decide) (List.mem_cons_of_mem _ (List.mem_append_left _ (List.mem_append_left _ (List.mem_append_left _ (List.mem_append_left _ (List.mem_append_left _ (List.mem_append_left _ (List.mem_of_getElem? (i := 2) rfl)))))))) e16 rfl dX3_fillWorthsOf_48 ?_
            obtain ⟨hk17, h⟩ := h
            obtain ⟨y18, e19, h⟩ := h
            refine g_getr CF hc hk17 rfl (by decide) (fun _ h9 => List.mem_cons_of_mem _ (List.mem_append_left _ (List.mem_append_left _ (List.mem_append_right _ (h9))))) (k := 5) (by decide) (List.mem_cons_of_mem _ (List.mem_append_left _ (List.mem_append_left _ (List.mem_append_left _ (List.mem_append_left _ (List.mem_append_left _ (List.mem_append_left _ (List.mem_of_getElem? (i := 3) rfl)))))))) e19 rfl dX3_fillWorthsOf_51 ?_
            refine lv_aload_n hx hb dX3_fillWorthsOf_54 rfl (lv_at hl 1 rfl) ?_
            obtain ⟨y20, e21, h⟩ := h
            refine g_getr CF hc hk8 rfl (by decide) (fun _ h9 => List.mem_cons_of_mem _ (List.mem_append_left _ (List.mem_append_left _ (List.mem_append_left _ (List.mem_append_right _ (h9)))))) (k := 0) (by decide) (List.mem_cons_of_mem _ (List.mem_append_left _ (List.mem_append_left _ (List.mem_append_left _ (List.mem_append_left _ (List.mem_append_left _ (List.mem_append_left _ (List.mem_of_getElem? (i := 2) rfl)))))))) e21 rfl dX3_fillWorthsOf_55 ?_
            obtain ⟨hk22, h⟩ := h
            obtain ⟨y23, e24, h⟩ := h
            refine g_getr CF hc hk22 rfl (by decide) (fun _ h9 => List.mem_cons_of_mem _ (List.mem_append_left _ (List.mem_append_left _ (List.mem_append_right _ (h9))))) (k := 5) (by decide) (List.mem_cons_of_mem _ (List.mem_append_left _ (List.mem_append_left _ (List.mem_append_left _ (List.mem_append_left _ (List.mem_append_left _ (List.mem_append_left _ (List.mem_of_getElem? (i := 3) rfl)))))))) e24 rfl dX3_fillWorthsOf_58 ?_
            refine lv_iload hx hb dX3_fillWorthsOf_61 (lv_at hl 0 rfl) ?_
            refine lv_iload_n hx hb dX3_fillWorthsOf_63 rfl (lv_at hl 3 rfl) ?_
            obtain ⟨hk25, h⟩ := h
            refine g_calli (va_runV (As := [.int x3, .int i2]) (rest := [.ref y18, .int x3, .ref r3]) CF (c_X1_spreadOf h) (cwV 2 hts gX3_fillWorthsOf_X1_spreadOf rfl rfl rfl (by decide +kernel) ⟨Nat.le_of_ble_eq_true rfl, Nat.le_of_ble_eq_true rfl⟩) (hc.preV hk25 rfl (by decide)) rfl rfl hl.1 rfl (lv_room (Nat.le_of_ble_eq_true rfl)) dX3_fillWorthsOf_64 ⟨Nat.le_of_ble_eq_true rfl, Nat.le_of_ble_eq_true rfl⟩) hc (fun x26 gq27 H locs hq hc => ?_)
            obtain ⟨rfl, h⟩ := hq
            obtain ⟨hk28, h⟩ := h
            refine g_calli (va_runV (As := [.int x26]) (rest := [.int x3, .ref r3]) CF (c_X1_rarityOf h) (cwV 1 hts gX3_fillWorthsOf_X1_rarityOf rfl rfl rfl (by decide +kernel) ⟨Nat.le_of_ble_eq_true rfl, Nat.le_of_ble_eq_true rfl⟩) (hc.preV hk28 rfl (by decide)) rfl rfl hl.1 rfl (lv_room (Nat.le_of_ble_eq_true rfl)) dX3_fillWorthsOf_67 ⟨Nat.le_of_ble_eq_true rfl, Nat.le_of_ble_eq_true rfl⟩) hc (fun x29 gq30 H locs hq hc => ?_)
            obtain ⟨rfl, h⟩ := hq
            obtain ⟨hi31, h⟩ := h
            refine g_iast CF hc hk6 (x := x29) hi31 dX3_fillWorthsOf_70 (fun H locs hc => ?_)
            obtain ⟨g32, eg33⟩ : ∃ z, z = sU g r3 (Int32.toNatClampNeg x3) x29 := ⟨_, rfl⟩
            have hc : gC D cA (gA g0 sz) s g32 H locs := by rw [eg33]; exact hc
            replace h := h g32 eg33
            exact hb_71 g32 i4 h _ _ _ hc (lv_sub hl [1, 2, 3, 4, 5] rfl)
  unfold w_X3_fillWorthsOf at h
  obtain ⟨H, hH0⟩ : ∃ z, z = s.heap := ⟨_, rfl⟩
  rw [← hH0] at hc ⊢
  obtain ⟨locs, hlc0⟩ : ∃ z : List Loc, z = [] := ⟨_, rfl⟩
  rw [← hlc0] at hc ⊢
  refine lv_iconst (v := 0) hx hb dX3_fillWorthsOf_0 (by decide) ?_
  refine lv_istore (lv' := [(4, .int 0), (0, .ref p0), (1, .ref p1), (2, .int p2), (3, .ref p3)]) hx hb dX3_fillWorthsOf_1 hl (by decide) rfl (fun ls hl => ?_)
  exact hb_3 p0 p1 p2 p3 g0 0 h _ _ _ hc (lv_sub hl [1, 2, 3, 4, 0] rfl)
def b_X3_fillWorths_43 (g : gS) (r0 : Nat) (r1 : Nat) (i2 : Int32) (Q : gS → Prop) (k2 : gS → Int32 → Prop) : Prop :=
  k2 g (i2 + 1)
def l_X3_fillWorths_2 (r0 : Nat) (r1 : Nat) (Q : gS → Prop) (g : gS) (i2 : Int32) (k2 : gS → Int32 → Prop) : Prop :=
  gK g r0 = 4 ∧ (∃ y2, gR g r0 2 = some y2 ∧ (gK g y2 = 24 ∧ (((nI (gN g y2)) ≤ i2 → (Q g)) ∧ (¬ (nI (gN g y2)) ≤ i2 → (∃ y6, gR g r0 2 = some y6 ∧ (gK g y6 = 24 ∧ (vp_in i2 (gN g y6) ∧ (∃ y10, gR g y6 (Int32.toNatClampNeg i2) = some y10 ∧ (w_J7_fill_53178 g y10 0 (fun g13 => (gK g13 r1 = 3 ∧ (w_X2_rowOf g13 r1 i2 (fun o16 => ((o16 = none → (b_X3_fillWorths_43 g13 r0 r1 i2 Q k2)) ∧ (∀ y18, o16 = some y18 → (gK g13 r0 = 4 ∧ (∃ y21, gR g13 r0 2 = some y21 ∧ (gK g13 y21 = 24 ∧ (vp_in i2 (gN g13 y21) ∧ (∃ y25, gR g13 y21 (Int32.toNatClampNeg i2) = some y25 ∧ (w_X3_fillWorthsOf g13 r0 y18 i2 y25 (fun g28 => (b_X3_fillWorths_43 g28 r0 r1 i2 Q k2)))))))))))))))))))))))
def w_X3_fillWorths (g0 : gS) (p0 : Nat) (p1 : Nat) (Q : gS → Prop) : Prop :=
  lpx2 (l_X3_fillWorths_2 p0 p1 Q) g0 0
abbrev r_X3_fillWorths : Room := { frames := 2, cells := 0, slots := 0, locals := 50 }
set_option maxHeartbeats 4000000 in
set_option maxRecDepth 100000 in
theorem c_X3_fillWorths {l : Launch} {D : va_G} {cA : Nat → ClassId} {sz : Nat} {g0 : gS} {p0 : Nat} {p1 : Nat} {Q : gS → Prop} (h : w_X3_fillWorths g0 p0 p1 Q) : Met l yX3_fillWorths wsX3_fillWorths r_X3_fillWorths (va_Pc [.ref p0, .ref p1] (gPre D cA g0 sz)) (gQv D cA g0 sz (Q)) 0 0 (gA g0 sz) := by
  refine g_met (cc := cX3_fillWorths) (maxL := 4) (ret := none) (own := RX3) (by decide) rfl rfl (Nat.le_of_ble_eq_true rfl) ?_
  intro p e s m args below meth c ls CF hr hlk hnm hc hl
  obtain ⟨hx, hb, hml, hown, hts⟩ := id CF
  have hl : lv_has ls 4 [(0, .ref p0), (1, .ref p1)] := hl
  show W p l e r_X3_fillWorths s m args below meth c s.heap [] 0 0 (MQ below (gQv D cA g0 sz (Q)) args s 0 0 (gA g0 sz)) (F0 m 0 ls [])
  have hb_2 : ∀ (r0 : Nat) (r1 : Nat), ∀ (g : gS) (i2 : Int32), lpx2 (l_X3_fillWorths_2 r0 r1 Q) g i2 → ∀ (H : Heap) (locs : List Loc) (ls : Array Slot), gC D cA (gA g0 sz) s g H locs → lv_has ls 4 [(0, .ref r0), (1, .ref r1), (2, .int i2)] → W p l e r_X3_fillWorths s m args below meth c H locs 0 0 (MQ below (gQv D cA g0 sz (Q)) args s 0 0 (gA g0 sz)) (F0 m 2 ls []) := by
    intro r0 r1
    refine lpx2_run (P := fun (g : gS) (i2 : Int32) => ∀ (H : Heap) (locs : List Loc) (ls : Array Slot), gC D cA (gA g0 sz) s g H locs → lv_has ls 4 [(0, .ref r0), (1, .ref r1), (2, .int i2)] → W p l e r_X3_fillWorths s m args below meth c H locs 0 0 (MQ below (gQv D cA g0 sz (Q)) args s 0 0 (gA g0 sz)) (F0 m 2 ls [])) ?_
    intro k2 hk_2 g i2 h H locs ls hc hl
    have hb_43 : ∀ (g : gS) (i2 : Int32), b_X3_fillWorths_43 g r0 r1 i2 Q k2 → ∀ (H : Heap) (locs : List Loc) (ls : Array Slot), gC D cA (gA g0 sz) s g H locs → lv_has ls 4 [(0, .ref r0), (1, .ref r1), (2, .int i2)] → W p l e r_X3_fillWorths s m args below meth c H locs 0 0 (MQ below (gQv D cA g0 sz (Q)) args s 0 0 (gA g0 sz)) (F0 m 43 ls []) := by
      intro g i2 h H locs ls hc hl
      unfold b_X3_fillWorths_43 at h
      refine lv_iinc (v := (i2 + 1)) (lv' := [(2, .int (i2 + 1)), (0, .ref r0), (1, .ref r1)]) hx hb dX3_fillWorths_43 hl (k := 2) rfl rfl (by decide) rfl (fun ls hl => ?_)
      refine lv_goto (tgt := 2) hx hb dX3_fillWorths_46 (by decide) ?_
      exact hk_2 g (i2 + 1) h _ _ _ hc (lv_sub hl [1, 2, 0] rfl)
    unfold l_X3_fillWorths_2 at h
    refine lv_iload_n hx hb dX3_fillWorths_2 rfl (lv_at hl 2 rfl) ?_
    refine lv_aload_n hx hb dX3_fillWorths_3 rfl (lv_at hl 0 rfl) ?_
    obtain ⟨hk1, h⟩ := h
    obtain ⟨y2, e3, h⟩ := h
    refine g_getr CF hc hk1 rfl (by decide) (fun _ h9 => List.mem_cons_of_mem _ (List.mem_append_left _ (List.mem_append_left _ (List.mem_append_left _ (List.mem_append_left _ (List.mem_append_left _ (List.mem_append_right _ (h9)))))))) (k := 2) (by decide) (List.mem_cons_of_mem _ (List.mem_append_left _ (List.mem_append_left _ (List.mem_append_left _ (List.mem_append_left _ (List.mem_append_left _ (List.mem_append_left _ (List.mem_append_left _ (List.mem_of_getElem? (i := 0) rfl))))))))) e3 rfl dX3_fillWorths_4 ?_
    obtain ⟨hk4, h⟩ := h
    refine g_alen CF hc (j := 3) hk4 (by decide) dX3_fillWorths_7 ?_
    refine lv_icmp_ge (tgt := 49) hx hb dX3_fillWorths_8 (by decide) (fun c5 => ?_) (fun c5 => ?_)
    · have h := h.1 c5
      exact g_retv CF hr hlk hc h dX3_fillWorths_49
    · have h := h.2 c5
      refine lv_aload_n hx hb dX3_fillWorths_11 rfl (lv_at hl 0 rfl) ?_
      obtain ⟨y6, e7, h⟩ := h
      refine g_getr CF hc hk1 rfl (by decide) (fun _ h9 => List.mem_cons_of_mem _ (List.mem_append_left _ (List.mem_append_left _ (List.mem_append_left _ (List.mem_append_left _ (List.mem_append_left _ (List.mem_append_right _ (h9)))))))) (k := 2) (by decide) (List.mem_cons_of_mem _ (List.mem_append_left _ (List.mem_append_left _ (List.mem_append_left _ (List.mem_append_left _ (List.mem_append_left _ (List.mem_append_left _ (List.mem_append_left _ (List.mem_of_getElem? (i := 0) rfl))))))))) e7 rfl dX3_fillWorths_12 ?_
      refine lv_iload_n hx hb dX3_fillWorths_15 rfl (lv_at hl 2 rfl) ?_
      obtain ⟨hk8, h⟩ := h
      obtain ⟨hi9, h⟩ := h
      obtain ⟨y10, e11, h⟩ := h
      refine g_aaldr CF hc hk8 hi9 e11 dX3_fillWorths_16 ?_
      refine lv_iconst (v := 0) hx hb dX3_fillWorths_17 (by decide) ?_
      refine g_callv (va_runS (As := [.ref y10, .int 0]) (rest := []) CF (c_J7_fill_53178 h) (va_cwS 2 hts gX3_fillWorths_J7_fill_53178 rfl rfl rfl (by decide +kernel) ⟨Nat.le_of_ble_eq_true rfl, Nat.le_of_ble_eq_true rfl⟩) hc.preS rfl rfl hl.1 rfl (lv_room (Nat.le_of_ble_eq_true rfl)) dX3_fillWorths_18 ⟨Nat.le_of_ble_eq_true rfl, Nat.le_of_ble_eq_true rfl⟩) hc (fun g13 H locs hq hc => ?_)
      replace h := hq
      refine lv_aload_n hx hb dX3_fillWorths_21 rfl (lv_at hl 1 rfl) ?_
      refine lv_iload_n hx hb dX3_fillWorths_22 rfl (lv_at hl 2 rfl) ?_
      obtain ⟨hk15, h⟩ := h
      refine g_callq (va_runV (As := [.int i2]) (rest := []) CF (c_X2_rowOf h) (cwV 1 hts gX3_fillWorths_X2_rowOf rfl rfl rfl (by decide +kernel) ⟨Nat.le_of_ble_eq_true rfl, Nat.le_of_ble_eq_true rfl⟩) (hc.preV hk15 rfl (by decide)) rfl rfl hl.1 rfl (lv_room (Nat.le_of_ble_eq_true rfl)) dX3_fillWorths_23 ⟨Nat.le_of_ble_eq_true rfl, Nat.le_of_ble_eq_true rfl⟩) hc (fun o16 gq17 H locs hq hc => ?_)
      obtain ⟨rfl, h⟩ := hq
      refine g_astore_nq (lv' := [(3, va_rf o16), (0, .ref r0), (1, .ref r1), (2, .int i2)]) CF dX3_fillWorths_26 rfl hl (by decide) rfl (fun ls hl => ?_)
      refine g_aload_nq CF dX3_fillWorths_27 rfl (lv_at hl 0 rfl) ?_
      refine g_ifnull (tgt := 43) CF dX3_fillWorths_28 (by decide) (fun e19 => ?_) (fun y18 e19 => ?_)
      · have hu30 := h.1 e19
        subst e19
        have h := hu30
        exact hb_43 g13 i2 h _ _ _ hc (lv_sub hl [1, 2, 3] rfl)
      · have hu30 := h.2 y18 e19
        subst e19
        have h := hu30
        refine lv_aload_n hx hb dX3_fillWorths_31 rfl (lv_at hl 1 rfl) ?_
        refine lv_aload_n hx hb dX3_fillWorths_32 rfl (lv_at hl 0 rfl) ?_
        refine lv_iload_n hx hb dX3_fillWorths_33 rfl (lv_at hl 3 rfl) ?_
        refine lv_aload_n hx hb dX3_fillWorths_34 rfl (lv_at hl 1 rfl) ?_
        obtain ⟨hk20, h⟩ := h
        obtain ⟨y21, e22, h⟩ := h
        refine g_getr CF hc hk20 rfl (by decide) (fun _ h9 => List.mem_cons_of_mem _ (List.mem_append_left _ (List.mem_append_left _ (List.mem_append_left _ (List.mem_append_left _ (List.mem_append_left _ (List.mem_append_right _ (h9)))))))) (k := 2) (by decide) (List.mem_cons_of_mem _ (List.mem_append_left _ (List.mem_append_left _ (List.mem_append_left _ (List.mem_append_left _ (List.mem_append_left _ (List.mem_append_left _ (List.mem_append_left _ (List.mem_of_getElem? (i := 0) rfl))))))))) e22 rfl dX3_fillWorths_35 ?_
        refine lv_iload_n hx hb dX3_fillWorths_38 rfl (lv_at hl 3 rfl) ?_
        obtain ⟨hk23, h⟩ := h
        obtain ⟨hi24, h⟩ := h
        obtain ⟨y25, e26, h⟩ := h
        refine g_aaldr CF hc hk23 hi24 e26 dX3_fillWorths_39 ?_
        refine g_callv (va_runV (As := [.ref y18, .int i2, .ref y25]) (rest := []) CF (c_X3_fillWorthsOf h) (cwV 3 hts gX3_fillWorths_X3_fillWorthsOf rfl rfl rfl (by decide +kernel) ⟨Nat.le_of_ble_eq_true rfl, Nat.le_of_ble_eq_true rfl⟩) (hc.preV hk20 rfl (by decide)) rfl rfl hl.1 rfl (lv_room (Nat.le_of_ble_eq_true rfl)) dX3_fillWorths_40 ⟨Nat.le_of_ble_eq_true rfl, Nat.le_of_ble_eq_true rfl⟩) hc (fun g28 H locs hq hc => ?_)
        replace h := hq
        exact hb_43 g28 i2 h _ _ _ hc (lv_sub hl [1, 2, 3] rfl)
  unfold w_X3_fillWorths at h
  obtain ⟨H, hH0⟩ : ∃ z, z = s.heap := ⟨_, rfl⟩
  rw [← hH0] at hc ⊢
  obtain ⟨locs, hlc0⟩ : ∃ z : List Loc, z = [] := ⟨_, rfl⟩
  rw [← hlc0] at hc ⊢
  refine lv_iconst (v := 0) hx hb dX3_fillWorths_0 (by decide) ?_
  refine lv_istore_n (lv' := [(2, .int 0), (0, .ref p0), (1, .ref p1)]) hx hb dX3_fillWorths_1 rfl hl (by decide) rfl (fun ls hl => ?_)
  exact hb_2 p0 p1 g0 0 h _ _ _ hc (lv_sub hl [1, 2, 0] rfl)
def b_X3_worthOf_28 (g : gS) (Q : Int32 → Prop) : Prop :=
  Q 0
def w_X3_worthOf (g : gS) (p0 : Nat) (p1 : Int32) (p2 : Int32) (Q : Int32 → Prop) : Prop :=
  (p2 < 0 → (b_X3_worthOf_28 g Q)) ∧ (¬ p2 < 0 → (gK g p0 = 4 ∧ (∃ y3, gR g p0 2 = some y3 ∧ (gK g y3 = 24 ∧ (((nI (gN g y3)) ≤ p2 → (b_X3_worthOf_28 g Q)) ∧ (¬ (nI (gN g y3)) ≤ p2 → ((p1 < 0 → (b_X3_worthOf_28 g Q)) ∧ (¬ p1 < 0 → (∃ y8, gR g p0 2 = some y8 ∧ (gK g y8 = 24 ∧ (vp_in p2 (gN g y8) ∧ (∃ y12, gR g y8 (Int32.toNatClampNeg p2) = some y12 ∧ (gK g y12 = 21 ∧ ((p1 < (nI (gN g y12)) → (∃ y16, gR g p0 2 = some y16 ∧ (gK g y16 = 24 ∧ (vp_in p2 (gN g y16) ∧ (∃ y20, gR g y16 (Int32.toNatClampNeg p2) = some y20 ∧ (gK g y20 = 21 ∧ (vp_in p1 (gN g y20) ∧ (Q (gI g y20 (Int32.toNatClampNeg p1)))))))))) ∧ (¬ p1 < (nI (gN g y12)) → (b_X3_worthOf_28 g Q))))))))))))))))
abbrev r_X3_worthOf : Room := { frames := 0, cells := 0, slots := 0, locals := 0 }
set_option maxHeartbeats 4000000 in
set_option maxRecDepth 100000 in
theorem c_X3_worthOf {l : Launch} {D : va_G} {cA : Nat → ClassId} {sz : Nat} {g : gS} {p0 : Nat} {p1 : Int32} {p2 : Int32} {Q : Int32 → Prop} (h : w_X3_worthOf g p0 p1 p2 Q) : Met l yX3_worthOf wsX3_worthOf r_X3_worthOf (va_Pc [.ref p0, .int p1, .int p2] (gPre D cA g sz)) (gQi D cA g sz (fun r g2 => g = g2 ∧ Q r)) 0 0 (gA g sz) := by
  refine g_met (cc := cX3_worthOf) (maxL := 3) (ret := (some .int)) (own := RX3) (by decide) rfl rfl (Nat.le_of_ble_eq_true rfl) ?_
  intro p e s m args below meth c ls CF hr hlk hnm hc hl
  obtain ⟨hx, hb, hml, hown, hts⟩ := id CF
  have hl : lv_has ls 3 [(0, .ref p0), (1, .int p1), (2, .int p2)] := hl
  show W p l e r_X3_worthOf s m args below meth c s.heap [] 0 0 (MQ below (gQi D cA g sz (fun r g2 => g = g2 ∧ Q r)) args s 0 0 (gA g sz)) (F0 m 0 ls [])
  have hb_28 : b_X3_worthOf_28 g Q → ∀ (H : Heap) (locs : List Loc) (ls : Array Slot), gC D cA (gA g sz) s g H locs → lv_has ls 3 [] → W p l e r_X3_worthOf s m args below meth c H locs 0 0 (MQ below (gQi D cA g sz (fun r g2 => g = g2 ∧ Q r)) args s 0 0 (gA g sz)) (F0 m 28 ls []) := by
    intro h H locs ls hc hl
    unfold b_X3_worthOf_28 at h
    refine lv_iconst (v := 0) hx hb dX3_worthOf_28 (by decide) ?_
    exact g_reti (r := 0) CF hr hlk hc rfl ⟨rfl, h⟩ dX3_worthOf_29
  unfold w_X3_worthOf at h
  obtain ⟨H, hH0⟩ : ∃ z, z = s.heap := ⟨_, rfl⟩
  rw [← hH0] at hc ⊢
  obtain ⟨locs, hlc0⟩ : ∃ z : List Loc, z = [] := ⟨_, rfl⟩
  rw [← hlc0] at hc ⊢
  refine lv_iload_n hx hb dX3_worthOf_0 rfl (lv_at hl 2 rfl) ?_
  refine lv_if_lt (tgt := 28) hx hb dX3_worthOf_1 (by decide) (fun c1 => ?_) (fun c1 => ?_)
  · have h := h.1 c1
    exact hb_28  h _ _ _ hc (lv_sub hl [] rfl)
  · have h := h.2 c1
    refine lv_iload_n hx hb dX3_worthOf_4 rfl (lv_at hl 2 rfl) ?_
    refine lv_aload_n hx hb dX3_worthOf_5 rfl (lv_at hl 0 rfl) ?_
    obtain ⟨hk2, h⟩ := h
    obtain ⟨y3, e4, h⟩ := h
    refine g_getr CF hc hk2 rfl (by decide) (fun _ h9 => List.mem_cons_of_mem _ (List.mem_append_right _ (h9))) (k := 2) (by decide) (List.mem_cons_of_mem _ (List.mem_append_left _ (List.mem_of_getElem? (i := 0) rfl))) e4 rfl dX3_worthOf_6 ?_
    obtain ⟨hk5, h⟩ := h
    refine g_alen CF hc (j := 3) hk5 (by decide) dX3_worthOf_9 ?_
    refine lv_icmp_ge (tgt := 28) hx hb dX3_worthOf_10 (by decide) (fun c6 => ?_) (fun c6 => ?_)
    · have h := h.1 c6
      exact hb_28  h _ _ _ hc (lv_sub hl [] rfl)
    · have h := h.2 c6
      refine lv_iload_n hx hb dX3_worthOf_13 rfl (lv_at hl 1 rfl) ?_
      refine lv_if_lt (tgt := 28) hx hb dX3_worthOf_14 (by decide) (fun c7 => ?_) (fun c7 => ?_)
      · have h := h.1 c7
        exact hb_28  h _ _ _ hc (lv_sub hl [] rfl)
      · have h := h.2 c7
        refine lv_iload_n hx hb dX3_worthOf_17 rfl (lv_at hl 1 rfl) ?_
        refine lv_aload_n hx hb dX3_worthOf_18 rfl (lv_at hl 0 rfl) ?_
        obtain ⟨y8, e9, h⟩ := h
        refine g_getr CF hc hk2 rfl (by decide) (fun _ h9 => List.mem_cons_of_mem _ (List.mem_append_right _ (h9))) (k := 2) (by decide) (List.mem_cons_of_mem _ (List.mem_append_left _ (List.mem_of_getElem? (i := 0) rfl))) e9 rfl dX3_worthOf_19 ?_
        refine lv_iload_n hx hb dX3_worthOf_22 rfl (lv_at hl 2 rfl) ?_
        obtain ⟨hk10, h⟩ := h
        obtain ⟨hi11, h⟩ := h
        obtain ⟨y12, e13, h⟩ := h
        refine g_aaldr CF hc hk10 hi11 e13 dX3_worthOf_23 ?_
        obtain ⟨hk14, h⟩ := h
        refine g_alen CF hc (j := 0) hk14 (by decide) dX3_worthOf_24 ?_
        refine lv_icmp_lt (tgt := 30) hx hb dX3_worthOf_25 (by decide) (fun c15 => ?_) (fun c15 => ?_)
        · have h := h.1 c15
          refine lv_aload_n hx hb dX3_worthOf_30 rfl (lv_at hl 0 rfl) ?_
          obtain ⟨y16, e17, h⟩ := h
          refine g_getr CF hc hk2 rfl (by decide) (fun _ h9 => List.mem_cons_of_mem _ (List.mem_append_right _ (h9))) (k := 2) (by decide) (List.mem_cons_of_mem _ (List.mem_append_left _ (List.mem_of_getElem? (i := 0) rfl))) e17 rfl dX3_worthOf_31 ?_
          refine lv_iload_n hx hb dX3_worthOf_34 rfl (lv_at hl 2 rfl) ?_
          obtain ⟨hk18, h⟩ := h
          obtain ⟨hi19, h⟩ := h
          obtain ⟨y20, e21, h⟩ := h
          refine g_aaldr CF hc hk18 hi19 e21 dX3_worthOf_35 ?_
          refine lv_iload_n hx hb dX3_worthOf_36 rfl (lv_at hl 1 rfl) ?_
          obtain ⟨hk22, h⟩ := h
          obtain ⟨hi23, h⟩ := h
          refine g_iald CF hc hk22 hi23 dX3_worthOf_37 ?_
          exact g_reti (r := (gI g y20 (Int32.toNatClampNeg p1))) CF hr hlk hc rfl ⟨rfl, h⟩ dX3_worthOf_38
        · have h := h.2 c15
          exact hb_28  h _ _ _ hc (lv_sub hl [] rfl)
def b_X3_likeness_62 (g : gS) (r0 : Nat) (r1 : Nat) (i2 : Int32) (i3 : Int32) (Q : Int32 → Prop) (k4 : Int32 → Int32 → Prop) : Prop :=
  k4 i2 (i3 + 1)
def l_X3_likeness_31 (g : gS) (r0 : Nat) (r1 : Nat) (i3 : Int32) (r4 : Nat) (Q : Int32 → Prop) (k4 : Int32 → Int32 → Prop) (i2 : Int32) (i5 : Int32) (k31 : Int32 → Int32 → Prop) : Prop :=
  gK g r4 = 10 ∧ (((gI g r4 4) ≤ i5 → (b_X3_likeness_62 g r0 r1 i2 i3 Q k4)) ∧ (¬ (gI g r4 4) ≤ i5 → (w_X9_differentTermOn g r4 i5 (fun x3 => (gK g r0 = 4 ∧ (w_X3_worthOf g r0 x3 i3 (fun x6 => (k31 (i2 + x6) (i5 + 1)))))))))
def l_X3_likeness_4 (g : gS) (r0 : Nat) (r1 : Nat) (Q : Int32 → Prop) (i2 : Int32) (i3 : Int32) (k4 : Int32 → Int32 → Prop) : Prop :=
  gK g r0 = 4 ∧ (∃ y9, gR g r0 2 = some y9 ∧ (gK g y9 = 24 ∧ (((nI (gN g y9)) ≤ i3 → (Q i2)) ∧ (¬ (nI (gN g y9)) ≤ i3 → (gK g r1 = 3 ∧ (w_X2_rowOf g r1 i3 (fun o14 => ((o14 = none → (b_X3_likeness_62 g r0 r1 i2 i3 Q k4)) ∧ (∀ y16, o14 = some y16 → (lpx2 (l_X3_likeness_31 g r0 r1 i3 y16 Q k4) i2 0))))))))))
def w_X3_likeness (g : gS) (p0 : Nat) (p1 : Nat) (Q : Int32 → Prop) : Prop :=
  lpx2 (l_X3_likeness_4 g p0 p1 Q) 0 0
abbrev r_X3_likeness : Room := { frames := 1, cells := 0, slots := 0, locals := 22 }
set_option maxHeartbeats 4000000 in
set_option maxRecDepth 100000 in
theorem c_X3_likeness {l : Launch} {D : va_G} {cA : Nat → ClassId} {sz : Nat} {g : gS} {p0 : Nat} {p1 : Nat} {Q : Int32 → Prop} (h : w_X3_likeness g p0 p1 Q) : Met l yX3_likeness wsX3_likeness r_X3_likeness (va_Pc [.ref p0, .ref p1] (gPre D cA g sz)) (gQi D cA g sz (fun r g2 => g = g2 ∧ Q r)) 0 0 (gA g sz) := by
  refine g_met (cc := cX3_likeness) (maxL := 6) (ret := (some .int)) (own := RX3) (by decide) rfl rfl (Nat.le_of_ble_eq_true rfl) ?_
  intro p e s m args below meth c ls CF hr hlk hnm hc hl
  obtain ⟨hx, hb, hml, hown, hts⟩ := id CF
  have hl : lv_has ls 6 [(0, .ref p0), (1, .ref p1)] := hl
  show W p l e r_X3_likeness s m args below meth c s.heap [] 0 0 (MQ below (gQi D cA g sz (fun r g2 => g = g2 ∧ Q r)) args s 0 0 (gA g sz)) (F0 m 0 ls [])
  have hb_4 : ∀ (r0 : Nat) (r1 : Nat), ∀ (i2 : Int32) (i3 : Int32), lpx2 (l_X3_likeness_4 g r0 r1 Q) i2 i3 → ∀ (H : Heap) (locs : List Loc) (ls : Array Slot), gC D cA (gA g sz) s g H locs → lv_has ls 6 [(0, .ref r0), (1, .ref r1), (2, .int i2), (3, .int i3)] → W p l e r_X3_likeness s m args below meth c H locs 0 0 (MQ below (gQi D cA g sz (fun r g2 => g = g2 ∧ Q r)) args s 0 0 (gA g sz)) (F0 m 4 ls []) := by
    intro r0 r1
    refine lpx2_run (P := fun (i2 : Int32) (i3 : Int32) => ∀ (H : Heap) (locs : List Loc) (ls : Array Slot), gC D cA (gA g sz) s g H locs → lv_has ls 6 [(0, .ref r0), (1, .ref r1), (2, .int i2), (3, .int i3)] → W p l e r_X3_likeness s m args below meth c H locs 0 0 (MQ below (gQi D cA g sz (fun r g2 => g = g2 ∧ Q r)) args s 0 0 (gA g sz)) (F0 m 4 ls [])) ?_
    intro k4 hk_4 i2 i3 h H locs ls hc hl
    have hb_62 : ∀ (i2 : Int32) (i3 : Int32), b_X3_likeness_62 g r0 r1 i2 i3 Q k4 → ∀ (H : Heap) (locs : List Loc) (ls : Array Slot), gC D cA (gA g sz) s g H locs → lv_has ls 6 [(0, .ref r0), (1, .ref r1), (2, .int i2), (3, .int i3)] → W p l e r_X3_likeness s m args below meth c H locs 0 0 (MQ below (gQi D cA g sz (fun r g2 => g = g2 ∧ Q r)) args s 0 0 (gA g sz)) (F0 m 62 ls []) := by
      intro i2 i3 h H locs ls hc hl
      unfold b_X3_likeness_62 at h
      refine lv_iinc (v := (i3 + 1)) (lv' := [(3, .int (i3 + 1)), (0, .ref r0), (1, .ref r1), (2, .int i2)]) hx hb dX3_likeness_62 hl (k := 3) rfl rfl (by decide) rfl (fun ls hl => ?_)
      refine lv_goto (tgt := 4) hx hb dX3_likeness_65 (by decide) ?_
      exact hk_4 i2 (i3 + 1) h _ _ _ hc (lv_sub hl [1, 2, 3, 0] rfl)
    have hb_31 : ∀ (i3 : Int32) (r4 : Nat), ∀ (i2 : Int32) (i5 : Int32), lpx2 (l_X3_likeness_31 g r0 r1 i3 r4 Q k4) i2 i5 → ∀ (H : Heap) (locs : List Loc) (ls : Array Slot), gC D cA (gA g sz) s g H locs → lv_has ls 6 [(0, .ref r0), (1, .ref r1), (2, .int i2), (3, .int i3), (4, .ref r4), (5, .int i5)] → W p l e r_X3_likeness s m args below meth c H locs 0 0 (MQ below (gQi D cA g sz (fun r g2 => g = g2 ∧ Q r)) args s 0 0 (gA g sz)) (F0 m 31 ls []) := by
      intro i3 r4
      refine lpx2_run (P := fun (i2 : Int32) (i5 : Int32) => ∀ (H : Heap) (locs : List Loc) (ls : Array Slot), gC D cA (gA g sz) s g H locs → lv_has ls 6 [(0, .ref r0), (1, .ref r1), (2, .int i2), (3, .int i3), (4, .ref r4), (5, .int i5)] → W p l e r_X3_likeness s m args below meth c H locs 0 0 (MQ below (gQi D cA g sz (fun r g2 => g = g2 ∧ Q r)) args s 0 0 (gA g sz)) (F0 m 31 ls [])) ?_
      intro k31 hk_31 i2 i5 h H locs ls hc hl
      unfold l_X3_likeness_31 at h
      refine lv_iload hx hb dX3_likeness_31 (lv_at hl 5 rfl) ?_
      refine lv_aload hx hb dX3_likeness_33 (lv_at hl 4 rfl) ?_
      obtain ⟨hk1, h⟩ := h
      refine g_get CF hc hk1 rfl (by decide) (fun _ h9 => List.mem_cons_of_mem _ (List.mem_append_left _ (List.mem_append_right _ (h9)))) (k := 4) (by decide) (List.mem_cons_of_mem _ (List.mem_append_left _ (List.mem_append_left _ (List.mem_append_left _ (List.mem_of_getElem? (i := 1) rfl))))) rfl dX3_likeness_35 ?_
      refine lv_icmp_ge (tgt := 62) hx hb dX3_likeness_38 (by decide) (fun c2 => ?_) (fun c2 => ?_)
      · have h := h.1 c2
        exact hb_62 i2 i3 h _ _ _ hc (lv_sub hl [0, 1, 2, 3] rfl)
      · have h := h.2 c2
        refine lv_iload_n hx hb dX3_likeness_41 rfl (lv_at hl 2 rfl) ?_
        refine lv_aload_n hx hb dX3_likeness_42 rfl (lv_at hl 0 rfl) ?_
        refine lv_aload hx hb dX3_likeness_43 (lv_at hl 4 rfl) ?_
        refine lv_iload hx hb dX3_likeness_45 (lv_at hl 5 rfl) ?_
        refine g_calli (va_runV (As := [.int i5]) (rest := [.ref r0, .int i2]) CF (c_X9_differentTermOn h) (cwV 1 hts gX3_likeness_X9_differentTermOn rfl rfl rfl (by decide +kernel) ⟨Nat.le_of_ble_eq_true rfl, Nat.le_of_ble_eq_true rfl⟩) (hc.preV hk1 rfl (by decide)) rfl rfl hl.1 rfl (lv_room (Nat.le_of_ble_eq_true rfl)) dX3_likeness_47 ⟨Nat.le_of_ble_eq_true rfl, Nat.le_of_ble_eq_true rfl⟩) hc (fun x3 gq4 H locs hq hc => ?_)
        obtain ⟨rfl, h⟩ := hq
        refine lv_iload_n hx hb dX3_likeness_50 rfl (lv_at hl 3 rfl) ?_
        obtain ⟨hk5, h⟩ := h
        refine g_calli (va_runV (As := [.int x3, .int i3]) (rest := [.int i2]) CF (c_X3_worthOf h) (cwV 2 hts gX3_likeness_X3_worthOf rfl rfl rfl (by decide +kernel) ⟨Nat.le_of_ble_eq_true rfl, Nat.le_of_ble_eq_true rfl⟩) (hc.preV hk5 rfl (by decide)) rfl rfl hl.1 rfl (lv_room (Nat.le_of_ble_eq_true rfl)) dX3_likeness_51 ⟨Nat.le_of_ble_eq_true rfl, Nat.le_of_ble_eq_true rfl⟩) hc (fun x6 gq7 H locs hq hc => ?_)
        obtain ⟨rfl, h⟩ := hq
        refine lv_iadd hx hb dX3_likeness_54 ?_
        refine lv_istore_n (lv' := [(2, .int (i2 + x6)), (0, .ref r0), (1, .ref r1), (3, .int i3), (4, .ref r4), (5, .int i5)]) hx hb dX3_likeness_55 rfl hl (by decide) rfl (fun ls hl => ?_)
        refine lv_iinc (v := (i5 + 1)) (lv' := [(5, .int (i5 + 1)), (2, .int (i2 + x6)), (0, .ref r0), (1, .ref r1), (3, .int i3), (4, .ref r4)]) hx hb dX3_likeness_56 hl (k := 5) rfl rfl (by decide) rfl (fun ls hl => ?_)
        refine lv_goto (tgt := 31) hx hb dX3_likeness_59 (by decide) ?_
        exact hk_31 (i2 + x6) (i5 + 1) h _ _ _ hc (lv_sub hl [2, 3, 1, 4, 5, 0] rfl)
    unfold l_X3_likeness_4 at h
    refine lv_iload_n hx hb dX3_likeness_4 rfl (lv_at hl 3 rfl) ?_
    refine lv_aload_n hx hb dX3_likeness_5 rfl (lv_at hl 0 rfl) ?_
    obtain ⟨hk8, h⟩ := h
    obtain ⟨y9, e10, h⟩ := h
    refine g_getr CF hc hk8 rfl (by decide) (fun _ h9 => List.mem_cons_of_mem _ (List.mem_append_left _ (List.mem_append_left _ (List.mem_append_right _ (h9))))) (k := 2) (by decide) (List.mem_cons_of_mem _ (List.mem_append_left _ (List.mem_append_left _ (List.mem_append_left _ (List.mem_of_getElem? (i := 0) rfl))))) e10 rfl dX3_likeness_6 ?_
    obtain ⟨hk11, h⟩ := h
    refine g_alen CF hc (j := 3) hk11 (by decide) dX3_likeness_9 ?_
    refine lv_icmp_ge (tgt := 68) hx hb dX3_likeness_10 (by decide) (fun c12 => ?_) (fun c12 => ?_)
    · have h := h.1 c12
      refine lv_iload_n hx hb dX3_likeness_68 rfl (lv_at hl 2 rfl) ?_
      exact g_reti (r := i2) CF hr hlk hc rfl ⟨rfl, h⟩ dX3_likeness_69
    · have h := h.2 c12
      refine lv_aload_n hx hb dX3_likeness_13 rfl (lv_at hl 1 rfl) ?_
      refine lv_iload_n hx hb dX3_likeness_14 rfl (lv_at hl 3 rfl) ?_
      obtain ⟨hk13, h⟩ := h
      refine g_callq (va_runV (As := [.int i3]) (rest := []) CF (c_X2_rowOf h) (cwV 1 hts gX3_likeness_X2_rowOf rfl rfl rfl (by decide +kernel) ⟨Nat.le_of_ble_eq_true rfl, Nat.le_of_ble_eq_true rfl⟩) (hc.preV hk13 rfl (by decide)) rfl rfl hl.1 rfl (lv_room (Nat.le_of_ble_eq_true rfl)) dX3_likeness_15 ⟨Nat.le_of_ble_eq_true rfl, Nat.le_of_ble_eq_true rfl⟩) hc (fun o14 gq15 H locs hq hc => ?_)
      obtain ⟨rfl, h⟩ := hq
      refine g_astoreq (lv' := [(4, va_rf o14), (0, .ref r0), (1, .ref r1), (2, .int i2), (3, .int i3)]) CF dX3_likeness_18 hl (by decide) rfl (fun ls hl => ?_)
      refine g_aloadq CF dX3_likeness_20 (lv_at hl 0 rfl) ?_
      refine g_ifnonnull (tgt := 28) CF dX3_likeness_22 (by decide) (fun y16 e17 => ?_) (fun e17 => ?_)
      · have hu18 := h.2 y16 e17
        subst e17
        have h := hu18
        refine lv_iconst (v := 0) hx hb dX3_likeness_28 (by decide) ?_
        refine lv_istore (lv' := [(5, .int 0), (4, .ref y16), (0, .ref r0), (1, .ref r1), (2, .int i2), (3, .int i3)]) hx hb dX3_likeness_29 hl (by decide) rfl (fun ls hl => ?_)
        exact hb_31 i3 y16 i2 0 h _ _ _ hc (lv_sub hl [2, 3, 4, 5, 1, 0] rfl)
      · have hu18 := h.1 e17
        subst e17
        have h := hu18
        refine lv_goto (tgt := 62) hx hb dX3_likeness_25 (by decide) ?_
        exact hb_62 i2 i3 h _ _ _ hc (lv_sub hl [1, 2, 3, 4] rfl)
  unfold w_X3_likeness at h
  obtain ⟨H, hH0⟩ : ∃ z, z = s.heap := ⟨_, rfl⟩
  rw [← hH0] at hc ⊢
  obtain ⟨locs, hlc0⟩ : ∃ z : List Loc, z = [] := ⟨_, rfl⟩
  rw [← hlc0] at hc ⊢
  refine lv_iconst (v := 0) hx hb dX3_likeness_0 (by decide) ?_
  refine lv_istore_n (lv' := [(2, .int 0), (0, .ref p0), (1, .ref p1)]) hx hb dX3_likeness_1 rfl hl (by decide) rfl (fun ls hl => ?_)
  refine lv_iconst (v := 0) hx hb dX3_likeness_2 (by decide) ?_
  refine lv_istore_n (lv' := [(3, .int 0), (2, .int 0), (0, .ref p0), (1, .ref p1)]) hx hb dX3_likeness_3 rfl hl (by decide) rfl (fun ls hl => ?_)
  exact hb_4 p0 p1 0 0 h _ _ _ hc (lv_sub hl [2, 3, 1, 0] rfl)
