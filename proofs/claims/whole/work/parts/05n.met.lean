def b_X11_likeNow_178 (g : gS) (r0 : Nat) (i1 : Int32) (i2 : Int32) (i3 : Int32) (i4 : Int32) (Q : Int32 → gS → Prop) (k7 : gS → Int32 → Int32 → Int32 → Prop) : Prop :=
  k7 g i2 i3 (i4 + 1)
def b_X11_likeNow_151 (g : gS) (r0 : Nat) (i1 : Int32) (i2 : Int32) (i3 : Int32) (i4 : Int32) (i6 : Int32) (i7 : Int32) (is0 : Int32) (is1 : Int32) (Q : Int32 → gS → Prop) (k7 : gS → Int32 → Int32 → Int32 → Prop) (k40 : gS → Int32 → Int32 → Prop) (k49 : gS → Int32 → Int32 → Prop) : Prop :=
  k49 g (is0 + is1) (i7 + 1)
def b_X11_likeNow_123 (g : gS) (r0 : Nat) (i1 : Int32) (i2 : Int32) (i3 : Int32) (i4 : Int32) (i5 : Int32) (i6 : Int32) (i7 : Int32) (i8 : Int32) (i10 : Int32) (is0 : Int32) (is1 : Int32) (Q : Int32 → gS → Prop) (k7 : gS → Int32 → Int32 → Int32 → Prop) (k40 : gS → Int32 → Int32 → Prop) (k49 : gS → Int32 → Int32 → Prop) (k95 : Int32 → Int32 → Prop) : Prop :=
  k95 (is0 &&& is1) (i10 + 1)
def l_X11_likeNow_95 (g : gS) (r0 : Nat) (i1 : Int32) (i2 : Int32) (i3 : Int32) (i4 : Int32) (i5 : Int32) (i6 : Int32) (i7 : Int32) (i8 : Int32) (Q : Int32 → gS → Prop) (k7 : gS → Int32 → Int32 → Int32 → Prop) (k40 : gS → Int32 → Int32 → Prop) (k49 : gS → Int32 → Int32 → Prop) (i9 : Int32) (i10 : Int32) (k95 : Int32 → Int32 → Prop) : Prop :=
  (i7 ≤ i10 → ((i9 = 0 → (b_X11_likeNow_151 g r0 i1 i2 i3 i4 i6 i7 i5 0 Q k7 k40 k49)) ∧ (¬ i9 = 0 → (gK g r0 = 12 ∧ (w_X11_rareNow g r0 i8 i6 (fun x4 g5 => (b_X11_likeNow_151 g5 r0 i1 i2 i3 i4 i6 i7 i5 x4 Q k7 k40 k49))))))) ∧ (¬ i7 ≤ i10 → (gK g r0 = 12 ∧ (w_X11_at g r0 i1 i6 i10 (fun x8 => ((x8 = i8 → (b_X11_likeNow_123 g r0 i1 i2 i3 i4 i5 i6 i7 i8 i10 i9 0 Q k7 k40 k49 k95)) ∧ (¬ x8 = i8 → (b_X11_likeNow_123 g r0 i1 i2 i3 i4 i5 i6 i7 i8 i10 i9 1 Q k7 k40 k49 k95)))))))
def b_X11_likeNow_90 (g : gS) (r0 : Nat) (i1 : Int32) (i2 : Int32) (i3 : Int32) (i4 : Int32) (i5 : Int32) (i6 : Int32) (i7 : Int32) (i8 : Int32) (is0 : Int32) (Q : Int32 → gS → Prop) (k7 : gS → Int32 → Int32 → Int32 → Prop) (k40 : gS → Int32 → Int32 → Prop) (k49 : gS → Int32 → Int32 → Prop) : Prop :=
  lpx2 (l_X11_likeNow_95 g r0 i1 i2 i3 i4 i5 i6 i7 i8 Q k7 k40 k49) is0 0
def l_X11_likeNow_49 (r0 : Nat) (i1 : Int32) (i2 : Int32) (i3 : Int32) (i4 : Int32) (i6 : Int32) (Q : Int32 → gS → Prop) (k7 : gS → Int32 → Int32 → Int32 → Prop) (k40 : gS → Int32 → Int32 → Prop) (g : gS) (i5 : Int32) (i7 : Int32) (k49 : gS → Int32 → Int32 → Prop) : Prop :=
  gK g r0 = 12 ∧ (w_X11_many g r0 i1 i6 (fun x12 => ((x12 ≤ i7 → (k40 g i5 (i6 + 1))) ∧ (¬ x12 ≤ i7 → (w_X11_at g r0 i1 i6 i7 (fun x15 => (w_X11_count g r0 i4 i6 x15 (fun x17 => ((x17 ≤ 0 → (b_X11_likeNow_90 g r0 i1 i2 i3 i4 i5 i6 i7 x15 0 Q k7 k40 k49)) ∧ (¬ x17 ≤ 0 → (b_X11_likeNow_90 g r0 i1 i2 i3 i4 i5 i6 i7 x15 1 Q k7 k40 k49)))))))))))
def l_X11_likeNow_40 (r0 : Nat) (i1 : Int32) (i2 : Int32) (i3 : Int32) (i4 : Int32) (Q : Int32 → gS → Prop) (k7 : gS → Int32 → Int32 → Int32 → Prop) (g : gS) (i5 : Int32) (i6 : Int32) (k40 : gS → Int32 → Int32 → Prop) : Prop :=
  (3 ≤ i6 → ((i5 ≤ i3 → (b_X11_likeNow_178 g r0 i1 i2 i3 i4 Q k7)) ∧ (¬ i5 ≤ i3 → (b_X11_likeNow_178 g r0 i1 i4 i5 i4 Q k7)))) ∧ (¬ 3 ≤ i6 → (lpx3 (l_X11_likeNow_49 r0 i1 i2 i3 i4 i6 Q k7 k40) g i5 0))
def l_X11_likeNow_7 (r0 : Nat) (i1 : Int32) (Q : Int32 → gS → Prop) (g : gS) (i2 : Int32) (i3 : Int32) (i4 : Int32) (k7 : gS → Int32 → Int32 → Int32 → Prop) : Prop :=
  gK g r0 = 12 ∧ (((gI g r0 1) ≤ i4 → (Q i2 g)) ∧ (¬ (gI g r0 1) ≤ i4 → ((i4 = i1 → (b_X11_likeNow_178 g r0 i1 i2 i3 i4 Q k7)) ∧ (¬ i4 = i1 → (w_X11_isThere g r0 i4 (fun x25 => ((x25 = 0 → (b_X11_likeNow_178 g r0 i1 i2 i3 i4 Q k7)) ∧ (¬ x25 = 0 → (lpx3 (l_X11_likeNow_40 r0 i1 i2 i3 i4 Q k7) g 0 0)))))))))
def w_X11_likeNow (g0 : gS) (p0 : Nat) (p1 : Int32) (Q : Int32 → gS → Prop) : Prop :=
  lpx4 (l_X11_likeNow_7 p0 p1 Q) g0 (-1) 0 0
abbrev r_X11_likeNow : Room := { frames := 4, cells := 0, slots := 0, locals := 93 }
set_option maxHeartbeats 4000000 in
set_option maxRecDepth 100000 in
theorem c_X11_likeNow {l : Launch} {D : va_G} {cA : Nat → ClassId} {sz : Nat} {g0 : gS} {p0 : Nat} {p1 : Int32} {Q : Int32 → gS → Prop} (h : w_X11_likeNow g0 p0 p1 Q) : Met l yX11_likeNow wsX11_likeNow r_X11_likeNow (va_Pc [.ref p0, .int p1] (gPre D cA g0 sz)) (gQi D cA g0 sz (Q)) 0 0 (gA g0 sz) := by
  refine g_met (cc := cX11_likeNow) (maxL := 11) (ret := (some .int)) (own := RX11) (by decide) rfl rfl (Nat.le_of_ble_eq_true rfl) ?_
  intro p e s m args below meth c ls CF hr hlk hnm hc hl
  obtain ⟨hx, hb, hml, hown, hts⟩ := id CF
  have hl : lv_has ls 11 [(0, .ref p0), (1, .int p1)] := hl
  show W p l e r_X11_likeNow s m args below meth c s.heap [] 0 0 (MQ below (gQi D cA g0 sz (Q)) args s 0 0 (gA g0 sz)) (F0 m 0 ls [])
  have hb_7 : ∀ (r0 : Nat) (i1 : Int32), ∀ (g : gS) (i2 : Int32) (i3 : Int32) (i4 : Int32), lpx4 (l_X11_likeNow_7 r0 i1 Q) g i2 i3 i4 → ∀ (H : Heap) (locs : List Loc) (ls : Array Slot), gC D cA (gA g0 sz) s g H locs → lv_has ls 11 [(0, .ref r0), (1, .int i1), (2, .int i2), (3, .int i3), (4, .int i4)] → W p l e r_X11_likeNow s m args below meth c H locs 0 0 (MQ below (gQi D cA g0 sz (Q)) args s 0 0 (gA g0 sz)) (F0 m 7 ls []) := by
    intro r0 i1
    refine lpx4_run (P := fun (g : gS) (i2 : Int32) (i3 : Int32) (i4 : Int32) => ∀ (H : Heap) (locs : List Loc) (ls : Array Slot), gC D cA (gA g0 sz) s g H locs → lv_has ls 11 [(0, .ref r0), (1, .int i1), (2, .int i2), (3, .int i3), (4, .int i4)] → W p l e r_X11_likeNow s m args below meth c H locs 0 0 (MQ below (gQi D cA g0 sz (Q)) args s 0 0 (gA g0 sz)) (F0 m 7 ls [])) ?_
    intro k7 hk_7 g i2 i3 i4 h H locs ls hc hl
    have hb_178 : ∀ (g : gS) (i2 : Int32) (i3 : Int32) (i4 : Int32), b_X11_likeNow_178 g r0 i1 i2 i3 i4 Q k7 → ∀ (H : Heap) (locs : List Loc) (ls : Array Slot), gC D cA (gA g0 sz) s g H locs → lv_has ls 11 [(0, .ref r0), (1, .int i1), (2, .int i2), (3, .int i3), (4, .int i4)] → W p l e r_X11_likeNow s m args below meth c H locs 0 0 (MQ below (gQi D cA g0 sz (Q)) args s 0 0 (gA g0 sz)) (F0 m 178 ls []) := by
      intro g i2 i3 i4 h H locs ls hc hl
      unfold b_X11_likeNow_178 at h
      refine lv_iinc (v := (i4 + 1)) (lv' := [(4, .int (i4 + 1)), (0, .ref r0), (1, .int i1), (2, .int i2), (3, .int i3)]) hx hb dX11_likeNow_178 hl (k := 4) rfl rfl (by decide) rfl (fun ls hl => ?_)
      refine lv_goto (tgt := 7) hx hb dX11_likeNow_181 (by decide) ?_
      exact hk_7 g i2 i3 (i4 + 1) h _ _ _ hc (lv_sub hl [1, 2, 3, 4, 0] rfl)
    have hb_40 : ∀ (i2 : Int32) (i3 : Int32) (i4 : Int32), ∀ (g : gS) (i5 : Int32) (i6 : Int32), lpx3 (l_X11_likeNow_40 r0 i1 i2 i3 i4 Q k7) g i5 i6 → ∀ (H : Heap) (locs : List Loc) (ls : Array Slot), gC D cA (gA g0 sz) s g H locs → lv_has ls 11 [(0, .ref r0), (1, .int i1), (2, .int i2), (3, .int i3), (4, .int i4), (5, .int i5), (6, .int i6)] → W p l e r_X11_likeNow s m args below meth c H locs 0 0 (MQ below (gQi D cA g0 sz (Q)) args s 0 0 (gA g0 sz)) (F0 m 40 ls []) := by
      intro i2 i3 i4
      refine lpx3_run (P := fun (g : gS) (i5 : Int32) (i6 : Int32) => ∀ (H : Heap) (locs : List Loc) (ls : Array Slot), gC D cA (gA g0 sz) s g H locs → lv_has ls 11 [(0, .ref r0), (1, .int i1), (2, .int i2), (3, .int i3), (4, .int i4), (5, .int i5), (6, .int i6)] → W p l e r_X11_likeNow s m args below meth c H locs 0 0 (MQ below (gQi D cA g0 sz (Q)) args s 0 0 (gA g0 sz)) (F0 m 40 ls [])) ?_
      intro k40 hk_40 g i5 i6 h H locs ls hc hl
      have hb_49 : ∀ (i6 : Int32), ∀ (g : gS) (i5 : Int32) (i7 : Int32), lpx3 (l_X11_likeNow_49 r0 i1 i2 i3 i4 i6 Q k7 k40) g i5 i7 → ∀ (H : Heap) (locs : List Loc) (ls : Array Slot), gC D cA (gA g0 sz) s g H locs → lv_has ls 11 [(0, .ref r0), (1, .int i1), (2, .int i2), (3, .int i3), (4, .int i4), (5, .int i5), (6, .int i6), (7, .int i7)] → W p l e r_X11_likeNow s m args below meth c H locs 0 0 (MQ below (gQi D cA g0 sz (Q)) args s 0 0 (gA g0 sz)) (F0 m 49 ls []) := by
        intro i6
        refine lpx3_run (P := fun (g : gS) (i5 : Int32) (i7 : Int32) => ∀ (H : Heap) (locs : List Loc) (ls : Array Slot), gC D cA (gA g0 sz) s g H locs → lv_has ls 11 [(0, .ref r0), (1, .int i1), (2, .int i2), (3, .int i3), (4, .int i4), (5, .int i5), (6, .int i6), (7, .int i7)] → W p l e r_X11_likeNow s m args below meth c H locs 0 0 (MQ below (gQi D cA g0 sz (Q)) args s 0 0 (gA g0 sz)) (F0 m 49 ls [])) ?_
        intro k49 hk_49 g i5 i7 h H locs ls hc hl
        have hb_151 : ∀ (g : gS) (i7 : Int32) (is0 : Int32) (is1 : Int32), b_X11_likeNow_151 g r0 i1 i2 i3 i4 i6 i7 is0 is1 Q k7 k40 k49 → ∀ (H : Heap) (locs : List Loc) (ls : Array Slot), gC D cA (gA g0 sz) s g H locs → lv_has ls 11 [(0, .ref r0), (1, .int i1), (2, .int i2), (3, .int i3), (4, .int i4), (6, .int i6), (7, .int i7)] → W p l e r_X11_likeNow s m args below meth c H locs 0 0 (MQ below (gQi D cA g0 sz (Q)) args s 0 0 (gA g0 sz)) (F0 m 151 ls [.int is1, .int is0]) := by
          intro g i7 is0 is1 h H locs ls hc hl
          unfold b_X11_likeNow_151 at h
          refine lv_iadd hx hb dX11_likeNow_151 ?_
          refine lv_istore (lv' := [(5, .int (is0 + is1)), (0, .ref r0), (1, .int i1), (2, .int i2), (3, .int i3), (4, .int i4), (6, .int i6), (7, .int i7)]) hx hb dX11_likeNow_152 hl (by decide) rfl (fun ls hl => ?_)
          refine lv_iinc (v := (i7 + 1)) (lv' := [(7, .int (i7 + 1)), (5, .int (is0 + is1)), (0, .ref r0), (1, .int i1), (2, .int i2), (3, .int i3), (4, .int i4), (6, .int i6)]) hx hb dX11_likeNow_154 hl (k := 7) rfl rfl (by decide) rfl (fun ls hl => ?_)
          refine lv_goto (tgt := 49) hx hb dX11_likeNow_157 (by decide) ?_
          exact hk_49 g (is0 + is1) (i7 + 1) h _ _ _ hc (lv_sub hl [2, 3, 4, 5, 6, 1, 7, 0] rfl)
        have hb_95 : ∀ (g : gS) (i5 : Int32) (i7 : Int32) (i8 : Int32), ∀ (i9 : Int32) (i10 : Int32), lpx2 (l_X11_likeNow_95 g r0 i1 i2 i3 i4 i5 i6 i7 i8 Q k7 k40 k49) i9 i10 → ∀ (H : Heap) (locs : List Loc) (ls : Array Slot), gC D cA (gA g0 sz) s g H locs → lv_has ls 11 [(0, .ref r0), (1, .int i1), (2, .int i2), (3, .int i3), (4, .int i4), (5, .int i5), (6, .int i6), (7, .int i7), (8, .int i8), (9, .int i9), (10, .int i10)] → W p l e r_X11_likeNow s m args below meth c H locs 0 0 (MQ below (gQi D cA g0 sz (Q)) args s 0 0 (gA g0 sz)) (F0 m 95 ls []) := by
          intro g i5 i7 i8
          refine lpx2_run (P := fun (i9 : Int32) (i10 : Int32) => ∀ (H : Heap) (locs : List Loc) (ls : Array Slot), gC D cA (gA g0 sz) s g H locs → lv_has ls 11 [(0, .ref r0), (1, .int i1), (2, .int i2), (3, .int i3), (4, .int i4), (5, .int i5), (6, .int i6), (7, .int i7), (8, .int i8), (9, .int i9), (10, .int i10)] → W p l e r_X11_likeNow s m args below meth c H locs 0 0 (MQ below (gQi D cA g0 sz (Q)) args s 0 0 (gA g0 sz)) (F0 m 95 ls [])) ?_
          intro k95 hk_95 i9 i10 h H locs ls hc hl
          have hb_123 : ∀ (i10 : Int32) (is0 : Int32) (is1 : Int32), b_X11_likeNow_123 g r0 i1 i2 i3 i4 i5 i6 i7 i8 i10 is0 is1 Q k7 k40 k49 k95 → ∀ (H : Heap) (locs : List Loc) (ls : Array Slot), gC D cA (gA g0 sz) s g H locs → lv_has ls 11 [(0, .ref r0), (1, .int i1), (2, .int i2), (3, .int i3), (4, .int i4), (5, .int i5), (6, .int i6), (7, .int i7), (8, .int i8), (10, .int i10)] → W p l e r_X11_likeNow s m args below meth c H locs 0 0 (MQ below (gQi D cA g0 sz (Q)) args s 0 0 (gA g0 sz)) (F0 m 123 ls [.int is1, .int is0]) := by
            intro i10 is0 is1 h H locs ls hc hl
            unfold b_X11_likeNow_123 at h
            refine lv_iand hx hb dX11_likeNow_123 ?_
            refine lv_istore (lv' := [(9, .int (is0 &&& is1)), (0, .ref r0), (1, .int i1), (2, .int i2), (3, .int i3), (4, .int i4), (5, .int i5), (6, .int i6), (7, .int i7), (8, .int i8), (10, .int i10)]) hx hb dX11_likeNow_124 hl (by decide) rfl (fun ls hl => ?_)
            refine lv_iinc (v := (i10 + 1)) (lv' := [(10, .int (i10 + 1)), (9, .int (is0 &&& is1)), (0, .ref r0), (1, .int i1), (2, .int i2), (3, .int i3), (4, .int i4), (5, .int i5), (6, .int i6), (7, .int i7), (8, .int i8)]) hx hb dX11_likeNow_126 hl (k := 10) rfl rfl (by decide) rfl (fun ls hl => ?_)
            refine lv_goto (tgt := 95) hx hb dX11_likeNow_129 (by decide) ?_
            exact hk_95 (is0 &&& is1) (i10 + 1) h _ _ _ hc (lv_sub hl [2, 3, 4, 5, 6, 7, 8, 9, 10, 1, 0] rfl)
          unfold l_X11_likeNow_95 at h
          refine lv_iload hx hb dX11_likeNow_95 (lv_at hl 10 rfl) ?_
          refine lv_iload hx hb dX11_likeNow_97 (lv_at hl 7 rfl) ?_
          refine lv_icmp_ge (tgt := 132) hx hb dX11_likeNow_99 (by decide) (fun c1 => ?_) (fun c1 => ?_)
          · have h := h.1 c1
            refine lv_iload hx hb dX11_likeNow_132 (lv_at hl 5 rfl) ?_
            refine lv_iload hx hb dX11_likeNow_134 (lv_at hl 9 rfl) ?_
            refine lv_if_eq (tgt := 150) hx hb dX11_likeNow_136 (by decide) (fun c2 => ?_) (fun c2 => ?_)
            · have h := h.1 c2
              refine lv_iconst (v := 0) hx hb dX11_likeNow_150 (by decide) ?_
              exact hb_151 g i7 i5 0 h _ _ _ hc (lv_sub hl [0, 1, 2, 3, 4, 6, 7] rfl)
            · have h := h.2 c2
              refine lv_aload_n hx hb dX11_likeNow_139 rfl (lv_at hl 0 rfl) ?_
              refine lv_iload hx hb dX11_likeNow_140 (lv_at hl 8 rfl) ?_
              refine lv_iload hx hb dX11_likeNow_142 (lv_at hl 6 rfl) ?_
              obtain ⟨hk3, h⟩ := h
              refine g_calli (va_runV (As := [.int i8, .int i6]) (rest := [.int i5]) CF (c_X11_rareNow h) (cwV 2 hts gX11_likeNow_X11_rareNow rfl rfl rfl (by decide +kernel) ⟨Nat.le_of_ble_eq_true rfl, Nat.le_of_ble_eq_true rfl⟩) (hc.preV hk3 rfl (by decide)) rfl rfl hl.1 rfl (lv_room (Nat.le_of_ble_eq_true rfl)) dX11_likeNow_144 ⟨Nat.le_of_ble_eq_true rfl, Nat.le_of_ble_eq_true rfl⟩) hc (fun x4 g5 H locs hq hc => ?_)
              replace h := hq
              refine lv_goto (tgt := 151) hx hb dX11_likeNow_147 (by decide) ?_
              exact hb_151 g5 i7 i5 x4 h _ _ _ hc (lv_sub hl [0, 1, 2, 3, 4, 6, 7] rfl)
          · have h := h.2 c1
            refine lv_iload hx hb dX11_likeNow_102 (lv_at hl 9 rfl) ?_
            refine lv_aload_n hx hb dX11_likeNow_104 rfl (lv_at hl 0 rfl) ?_
            refine lv_iload_n hx hb dX11_likeNow_105 rfl (lv_at hl 1 rfl) ?_
            refine lv_iload hx hb dX11_likeNow_106 (lv_at hl 6 rfl) ?_
            refine lv_iload hx hb dX11_likeNow_108 (lv_at hl 10 rfl) ?_
            obtain ⟨hk7, h⟩ := h
            refine g_calli (va_runV (As := [.int i1, .int i6, .int i10]) (rest := [.int i9]) CF (c_X11_at h) (cwV 3 hts gX11_likeNow_X11_at rfl rfl rfl (by decide +kernel) ⟨Nat.le_of_ble_eq_true rfl, Nat.le_of_ble_eq_true rfl⟩) (hc.preV hk7 rfl (by decide)) rfl rfl hl.1 rfl (lv_room (Nat.le_of_ble_eq_true rfl)) dX11_likeNow_110 ⟨Nat.le_of_ble_eq_true rfl, Nat.le_of_ble_eq_true rfl⟩) hc (fun x8 gq9 H locs hq hc => ?_)
            obtain ⟨rfl, h⟩ := hq
            refine lv_iload hx hb dX11_likeNow_113 (lv_at hl 8 rfl) ?_
            refine lv_icmp_eq (tgt := 122) hx hb dX11_likeNow_115 (by decide) (fun c10 => ?_) (fun c10 => ?_)
            · have h := h.1 c10
              refine lv_iconst (v := 0) hx hb dX11_likeNow_122 (by decide) ?_
              exact hb_123 i10 i9 0 h _ _ _ hc (lv_sub hl [0, 1, 2, 3, 4, 5, 6, 7, 8, 10] rfl)
            · have h := h.2 c10
              refine lv_iconst (v := 1) hx hb dX11_likeNow_118 (by decide) ?_
              refine lv_goto (tgt := 123) hx hb dX11_likeNow_119 (by decide) ?_
              exact hb_123 i10 i9 1 h _ _ _ hc (lv_sub hl [0, 1, 2, 3, 4, 5, 6, 7, 8, 10] rfl)
        have hb_90 : ∀ (g : gS) (i5 : Int32) (i7 : Int32) (i8 : Int32) (is0 : Int32), b_X11_likeNow_90 g r0 i1 i2 i3 i4 i5 i6 i7 i8 is0 Q k7 k40 k49 → ∀ (H : Heap) (locs : List Loc) (ls : Array Slot), gC D cA (gA g0 sz) s g H locs → lv_has ls 11 [(0, .ref r0), (1, .int i1), (2, .int i2), (3, .int i3), (4, .int i4), (5, .int i5), (6, .int i6), (7, .int i7), (8, .int i8)] → W p l e r_X11_likeNow s m args below meth c H locs 0 0 (MQ below (gQi D cA g0 sz (Q)) args s 0 0 (gA g0 sz)) (F0 m 90 ls [.int is0]) := by
          intro g i5 i7 i8 is0 h H locs ls hc hl
          unfold b_X11_likeNow_90 at h
          refine lv_istore (lv' := [(9, .int is0), (0, .ref r0), (1, .int i1), (2, .int i2), (3, .int i3), (4, .int i4), (5, .int i5), (6, .int i6), (7, .int i7), (8, .int i8)]) hx hb dX11_likeNow_90 hl (by decide) rfl (fun ls hl => ?_)
          refine lv_iconst (v := 0) hx hb dX11_likeNow_92 (by decide) ?_
          refine lv_istore (lv' := [(10, .int 0), (9, .int is0), (0, .ref r0), (1, .int i1), (2, .int i2), (3, .int i3), (4, .int i4), (5, .int i5), (6, .int i6), (7, .int i7), (8, .int i8)]) hx hb dX11_likeNow_93 hl (by decide) rfl (fun ls hl => ?_)
          exact hb_95 g i5 i7 i8 is0 0 h _ _ _ hc (lv_sub hl [2, 3, 4, 5, 6, 7, 8, 9, 10, 1, 0] rfl)
        unfold l_X11_likeNow_49 at h
        refine lv_iload hx hb dX11_likeNow_49 (lv_at hl 7 rfl) ?_
        refine lv_aload_n hx hb dX11_likeNow_51 rfl (lv_at hl 0 rfl) ?_
        refine lv_iload_n hx hb dX11_likeNow_52 rfl (lv_at hl 1 rfl) ?_
        refine lv_iload hx hb dX11_likeNow_53 (lv_at hl 6 rfl) ?_
        obtain ⟨hk11, h⟩ := h
        refine g_calli (va_runV (As := [.int i1, .int i6]) (rest := [.int i7]) CF (c_X11_many h) (cwV 2 hts gX11_likeNow_X11_many rfl rfl rfl (by decide +kernel) ⟨Nat.le_of_ble_eq_true rfl, Nat.le_of_ble_eq_true rfl⟩) (hc.preV hk11 rfl (by decide)) rfl rfl hl.1 rfl (lv_room (Nat.le_of_ble_eq_true rfl)) dX11_likeNow_55 ⟨Nat.le_of_ble_eq_true rfl, Nat.le_of_ble_eq_true rfl⟩) hc (fun x12 gq13 H locs hq hc => ?_)
        obtain ⟨rfl, h⟩ := hq
        refine lv_icmp_ge (tgt := 160) hx hb dX11_likeNow_58 (by decide) (fun c14 => ?_) (fun c14 => ?_)
        · have h := h.1 c14
          refine lv_iinc (v := (i6 + 1)) (lv' := [(6, .int (i6 + 1)), (0, .ref r0), (1, .int i1), (2, .int i2), (3, .int i3), (4, .int i4), (5, .int i5), (7, .int i7)]) hx hb dX11_likeNow_160 hl (k := 6) rfl rfl (by decide) rfl (fun ls hl => ?_)
          refine lv_goto (tgt := 40) hx hb dX11_likeNow_163 (by decide) ?_
          exact hk_40 g i5 (i6 + 1) h _ _ _ hc (lv_sub hl [1, 2, 3, 4, 5, 6, 0] rfl)
        · have h := h.2 c14
          refine lv_aload_n hx hb dX11_likeNow_61 rfl (lv_at hl 0 rfl) ?_
          refine lv_iload_n hx hb dX11_likeNow_62 rfl (lv_at hl 1 rfl) ?_
          refine lv_iload hx hb dX11_likeNow_63 (lv_at hl 6 rfl) ?_
          refine lv_iload hx hb dX11_likeNow_65 (lv_at hl 7 rfl) ?_
          refine g_calli (va_runV (As := [.int i1, .int i6, .int i7]) (rest := []) CF (c_X11_at h) (cwV 3 hts gX11_likeNow_X11_at rfl rfl rfl (by decide +kernel) ⟨Nat.le_of_ble_eq_true rfl, Nat.le_of_ble_eq_true rfl⟩) (hc.preV hk11 rfl (by decide)) rfl rfl hl.1 rfl (lv_room (Nat.le_of_ble_eq_true rfl)) dX11_likeNow_67 ⟨Nat.le_of_ble_eq_true rfl, Nat.le_of_ble_eq_true rfl⟩) hc (fun x15 gq16 H locs hq hc => ?_)
          obtain ⟨rfl, h⟩ := hq
          refine lv_istore (lv' := [(8, .int x15), (0, .ref r0), (1, .int i1), (2, .int i2), (3, .int i3), (4, .int i4), (5, .int i5), (6, .int i6), (7, .int i7)]) hx hb dX11_likeNow_70 hl (by decide) rfl (fun ls hl => ?_)
          refine lv_aload_n hx hb dX11_likeNow_72 rfl (lv_at hl 1 rfl) ?_
          refine lv_iload hx hb dX11_likeNow_73 (lv_at hl 5 rfl) ?_
          refine lv_iload hx hb dX11_likeNow_75 (lv_at hl 7 rfl) ?_
          refine lv_iload hx hb dX11_likeNow_77 (lv_at hl 0 rfl) ?_
          refine g_calli (va_runV (As := [.int i4, .int i6, .int x15]) (rest := []) CF (c_X11_count h) (cwV 3 hts gX11_likeNow_X11_count rfl rfl rfl (by decide +kernel) ⟨Nat.le_of_ble_eq_true rfl, Nat.le_of_ble_eq_true rfl⟩) (hc.preV hk11 rfl (by decide)) rfl rfl hl.1 rfl (lv_room (Nat.le_of_ble_eq_true rfl)) dX11_likeNow_79 ⟨Nat.le_of_ble_eq_true rfl, Nat.le_of_ble_eq_true rfl⟩) hc (fun x17 gq18 H locs hq hc => ?_)
          obtain ⟨rfl, h⟩ := hq
          refine lv_if_le (tgt := 89) hx hb dX11_likeNow_82 (by decide) (fun c19 => ?_) (fun c19 => ?_)
          · have h := h.1 c19
            refine lv_iconst (v := 0) hx hb dX11_likeNow_89 (by decide) ?_
            exact hb_90 g i5 i7 x15 0 h _ _ _ hc (lv_sub hl [1, 2, 3, 4, 5, 6, 7, 8, 0] rfl)
          · have h := h.2 c19
            refine lv_iconst (v := 1) hx hb dX11_likeNow_85 (by decide) ?_
            refine lv_goto (tgt := 90) hx hb dX11_likeNow_86 (by decide) ?_
            exact hb_90 g i5 i7 x15 1 h _ _ _ hc (lv_sub hl [1, 2, 3, 4, 5, 6, 7, 8, 0] rfl)
      unfold l_X11_likeNow_40 at h
      refine lv_iload hx hb dX11_likeNow_40 (lv_at hl 6 rfl) ?_
      refine lv_iconst (v := 3) hx hb dX11_likeNow_42 (by decide) ?_
      refine lv_icmp_ge (tgt := 166) hx hb dX11_likeNow_43 (by decide) (fun c20 => ?_) (fun c20 => ?_)
      · have h := h.1 c20
        refine lv_iload hx hb dX11_likeNow_166 (lv_at hl 5 rfl) ?_
        refine lv_iload_n hx hb dX11_likeNow_168 rfl (lv_at hl 3 rfl) ?_
        refine lv_icmp_le (tgt := 178) hx hb dX11_likeNow_169 (by decide) (fun c21 => ?_) (fun c21 => ?_)
        · have h := h.1 c21
          exact hb_178 g i2 i3 i4 h _ _ _ hc (lv_sub hl [0, 1, 2, 3, 4] rfl)
        · have h := h.2 c21
          refine lv_iload hx hb dX11_likeNow_172 (lv_at hl 4 rfl) ?_
          refine lv_istore_n (lv' := [(2, .int i4), (0, .ref r0), (1, .int i1), (3, .int i3), (4, .int i4), (5, .int i5), (6, .int i6)]) hx hb dX11_likeNow_174 rfl hl (by decide) rfl (fun ls hl => ?_)
          refine lv_iload hx hb dX11_likeNow_175 (lv_at hl 5 rfl) ?_
          refine lv_istore_n (lv' := [(3, .int i5), (2, .int i4), (0, .ref r0), (1, .int i1), (4, .int i4), (5, .int i5), (6, .int i6)]) hx hb dX11_likeNow_177 rfl hl (by decide) rfl (fun ls hl => ?_)
          exact hb_178 g i4 i5 i4 h _ _ _ hc (lv_sub hl [2, 3, 1, 0, 4] rfl)
      · have h := h.2 c20
        refine lv_iconst (v := 0) hx hb dX11_likeNow_46 (by decide) ?_
        refine lv_istore (lv' := [(7, .int 0), (0, .ref r0), (1, .int i1), (2, .int i2), (3, .int i3), (4, .int i4), (5, .int i5), (6, .int i6)]) hx hb dX11_likeNow_47 hl (by decide) rfl (fun ls hl => ?_)
        exact hb_49 i6 g i5 0 h _ _ _ hc (lv_sub hl [1, 2, 3, 4, 5, 6, 7, 0] rfl)
    unfold l_X11_likeNow_7 at h
    refine lv_iload hx hb dX11_likeNow_7 (lv_at hl 4 rfl) ?_
    refine lv_aload_n hx hb dX11_likeNow_9 rfl (lv_at hl 0 rfl) ?_
    obtain ⟨hk22, h⟩ := h
    refine g_get CF hc hk22 rfl (by decide) (fun _ h9 => List.mem_cons_of_mem _ (List.mem_append_right _ (h9))) (k := 1) (by decide) (List.mem_cons_of_mem _ (List.mem_append_left _ (List.mem_append_left _ (List.mem_of_getElem? (i := 0) rfl)))) rfl dX11_likeNow_10 ?_
    refine lv_icmp_ge (tgt := 184) hx hb dX11_likeNow_13 (by decide) (fun c23 => ?_) (fun c23 => ?_)
    · have h := h.1 c23
      refine lv_iload_n hx hb dX11_likeNow_184 rfl (lv_at hl 2 rfl) ?_
      exact g_reti (r := i2) CF hr hlk hc rfl h dX11_likeNow_185
    · have h := h.2 c23
      refine lv_iload hx hb dX11_likeNow_16 (lv_at hl 4 rfl) ?_
      refine lv_iload_n hx hb dX11_likeNow_18 rfl (lv_at hl 1 rfl) ?_
      refine lv_icmp_eq (tgt := 178) hx hb dX11_likeNow_19 (by decide) (fun c24 => ?_) (fun c24 => ?_)
      · have h := h.1 c24
        exact hb_178 g i2 i3 i4 h _ _ _ hc (lv_sub hl [0, 1, 2, 3, 4] rfl)
      · have h := h.2 c24
        refine lv_aload_n hx hb dX11_likeNow_22 rfl (lv_at hl 0 rfl) ?_
        refine lv_iload hx hb dX11_likeNow_23 (lv_at hl 4 rfl) ?_
        refine g_calli (va_runV (As := [.int i4]) (rest := []) CF (c_X11_isThere h) (cwV 1 hts gX11_likeNow_X11_isThere rfl rfl rfl (by decide +kernel) ⟨Nat.le_of_ble_eq_true rfl, Nat.le_of_ble_eq_true rfl⟩) (hc.preV hk22 rfl (by decide)) rfl rfl hl.1 rfl (lv_room (Nat.le_of_ble_eq_true rfl)) dX11_likeNow_25 ⟨Nat.le_of_ble_eq_true rfl, Nat.le_of_ble_eq_true rfl⟩) hc (fun x25 gq26 H locs hq hc => ?_)
        obtain ⟨rfl, h⟩ := hq
        refine lv_if_ne (tgt := 34) hx hb dX11_likeNow_28 (by decide) (fun c27 => ?_) (fun c27 => ?_)
        · have h := h.2 c27
          refine lv_iconst (v := 0) hx hb dX11_likeNow_34 (by decide) ?_
          refine lv_istore (lv' := [(5, .int 0), (0, .ref r0), (1, .int i1), (2, .int i2), (3, .int i3), (4, .int i4)]) hx hb dX11_likeNow_35 hl (by decide) rfl (fun ls hl => ?_)
          refine lv_iconst (v := 0) hx hb dX11_likeNow_37 (by decide) ?_
          refine lv_istore (lv' := [(6, .int 0), (5, .int 0), (0, .ref r0), (1, .int i1), (2, .int i2), (3, .int i3), (4, .int i4)]) hx hb dX11_likeNow_38 hl (by decide) rfl (fun ls hl => ?_)
          exact hb_40 i2 i3 i4 g 0 0 h _ _ _ hc (lv_sub hl [2, 3, 4, 5, 6, 1, 0] rfl)
        · have h := h.1 c27
          refine lv_goto (tgt := 178) hx hb dX11_likeNow_31 (by decide) ?_
          exact hb_178 g i2 i3 i4 h _ _ _ hc (lv_sub hl [0, 1, 2, 3, 4] rfl)
  unfold w_X11_likeNow at h
  obtain ⟨H, hH0⟩ : ∃ z, z = s.heap := ⟨_, rfl⟩
  rw [← hH0] at hc ⊢
  obtain ⟨locs, hlc0⟩ : ∃ z : List Loc, z = [] := ⟨_, rfl⟩
  rw [← hlc0] at hc ⊢
  refine lv_iconst (v := (-1)) hx hb dX11_likeNow_0 (by decide) ?_
  refine lv_istore_n (lv' := [(2, .int (-1)), (0, .ref p0), (1, .int p1)]) hx hb dX11_likeNow_1 rfl hl (by decide) rfl (fun ls hl => ?_)
  refine lv_iconst (v := 0) hx hb dX11_likeNow_2 (by decide) ?_
  refine lv_istore_n (lv' := [(3, .int 0), (2, .int (-1)), (0, .ref p0), (1, .int p1)]) hx hb dX11_likeNow_3 rfl hl (by decide) rfl (fun ls hl => ?_)
  refine lv_iconst (v := 0) hx hb dX11_likeNow_4 (by decide) ?_
  refine lv_istore (lv' := [(4, .int 0), (3, .int 0), (2, .int (-1)), (0, .ref p0), (1, .int p1)]) hx hb dX11_likeNow_5 hl (by decide) rfl (fun ls hl => ?_)
  exact hb_7 p0 p1 g0 (-1) 0 0 h _ _ _ hc (lv_sub hl [3, 4, 2, 1, 0] rfl)
def b_X11_like_26 (g : gS) (is0 : Int32) (Q : Int32 → gS → Prop) : Prop :=
  Q is0 g
def w_X11_like (g0 : gS) (p0 : Nat) (p1 : Int32) (Q : Int32 → gS → Prop) : Prop :=
  gK g0 p0 = 12 ∧ (∀ g2, g2 = sU g0 p0 0 0 → (gK g2 p0 = 12 ∧ (w_X11_isDocument g2 p0 p1 (fun x5 => ((x5 = 0 → (w_X11_no g2 p0 1 (fun x8 g9 => (b_X11_like_26 g9 x8 Q)))) ∧ (¬ x5 = 0 → (w_X11_likeNow g2 p0 p1 (fun x11 g12 => (b_X11_like_26 g12 x11 Q)))))))))
abbrev r_X11_like : Room := { frames := 5, cells := 0, slots := 0, locals := 123 }
set_option maxHeartbeats 4000000 in
set_option maxRecDepth 100000 in
theorem c_X11_like {l : Launch} {D : va_G} {cA : Nat → ClassId} {sz : Nat} {g0 : gS} {p0 : Nat} {p1 : Int32} {Q : Int32 → gS → Prop} (h : w_X11_like g0 p0 p1 Q) : Met l yX11_like wsX11_like r_X11_like (va_Pc [.ref p0, .int p1] (gPre D cA g0 sz)) (gQi D cA g0 sz (Q)) 0 0 (gA g0 sz) := by
  refine g_met (cc := cX11_like) (maxL := 2) (ret := (some .int)) (own := RX11) (by decide) rfl rfl (Nat.le_of_ble_eq_true rfl) ?_
  intro p e s m args below meth c ls CF hr hlk hnm hc hl
  obtain ⟨hx, hb, hml, hown, hts⟩ := id CF
  have hl : lv_has ls 2 [(0, .ref p0), (1, .int p1)] := hl
  show W p l e r_X11_like s m args below meth c s.heap [] 0 0 (MQ below (gQi D cA g0 sz (Q)) args s 0 0 (gA g0 sz)) (F0 m 0 ls [])
  have hb_26 : ∀ (g : gS) (is0 : Int32), b_X11_like_26 g is0 Q → ∀ (H : Heap) (locs : List Loc) (ls : Array Slot), gC D cA (gA g0 sz) s g H locs → lv_has ls 2 [] → W p l e r_X11_like s m args below meth c H locs 0 0 (MQ below (gQi D cA g0 sz (Q)) args s 0 0 (gA g0 sz)) (F0 m 26 ls [.int is0]) := by
    intro g is0 h H locs ls hc hl
    unfold b_X11_like_26 at h
    exact g_reti (r := is0) CF hr hlk hc rfl h dX11_like_26
  unfold w_X11_like at h
  obtain ⟨H, hH0⟩ : ∃ z, z = s.heap := ⟨_, rfl⟩
  rw [← hH0] at hc ⊢
  obtain ⟨locs, hlc0⟩ : ∃ z : List Loc, z = [] := ⟨_, rfl⟩
  rw [← hlc0] at hc ⊢
  refine lv_aload_n hx hb dX11_like_0 rfl (lv_at hl 0 rfl) ?_
  refine lv_iconst (v := 0) hx hb dX11_like_1 (by decide) ?_
  obtain ⟨hk1, h⟩ := h
  refine g_puti CF hc hk1 rfl (by decide) (fun _ h9 => List.mem_cons_of_mem _ (List.mem_append_right _ (h9))) tyX11 tyX11_ok nmX11 (k := 0) (by decide) (List.mem_cons_of_mem _ (List.mem_append_left _ (List.mem_append_left _ (List.mem_of_getElem? (i := 0) rfl)))) rfl (v := 0) rfl rfl rfl dX11_like_2 (fun H locs hc => ?_)
  obtain ⟨g2, eg3⟩ : ∃ z, z = sU g0 p0 0 0 := ⟨_, rfl⟩
  have hc : gC D cA (gA g0 sz) s g2 H locs := by rw [eg3]; exact hc
  replace h := h g2 eg3
  refine lv_aload_n hx hb dX11_like_5 rfl (lv_at hl 0 rfl) ?_
  refine lv_iload_n hx hb dX11_like_6 rfl (lv_at hl 1 rfl) ?_
  obtain ⟨hk4, h⟩ := h
  refine g_calli (va_runV (As := [.int p1]) (rest := []) CF (c_X11_isDocument h) (cwV 1 hts gX11_like_X11_isDocument rfl rfl rfl (by decide +kernel) ⟨Nat.le_of_ble_eq_true rfl, Nat.le_of_ble_eq_true rfl⟩) (hc.preV hk4 rfl (by decide)) rfl rfl hl.1 rfl (lv_room (Nat.le_of_ble_eq_true rfl)) dX11_like_7 ⟨Nat.le_of_ble_eq_true rfl, Nat.le_of_ble_eq_true rfl⟩) hc (fun x5 gq6 H locs hq hc => ?_)
  obtain ⟨rfl, h⟩ := hq
  refine lv_if_eq (tgt := 21) hx hb dX11_like_10 (by decide) (fun c7 => ?_) (fun c7 => ?_)
  · have h := h.1 c7
    refine lv_aload_n hx hb dX11_like_21 rfl (lv_at hl 0 rfl) ?_
    refine lv_iconst (v := 1) hx hb dX11_like_22 (by decide) ?_
    refine g_calli (va_runV (As := [.int 1]) (rest := []) CF (c_X11_no h) (cwV 1 hts gX11_like_X11_no rfl rfl rfl (by decide +kernel) ⟨Nat.le_of_ble_eq_true rfl, Nat.le_of_ble_eq_true rfl⟩) (hc.preV hk4 rfl (by decide)) rfl rfl hl.1 rfl (lv_room (Nat.le_of_ble_eq_true rfl)) dX11_like_23 ⟨Nat.le_of_ble_eq_true rfl, Nat.le_of_ble_eq_true rfl⟩) hc (fun x8 g9 H locs hq hc => ?_)
    replace h := hq
    exact hb_26 g9 x8 h _ _ _ hc (lv_sub hl [] rfl)
  · have h := h.2 c7
    refine lv_aload_n hx hb dX11_like_13 rfl (lv_at hl 0 rfl) ?_
    refine lv_iload_n hx hb dX11_like_14 rfl (lv_at hl 1 rfl) ?_
    refine g_calli (va_runV (As := [.int p1]) (rest := []) CF (c_X11_likeNow h) (cwV 1 hts gX11_like_X11_likeNow rfl rfl rfl (by decide +kernel) ⟨Nat.le_of_ble_eq_true rfl, Nat.le_of_ble_eq_true rfl⟩) (hc.preV hk4 rfl (by decide)) rfl rfl hl.1 rfl (lv_room (Nat.le_of_ble_eq_true rfl)) dX11_like_15 ⟨Nat.le_of_ble_eq_true rfl, Nat.le_of_ble_eq_true rfl⟩) hc (fun x11 g12 H locs hq hc => ?_)
    replace h := hq
    refine lv_goto (tgt := 26) hx hb dX11_like_18 (by decide) ?_
    exact hb_26 g12 x11 h _ _ _ hc (lv_sub hl [] rfl)
def b_X11_has_31 (g : gS) (is0 : Int32) (Q : Int32 → Prop) : Prop :=
  (is0 = 0 ∨ is0 = 1) ∧ (Q is0)
def w_X11_has (g : gS) (p0 : Nat) (p1 : Int32) (p2 : Int32) (Q : Int32 → Prop) : Prop :=
  gK g p0 = 12 ∧ (w_X11_count g p0 p1 0 p2 (fun x3 => (w_X11_count g p0 p1 1 p2 (fun x5 => (w_X11_count g p0 p1 2 p2 (fun x7 => ((((x3 + x5) + x7) ≤ 0 → (b_X11_has_31 g 0 Q)) ∧ (¬ ((x3 + x5) + x7) ≤ 0 → (b_X11_has_31 g 1 Q)))))))))
abbrev r_X11_has : Room := { frames := 2, cells := 0, slots := 0, locals := 48 }
set_option maxHeartbeats 4000000 in
set_option maxRecDepth 100000 in
theorem c_X11_has {l : Launch} {D : va_G} {cA : Nat → ClassId} {sz : Nat} {g : gS} {p0 : Nat} {p1 : Int32} {p2 : Int32} {Q : Int32 → Prop} (h : w_X11_has g p0 p1 p2 Q) : Met l yX11_has wsX11_has r_X11_has (va_Pc [.ref p0, .int p1, .int p2] (gPre D cA g sz)) (gQi D cA g sz (fun r g2 => g = g2 ∧ Q r)) 0 0 (gA g sz) := by
  refine g_met (cc := cX11_has) (maxL := 3) (ret := (some .boolean)) (own := RX11) (by decide) rfl rfl (Nat.le_of_ble_eq_true rfl) ?_
  intro p e s m args below meth c ls CF hr hlk hnm hc hl
  obtain ⟨hx, hb, hml, hown, hts⟩ := id CF
  have hl : lv_has ls 3 [(0, .ref p0), (1, .int p1), (2, .int p2)] := hl
  show W p l e r_X11_has s m args below meth c s.heap [] 0 0 (MQ below (gQi D cA g sz (fun r g2 => g = g2 ∧ Q r)) args s 0 0 (gA g sz)) (F0 m 0 ls [])
  have hb_31 : ∀ (is0 : Int32), b_X11_has_31 g is0 Q → ∀ (H : Heap) (locs : List Loc) (ls : Array Slot), gC D cA (gA g sz) s g H locs → lv_has ls 3 [] → W p l e r_X11_has s m args below meth c H locs 0 0 (MQ below (gQi D cA g sz (fun r g2 => g = g2 ∧ Q r)) args s 0 0 (gA g sz)) (F0 m 31 ls [.int is0]) := by
    intro is0 h H locs ls hc hl
    unfold b_X11_has_31 at h
    obtain ⟨hz1, h⟩ := h
    exact g_reti (r := is0) CF hr hlk hc (narrow_01 hz1) ⟨rfl, h⟩ dX11_has_31
  unfold w_X11_has at h
  obtain ⟨H, hH0⟩ : ∃ z, z = s.heap := ⟨_, rfl⟩
  rw [← hH0] at hc ⊢
  obtain ⟨locs, hlc0⟩ : ∃ z : List Loc, z = [] := ⟨_, rfl⟩
  rw [← hlc0] at hc ⊢
  refine lv_aload_n hx hb dX11_has_0 rfl (lv_at hl 0 rfl) ?_
  refine lv_iload_n hx hb dX11_has_1 rfl (lv_at hl 1 rfl) ?_
  refine lv_iconst (v := 0) hx hb dX11_has_2 (by decide) ?_
  refine lv_iload_n hx hb dX11_has_3 rfl (lv_at hl 2 rfl) ?_
  obtain ⟨hk2, h⟩ := h
  refine g_calli (va_runV (As := [.int p1, .int 0, .int p2]) (rest := []) CF (c_X11_count h) (cwV 3 hts gX11_has_X11_count rfl rfl rfl (by decide +kernel) ⟨Nat.le_of_ble_eq_true rfl, Nat.le_of_ble_eq_true rfl⟩) (hc.preV hk2 rfl (by decide)) rfl rfl hl.1 rfl (lv_room (Nat.le_of_ble_eq_true rfl)) dX11_has_4 ⟨Nat.le_of_ble_eq_true rfl, Nat.le_of_ble_eq_true rfl⟩) hc (fun x3 gq4 H locs hq hc => ?_)
  obtain ⟨rfl, h⟩ := hq
  refine lv_aload_n hx hb dX11_has_7 rfl (lv_at hl 0 rfl) ?_
  refine lv_iload_n hx hb dX11_has_8 rfl (lv_at hl 1 rfl) ?_
  refine lv_iconst (v := 1) hx hb dX11_has_9 (by decide) ?_
  refine lv_iload_n hx hb dX11_has_10 rfl (lv_at hl 2 rfl) ?_
  refine g_calli (va_runV (As := [.int p1, .int 1, .int p2]) (rest := [.int x3]) CF (c_X11_count h) (cwV 3 hts gX11_has_X11_count rfl rfl rfl (by decide +kernel) ⟨Nat.le_of_ble_eq_true rfl, Nat.le_of_ble_eq_true rfl⟩) (hc.preV hk2 rfl (by decide)) rfl rfl hl.1 rfl (lv_room (Nat.le_of_ble_eq_true rfl)) dX11_has_11 ⟨Nat.le_of_ble_eq_true rfl, Nat.le_of_ble_eq_true rfl⟩) hc (fun x5 gq6 H locs hq hc => ?_)
  obtain ⟨rfl, h⟩ := hq
  refine lv_iadd hx hb dX11_has_14 ?_
  refine lv_aload_n hx hb dX11_has_15 rfl (lv_at hl 0 rfl) ?_
  refine lv_iload_n hx hb dX11_has_16 rfl (lv_at hl 1 rfl) ?_
  refine lv_iconst (v := 2) hx hb dX11_has_17 (by decide) ?_
  refine lv_iload_n hx hb dX11_has_18 rfl (lv_at hl 2 rfl) ?_
  refine g_calli (va_runV (As := [.int p1, .int 2, .int p2]) (rest := [.int (x3 + x5)]) CF (c_X11_count h) (cwV 3 hts gX11_has_X11_count rfl rfl rfl (by decide +kernel) ⟨Nat.le_of_ble_eq_true rfl, Nat.le_of_ble_eq_true rfl⟩) (hc.preV hk2 rfl (by decide)) rfl rfl hl.1 rfl (lv_room (Nat.le_of_ble_eq_true rfl)) dX11_has_19 ⟨Nat.le_of_ble_eq_true rfl, Nat.le_of_ble_eq_true rfl⟩) hc (fun x7 gq8 H locs hq hc => ?_)
  obtain ⟨rfl, h⟩ := hq
  refine lv_iadd hx hb dX11_has_22 ?_
  refine lv_if_le (tgt := 30) hx hb dX11_has_23 (by decide) (fun c9 => ?_) (fun c9 => ?_)
  · have h := h.1 c9
    refine lv_iconst (v := 0) hx hb dX11_has_30 (by decide) ?_
    exact hb_31 0 h _ _ _ hc (lv_sub hl [] rfl)
  · have h := h.2 c9
    refine lv_iconst (v := 1) hx hb dX11_has_26 (by decide) ?_
    refine lv_goto (tgt := 31) hx hb dX11_has_27 (by decide) ?_
    exact hb_31 1 h _ _ _ hc (lv_sub hl [] rfl)
def b_X11_mate_168 (g : gS) (r0 : Nat) (i1 : Int32) (i2 : Int32) (i3 : Int32) (i4 : Int32) (i5 : Int32) (Q : Int32 → gS → Prop) (k37 : Int32 → Int32 → Int32 → Int32 → Prop) : Prop :=
  k37 i2 i3 i4 (i5 + 1)
def b_X11_mate_158 (g : gS) (r0 : Nat) (i1 : Int32) (i5 : Int32) (i6 : Int32) (i7 : Int32) (Q : Int32 → gS → Prop) (k37 : Int32 → Int32 → Int32 → Int32 → Prop) : Prop :=
  b_X11_mate_168 g r0 i1 i5 i6 i7 i5 Q k37
def b_X11_mate_128 (g : gS) (r0 : Nat) (i1 : Int32) (i2 : Int32) (i3 : Int32) (i4 : Int32) (i5 : Int32) (i6 : Int32) (i7 : Int32) (i8 : Int32) (Q : Int32 → gS → Prop) (k37 : Int32 → Int32 → Int32 → Int32 → Prop) (k73 : Int32 → Int32 → Int32 → Prop) : Prop :=
  k73 i6 i7 (i8 + 1)
def b_X11_mate_125 (g : gS) (r0 : Nat) (i1 : Int32) (i2 : Int32) (i3 : Int32) (i4 : Int32) (i5 : Int32) (i7 : Int32) (i8 : Int32) (is0 : Int32) (is1 : Int32) (Q : Int32 → gS → Prop) (k37 : Int32 → Int32 → Int32 → Int32 → Prop) (k73 : Int32 → Int32 → Int32 → Prop) : Prop :=
  b_X11_mate_128 g r0 i1 i2 i3 i4 i5 (is0 + is1) i7 i8 Q k37 k73
def l_X11_mate_73 (g : gS) (r0 : Nat) (i1 : Int32) (i2 : Int32) (i3 : Int32) (i4 : Int32) (i5 : Int32) (Q : Int32 → gS → Prop) (k37 : Int32 → Int32 → Int32 → Int32 → Prop) (i6 : Int32) (i7 : Int32) (i8 : Int32) (k73 : Int32 → Int32 → Int32 → Prop) : Prop :=
  gK g r0 = 12 ∧ (((gI g r0 1) ≤ i8 → ((i3 < i6 → (b_X11_mate_158 g r0 i1 i5 i6 i7 Q k37)) ∧ (¬ i3 < i6 → ((i6 = i3 → ((i6 ≤ 0 → (b_X11_mate_168 g r0 i1 i2 i3 i4 i5 Q k37)) ∧ (¬ i6 ≤ 0 → ((i4 ≤ i7 → (b_X11_mate_168 g r0 i1 i2 i3 i4 i5 Q k37)) ∧ (¬ i4 ≤ i7 → (b_X11_mate_158 g r0 i1 i5 i6 i7 Q k37)))))) ∧ (¬ i6 = i3 → (b_X11_mate_168 g r0 i1 i2 i3 i4 i5 Q k37)))))) ∧ (¬ (gI g r0 1) ≤ i8 → (w_X11_isThere g r0 i8 (fun x7 => ((x7 = 0 → (b_X11_mate_128 g r0 i1 i2 i3 i4 i5 i6 i7 i8 Q k37 k73)) ∧ (¬ x7 = 0 → (w_X11_has g r0 i8 i5 (fun x10 => ((x10 = 0 → (b_X11_mate_128 g r0 i1 i2 i3 i4 i5 i6 i7 i8 Q k37 k73)) ∧ (¬ x10 = 0 → (w_X11_has g r0 i8 i1 (fun x13 => ((x13 = 0 → (b_X11_mate_125 g r0 i1 i2 i3 i4 i5 (i7 + 1) i8 i6 0 Q k37 k73)) ∧ (¬ x13 = 0 → (b_X11_mate_125 g r0 i1 i2 i3 i4 i5 (i7 + 1) i8 i6 1 Q k37 k73)))))))))))))))
def l_X11_mate_37 (g : gS) (r0 : Nat) (i1 : Int32) (Q : Int32 → gS → Prop) (i2 : Int32) (i3 : Int32) (i4 : Int32) (i5 : Int32) (k37 : Int32 → Int32 → Int32 → Int32 → Prop) : Prop :=
  (200 ≤ i5 → (Q i2 g)) ∧ (¬ 200 ≤ i5 → ((i5 = i1 → (b_X11_mate_168 g r0 i1 i2 i3 i4 i5 Q k37)) ∧ (¬ i5 = i1 → (gK g r0 = 12 ∧ (∃ y19, gR g r0 10 = some y19 ∧ (gK g y19 = 22 ∧ (vp_in i5 (gN g y19) ∧ (((gI g y19 (Int32.toNatClampNeg i5)) = 0 → (lpx3 (l_X11_mate_73 g r0 i1 i2 i3 i4 i5 Q k37) 0 0 0)) ∧ (¬ (gI g y19 (Int32.toNatClampNeg i5)) = 0 → (b_X11_mate_168 g r0 i1 i2 i3 i4 i5 Q k37))))))))))
def b_X11_mate_21 (g : gS) (r0 : Nat) (Q : Int32 → gS → Prop) : Prop :=
  gK g r0 = 12 ∧ (w_X11_no g r0 1 (fun x25 g26 => (Q x25 g26)))
def w_X11_mate (g0 : gS) (p0 : Nat) (p1 : Int32) (Q : Int32 → gS → Prop) : Prop :=
  gK g0 p0 = 12 ∧ (∀ g29, g29 = sU g0 p0 0 0 → (w_X11_isTerm g29 p1 (fun x31 => ((x31 = 0 → (b_X11_mate_21 g29 p0 Q)) ∧ (¬ x31 = 0 → (gK g29 p0 = 12 ∧ (∃ y35, gR g29 p0 10 = some y35 ∧ (gK g29 y35 = 22 ∧ (vp_in p1 (gN g29 y35) ∧ (((gI g29 y35 (Int32.toNatClampNeg p1)) = 0 → (lpx4 (l_X11_mate_37 g29 p0 p1 Q) (-1) 0 0 0)) ∧ (¬ (gI g29 y35 (Int32.toNatClampNeg p1)) = 0 → (b_X11_mate_21 g29 p0 Q))))))))))))
abbrev r_X11_mate : Room := { frames := 3, cells := 0, slots := 0, locals := 70 }
set_option maxHeartbeats 4000000 in
set_option maxRecDepth 100000 in
theorem c_X11_mate {l : Launch} {D : va_G} {cA : Nat → ClassId} {sz : Nat} {g0 : gS} {p0 : Nat} {p1 : Int32} {Q : Int32 → gS → Prop} (h : w_X11_mate g0 p0 p1 Q) : Met l yX11_mate wsX11_mate r_X11_mate (va_Pc [.ref p0, .int p1] (gPre D cA g0 sz)) (gQi D cA g0 sz (Q)) 0 0 (gA g0 sz) := by
  refine g_met (cc := cX11_mate) (maxL := 9) (ret := (some .int)) (own := RX11) (by decide) rfl rfl (Nat.le_of_ble_eq_true rfl) ?_
  intro p e s m args below meth c ls CF hr hlk hnm hc hl
  obtain ⟨hx, hb, hml, hown, hts⟩ := id CF
  have hl : lv_has ls 9 [(0, .ref p0), (1, .int p1)] := hl
  show W p l e r_X11_mate s m args below meth c s.heap [] 0 0 (MQ below (gQi D cA g0 sz (Q)) args s 0 0 (gA g0 sz)) (F0 m 0 ls [])
  have hb_37 : ∀ (g : gS) (r0 : Nat) (i1 : Int32), ∀ (i2 : Int32) (i3 : Int32) (i4 : Int32) (i5 : Int32), lpx4 (l_X11_mate_37 g r0 i1 Q) i2 i3 i4 i5 → ∀ (H : Heap) (locs : List Loc) (ls : Array Slot), gC D cA (gA g0 sz) s g H locs → lv_has ls 9 [(0, .ref r0), (1, .int i1), (2, .int i2), (3, .int i3), (4, .int i4), (5, .int i5)] → W p l e r_X11_mate s m args below meth c H locs 0 0 (MQ below (gQi D cA g0 sz (Q)) args s 0 0 (gA g0 sz)) (F0 m 37 ls []) := by
    intro g r0 i1
    refine lpx4_run (P := fun (i2 : Int32) (i3 : Int32) (i4 : Int32) (i5 : Int32) => ∀ (H : Heap) (locs : List Loc) (ls : Array Slot), gC D cA (gA g0 sz) s g H locs → lv_has ls 9 [(0, .ref r0), (1, .int i1), (2, .int i2), (3, .int i3), (4, .int i4), (5, .int i5)] → W p l e r_X11_mate s m args below meth c H locs 0 0 (MQ below (gQi D cA g0 sz (Q)) args s 0 0 (gA g0 sz)) (F0 m 37 ls [])) ?_
    intro k37 hk_37 i2 i3 i4 i5 h H locs ls hc hl
    have hb_168 : ∀ (i2 : Int32) (i3 : Int32) (i4 : Int32) (i5 : Int32), b_X11_mate_168 g r0 i1 i2 i3 i4 i5 Q k37 → ∀ (H : Heap) (locs : List Loc) (ls : Array Slot), gC D cA (gA g0 sz) s g H locs → lv_has ls 9 [(0, .ref r0), (1, .int i1), (2, .int i2), (3, .int i3), (4, .int i4), (5, .int i5)] → W p l e r_X11_mate s m args below meth c H locs 0 0 (MQ below (gQi D cA g0 sz (Q)) args s 0 0 (gA g0 sz)) (F0 m 168 ls []) := by
      intro i2 i3 i4 i5 h H locs ls hc hl
      unfold b_X11_mate_168 at h
      refine lv_iinc (v := (i5 + 1)) (lv' := [(5, .int (i5 + 1)), (0, .ref r0), (1, .int i1), (2, .int i2), (3, .int i3), (4, .int i4)]) hx hb dX11_mate_168 hl (k := 5) rfl rfl (by decide) rfl (fun ls hl => ?_)
      refine lv_goto (tgt := 37) hx hb dX11_mate_171 (by decide) ?_
      exact hk_37 i2 i3 i4 (i5 + 1) h _ _ _ hc (lv_sub hl [1, 2, 3, 4, 5, 0] rfl)
    have hb_158 : ∀ (i5 : Int32) (i6 : Int32) (i7 : Int32), b_X11_mate_158 g r0 i1 i5 i6 i7 Q k37 → ∀ (H : Heap) (locs : List Loc) (ls : Array Slot), gC D cA (gA g0 sz) s g H locs → lv_has ls 9 [(0, .ref r0), (1, .int i1), (5, .int i5), (6, .int i6), (7, .int i7)] → W p l e r_X11_mate s m args below meth c H locs 0 0 (MQ below (gQi D cA g0 sz (Q)) args s 0 0 (gA g0 sz)) (F0 m 158 ls []) := by
      intro i5 i6 i7 h H locs ls hc hl
      unfold b_X11_mate_158 at h
      refine lv_iload hx hb dX11_mate_158 (lv_at hl 2 rfl) ?_
      refine lv_istore_n (lv' := [(2, .int i5), (0, .ref r0), (1, .int i1), (5, .int i5), (6, .int i6), (7, .int i7)]) hx hb dX11_mate_160 rfl hl (by decide) rfl (fun ls hl => ?_)
      refine lv_iload hx hb dX11_mate_161 (lv_at hl 4 rfl) ?_
      refine lv_istore_n (lv' := [(3, .int i6), (2, .int i5), (0, .ref r0), (1, .int i1), (5, .int i5), (6, .int i6), (7, .int i7)]) hx hb dX11_mate_163 rfl hl (by decide) rfl (fun ls hl => ?_)
      refine lv_iload hx hb dX11_mate_164 (lv_at hl 6 rfl) ?_
      refine lv_istore (lv' := [(4, .int i7), (3, .int i6), (2, .int i5), (0, .ref r0), (1, .int i1), (5, .int i5), (6, .int i6), (7, .int i7)]) hx hb dX11_mate_166 hl (by decide) rfl (fun ls hl => ?_)
      exact hb_168 i5 i6 i7 i5 h _ _ _ hc (lv_sub hl [3, 4, 2, 1, 0, 5] rfl)
    have hb_73 : ∀ (i2 : Int32) (i3 : Int32) (i4 : Int32) (i5 : Int32), ∀ (i6 : Int32) (i7 : Int32) (i8 : Int32), lpx3 (l_X11_mate_73 g r0 i1 i2 i3 i4 i5 Q k37) i6 i7 i8 → ∀ (H : Heap) (locs : List Loc) (ls : Array Slot), gC D cA (gA g0 sz) s g H locs → lv_has ls 9 [(0, .ref r0), (1, .int i1), (2, .int i2), (3, .int i3), (4, .int i4), (5, .int i5), (6, .int i6), (7, .int i7), (8, .int i8)] → W p l e r_X11_mate s m args below meth c H locs 0 0 (MQ below (gQi D cA g0 sz (Q)) args s 0 0 (gA g0 sz)) (F0 m 73 ls []) := by
      intro i2 i3 i4 i5
      refine lpx3_run (P := fun (i6 : Int32) (i7 : Int32) (i8 : Int32) => ∀ (H : Heap) (locs : List Loc) (ls : Array Slot), gC D cA (gA g0 sz) s g H locs → lv_has ls 9 [(0, .ref r0), (1, .int i1), (2, .int i2), (3, .int i3), (4, .int i4), (5, .int i5), (6, .int i6), (7, .int i7), (8, .int i8)] → W p l e r_X11_mate s m args below meth c H locs 0 0 (MQ below (gQi D cA g0 sz (Q)) args s 0 0 (gA g0 sz)) (F0 m 73 ls [])) ?_
      intro k73 hk_73 i6 i7 i8 h H locs ls hc hl
      have hb_128 : ∀ (i6 : Int32) (i7 : Int32) (i8 : Int32), b_X11_mate_128 g r0 i1 i2 i3 i4 i5 i6 i7 i8 Q k37 k73 → ∀ (H : Heap) (locs : List Loc) (ls : Array Slot), gC D cA (gA g0 sz) s g H locs → lv_has ls 9 [(0, .ref r0), (1, .int i1), (2, .int i2), (3, .int i3), (4, .int i4), (5, .int i5), (6, .int i6), (7, .int i7), (8, .int i8)] → W p l e r_X11_mate s m args below meth c H locs 0 0 (MQ below (gQi D cA g0 sz (Q)) args s 0 0 (gA g0 sz)) (F0 m 128 ls []) := by
        intro i6 i7 i8 h H locs ls hc hl
        unfold b_X11_mate_128 at h
        refine lv_iinc (v := (i8 + 1)) (lv' := [(8, .int (i8 + 1)), (0, .ref r0), (1, .int i1), (2, .int i2), (3, .int i3), (4, .int i4), (5, .int i5), (6, .int i6), (7, .int i7)]) hx hb dX11_mate_128 hl (k := 8) rfl rfl (by decide) rfl (fun ls hl => ?_)
        refine lv_goto (tgt := 73) hx hb dX11_mate_131 (by decide) ?_
        exact hk_73 i6 i7 (i8 + 1) h _ _ _ hc (lv_sub hl [1, 2, 3, 4, 5, 6, 7, 8, 0] rfl)
      have hb_125 : ∀ (i7 : Int32) (i8 : Int32) (is0 : Int32) (is1 : Int32), b_X11_mate_125 g r0 i1 i2 i3 i4 i5 i7 i8 is0 is1 Q k37 k73 → ∀ (H : Heap) (locs : List Loc) (ls : Array Slot), gC D cA (gA g0 sz) s g H locs → lv_has ls 9 [(0, .ref r0), (1, .int i1), (2, .int i2), (3, .int i3), (4, .int i4), (5, .int i5), (7, .int i7), (8, .int i8)] → W p l e r_X11_mate s m args below meth c H locs 0 0 (MQ below (gQi D cA g0 sz (Q)) args s 0 0 (gA g0 sz)) (F0 m 125 ls [.int is1, .int is0]) := by
        intro i7 i8 is0 is1 h H locs ls hc hl
        unfold b_X11_mate_125 at h
        refine lv_iadd hx hb dX11_mate_125 ?_
        refine lv_istore (lv' := [(6, .int (is0 + is1)), (0, .ref r0), (1, .int i1), (2, .int i2), (3, .int i3), (4, .int i4), (5, .int i5), (7, .int i7), (8, .int i8)]) hx hb dX11_mate_126 hl (by decide) rfl (fun ls hl => ?_)
        exact hb_128 (is0 + is1) i7 i8 h _ _ _ hc (lv_sub hl [1, 2, 3, 4, 5, 6, 0, 7, 8] rfl)
      unfold l_X11_mate_73 at h
      refine lv_iload hx hb dX11_mate_73 (lv_at hl 8 rfl) ?_
      refine lv_aload_n hx hb dX11_mate_75 rfl (lv_at hl 0 rfl) ?_
      obtain ⟨hk1, h⟩ := h
      refine g_get CF hc hk1 rfl (by decide) (fun _ h9 => List.mem_cons_of_mem _ (List.mem_append_right _ (h9))) (k := 1) (by decide) (List.mem_cons_of_mem _ (List.mem_append_left _ (List.mem_append_left _ (List.mem_of_getElem? (i := 2) rfl)))) rfl dX11_mate_76 ?_
      refine lv_icmp_ge (tgt := 134) hx hb dX11_mate_79 (by decide) (fun c2 => ?_) (fun c2 => ?_)
      · have h := h.1 c2
        refine lv_iload hx hb dX11_mate_134 (lv_at hl 6 rfl) ?_
        refine lv_iload_n hx hb dX11_mate_136 rfl (lv_at hl 3 rfl) ?_
        refine lv_icmp_gt (tgt := 158) hx hb dX11_mate_137 (by decide) (fun c3 => ?_) (fun c3 => ?_)
        · have h := h.1 c3
          exact hb_158 i5 i6 i7 h _ _ _ hc (lv_sub hl [0, 1, 5, 6, 7] rfl)
        · have h := h.2 c3
          refine lv_iload hx hb dX11_mate_140 (lv_at hl 6 rfl) ?_
          refine lv_iload_n hx hb dX11_mate_142 rfl (lv_at hl 3 rfl) ?_
          refine lv_icmp_ne (tgt := 168) hx hb dX11_mate_143 (by decide) (fun c4 => ?_) (fun c4 => ?_)
          · have h := h.2 c4
            exact hb_168 i2 i3 i4 i5 h _ _ _ hc (lv_sub hl [0, 1, 2, 3, 4, 5] rfl)
          · have h := h.1 c4
            refine lv_iload hx hb dX11_mate_146 (lv_at hl 6 rfl) ?_
            refine lv_if_le (tgt := 168) hx hb dX11_mate_148 (by decide) (fun c5 => ?_) (fun c5 => ?_)
            · have h := h.1 c5
              exact hb_168 i2 i3 i4 i5 h _ _ _ hc (lv_sub hl [0, 1, 2, 3, 4, 5] rfl)
            · have h := h.2 c5
              refine lv_iload hx hb dX11_mate_151 (lv_at hl 7 rfl) ?_
              refine lv_iload hx hb dX11_mate_153 (lv_at hl 4 rfl) ?_
              refine lv_icmp_ge (tgt := 168) hx hb dX11_mate_155 (by decide) (fun c6 => ?_) (fun c6 => ?_)
              · have h := h.1 c6
                exact hb_168 i2 i3 i4 i5 h _ _ _ hc (lv_sub hl [0, 1, 2, 3, 4, 5] rfl)
              · have h := h.2 c6
                exact hb_158 i5 i6 i7 h _ _ _ hc (lv_sub hl [0, 1, 5, 6, 7] rfl)
      · have h := h.2 c2
        refine lv_aload_n hx hb dX11_mate_82 rfl (lv_at hl 0 rfl) ?_
        refine lv_iload hx hb dX11_mate_83 (lv_at hl 8 rfl) ?_
        refine g_calli (va_runV (As := [.int i8]) (rest := []) CF (c_X11_isThere h) (cwV 1 hts gX11_mate_X11_isThere rfl rfl rfl (by decide +kernel) ⟨Nat.le_of_ble_eq_true rfl, Nat.le_of_ble_eq_true rfl⟩) (hc.preV hk1 rfl (by decide)) rfl rfl hl.1 rfl (lv_room (Nat.le_of_ble_eq_true rfl)) dX11_mate_85 ⟨Nat.le_of_ble_eq_true rfl, Nat.le_of_ble_eq_true rfl⟩) hc (fun x7 gq8 H locs hq hc => ?_)
        obtain ⟨rfl, h⟩ := hq
        refine lv_if_eq (tgt := 128) hx hb dX11_mate_88 (by decide) (fun c9 => ?_) (fun c9 => ?_)
        · have h := h.1 c9
          exact hb_128 i6 i7 i8 h _ _ _ hc (lv_sub hl [0, 1, 2, 3, 4, 5, 6, 7, 8] rfl)
        · have h := h.2 c9
          refine lv_aload_n hx hb dX11_mate_91 rfl (lv_at hl 0 rfl) ?_
          refine lv_iload hx hb dX11_mate_92 (lv_at hl 8 rfl) ?_
          refine lv_iload hx hb dX11_mate_94 (lv_at hl 5 rfl) ?_
          refine g_calli (va_runV (As := [.int i8, .int i5]) (rest := []) CF (c_X11_has h) (cwV 2 hts gX11_mate_X11_has rfl rfl rfl (by decide +kernel) ⟨Nat.le_of_ble_eq_true rfl, Nat.le_of_ble_eq_true rfl⟩) (hc.preV hk1 rfl (by decide)) rfl rfl hl.1 rfl (lv_room (Nat.le_of_ble_eq_true rfl)) dX11_mate_96 ⟨Nat.le_of_ble_eq_true rfl, Nat.le_of_ble_eq_true rfl⟩) hc (fun x10 gq11 H locs hq hc => ?_)
          obtain ⟨rfl, h⟩ := hq
          refine lv_if_ne (tgt := 105) hx hb dX11_mate_99 (by decide) (fun c12 => ?_) (fun c12 => ?_)
          · have h := h.2 c12
            refine lv_iinc (v := (i7 + 1)) (lv' := [(7, .int (i7 + 1)), (0, .ref r0), (1, .int i1), (2, .int i2), (3, .int i3), (4, .int i4), (5, .int i5), (6, .int i6), (8, .int i8)]) hx hb dX11_mate_105 hl (k := 7) rfl rfl (by decide) rfl (fun ls hl => ?_)
            refine lv_iload hx hb dX11_mate_108 (lv_at hl 7 rfl) ?_
            refine lv_aload_n hx hb dX11_mate_110 rfl (lv_at hl 1 rfl) ?_
            refine lv_iload hx hb dX11_mate_111 (lv_at hl 8 rfl) ?_
            refine lv_iload_n hx hb dX11_mate_113 rfl (lv_at hl 2 rfl) ?_
            refine g_calli (va_runV (As := [.int i8, .int i1]) (rest := [.int i6]) CF (c_X11_has h) (cwV 2 hts gX11_mate_X11_has rfl rfl rfl (by decide +kernel) ⟨Nat.le_of_ble_eq_true rfl, Nat.le_of_ble_eq_true rfl⟩) (hc.preV hk1 rfl (by decide)) rfl rfl hl.1 rfl (lv_room (Nat.le_of_ble_eq_true rfl)) dX11_mate_114 ⟨Nat.le_of_ble_eq_true rfl, Nat.le_of_ble_eq_true rfl⟩) hc (fun x13 gq14 H locs hq hc => ?_)
            obtain ⟨rfl, h⟩ := hq
            refine lv_if_eq (tgt := 124) hx hb dX11_mate_117 (by decide) (fun c15 => ?_) (fun c15 => ?_)
            · have h := h.1 c15
              refine lv_iconst (v := 0) hx hb dX11_mate_124 (by decide) ?_
              exact hb_125 (i7 + 1) i8 i6 0 h _ _ _ hc (lv_sub hl [1, 2, 3, 4, 5, 6, 0, 8] rfl)
            · have h := h.2 c15
              refine lv_iconst (v := 1) hx hb dX11_mate_120 (by decide) ?_
              refine lv_goto (tgt := 125) hx hb dX11_mate_121 (by decide) ?_
              exact hb_125 (i7 + 1) i8 i6 1 h _ _ _ hc (lv_sub hl [1, 2, 3, 4, 5, 6, 0, 8] rfl)
          · have h := h.1 c12
            refine lv_goto (tgt := 128) hx hb dX11_mate_102 (by decide) ?_
            exact hb_128 i6 i7 i8 h _ _ _ hc (lv_sub hl [0, 1, 2, 3, 4, 5, 6, 7, 8] rfl)
    unfold l_X11_mate_37 at h
    refine lv_iload hx hb dX11_mate_37 (lv_at hl 5 rfl) ?_
    refine lv_sipush (v := 200) hx hb dX11_mate_39 (by decide) ?_
    refine lv_icmp_ge (tgt := 174) hx hb dX11_mate_42 (by decide) (fun c16 => ?_) (fun c16 => ?_)
    · have h := h.1 c16
      refine lv_iload_n hx hb dX11_mate_174 rfl (lv_at hl 2 rfl) ?_
      exact g_reti (r := i2) CF hr hlk hc rfl h dX11_mate_175
    · have h := h.2 c16
      refine lv_iload hx hb dX11_mate_45 (lv_at hl 5 rfl) ?_
      refine lv_iload_n hx hb dX11_mate_47 rfl (lv_at hl 1 rfl) ?_
      refine lv_icmp_eq (tgt := 168) hx hb dX11_mate_48 (by decide) (fun c17 => ?_) (fun c17 => ?_)
      · have h := h.1 c17
        exact hb_168 i2 i3 i4 i5 h _ _ _ hc (lv_sub hl [0, 1, 2, 3, 4, 5] rfl)
      · have h := h.2 c17
        refine lv_aload_n hx hb dX11_mate_51 rfl (lv_at hl 0 rfl) ?_
        obtain ⟨hk18, h⟩ := h
        obtain ⟨y19, e20, h⟩ := h
        refine g_getr CF hc hk18 rfl (by decide) (fun _ h9 => List.mem_cons_of_mem _ (List.mem_append_right _ (h9))) (k := 10) (by decide) (List.mem_cons_of_mem _ (List.mem_append_left _ (List.mem_append_left _ (List.mem_of_getElem? (i := 1) rfl)))) e20 rfl dX11_mate_52 ?_
        refine lv_iload hx hb dX11_mate_55 (lv_at hl 5 rfl) ?_
        obtain ⟨hk21, h⟩ := h
        obtain ⟨hi22, h⟩ := h
        refine g_zald CF hc hk21 hi22 dX11_mate_57 ?_
        refine lv_if_eq (tgt := 64) hx hb dX11_mate_58 (by decide) (fun c23 => ?_) (fun c23 => ?_)
        · have h := h.1 c23
          refine lv_iconst (v := 0) hx hb dX11_mate_64 (by decide) ?_
          refine lv_istore (lv' := [(6, .int 0), (0, .ref r0), (1, .int i1), (2, .int i2), (3, .int i3), (4, .int i4), (5, .int i5)]) hx hb dX11_mate_65 hl (by decide) rfl (fun ls hl => ?_)
          refine lv_iconst (v := 0) hx hb dX11_mate_67 (by decide) ?_
          refine lv_istore (lv' := [(7, .int 0), (6, .int 0), (0, .ref r0), (1, .int i1), (2, .int i2), (3, .int i3), (4, .int i4), (5, .int i5)]) hx hb dX11_mate_68 hl (by decide) rfl (fun ls hl => ?_)
          refine lv_iconst (v := 0) hx hb dX11_mate_70 (by decide) ?_
          refine lv_istore (lv' := [(8, .int 0), (7, .int 0), (6, .int 0), (0, .ref r0), (1, .int i1), (2, .int i2), (3, .int i3), (4, .int i4), (5, .int i5)]) hx hb dX11_mate_71 hl (by decide) rfl (fun ls hl => ?_)
          exact hb_73 i2 i3 i4 i5 0 0 0 h _ _ _ hc (lv_sub hl [3, 4, 5, 6, 7, 8, 2, 1, 0] rfl)
        · have h := h.2 c23
          refine lv_goto (tgt := 168) hx hb dX11_mate_61 (by decide) ?_
          exact hb_168 i2 i3 i4 i5 h _ _ _ hc (lv_sub hl [0, 1, 2, 3, 4, 5] rfl)
  have hb_21 : ∀ (g : gS) (r0 : Nat), b_X11_mate_21 g r0 Q → ∀ (H : Heap) (locs : List Loc) (ls : Array Slot), gC D cA (gA g0 sz) s g H locs → lv_has ls 9 [(0, .ref r0)] → W p l e r_X11_mate s m args below meth c H locs 0 0 (MQ below (gQi D cA g0 sz (Q)) args s 0 0 (gA g0 sz)) (F0 m 21 ls []) := by
    intro g r0 h H locs ls hc hl
    unfold b_X11_mate_21 at h
    refine lv_aload_n hx hb dX11_mate_21 rfl (lv_at hl 0 rfl) ?_
    refine lv_iconst (v := 1) hx hb dX11_mate_22 (by decide) ?_
    obtain ⟨hk24, h⟩ := h
    refine g_calli (va_runV (As := [.int 1]) (rest := []) CF (c_X11_no h) (cwV 1 hts gX11_mate_X11_no rfl rfl rfl (by decide +kernel) ⟨Nat.le_of_ble_eq_true rfl, Nat.le_of_ble_eq_true rfl⟩) (hc.preV hk24 rfl (by decide)) rfl rfl hl.1 rfl (lv_room (Nat.le_of_ble_eq_true rfl)) dX11_mate_23 ⟨Nat.le_of_ble_eq_true rfl, Nat.le_of_ble_eq_true rfl⟩) hc (fun x25 g26 H locs hq hc => ?_)
    replace h := hq
    exact g_reti (r := x25) CF hr hlk hc rfl h dX11_mate_26
  unfold w_X11_mate at h
  obtain ⟨H, hH0⟩ : ∃ z, z = s.heap := ⟨_, rfl⟩
  rw [← hH0] at hc ⊢
  obtain ⟨locs, hlc0⟩ : ∃ z : List Loc, z = [] := ⟨_, rfl⟩
  rw [← hlc0] at hc ⊢
  refine lv_aload_n hx hb dX11_mate_0 rfl (lv_at hl 0 rfl) ?_
  refine lv_iconst (v := 0) hx hb dX11_mate_1 (by decide) ?_
  obtain ⟨hk28, h⟩ := h
  refine g_puti CF hc hk28 rfl (by decide) (fun _ h9 => List.mem_cons_of_mem _ (List.mem_append_right _ (h9))) tyX11 tyX11_ok nmX11 (k := 0) (by decide) (List.mem_cons_of_mem _ (List.mem_append_left _ (List.mem_append_left _ (List.mem_of_getElem? (i := 0) rfl)))) rfl (v := 0) rfl rfl rfl dX11_mate_2 (fun H locs hc => ?_)
  obtain ⟨g29, eg30⟩ : ∃ z, z = sU g0 p0 0 0 := ⟨_, rfl⟩
  have hc : gC D cA (gA g0 sz) s g29 H locs := by rw [eg30]; exact hc
  replace h := h g29 eg30
  refine lv_iload_n hx hb dX11_mate_5 rfl (lv_at hl 1 rfl) ?_
  refine g_calli (va_runS (As := [.int p1]) (rest := []) CF (c_X11_isTerm h) (va_cwS 1 hts gX11_mate_X11_isTerm rfl rfl rfl (by decide +kernel) ⟨Nat.le_of_ble_eq_true rfl, Nat.le_of_ble_eq_true rfl⟩) hc.preS rfl rfl hl.1 rfl (lv_room (Nat.le_of_ble_eq_true rfl)) dX11_mate_6 ⟨Nat.le_of_ble_eq_true rfl, Nat.le_of_ble_eq_true rfl⟩) hc (fun x31 gq32 H locs hq hc => ?_)
  obtain ⟨rfl, h⟩ := hq
  refine lv_if_eq (tgt := 21) hx hb dX11_mate_9 (by decide) (fun c33 => ?_) (fun c33 => ?_)
  · have h := h.1 c33
    exact hb_21 g29 p0 h _ _ _ hc (lv_sub hl [0] rfl)
  · have h := h.2 c33
    refine lv_aload_n hx hb dX11_mate_12 rfl (lv_at hl 0 rfl) ?_
    obtain ⟨hk34, h⟩ := h
    obtain ⟨y35, e36, h⟩ := h
    refine g_getr CF hc hk34 rfl (by decide) (fun _ h9 => List.mem_cons_of_mem _ (List.mem_append_right _ (h9))) (k := 10) (by decide) (List.mem_cons_of_mem _ (List.mem_append_left _ (List.mem_append_left _ (List.mem_of_getElem? (i := 1) rfl)))) e36 rfl dX11_mate_13 ?_
    refine lv_iload_n hx hb dX11_mate_16 rfl (lv_at hl 1 rfl) ?_
    obtain ⟨hk37, h⟩ := h
    obtain ⟨hi38, h⟩ := h
    refine g_zald CF hc hk37 hi38 dX11_mate_17 ?_
    refine lv_if_eq (tgt := 27) hx hb dX11_mate_18 (by decide) (fun c39 => ?_) (fun c39 => ?_)
    · have h := h.1 c39
      refine lv_iconst (v := (-1)) hx hb dX11_mate_27 (by decide) ?_
      refine lv_istore_n (lv' := [(2, .int (-1)), (0, .ref p0), (1, .int p1)]) hx hb dX11_mate_28 rfl hl (by decide) rfl (fun ls hl => ?_)
      refine lv_iconst (v := 0) hx hb dX11_mate_29 (by decide) ?_
      refine lv_istore_n (lv' := [(3, .int 0), (2, .int (-1)), (0, .ref p0), (1, .int p1)]) hx hb dX11_mate_30 rfl hl (by decide) rfl (fun ls hl => ?_)
      refine lv_iconst (v := 0) hx hb dX11_mate_31 (by decide) ?_
      refine lv_istore (lv' := [(4, .int 0), (3, .int 0), (2, .int (-1)), (0, .ref p0), (1, .int p1)]) hx hb dX11_mate_32 hl (by decide) rfl (fun ls hl => ?_)
      refine lv_iconst (v := 0) hx hb dX11_mate_34 (by decide) ?_
      refine lv_istore (lv' := [(5, .int 0), (4, .int 0), (3, .int 0), (2, .int (-1)), (0, .ref p0), (1, .int p1)]) hx hb dX11_mate_35 hl (by decide) rfl (fun ls hl => ?_)
      exact hb_37 g29 p0 p1 (-1) 0 0 0 h _ _ _ hc (lv_sub hl [4, 5, 3, 2, 1, 0] rfl)
    · have h := h.2 c39
      exact hb_21 g29 p0 h _ _ _ hc (lv_sub hl [0] rfl)
def b_X11_readOf_19 (g : gS) (is0 : Int32) (Q : Int32 → gS → Prop) : Prop :=
  Q is0 g
def w_X11_readOf (g0 : gS) (p0 : Nat) (p1 : Int32) (p2 : Int32) (Q : Int32 → gS → Prop) : Prop :=
  gK g0 p0 = 12 ∧ (∃ y2, gR g0 p0 10 = some y2 ∧ (gK g0 y2 = 22 ∧ (vp_in p1 (gN g0 y2) ∧ (((gI g0 y2 (Int32.toNatClampNeg p1)) = 0 → (w_X11_spreadNow g0 p0 p1 p2 (fun x7 g8 => (b_X11_readOf_19 g8 x7 Q)))) ∧ (¬ (gI g0 y2 (Int32.toNatClampNeg p1)) = 0 → (b_X11_readOf_19 g0 0 Q))))))
abbrev r_X11_readOf : Room := { frames := 3, cells := 0, slots := 0, locals := 71 }
set_option maxHeartbeats 4000000 in
set_option maxRecDepth 100000 in
theorem c_X11_readOf {l : Launch} {D : va_G} {cA : Nat → ClassId} {sz : Nat} {g0 : gS} {p0 : Nat} {p1 : Int32} {p2 : Int32} {Q : Int32 → gS → Prop} (h : w_X11_readOf g0 p0 p1 p2 Q) : Met l yX11_readOf wsX11_readOf r_X11_readOf (va_Pc [.ref p0, .int p1, .int p2] (gPre D cA g0 sz)) (gQi D cA g0 sz (Q)) 0 0 (gA g0 sz) := by
  refine g_met (cc := cX11_readOf) (maxL := 3) (ret := (some .int)) (own := RX11) (by decide) rfl rfl (Nat.le_of_ble_eq_true rfl) ?_
  intro p e s m args below meth c ls CF hr hlk hnm hc hl
  obtain ⟨hx, hb, hml, hown, hts⟩ := id CF
  have hl : lv_has ls 3 [(0, .ref p0), (1, .int p1), (2, .int p2)] := hl
  show W p l e r_X11_readOf s m args below meth c s.heap [] 0 0 (MQ below (gQi D cA g0 sz (Q)) args s 0 0 (gA g0 sz)) (F0 m 0 ls [])
  have hb_19 : ∀ (g : gS) (is0 : Int32), b_X11_readOf_19 g is0 Q → ∀ (H : Heap) (locs : List Loc) (ls : Array Slot), gC D cA (gA g0 sz) s g H locs → lv_has ls 3 [] → W p l e r_X11_readOf s m args below meth c H locs 0 0 (MQ below (gQi D cA g0 sz (Q)) args s 0 0 (gA g0 sz)) (F0 m 19 ls [.int is0]) := by
    intro g is0 h H locs ls hc hl
    unfold b_X11_readOf_19 at h
    exact g_reti (r := is0) CF hr hlk hc rfl h dX11_readOf_19
  unfold w_X11_readOf at h
  obtain ⟨H, hH0⟩ : ∃ z, z = s.heap := ⟨_, rfl⟩
  rw [← hH0] at hc ⊢
  obtain ⟨locs, hlc0⟩ : ∃ z : List Loc, z = [] := ⟨_, rfl⟩
  rw [← hlc0] at hc ⊢
  refine lv_aload_n hx hb dX11_readOf_0 rfl (lv_at hl 0 rfl) ?_
  obtain ⟨hk1, h⟩ := h
  obtain ⟨y2, e3, h⟩ := h
  refine g_getr CF hc hk1 rfl (by decide) (fun _ h9 => List.mem_cons_of_mem _ (List.mem_append_right _ (h9))) (k := 10) (by decide) (List.mem_cons_of_mem _ (List.mem_append_left _ (List.mem_append_left _ (List.mem_of_getElem? (i := 0) rfl)))) e3 rfl dX11_readOf_1 ?_
  refine lv_iload_n hx hb dX11_readOf_4 rfl (lv_at hl 1 rfl) ?_
  obtain ⟨hk4, h⟩ := h
  obtain ⟨hi5, h⟩ := h
  refine g_zald CF hc hk4 hi5 dX11_readOf_5 ?_
  refine lv_if_eq (tgt := 13) hx hb dX11_readOf_6 (by decide) (fun c6 => ?_) (fun c6 => ?_)
  · have h := h.1 c6
    refine lv_aload_n hx hb dX11_readOf_13 rfl (lv_at hl 0 rfl) ?_
    refine lv_iload_n hx hb dX11_readOf_14 rfl (lv_at hl 1 rfl) ?_
    refine lv_iload_n hx hb dX11_readOf_15 rfl (lv_at hl 2 rfl) ?_
    refine g_calli (va_runV (As := [.int p1, .int p2]) (rest := []) CF (c_X11_spreadNow h) (cwV 2 hts gX11_readOf_X11_spreadNow rfl rfl rfl (by decide +kernel) ⟨Nat.le_of_ble_eq_true rfl, Nat.le_of_ble_eq_true rfl⟩) (hc.preV hk1 rfl (by decide)) rfl rfl hl.1 rfl (lv_room (Nat.le_of_ble_eq_true rfl)) dX11_readOf_16 ⟨Nat.le_of_ble_eq_true rfl, Nat.le_of_ble_eq_true rfl⟩) hc (fun x7 g8 H locs hq hc => ?_)
    replace h := hq
    exact hb_19 g8 x7 h _ _ _ hc (lv_sub hl [] rfl)
  · have h := h.2 c6
    refine lv_iconst (v := 0) hx hb dX11_readOf_9 (by decide) ?_
    refine lv_goto (tgt := 19) hx hb dX11_readOf_10 (by decide) ?_
    exact hb_19 g0 0 h _ _ _ hc (lv_sub hl [] rfl)
def b_X11_costNow_112 (g : gS) (r0 : Nat) (i2 : Int32) (i3 : Int32) (i4 : Int32) (i5 : Int32) (Q : Int32 → gS → Prop) (k12 : gS → Int32 → Int32 → Prop) (k24 : gS → Int32 → Int32 → Prop) : Prop :=
  k24 g i3 (i5 + 1)
def b_X11_costNow_109 (g : gS) (r0 : Nat) (i2 : Int32) (i4 : Int32) (i5 : Int32) (is0 : Int32) (is1 : Int32) (is2 : Int32) (Q : Int32 → gS → Prop) (k12 : gS → Int32 → Int32 → Prop) (k24 : gS → Int32 → Int32 → Prop) : Prop :=
  b_X11_costNow_112 g r0 i2 (is0 + (is1 + is2)) i4 i5 Q k12 k24
def l_X11_costNow_24 (r0 : Nat) (i2 : Int32) (i4 : Int32) (Q : Int32 → gS → Prop) (k12 : gS → Int32 → Int32 → Prop) (g : gS) (i3 : Int32) (i5 : Int32) (k24 : gS → Int32 → Int32 → Prop) : Prop :=
  (3 ≤ i5 → (k12 g i3 (i4 + 1))) ∧ (¬ 3 ≤ i5 → ((((i2 >>> (i4 &&& 31)) &&& 1) = 0 → (b_X11_costNow_112 g r0 i2 i3 i4 i5 Q k12 k24)) ∧ (¬ ((i2 >>> (i4 &&& 31)) &&& 1) = 0 → (gK g r0 = 12 ∧ (∃ y4, gR g r0 19 = some y4 ∧ (gK g y4 = 21 ∧ (vp_in i4 (gN g y4) ∧ (((((gI g y4 (Int32.toNatClampNeg i4)) >>> (i5 &&& 31)) &&& 1) = 0 → (b_X11_costNow_112 g r0 i2 i3 i4 i5 Q k12 k24)) ∧ (¬ (((gI g y4 (Int32.toNatClampNeg i4)) >>> (i5 &&& 31)) &&& 1) = 0 → (∃ y9, gR g r0 18 = some y9 ∧ (gK g y9 = 21 ∧ (vp_in i4 (gN g y9) ∧ (w_X11_readOf g r0 (gI g y9 (Int32.toNatClampNeg i4)) i5 (fun x13 g14 => (gK g14 r0 = 12 ∧ (∃ y17, gR g14 r0 11 = some y17 ∧ (∃ y19, gR g14 r0 18 = some y19 ∧ (gK g14 y19 = 21 ∧ (vp_in i4 (gN g14 y19) ∧ (gK g14 y17 = 21 ∧ (vp_in (gI g14 y19 (Int32.toNatClampNeg i4)) (gN g14 y17) ∧ (((gI g14 y17 (Int32.toNatClampNeg (gI g14 y19 (Int32.toNatClampNeg i4)))) = (-1) → (b_X11_costNow_109 g14 r0 i2 i4 i5 i3 x13 0 Q k12 k24)) ∧ (¬ (gI g14 y17 (Int32.toNatClampNeg (gI g14 y19 (Int32.toNatClampNeg i4)))) = (-1) → (∃ y26, gR g14 r0 11 = some y26 ∧ (∃ y28, gR g14 r0 18 = some y28 ∧ (gK g14 y28 = 21 ∧ (vp_in i4 (gN g14 y28) ∧ (gK g14 y26 = 21 ∧ (vp_in (gI g14 y28 (Int32.toNatClampNeg i4)) (gN g14 y26) ∧ (w_X11_readOf g14 r0 (gI g14 y26 (Int32.toNatClampNeg (gI g14 y28 (Int32.toNatClampNeg i4)))) i5 (fun x34 g35 => (b_X11_costNow_109 g35 r0 i2 i4 i5 i3 x13 x34 Q k12 k24))))))))))))))))))))))))))))))))
def l_X11_costNow_12 (r0 : Nat) (i2 : Int32) (Q : Int32 → gS → Prop) (g : gS) (i3 : Int32) (i4 : Int32) (k12 : gS → Int32 → Int32 → Prop) : Prop :=
  gK g r0 = 12 ∧ (((gI g r0 16) ≤ i4 → (Q i3 g)) ∧ (¬ (gI g r0 16) ≤ i4 → (lpx3 (l_X11_costNow_24 r0 i2 i4 Q k12) g i3 0)))
def w_X11_costNow (g0 : gS) (p0 : Nat) (p1 : Int32) (Q : Int32 → gS → Prop) : Prop :=
  gK g0 p0 = 12 ∧ (w_X11_termNodes g0 p0 p1 1 (fun x40 => (lpx3 (l_X11_costNow_12 p0 x40 Q) g0 0 0)))
abbrev r_X11_costNow : Room := { frames := 4, cells := 0, slots := 0, locals := 93 }
set_option maxHeartbeats 4000000 in
set_option maxRecDepth 100000 in
theorem c_X11_costNow {l : Launch} {D : va_G} {cA : Nat → ClassId} {sz : Nat} {g0 : gS} {p0 : Nat} {p1 : Int32} {Q : Int32 → gS → Prop} (h : w_X11_costNow g0 p0 p1 Q) : Met l yX11_costNow wsX11_costNow r_X11_costNow (va_Pc [.ref p0, .int p1] (gPre D cA g0 sz)) (gQi D cA g0 sz (Q)) 0 0 (gA g0 sz) := by
  refine g_met (cc := cX11_costNow) (maxL := 6) (ret := (some .int)) (own := RX11) (by decide) rfl rfl (Nat.le_of_ble_eq_true rfl) ?_
  intro p e s m args below meth c ls CF hr hlk hnm hc hl
  obtain ⟨hx, hb, hml, hown, hts⟩ := id CF
  have hl : lv_has ls 6 [(0, .ref p0), (1, .int p1)] := hl
  show W p l e r_X11_costNow s m args below meth c s.heap [] 0 0 (MQ below (gQi D cA g0 sz (Q)) args s 0 0 (gA g0 sz)) (F0 m 0 ls [])
  have hb_12 : ∀ (r0 : Nat) (i2 : Int32), ∀ (g : gS) (i3 : Int32) (i4 : Int32), lpx3 (l_X11_costNow_12 r0 i2 Q) g i3 i4 → ∀ (H : Heap) (locs : List Loc) (ls : Array Slot), gC D cA (gA g0 sz) s g H locs → lv_has ls 6 [(0, .ref r0), (2, .int i2), (3, .int i3), (4, .int i4)] → W p l e r_X11_costNow s m args below meth c H locs 0 0 (MQ below (gQi D cA g0 sz (Q)) args s 0 0 (gA g0 sz)) (F0 m 12 ls []) := by
    intro r0 i2
    refine lpx3_run (P := fun (g : gS) (i3 : Int32) (i4 : Int32) => ∀ (H : Heap) (locs : List Loc) (ls : Array Slot), gC D cA (gA g0 sz) s g H locs → lv_has ls 6 [(0, .ref r0), (2, .int i2), (3, .int i3), (4, .int i4)] → W p l e r_X11_costNow s m args below meth c H locs 0 0 (MQ below (gQi D cA g0 sz (Q)) args s 0 0 (gA g0 sz)) (F0 m 12 ls [])) ?_
    intro k12 hk_12 g i3 i4 h H locs ls hc hl
    have hb_24 : ∀ (i4 : Int32), ∀ (g : gS) (i3 : Int32) (i5 : Int32), lpx3 (l_X11_costNow_24 r0 i2 i4 Q k12) g i3 i5 → ∀ (H : Heap) (locs : List Loc) (ls : Array Slot), gC D cA (gA g0 sz) s g H locs → lv_has ls 6 [(0, .ref r0), (2, .int i2), (3, .int i3), (4, .int i4), (5, .int i5)] → W p l e r_X11_costNow s m args below meth c H locs 0 0 (MQ below (gQi D cA g0 sz (Q)) args s 0 0 (gA g0 sz)) (F0 m 24 ls []) := by
      intro i4
      refine lpx3_run (P := fun (g : gS) (i3 : Int32) (i5 : Int32) => ∀ (H : Heap) (locs : List Loc) (ls : Array Slot), gC D cA (gA g0 sz) s g H locs → lv_has ls 6 [(0, .ref r0), (2, .int i2), (3, .int i3), (4, .int i4), (5, .int i5)] → W p l e r_X11_costNow s m args below meth c H locs 0 0 (MQ below (gQi D cA g0 sz (Q)) args s 0 0 (gA g0 sz)) (F0 m 24 ls [])) ?_
      intro k24 hk_24 g i3 i5 h H locs ls hc hl
      have hb_112 : ∀ (g : gS) (i3 : Int32) (i5 : Int32), b_X11_costNow_112 g r0 i2 i3 i4 i5 Q k12 k24 → ∀ (H : Heap) (locs : List Loc) (ls : Array Slot), gC D cA (gA g0 sz) s g H locs → lv_has ls 6 [(0, .ref r0), (2, .int i2), (3, .int i3), (4, .int i4), (5, .int i5)] → W p l e r_X11_costNow s m args below meth c H locs 0 0 (MQ below (gQi D cA g0 sz (Q)) args s 0 0 (gA g0 sz)) (F0 m 112 ls []) := by
        intro g i3 i5 h H locs ls hc hl
        unfold b_X11_costNow_112 at h
        refine lv_iinc (v := (i5 + 1)) (lv' := [(5, .int (i5 + 1)), (0, .ref r0), (2, .int i2), (3, .int i3), (4, .int i4)]) hx hb dX11_costNow_112 hl (k := 4) rfl rfl (by decide) rfl (fun ls hl => ?_)
        refine lv_goto (tgt := 24) hx hb dX11_costNow_115 (by decide) ?_
        exact hk_24 g i3 (i5 + 1) h _ _ _ hc (lv_sub hl [1, 2, 3, 4, 0] rfl)
      have hb_109 : ∀ (g : gS) (i5 : Int32) (is0 : Int32) (is1 : Int32) (is2 : Int32), b_X11_costNow_109 g r0 i2 i4 i5 is0 is1 is2 Q k12 k24 → ∀ (H : Heap) (locs : List Loc) (ls : Array Slot), gC D cA (gA g0 sz) s g H locs → lv_has ls 6 [(0, .ref r0), (2, .int i2), (4, .int i4), (5, .int i5)] → W p l e r_X11_costNow s m args below meth c H locs 0 0 (MQ below (gQi D cA g0 sz (Q)) args s 0 0 (gA g0 sz)) (F0 m 109 ls [.int is2, .int is1, .int is0]) := by
        intro g i5 is0 is1 is2 h H locs ls hc hl
        unfold b_X11_costNow_109 at h
        refine lv_iadd hx hb dX11_costNow_109 ?_
        refine lv_iadd hx hb dX11_costNow_110 ?_
        refine lv_istore_n (lv' := [(3, .int (is0 + (is1 + is2))), (0, .ref r0), (2, .int i2), (4, .int i4), (5, .int i5)]) hx hb dX11_costNow_111 rfl hl (by decide) rfl (fun ls hl => ?_)
        exact hb_112 g (is0 + (is1 + is2)) i5 h _ _ _ hc (lv_sub hl [1, 2, 0, 3, 4] rfl)
      unfold l_X11_costNow_24 at h
      refine lv_iload hx hb dX11_costNow_24 (lv_at hl 4 rfl) ?_
      refine lv_iconst (v := 3) hx hb dX11_costNow_26 (by decide) ?_
      refine lv_icmp_ge (tgt := 118) hx hb dX11_costNow_27 (by decide) (fun c1 => ?_) (fun c1 => ?_)
      · have h := h.1 c1
        refine lv_iinc (v := (i4 + 1)) (lv' := [(4, .int (i4 + 1)), (0, .ref r0), (2, .int i2), (3, .int i3), (5, .int i5)]) hx hb dX11_costNow_118 hl (k := 3) rfl rfl (by decide) rfl (fun ls hl => ?_)
        refine lv_goto (tgt := 12) hx hb dX11_costNow_121 (by decide) ?_
        exact hk_12 g i3 (i4 + 1) h _ _ _ hc (lv_sub hl [1, 2, 3, 0] rfl)
      · have h := h.2 c1
        refine lv_iload_n hx hb dX11_costNow_30 rfl (lv_at hl 1 rfl) ?_
        refine lv_iload hx hb dX11_costNow_31 (lv_at hl 3 rfl) ?_
        refine lv_ishr hx hb dX11_costNow_33 ?_
        refine lv_iconst (v := 1) hx hb dX11_costNow_34 (by decide) ?_
        refine lv_iand hx hb dX11_costNow_35 ?_
        refine lv_if_eq (tgt := 112) hx hb dX11_costNow_36 (by decide) (fun c2 => ?_) (fun c2 => ?_)
        · have h := h.1 c2
          exact hb_112 g i3 i5 h _ _ _ hc (lv_sub hl [0, 1, 2, 3, 4] rfl)
        · have h := h.2 c2
          refine lv_aload_n hx hb dX11_costNow_39 rfl (lv_at hl 0 rfl) ?_
          obtain ⟨hk3, h⟩ := h
          obtain ⟨y4, e5, h⟩ := h
          refine g_getr CF hc hk3 rfl (by decide) (fun _ h9 => List.mem_cons_of_mem _ (List.mem_append_right _ (h9))) (k := 19) (by decide) (List.mem_cons_of_mem _ (List.mem_append_left _ (List.mem_append_left _ (List.mem_of_getElem? (i := 1) rfl)))) e5 rfl dX11_costNow_40 ?_
          refine lv_iload hx hb dX11_costNow_43 (lv_at hl 3 rfl) ?_
          obtain ⟨hk6, h⟩ := h
          obtain ⟨hi7, h⟩ := h
          refine g_iald CF hc hk6 hi7 dX11_costNow_45 ?_
          refine lv_iload hx hb dX11_costNow_46 (lv_at hl 4 rfl) ?_
          refine lv_ishr hx hb dX11_costNow_48 ?_
          refine lv_iconst (v := 1) hx hb dX11_costNow_49 (by decide) ?_
          refine lv_iand hx hb dX11_costNow_50 ?_
          refine lv_if_ne (tgt := 57) hx hb dX11_costNow_51 (by decide) (fun c8 => ?_) (fun c8 => ?_)
          · have h := h.2 c8
            refine lv_iload_n hx hb dX11_costNow_57 rfl (lv_at hl 2 rfl) ?_
            refine lv_aload_n hx hb dX11_costNow_58 rfl (lv_at hl 0 rfl) ?_
            refine lv_aload_n hx hb dX11_costNow_59 rfl (lv_at hl 0 rfl) ?_
            obtain ⟨y9, e10, h⟩ := h
            refine g_getr CF hc hk3 rfl (by decide) (fun _ h9 => List.mem_cons_of_mem _ (List.mem_append_right _ (h9))) (k := 18) (by decide) (List.mem_cons_of_mem _ (List.mem_append_left _ (List.mem_append_left _ (List.mem_of_getElem? (i := 2) rfl)))) e10 rfl dX11_costNow_60 ?_
            refine lv_iload hx hb dX11_costNow_63 (lv_at hl 3 rfl) ?_
            obtain ⟨hk11, h⟩ := h
            obtain ⟨hi12, h⟩ := h
            refine g_iald CF hc hk11 hi12 dX11_costNow_65 ?_
            refine lv_iload hx hb dX11_costNow_66 (lv_at hl 4 rfl) ?_
            refine g_calli (va_runV (As := [.int (gI g y9 (Int32.toNatClampNeg i4)), .int i5]) (rest := [.int i3]) CF (c_X11_readOf h) (cwV 2 hts gX11_costNow_X11_readOf rfl rfl rfl (by decide +kernel) ⟨Nat.le_of_ble_eq_true rfl, Nat.le_of_ble_eq_true rfl⟩) (hc.preV hk3 rfl (by decide)) rfl rfl hl.1 rfl (lv_room (Nat.le_of_ble_eq_true rfl)) dX11_costNow_68 ⟨Nat.le_of_ble_eq_true rfl, Nat.le_of_ble_eq_true rfl⟩) hc (fun x13 g14 H locs hq hc => ?_)
            replace h := hq
            refine lv_aload_n hx hb dX11_costNow_71 rfl (lv_at hl 0 rfl) ?_
            obtain ⟨hk16, h⟩ := h
            obtain ⟨y17, e18, h⟩ := h
            refine g_getr CF hc hk16 rfl (by decide) (fun _ h9 => List.mem_cons_of_mem _ (List.mem_append_right _ (h9))) (k := 11) (by decide) (List.mem_cons_of_mem _ (List.mem_append_left _ (List.mem_append_left _ (List.mem_of_getElem? (i := 3) rfl)))) e18 rfl dX11_costNow_72 ?_
            refine lv_aload_n hx hb dX11_costNow_75 rfl (lv_at hl 0 rfl) ?_
            obtain ⟨y19, e20, h⟩ := h
            refine g_getr CF hc hk16 rfl (by decide) (fun _ h9 => List.mem_cons_of_mem _ (List.mem_append_right _ (h9))) (k := 18) (by decide) (List.mem_cons_of_mem _ (List.mem_append_left _ (List.mem_append_left _ (List.mem_of_getElem? (i := 2) rfl)))) e20 rfl dX11_costNow_76 ?_
            refine lv_iload hx hb dX11_costNow_79 (lv_at hl 3 rfl) ?_
            obtain ⟨hk21, h⟩ := h
            obtain ⟨hi22, h⟩ := h
            refine g_iald CF hc hk21 hi22 dX11_costNow_81 ?_
            obtain ⟨hk23, h⟩ := h
            obtain ⟨hi24, h⟩ := h
            refine g_iald CF hc hk23 hi24 dX11_costNow_82 ?_
            refine lv_iconst (v := (-1)) hx hb dX11_costNow_83 (by decide) ?_
            refine lv_icmp_ne (tgt := 91) hx hb dX11_costNow_84 (by decide) (fun c25 => ?_) (fun c25 => ?_)
            · have h := h.2 c25
              refine lv_aload_n hx hb dX11_costNow_91 rfl (lv_at hl 0 rfl) ?_
              refine lv_aload_n hx hb dX11_costNow_92 rfl (lv_at hl 0 rfl) ?_
              obtain ⟨y26, e27, h⟩ := h
              refine g_getr CF hc hk16 rfl (by decide) (fun _ h9 => List.mem_cons_of_mem _ (List.mem_append_right _ (h9))) (k := 11) (by decide) (List.mem_cons_of_mem _ (List.mem_append_left _ (List.mem_append_left _ (List.mem_of_getElem? (i := 3) rfl)))) e27 rfl dX11_costNow_93 ?_
              refine lv_aload_n hx hb dX11_costNow_96 rfl (lv_at hl 0 rfl) ?_
              obtain ⟨y28, e29, h⟩ := h
              refine g_getr CF hc hk16 rfl (by decide) (fun _ h9 => List.mem_cons_of_mem _ (List.mem_append_right _ (h9))) (k := 18) (by decide) (List.mem_cons_of_mem _ (List.mem_append_left _ (List.mem_append_left _ (List.mem_of_getElem? (i := 2) rfl)))) e29 rfl dX11_costNow_97 ?_
              refine lv_iload hx hb dX11_costNow_100 (lv_at hl 3 rfl) ?_
              obtain ⟨hk30, h⟩ := h
              obtain ⟨hi31, h⟩ := h
              refine g_iald CF hc hk30 hi31 dX11_costNow_102 ?_
              obtain ⟨hk32, h⟩ := h
              obtain ⟨hi33, h⟩ := h
              refine g_iald CF hc hk32 hi33 dX11_costNow_103 ?_
              refine lv_iload hx hb dX11_costNow_104 (lv_at hl 4 rfl) ?_
              refine g_calli (va_runV (As := [.int (gI g14 y26 (Int32.toNatClampNeg (gI g14 y28 (Int32.toNatClampNeg i4)))), .int i5]) (rest := [.int x13, .int i3]) CF (c_X11_readOf h) (cwV 2 hts gX11_costNow_X11_readOf rfl rfl rfl (by decide +kernel) ⟨Nat.le_of_ble_eq_true rfl, Nat.le_of_ble_eq_true rfl⟩) (hc.preV hk16 rfl (by decide)) rfl rfl hl.1 rfl (lv_room (Nat.le_of_ble_eq_true rfl)) dX11_costNow_106 ⟨Nat.le_of_ble_eq_true rfl, Nat.le_of_ble_eq_true rfl⟩) hc (fun x34 g35 H locs hq hc => ?_)
              replace h := hq
              exact hb_109 g35 i5 i3 x13 x34 h _ _ _ hc (lv_sub hl [0, 1, 3, 4] rfl)
            · have h := h.1 c25
              refine lv_iconst (v := 0) hx hb dX11_costNow_87 (by decide) ?_
              refine lv_goto (tgt := 109) hx hb dX11_costNow_88 (by decide) ?_
              exact hb_109 g14 i5 i3 x13 0 h _ _ _ hc (lv_sub hl [0, 1, 3, 4] rfl)
          · have h := h.1 c8
            refine lv_goto (tgt := 112) hx hb dX11_costNow_54 (by decide) ?_
            exact hb_112 g i3 i5 h _ _ _ hc (lv_sub hl [0, 1, 2, 3, 4] rfl)
    unfold l_X11_costNow_12 at h
    refine lv_iload hx hb dX11_costNow_12 (lv_at hl 3 rfl) ?_
    refine lv_aload_n hx hb dX11_costNow_14 rfl (lv_at hl 0 rfl) ?_
    obtain ⟨hk37, h⟩ := h
    refine g_get CF hc hk37 rfl (by decide) (fun _ h9 => List.mem_cons_of_mem _ (List.mem_append_right _ (h9))) (k := 16) (by decide) (List.mem_cons_of_mem _ (List.mem_append_left _ (List.mem_append_left _ (List.mem_of_getElem? (i := 0) rfl)))) rfl dX11_costNow_15 ?_
    refine lv_icmp_ge (tgt := 124) hx hb dX11_costNow_18 (by decide) (fun c38 => ?_) (fun c38 => ?_)
    · have h := h.1 c38
      refine lv_iload_n hx hb dX11_costNow_124 rfl (lv_at hl 2 rfl) ?_
      exact g_reti (r := i3) CF hr hlk hc rfl h dX11_costNow_125
    · have h := h.2 c38
      refine lv_iconst (v := 0) hx hb dX11_costNow_21 (by decide) ?_
      refine lv_istore (lv' := [(5, .int 0), (0, .ref r0), (2, .int i2), (3, .int i3), (4, .int i4)]) hx hb dX11_costNow_22 hl (by decide) rfl (fun ls hl => ?_)
      exact hb_24 i4 g i3 0 h _ _ _ hc (lv_sub hl [1, 2, 3, 4, 0] rfl)
  unfold w_X11_costNow at h
  obtain ⟨H, hH0⟩ : ∃ z, z = s.heap := ⟨_, rfl⟩
  rw [← hH0] at hc ⊢
  obtain ⟨locs, hlc0⟩ : ∃ z : List Loc, z = [] := ⟨_, rfl⟩
  rw [← hlc0] at hc ⊢
  refine lv_aload_n hx hb dX11_costNow_0 rfl (lv_at hl 0 rfl) ?_
  refine lv_iload_n hx hb dX11_costNow_1 rfl (lv_at hl 1 rfl) ?_
  refine lv_iconst (v := 1) hx hb dX11_costNow_2 (by decide) ?_
  obtain ⟨hk39, h⟩ := h
  refine g_calli (va_runV (As := [.int p1, .int 1]) (rest := []) CF (c_X11_termNodes h) (cwV 2 hts gX11_costNow_X11_termNodes rfl rfl rfl (by decide +kernel) ⟨Nat.le_of_ble_eq_true rfl, Nat.le_of_ble_eq_true rfl⟩) (hc.preV hk39 rfl (by decide)) rfl rfl hl.1 rfl (lv_room (Nat.le_of_ble_eq_true rfl)) dX11_costNow_3 ⟨Nat.le_of_ble_eq_true rfl, Nat.le_of_ble_eq_true rfl⟩) hc (fun x40 gq41 H locs hq hc => ?_)
  obtain ⟨rfl, h⟩ := hq
  refine lv_istore_n (lv' := [(2, .int x40), (0, .ref p0), (1, .int p1)]) hx hb dX11_costNow_6 rfl hl (by decide) rfl (fun ls hl => ?_)
  refine lv_iconst (v := 0) hx hb dX11_costNow_7 (by decide) ?_
  refine lv_istore_n (lv' := [(3, .int 0), (2, .int x40), (0, .ref p0), (1, .int p1)]) hx hb dX11_costNow_8 rfl hl (by decide) rfl (fun ls hl => ?_)
  refine lv_iconst (v := 0) hx hb dX11_costNow_9 (by decide) ?_
  refine lv_istore (lv' := [(4, .int 0), (3, .int 0), (2, .int x40), (0, .ref p0), (1, .int p1)]) hx hb dX11_costNow_10 hl (by decide) rfl (fun ls hl => ?_)
  exact hb_12 p0 x40 g0 0 0 h _ _ _ hc (lv_sub hl [3, 2, 1, 0] rfl)
def b_X11_cost_26 (g : gS) (is0 : Int32) (Q : Int32 → gS → Prop) : Prop :=
  Q is0 g
def w_X11_cost (g0 : gS) (p0 : Nat) (p1 : Int32) (Q : Int32 → gS → Prop) : Prop :=
  gK g0 p0 = 12 ∧ (∀ g2, g2 = sU g0 p0 0 0 → (gK g2 p0 = 12 ∧ (w_X11_isNode g2 p0 p1 (fun x5 => ((x5 = 0 → (w_X11_no g2 p0 1 (fun x8 g9 => (b_X11_cost_26 g9 x8 Q)))) ∧ (¬ x5 = 0 → (w_X11_costNow g2 p0 p1 (fun x11 g12 => (b_X11_cost_26 g12 x11 Q)))))))))
abbrev r_X11_cost : Room := { frames := 5, cells := 0, slots := 0, locals := 118 }
set_option maxHeartbeats 4000000 in
set_option maxRecDepth 100000 in
theorem c_X11_cost {l : Launch} {D : va_G} {cA : Nat → ClassId} {sz : Nat} {g0 : gS} {p0 : Nat} {p1 : Int32} {Q : Int32 → gS → Prop} (h : w_X11_cost g0 p0 p1 Q) : Met l yX11_cost wsX11_cost r_X11_cost (va_Pc [.ref p0, .int p1] (gPre D cA g0 sz)) (gQi D cA g0 sz (Q)) 0 0 (gA g0 sz) := by
  refine g_met (cc := cX11_cost) (maxL := 2) (ret := (some .int)) (own := RX11) (by decide) rfl rfl (Nat.le_of_ble_eq_true rfl) ?_
  intro p e s m args below meth c ls CF hr hlk hnm hc hl
  obtain ⟨hx, hb, hml, hown, hts⟩ := id CF
  have hl : lv_has ls 2 [(0, .ref p0), (1, .int p1)] := hl
  show W p l e r_X11_cost s m args below meth c s.heap [] 0 0 (MQ below (gQi D cA g0 sz (Q)) args s 0 0 (gA g0 sz)) (F0 m 0 ls [])
  have hb_26 : ∀ (g : gS) (is0 : Int32), b_X11_cost_26 g is0 Q → ∀ (H : Heap) (locs : List Loc) (ls : Array Slot), gC D cA (gA g0 sz) s g H locs → lv_has ls 2 [] → W p l e r_X11_cost s m args below meth c H locs 0 0 (MQ below (gQi D cA g0 sz (Q)) args s 0 0 (gA g0 sz)) (F0 m 26 ls [.int is0]) := by
    intro g is0 h H locs ls hc hl
    unfold b_X11_cost_26 at h
    exact g_reti (r := is0) CF hr hlk hc rfl h dX11_cost_26
  unfold w_X11_cost at h
  obtain ⟨H, hH0⟩ : ∃ z, z = s.heap := ⟨_, rfl⟩
  rw [← hH0] at hc ⊢
  obtain ⟨locs, hlc0⟩ : ∃ z : List Loc, z = [] := ⟨_, rfl⟩
  rw [← hlc0] at hc ⊢
  refine lv_aload_n hx hb dX11_cost_0 rfl (lv_at hl 0 rfl) ?_
  refine lv_iconst (v := 0) hx hb dX11_cost_1 (by decide) ?_
  obtain ⟨hk1, h⟩ := h
  refine g_puti CF hc hk1 rfl (by decide) (fun _ h9 => List.mem_cons_of_mem _ (List.mem_append_right _ (h9))) tyX11 tyX11_ok nmX11 (k := 0) (by decide) (List.mem_cons_of_mem _ (List.mem_append_left _ (List.mem_append_left _ (List.mem_of_getElem? (i := 0) rfl)))) rfl (v := 0) rfl rfl rfl dX11_cost_2 (fun H locs hc => ?_)
  obtain ⟨g2, eg3⟩ : ∃ z, z = sU g0 p0 0 0 := ⟨_, rfl⟩
  have hc : gC D cA (gA g0 sz) s g2 H locs := by rw [eg3]; exact hc
  replace h := h g2 eg3
  refine lv_aload_n hx hb dX11_cost_5 rfl (lv_at hl 0 rfl) ?_
  refine lv_iload_n hx hb dX11_cost_6 rfl (lv_at hl 1 rfl) ?_
  obtain ⟨hk4, h⟩ := h
  refine g_calli (va_runV (As := [.int p1]) (rest := []) CF (c_X11_isNode h) (cwV 1 hts gX11_cost_X11_isNode rfl rfl rfl (by decide +kernel) ⟨Nat.le_of_ble_eq_true rfl, Nat.le_of_ble_eq_true rfl⟩) (hc.preV hk4 rfl (by decide)) rfl rfl hl.1 rfl (lv_room (Nat.le_of_ble_eq_true rfl)) dX11_cost_7 ⟨Nat.le_of_ble_eq_true rfl, Nat.le_of_ble_eq_true rfl⟩) hc (fun x5 gq6 H locs hq hc => ?_)
  obtain ⟨rfl, h⟩ := hq
  refine lv_if_eq (tgt := 21) hx hb dX11_cost_10 (by decide) (fun c7 => ?_) (fun c7 => ?_)
  · have h := h.1 c7
    refine lv_aload_n hx hb dX11_cost_21 rfl (lv_at hl 0 rfl) ?_
    refine lv_iconst (v := 1) hx hb dX11_cost_22 (by decide) ?_
    refine g_calli (va_runV (As := [.int 1]) (rest := []) CF (c_X11_no h) (cwV 1 hts gX11_cost_X11_no rfl rfl rfl (by decide +kernel) ⟨Nat.le_of_ble_eq_true rfl, Nat.le_of_ble_eq_true rfl⟩) (hc.preV hk4 rfl (by decide)) rfl rfl hl.1 rfl (lv_room (Nat.le_of_ble_eq_true rfl)) dX11_cost_23 ⟨Nat.le_of_ble_eq_true rfl, Nat.le_of_ble_eq_true rfl⟩) hc (fun x8 g9 H locs hq hc => ?_)
    replace h := hq
    exact hb_26 g9 x8 h _ _ _ hc (lv_sub hl [] rfl)
  · have h := h.2 c7
    refine lv_aload_n hx hb dX11_cost_13 rfl (lv_at hl 0 rfl) ?_
    refine lv_iload_n hx hb dX11_cost_14 rfl (lv_at hl 1 rfl) ?_
    refine g_calli (va_runV (As := [.int p1]) (rest := []) CF (c_X11_costNow h) (cwV 1 hts gX11_cost_X11_costNow rfl rfl rfl (by decide +kernel) ⟨Nat.le_of_ble_eq_true rfl, Nat.le_of_ble_eq_true rfl⟩) (hc.preV hk4 rfl (by decide)) rfl rfl hl.1 rfl (lv_room (Nat.le_of_ble_eq_true rfl)) dX11_cost_15 ⟨Nat.le_of_ble_eq_true rfl, Nat.le_of_ble_eq_true rfl⟩) hc (fun x11 g12 H locs hq hc => ?_)
    replace h := hq
    refine lv_goto (tgt := 26) hx hb dX11_cost_18 (by decide) ?_
    exact hb_26 g12 x11 h _ _ _ hc (lv_sub hl [] rfl)
def b_X11_byAlias_135 (g : gS) (r0 : Nat) (i1 : Int32) (r2 : Nat) (r3 : Nat) (i5 : Int32) (is0 : Int32) (is1 : Int32) (Q : Int32 → gS → Prop) (k102 : gS → Int32 → Int32 → Prop) : Prop :=
  k102 g (is0 + is1) (i5 + 1)
def b_X11_byAlias_134 (g : gS) (r0 : Nat) (i1 : Int32) (r2 : Nat) (r3 : Nat) (i5 : Int32) (is0 : Int32) (Q : Int32 → gS → Prop) (k102 : gS → Int32 → Int32 → Prop) : Prop :=
  b_X11_byAlias_135 g r0 i1 r2 r3 i5 is0 0 Q k102
def l_X11_byAlias_102 (r0 : Nat) (i1 : Int32) (r2 : Nat) (r3 : Nat) (Q : Int32 → gS → Prop) (g : gS) (i4 : Int32) (i5 : Int32) (k102 : gS → Int32 → Int32 → Prop) : Prop :=
  gK g r0 = 12 ∧ (((gI g r0 1) ≤ i5 → (∀ g3, g3 = sV g r0 11 (some r3) → (Q i4 g3))) ∧ (¬ (gI g r0 1) ≤ i5 → (gK g r2 = 22 ∧ (vp_in i5 (gN g r2) ∧ (((gI g r2 (Int32.toNatClampNeg i5)) = 0 → (b_X11_byAlias_134 g r0 i1 r2 r3 i5 i4 Q k102)) ∧ (¬ (gI g r2 (Int32.toNatClampNeg i5)) = 0 → (w_X11_scoreNow g r0 i1 i5 (fun x8 g9 => ((0 ≤ x8 → (b_X11_byAlias_134 g9 r0 i1 r2 r3 i5 i4 Q k102)) ∧ (¬ 0 ≤ x8 → (b_X11_byAlias_135 g9 r0 i1 r2 r3 i5 i4 1 Q k102)))))))))))
def l_X11_byAlias_74 (r0 : Nat) (i1 : Int32) (r2 : Nat) (r3 : Nat) (Q : Int32 → gS → Prop) (g : gS) (i4 : Int32) (k74 : gS → Int32 → Prop) : Prop :=
  (200 ≤ i4 → (lpx3 (l_X11_byAlias_102 r0 i1 r2 r3 Q) g 0 0)) ∧ (¬ 200 ≤ i4 → (gK g r0 = 12 ∧ (∃ y14, gR g r0 11 = some y14 ∧ (gK g y14 = 21 ∧ (vp_in i4 (gN g y14) ∧ (∀ g18, g18 = sU g y14 (Int32.toNatClampNeg i4) (-1) → (k74 g18 (i4 + 1))))))))
def b_X11_byAlias_50 (g : gS) (r0 : Nat) (i1 : Int32) (r2 : Nat) (i3 : Int32) (rs0 : Nat) (is1 : Int32) (is2 : Int32) (Q : Int32 → gS → Prop) (k26 : gS → Int32 → Prop) : Prop :=
  gK g rs0 = 22 ∧ (vp_in is1 (gN g rs0) ∧ ((is2 = 0 ∨ is2 = 1) ∧ (∀ g23, g23 = sU g rs0 (Int32.toNatClampNeg is1) is2 → (k26 g23 (i3 + 1)))))
def l_X11_byAlias_26 (r0 : Nat) (i1 : Int32) (r2 : Nat) (Q : Int32 → gS → Prop) (g : gS) (i3 : Int32) (k26 : gS → Int32 → Prop) : Prop :=
  gK g r0 = 12 ∧ (((gI g r0 1) ≤ i3 → (∃ y27, gR g r0 11 = some y27 ∧ (∀ q29, gK g q29 = 0 → (∀ g31, g31 = sNew g q29 21 200 → (gK g31 r0 = 12 ∧ (∀ g34, g34 = sV g31 r0 11 (some q29) → (lpx2 (l_X11_byAlias_74 r0 i1 r2 y27 Q) g34 0))))))) ∧ (¬ (gI g r0 1) ≤ i3 → (w_X11_scoreNow g r0 i1 i3 (fun x36 g37 => ((x36 < 0 → (b_X11_byAlias_50 g37 r0 i1 r2 i3 r2 i3 0 Q k26)) ∧ (¬ x36 < 0 → (b_X11_byAlias_50 g37 r0 i1 r2 i3 r2 i3 1 Q k26)))))))
def w_X11_byAlias (g0 : gS) (p0 : Nat) (p1 : Int32) (Q : Int32 → gS → Prop) : Prop :=
  gK g0 p0 = 12 ∧ (∀ g41, g41 = sU g0 p0 0 0 → (gK g41 p0 = 12 ∧ (w_X11_isNode g41 p0 p1 (fun x44 => ((x44 = 0 → (w_X11_no g41 p0 1 (fun x51 g52 => (Q x51 g52)))) ∧ (¬ x44 = 0 → (∀ q47, gK g41 q47 = 0 → (∀ g49, g49 = sNew g41 q47 22 60 → (lpx2 (l_X11_byAlias_26 p0 p1 q47 Q) g49 0)))))))))
abbrev r_X11_byAlias : Room := { frames := 8, cells := 2, slots := 260, locals := 190 }
set_option maxHeartbeats 4000000 in
set_option maxRecDepth 100000 in
theorem c_X11_byAlias {l : Launch} {D : va_G} {cA : Nat → ClassId} {sz : Nat} {g0 : gS} {p0 : Nat} {p1 : Int32} {Q : Int32 → gS → Prop} (h : w_X11_byAlias g0 p0 p1 Q) : Met l yX11_byAlias wsX11_byAlias r_X11_byAlias (va_Pc [.ref p0, .int p1] (gPre D cA g0 sz)) (gQi D cA g0 sz (Q)) 2 260 (gA g0 sz) := by
  refine g_met (cc := cX11_byAlias) (maxL := 6) (ret := (some .int)) (own := RX11) (by decide) rfl rfl (Nat.le_of_ble_eq_true rfl) ?_
  intro p e s m args below meth c ls CF hr hlk hnm hc hl
  obtain ⟨hx, hb, hml, hown, hts⟩ := id CF
  have hl : lv_has ls 6 [(0, .ref p0), (1, .int p1)] := hl
  show W p l e r_X11_byAlias s m args below meth c s.heap [] 0 0 (MQ below (gQi D cA g0 sz (Q)) args s 2 260 (gA g0 sz)) (F0 m 0 ls [])
  have hb_102 : ∀ (r0 : Nat) (i1 : Int32) (r2 : Nat) (r3 : Nat), ∀ (g : gS) (i4 : Int32) (i5 : Int32), lpx3 (l_X11_byAlias_102 r0 i1 r2 r3 Q) g i4 i5 → ∀ (H : Heap) (locs : List Loc) (ls : Array Slot), gC D cA (gA g0 sz) s g H locs → lv_has ls 6 [(0, .ref r0), (1, .int i1), (2, .ref r2), (3, .ref r3), (4, .int i4), (5, .int i5)] → W p l e r_X11_byAlias s m args below meth c H locs 2 260 (MQ below (gQi D cA g0 sz (Q)) args s 2 260 (gA g0 sz)) (F0 m 102 ls []) := by
    intro r0 i1 r2 r3
    refine lpx3_run (P := fun (g : gS) (i4 : Int32) (i5 : Int32) => ∀ (H : Heap) (locs : List Loc) (ls : Array Slot), gC D cA (gA g0 sz) s g H locs → lv_has ls 6 [(0, .ref r0), (1, .int i1), (2, .ref r2), (3, .ref r3), (4, .int i4), (5, .int i5)] → W p l e r_X11_byAlias s m args below meth c H locs 2 260 (MQ below (gQi D cA g0 sz (Q)) args s 2 260 (gA g0 sz)) (F0 m 102 ls [])) ?_
    intro k102 hk_102 g i4 i5 h H locs ls hc hl
    have hb_135 : ∀ (g : gS) (i5 : Int32) (is0 : Int32) (is1 : Int32), b_X11_byAlias_135 g r0 i1 r2 r3 i5 is0 is1 Q k102 → ∀ (H : Heap) (locs : List Loc) (ls : Array Slot), gC D cA (gA g0 sz) s g H locs → lv_has ls 6 [(0, .ref r0), (1, .int i1), (2, .ref r2), (3, .ref r3), (5, .int i5)] → W p l e r_X11_byAlias s m args below meth c H locs 2 260 (MQ below (gQi D cA g0 sz (Q)) args s 2 260 (gA g0 sz)) (F0 m 135 ls [.int is1, .int is0]) := by
      intro g i5 is0 is1 h H locs ls hc hl
      unfold b_X11_byAlias_135 at h
      refine lv_iadd hx hb dX11_byAlias_135 ?_
      refine lv_istore (lv' := [(4, .int (is0 + is1)), (0, .ref r0), (1, .int i1), (2, .ref r2), (3, .ref r3), (5, .int i5)]) hx hb dX11_byAlias_136 hl (by decide) rfl (fun ls hl => ?_)
      refine lv_iinc (v := (i5 + 1)) (lv' := [(5, .int (i5 + 1)), (4, .int (is0 + is1)), (0, .ref r0), (1, .int i1), (2, .ref r2), (3, .ref r3)]) hx hb dX11_byAlias_138 hl (k := 5) rfl rfl (by decide) rfl (fun ls hl => ?_)
      refine lv_goto (tgt := 102) hx hb dX11_byAlias_141 (by decide) ?_
      exact hk_102 g (is0 + is1) (i5 + 1) h _ _ _ hc (lv_sub hl [2, 3, 4, 5, 1, 0] rfl)
    have hb_134 : ∀ (g : gS) (i5 : Int32) (is0 : Int32), b_X11_byAlias_134 g r0 i1 r2 r3 i5 is0 Q k102 → ∀ (H : Heap) (locs : List Loc) (ls : Array Slot), gC D cA (gA g0 sz) s g H locs → lv_has ls 6 [(0, .ref r0), (1, .int i1), (2, .ref r2), (3, .ref r3), (5, .int i5)] → W p l e r_X11_byAlias s m args below meth c H locs 2 260 (MQ below (gQi D cA g0 sz (Q)) args s 2 260 (gA g0 sz)) (F0 m 134 ls [.int is0]) := by
      intro g i5 is0 h H locs ls hc hl
      unfold b_X11_byAlias_134 at h
      refine lv_iconst (v := 0) hx hb dX11_byAlias_134 (by decide) ?_
      exact hb_135 g i5 is0 0 h _ _ _ hc (lv_sub hl [0, 1, 2, 3, 4] rfl)
    unfold l_X11_byAlias_102 at h
    refine lv_iload hx hb dX11_byAlias_102 (lv_at hl 5 rfl) ?_
    refine lv_aload_n hx hb dX11_byAlias_104 rfl (lv_at hl 0 rfl) ?_
    obtain ⟨hk1, h⟩ := h
    refine g_get CF hc hk1 rfl (by decide) (fun _ h9 => List.mem_cons_of_mem _ (List.mem_append_right _ (h9))) (k := 1) (by decide) (List.mem_cons_of_mem _ (List.mem_append_left _ (List.mem_append_left _ (List.mem_of_getElem? (i := 2) rfl)))) rfl dX11_byAlias_105 ?_
    refine lv_icmp_ge (tgt := 144) hx hb dX11_byAlias_108 (by decide) (fun c2 => ?_) (fun c2 => ?_)
    · have h := h.1 c2
      refine lv_aload_n hx hb dX11_byAlias_144 rfl (lv_at hl 0 rfl) ?_
      refine lv_aload_n hx hb dX11_byAlias_145 rfl (lv_at hl 3 rfl) ?_
      refine g_putr CF hc hk1 rfl (by decide) (fun _ h9 => List.mem_cons_of_mem _ (List.mem_append_right _ (h9))) tyX11 tyX11_ok nmX11 (k := 11) (by decide) (List.mem_cons_of_mem _ (List.mem_append_left _ (List.mem_append_left _ (List.mem_of_getElem? (i := 3) rfl)))) rfl (some r3) narrow_ra fits_ra rfl dX11_byAlias_146 (fun H locs hc => ?_)
      obtain ⟨g3, eg4⟩ : ∃ z, z = sV g r0 11 (some r3) := ⟨_, rfl⟩
      have hc : gC D cA (gA g0 sz) s g3 H locs := by rw [eg4]; exact hc
      replace h := h g3 eg4
      refine lv_iload hx hb dX11_byAlias_149 (lv_at hl 4 rfl) ?_
      exact g_reti (r := i4) CF hr hlk hc rfl h dX11_byAlias_151
    · have h := h.2 c2
      refine lv_iload hx hb dX11_byAlias_111 (lv_at hl 4 rfl) ?_
      refine lv_aload_n hx hb dX11_byAlias_113 rfl (lv_at hl 2 rfl) ?_
      refine lv_iload hx hb dX11_byAlias_114 (lv_at hl 5 rfl) ?_
      obtain ⟨hk5, h⟩ := h
      obtain ⟨hi6, h⟩ := h
      refine g_zald CF hc hk5 hi6 dX11_byAlias_116 ?_
      refine lv_if_eq (tgt := 134) hx hb dX11_byAlias_117 (by decide) (fun c7 => ?_) (fun c7 => ?_)
      · have h := h.1 c7
        exact hb_134 g i5 i4 h _ _ _ hc (lv_sub hl [0, 1, 2, 3, 5] rfl)
      · have h := h.2 c7
        refine lv_aload_n hx hb dX11_byAlias_120 rfl (lv_at hl 0 rfl) ?_
        refine lv_iload_n hx hb dX11_byAlias_121 rfl (lv_at hl 1 rfl) ?_
        refine lv_iload hx hb dX11_byAlias_122 (lv_at hl 5 rfl) ?_
        refine g_calli (va_runV (As := [.int i1, .int i5]) (rest := [.int i4]) CF (c_X11_scoreNow h) (cwV 2 hts gX11_byAlias_X11_scoreNow rfl rfl rfl (by decide +kernel) ⟨Nat.le_of_ble_eq_true rfl, Nat.le_of_ble_eq_true rfl⟩) (hc.preV hk1 rfl (by decide)) rfl rfl hl.1 rfl (lv_room (Nat.le_of_ble_eq_true rfl)) dX11_byAlias_124 ⟨Nat.le_of_ble_eq_true rfl, Nat.le_of_ble_eq_true rfl⟩) hc (fun x8 g9 H locs hq hc => ?_)
        replace h := hq
        refine lv_if_ge (tgt := 134) hx hb dX11_byAlias_127 (by decide) (fun c11 => ?_) (fun c11 => ?_)
        · have h := h.1 c11
          exact hb_134 g9 i5 i4 h _ _ _ hc (lv_sub hl [0, 1, 2, 3, 5] rfl)
        · have h := h.2 c11
          refine lv_iconst (v := 1) hx hb dX11_byAlias_130 (by decide) ?_
          refine lv_goto (tgt := 135) hx hb dX11_byAlias_131 (by decide) ?_
          exact hb_135 g9 i5 i4 1 h _ _ _ hc (lv_sub hl [0, 1, 2, 3, 5] rfl)
  have hb_74 : ∀ (r0 : Nat) (i1 : Int32) (r2 : Nat) (r3 : Nat), ∀ (g : gS) (i4 : Int32), lpx2 (l_X11_byAlias_74 r0 i1 r2 r3 Q) g i4 → ∀ (H : Heap) (locs : List Loc) (ls : Array Slot), gC D cA (gA g0 sz) s g H locs → lv_has ls 6 [(0, .ref r0), (1, .int i1), (2, .ref r2), (3, .ref r3), (4, .int i4)] → W p l e r_X11_byAlias s m args below meth c H locs 2 260 (MQ below (gQi D cA g0 sz (Q)) args s 2 260 (gA g0 sz)) (F0 m 74 ls []) := by
    intro r0 i1 r2 r3
    refine lpx2_run (P := fun (g : gS) (i4 : Int32) => ∀ (H : Heap) (locs : List Loc) (ls : Array Slot), gC D cA (gA g0 sz) s g H locs → lv_has ls 6 [(0, .ref r0), (1, .int i1), (2, .ref r2), (3, .ref r3), (4, .int i4)] → W p l e r_X11_byAlias s m args below meth c H locs 2 260 (MQ below (gQi D cA g0 sz (Q)) args s 2 260 (gA g0 sz)) (F0 m 74 ls [])) ?_
    intro k74 hk_74 g i4 h H locs ls hc hl
    unfold l_X11_byAlias_74 at h
    refine lv_iload hx hb dX11_byAlias_74 (lv_at hl 4 rfl) ?_
    refine lv_sipush (v := 200) hx hb dX11_byAlias_76 (by decide) ?_
    refine lv_icmp_ge (tgt := 96) hx hb dX11_byAlias_79 (by decide) (fun c12 => ?_) (fun c12 => ?_)
    · have h := h.1 c12
      refine lv_iconst (v := 0) hx hb dX11_byAlias_96 (by decide) ?_
      refine lv_istore (lv' := [(4, .int 0), (0, .ref r0), (1, .int i1), (2, .ref r2), (3, .ref r3)]) hx hb dX11_byAlias_97 hl (by decide) rfl (fun ls hl => ?_)
      refine lv_iconst (v := 0) hx hb dX11_byAlias_99 (by decide) ?_
      refine lv_istore (lv' := [(5, .int 0), (4, .int 0), (0, .ref r0), (1, .int i1), (2, .ref r2), (3, .ref r3)]) hx hb dX11_byAlias_100 hl (by decide) rfl (fun ls hl => ?_)
      exact hb_102 r0 i1 r2 r3 g 0 0 h _ _ _ hc (lv_sub hl [2, 3, 4, 5, 1, 0] rfl)
    · have h := h.2 c12
      refine lv_aload_n hx hb dX11_byAlias_82 rfl (lv_at hl 0 rfl) ?_
      obtain ⟨hk13, h⟩ := h
      obtain ⟨y14, e15, h⟩ := h
      refine g_getr CF hc hk13 rfl (by decide) (fun _ h9 => List.mem_cons_of_mem _ (List.mem_append_right _ (h9))) (k := 11) (by decide) (List.mem_cons_of_mem _ (List.mem_append_left _ (List.mem_append_left _ (List.mem_of_getElem? (i := 3) rfl)))) e15 rfl dX11_byAlias_83 ?_
      refine lv_iload hx hb dX11_byAlias_86 (lv_at hl 4 rfl) ?_
      refine lv_iconst (v := (-1)) hx hb dX11_byAlias_88 (by decide) ?_
      obtain ⟨hk16, h⟩ := h
      obtain ⟨hi17, h⟩ := h
      refine g_iast CF hc hk16 (x := (-1)) hi17 dX11_byAlias_89 (fun H locs hc => ?_)
      obtain ⟨g18, eg19⟩ : ∃ z, z = sU g y14 (Int32.toNatClampNeg i4) (-1) := ⟨_, rfl⟩
      have hc : gC D cA (gA g0 sz) s g18 H locs := by rw [eg19]; exact hc
      replace h := h g18 eg19
      refine lv_iinc (v := (i4 + 1)) (lv' := [(4, .int (i4 + 1)), (0, .ref r0), (1, .int i1), (2, .ref r2), (3, .ref r3)]) hx hb dX11_byAlias_90 hl (k := 4) rfl rfl (by decide) rfl (fun ls hl => ?_)
      refine lv_goto (tgt := 74) hx hb dX11_byAlias_93 (by decide) ?_
      exact hk_74 g18 (i4 + 1) h _ _ _ hc (lv_sub hl [1, 2, 3, 4, 0] rfl)
  have hb_26 : ∀ (r0 : Nat) (i1 : Int32) (r2 : Nat), ∀ (g : gS) (i3 : Int32), lpx2 (l_X11_byAlias_26 r0 i1 r2 Q) g i3 → ∀ (H : Heap) (locs : List Loc) (ls : Array Slot), gC D cA (gA g0 sz) s g H locs → lv_has ls 6 [(0, .ref r0), (1, .int i1), (2, .ref r2), (3, .int i3)] → W p l e r_X11_byAlias s m args below meth c H locs 1 60 (MQ below (gQi D cA g0 sz (Q)) args s 2 260 (gA g0 sz)) (F0 m 26 ls []) := by
    intro r0 i1 r2
    refine lpx2_run (P := fun (g : gS) (i3 : Int32) => ∀ (H : Heap) (locs : List Loc) (ls : Array Slot), gC D cA (gA g0 sz) s g H locs → lv_has ls 6 [(0, .ref r0), (1, .int i1), (2, .ref r2), (3, .int i3)] → W p l e r_X11_byAlias s m args below meth c H locs 1 60 (MQ below (gQi D cA g0 sz (Q)) args s 2 260 (gA g0 sz)) (F0 m 26 ls [])) ?_
    intro k26 hk_26 g i3 h H locs ls hc hl
    have hb_50 : ∀ (g : gS) (i3 : Int32) (rs0 : Nat) (is1 : Int32) (is2 : Int32), b_X11_byAlias_50 g r0 i1 r2 i3 rs0 is1 is2 Q k26 → ∀ (H : Heap) (locs : List Loc) (ls : Array Slot), gC D cA (gA g0 sz) s g H locs → lv_has ls 6 [(0, .ref r0), (1, .int i1), (2, .ref r2), (3, .int i3)] → W p l e r_X11_byAlias s m args below meth c H locs 1 60 (MQ below (gQi D cA g0 sz (Q)) args s 2 260 (gA g0 sz)) (F0 m 50 ls [.int is2, .int is1, .ref rs0]) := by
      intro g i3 rs0 is1 is2 h H locs ls hc hl
      unfold b_X11_byAlias_50 at h
      obtain ⟨hk20, h⟩ := h
      obtain ⟨hi21, h⟩ := h
      obtain ⟨hz22, h⟩ := h
      refine g_zast CF hc hk20 (x := is2) hz22 hi21 dX11_byAlias_50 (fun H locs hc => ?_)
      obtain ⟨g23, eg24⟩ : ∃ z, z = sU g rs0 (Int32.toNatClampNeg is1) is2 := ⟨_, rfl⟩
      have hc : gC D cA (gA g0 sz) s g23 H locs := by rw [eg24]; exact hc
      replace h := h g23 eg24
      refine lv_iinc (v := (i3 + 1)) (lv' := [(3, .int (i3 + 1)), (0, .ref r0), (1, .int i1), (2, .ref r2)]) hx hb dX11_byAlias_51 hl (k := 3) rfl rfl (by decide) rfl (fun ls hl => ?_)
      refine lv_goto (tgt := 26) hx hb dX11_byAlias_54 (by decide) ?_
      exact hk_26 g23 (i3 + 1) h _ _ _ hc (lv_sub hl [1, 2, 3, 0] rfl)
    unfold l_X11_byAlias_26 at h
    refine lv_iload_n hx hb dX11_byAlias_26 rfl (lv_at hl 3 rfl) ?_
    refine lv_aload_n hx hb dX11_byAlias_27 rfl (lv_at hl 0 rfl) ?_
    obtain ⟨hk25, h⟩ := h
    refine g_get CF hc hk25 rfl (by decide) (fun _ h9 => List.mem_cons_of_mem _ (List.mem_append_right _ (h9))) (k := 1) (by decide) (List.mem_cons_of_mem _ (List.mem_append_left _ (List.mem_append_left _ (List.mem_of_getElem? (i := 2) rfl)))) rfl dX11_byAlias_28 ?_
    refine lv_icmp_ge (tgt := 57) hx hb dX11_byAlias_31 (by decide) (fun c26 => ?_) (fun c26 => ?_)
    · have h := h.1 c26
      refine lv_aload_n hx hb dX11_byAlias_57 rfl (lv_at hl 0 rfl) ?_
      obtain ⟨y27, e28, h⟩ := h
      refine g_getr CF hc hk25 rfl (by decide) (fun _ h9 => List.mem_cons_of_mem _ (List.mem_append_right _ (h9))) (k := 11) (by decide) (List.mem_cons_of_mem _ (List.mem_append_left _ (List.mem_append_left _ (List.mem_of_getElem? (i := 3) rfl)))) e28 rfl dX11_byAlias_58 ?_
      refine lv_astore_n (lv' := [(3, .ref y27), (0, .ref r0), (1, .int i1), (2, .ref r2)]) hx hb dX11_byAlias_61 rfl hl (by decide) rfl (fun ls hl => ?_)
      refine lv_aload_n hx hb dX11_byAlias_62 rfl (lv_at hl 1 rfl) ?_
      refine lv_sipush (v := 200) hx hb dX11_byAlias_63 (by decide) ?_
      refine g_newi CF hc (List.mem_cons_of_mem _ (List.mem_append_left _ (List.mem_append_left _ (List.mem_of_getElem? (i := 4) rfl)))) (n := 200) (N := 200) (by decide) (by decide) (by decide) (Nat.le_of_ble_eq_true rfl) (Nat.le_of_ble_eq_true rfl) dX11_byAlias_66 (fun q29 H locs hq30 hc => ?_)
      replace h := h q29 hq30
      obtain ⟨g31, eg32⟩ : ∃ z, z = sNew g q29 21 200 := ⟨_, rfl⟩
      have hc : gC D cA (gA g0 sz) s g31 H locs := by rw [eg32]; exact hc
      replace h := h g31 eg32
      refine W.widen (k := 2) (n := 260) (Nat.le_of_ble_eq_true rfl) (Nat.le_of_ble_eq_true rfl) ?_
      obtain ⟨hk33, h⟩ := h
      refine g_putr CF hc hk33 rfl (by decide) (fun _ h9 => List.mem_cons_of_mem _ (List.mem_append_right _ (h9))) tyX11 tyX11_ok nmX11 (k := 11) (by decide) (List.mem_cons_of_mem _ (List.mem_append_left _ (List.mem_append_left _ (List.mem_of_getElem? (i := 3) rfl)))) rfl (some q29) narrow_ra fits_ra rfl dX11_byAlias_68 (fun H locs hc => ?_)
      obtain ⟨g34, eg35⟩ : ∃ z, z = sV g31 r0 11 (some q29) := ⟨_, rfl⟩
      have hc : gC D cA (gA g0 sz) s g34 H locs := by rw [eg35]; exact hc
      replace h := h g34 eg35
      refine lv_iconst (v := 0) hx hb dX11_byAlias_71 (by decide) ?_
      refine lv_istore (lv' := [(4, .int 0), (3, .ref y27), (0, .ref r0), (1, .int i1), (2, .ref r2)]) hx hb dX11_byAlias_72 hl (by decide) rfl (fun ls hl => ?_)
      exact hb_74 r0 i1 r2 y27 g34 0 h _ _ _ hc (lv_sub hl [2, 3, 4, 1, 0] rfl)
    · have h := h.2 c26
      refine lv_aload_n hx hb dX11_byAlias_34 rfl (lv_at hl 2 rfl) ?_
      refine lv_iload_n hx hb dX11_byAlias_35 rfl (lv_at hl 3 rfl) ?_
      refine lv_aload_n hx hb dX11_byAlias_36 rfl (lv_at hl 0 rfl) ?_
      refine lv_iload_n hx hb dX11_byAlias_37 rfl (lv_at hl 1 rfl) ?_
      refine lv_iload_n hx hb dX11_byAlias_38 rfl (lv_at hl 3 rfl) ?_
      refine g_calli (va_runV (As := [.int i1, .int i3]) (rest := [.int i3, .ref r2]) CF (c_X11_scoreNow h) (cwV 2 hts gX11_byAlias_X11_scoreNow rfl rfl rfl (by decide +kernel) ⟨Nat.le_of_ble_eq_true rfl, Nat.le_of_ble_eq_true rfl⟩) (hc.preV hk25 rfl (by decide)) rfl rfl hl.1 rfl (lv_room (Nat.le_of_ble_eq_true rfl)) dX11_byAlias_39 ⟨Nat.le_of_ble_eq_true rfl, Nat.le_of_ble_eq_true rfl⟩) hc (fun x36 g37 H locs hq hc => ?_)
      replace h := hq
      refine lv_if_lt (tgt := 49) hx hb dX11_byAlias_42 (by decide) (fun c39 => ?_) (fun c39 => ?_)
      · have h := h.1 c39
        refine lv_iconst (v := 0) hx hb dX11_byAlias_49 (by decide) ?_
        exact hb_50 g37 i3 r2 i3 0 h _ _ _ hc (lv_sub hl [0, 1, 2, 3] rfl)
      · have h := h.2 c39
        refine lv_iconst (v := 1) hx hb dX11_byAlias_45 (by decide) ?_
        refine lv_goto (tgt := 50) hx hb dX11_byAlias_46 (by decide) ?_
        exact hb_50 g37 i3 r2 i3 1 h _ _ _ hc (lv_sub hl [0, 1, 2, 3] rfl)
  unfold w_X11_byAlias at h
  obtain ⟨H, hH0⟩ : ∃ z, z = s.heap := ⟨_, rfl⟩
  rw [← hH0] at hc ⊢
  obtain ⟨locs, hlc0⟩ : ∃ z : List Loc, z = [] := ⟨_, rfl⟩
  rw [← hlc0] at hc ⊢
  refine lv_aload_n hx hb dX11_byAlias_0 rfl (lv_at hl 0 rfl) ?_
  refine lv_iconst (v := 0) hx hb dX11_byAlias_1 (by decide) ?_
  obtain ⟨hk40, h⟩ := h
  refine g_puti CF hc hk40 rfl (by decide) (fun _ h9 => List.mem_cons_of_mem _ (List.mem_append_right _ (h9))) tyX11 tyX11_ok nmX11 (k := 0) (by decide) (List.mem_cons_of_mem _ (List.mem_append_left _ (List.mem_append_left _ (List.mem_of_getElem? (i := 0) rfl)))) rfl (v := 0) rfl rfl rfl dX11_byAlias_2 (fun H locs hc => ?_)
  obtain ⟨g41, eg42⟩ : ∃ z, z = sU g0 p0 0 0 := ⟨_, rfl⟩
  have hc : gC D cA (gA g0 sz) s g41 H locs := by rw [eg42]; exact hc
  replace h := h g41 eg42
  refine lv_aload_n hx hb dX11_byAlias_5 rfl (lv_at hl 0 rfl) ?_
  refine lv_iload_n hx hb dX11_byAlias_6 rfl (lv_at hl 1 rfl) ?_
  obtain ⟨hk43, h⟩ := h
  refine g_calli (va_runV (As := [.int p1]) (rest := []) CF (c_X11_isNode h) (cwV 1 hts gX11_byAlias_X11_isNode rfl rfl rfl (by decide +kernel) ⟨Nat.le_of_ble_eq_true rfl, Nat.le_of_ble_eq_true rfl⟩) (hc.preV hk43 rfl (by decide)) rfl rfl hl.1 rfl (lv_room (Nat.le_of_ble_eq_true rfl)) dX11_byAlias_7 ⟨Nat.le_of_ble_eq_true rfl, Nat.le_of_ble_eq_true rfl⟩) hc (fun x44 gq45 H locs hq hc => ?_)
  obtain ⟨rfl, h⟩ := hq
  refine lv_if_ne (tgt := 19) hx hb dX11_byAlias_10 (by decide) (fun c46 => ?_) (fun c46 => ?_)
  · have h := h.2 c46
    refine lv_bipush (v := 60) hx hb dX11_byAlias_19 (by decide) ?_
    refine g_newz CF hc (List.mem_cons_of_mem _ (List.mem_append_left _ (List.mem_append_left _ (List.mem_of_getElem? (i := 1) rfl)))) (n := 60) (N := 60) (by decide) (by decide) (by decide) (Nat.le_of_ble_eq_true rfl) (Nat.le_of_ble_eq_true rfl) dX11_byAlias_21 (fun q47 H locs hq48 hc => ?_)
    replace h := h q47 hq48
    obtain ⟨g49, eg50⟩ : ∃ z, z = sNew g41 q47 22 60 := ⟨_, rfl⟩
    have hc : gC D cA (gA g0 sz) s g49 H locs := by rw [eg50]; exact hc
    replace h := h g49 eg50
    refine W.widen (k := 1) (n := 60) (Nat.le_of_ble_eq_true rfl) (Nat.le_of_ble_eq_true rfl) ?_
    refine lv_astore_n (lv' := [(2, .ref q47), (0, .ref p0), (1, .int p1)]) hx hb dX11_byAlias_23 rfl hl (by decide) rfl (fun ls hl => ?_)
    refine lv_iconst (v := 0) hx hb dX11_byAlias_24 (by decide) ?_
    refine lv_istore_n (lv' := [(3, .int 0), (2, .ref q47), (0, .ref p0), (1, .int p1)]) hx hb dX11_byAlias_25 rfl hl (by decide) rfl (fun ls hl => ?_)
    exact hb_26 p0 p1 q47 g49 0 h _ _ _ hc (lv_sub hl [2, 3, 1, 0] rfl)
  · have h := h.1 c46
    refine lv_aload_n hx hb dX11_byAlias_13 rfl (lv_at hl 0 rfl) ?_
    refine lv_iconst (v := 1) hx hb dX11_byAlias_14 (by decide) ?_
    refine g_calli (va_runV (As := [.int 1]) (rest := []) CF (c_X11_no h) (cwV 1 hts gX11_byAlias_X11_no rfl rfl rfl (by decide +kernel) ⟨Nat.le_of_ble_eq_true rfl, Nat.le_of_ble_eq_true rfl⟩) (hc.preV hk43 rfl (by decide)) rfl rfl hl.1 rfl (lv_room (Nat.le_of_ble_eq_true rfl)) dX11_byAlias_15 ⟨Nat.le_of_ble_eq_true rfl, Nat.le_of_ble_eq_true rfl⟩) hc (fun x51 g52 H locs hq hc => ?_)
    replace h := hq
    refine W.widen (k := 2) (n := 260) (Nat.le_of_ble_eq_true rfl) (Nat.le_of_ble_eq_true rfl) ?_
    exact g_reti (r := x51) CF hr hlk hc rfl h dX11_byAlias_18
def b_X11_wouldScore_73 (g : gS) (r0 : Nat) (i1 : Int32) (i2 : Int32) (r3 : Nat) (i4 : Int32) (rs0 : Nat) (is1 : Int32) (is2 : Int32) (Q : Int32 → gS → Prop) (k43 : gS → Int32 → Prop) : Prop :=
  gK g rs0 = 22 ∧ (vp_in is1 (gN g rs0) ∧ ((is2 = 0 ∨ is2 = 1) ∧ (∀ g4, g4 = sU g rs0 (Int32.toNatClampNeg is1) is2 → (k43 g4 (i4 + 1)))))
def l_X11_wouldScore_43 (r0 : Nat) (i1 : Int32) (i2 : Int32) (r3 : Nat) (Q : Int32 → gS → Prop) (g : gS) (i4 : Int32) (k43 : gS → Int32 → Prop) : Prop :=
  gK g r0 = 12 ∧ (((gI g r0 1) ≤ i4 → (∀ g8, g8 = sU g r0 25 0 → (gK g8 r0 = 12 ∧ (w_X11_scoreNow g8 r0 i1 i2 (fun x11 g12 => (gK g12 r0 = 12 ∧ (∀ g15, g15 = sV g12 r0 6 (some r3) → (gK g15 r0 = 12 ∧ (∀ g18, g18 = sU g15 r0 25 0 → (Q x11 g18)))))))))) ∧ (¬ (gI g r0 1) ≤ i4 → (∃ y20, gR g r0 6 = some y20 ∧ (∃ y22, gR g r0 5 = some y22 ∧ (gK g y22 = 22 ∧ (vp_in i4 (gN g y22) ∧ (((gI g y22 (Int32.toNatClampNeg i4)) = 0 → (b_X11_wouldScore_73 g r0 i1 i2 r3 i4 y20 i4 1 Q k43)) ∧ (¬ (gI g y22 (Int32.toNatClampNeg i4)) = 0 → (b_X11_wouldScore_73 g r0 i1 i2 r3 i4 y20 i4 0 Q k43)))))))))
def b_X11_wouldScore_21 (g : gS) (r0 : Nat) (Q : Int32 → gS → Prop) : Prop :=
  gK g r0 = 12 ∧ (w_X11_no g r0 1 (fun x28 g29 => (Q x28 g29)))
def w_X11_wouldScore (g0 : gS) (p0 : Nat) (p1 : Int32) (p2 : Int32) (Q : Int32 → gS → Prop) : Prop :=
  gK g0 p0 = 12 ∧ (∀ g32, g32 = sU g0 p0 0 0 → (gK g32 p0 = 12 ∧ (w_X11_isNode g32 p0 p1 (fun x35 => ((x35 = 0 → (b_X11_wouldScore_21 g32 p0 Q)) ∧ (¬ x35 = 0 → (w_X11_isDocument g32 p0 p2 (fun x38 => ((x38 = 0 → (b_X11_wouldScore_21 g32 p0 Q)) ∧ (¬ x38 = 0 → (∃ y41, gR g32 p0 6 = some y41 ∧ (∀ q43, gK g32 q43 = 0 → (∀ g45, g45 = sNew g32 q43 22 60 → (gK g45 p0 = 12 ∧ (∀ g48, g48 = sV g45 p0 6 (some q43) → (lpx2 (l_X11_wouldScore_43 p0 p1 p2 y41 Q) g48 0))))))))))))))))
abbrev r_X11_wouldScore : Room := { frames := 8, cells := 1, slots := 60, locals := 190 }
set_option maxHeartbeats 4000000 in
set_option maxRecDepth 100000 in
theorem c_X11_wouldScore {l : Launch} {D : va_G} {cA : Nat → ClassId} {sz : Nat} {g0 : gS} {p0 : Nat} {p1 : Int32} {p2 : Int32} {Q : Int32 → gS → Prop} (h : w_X11_wouldScore g0 p0 p1 p2 Q) : Met l yX11_wouldScore wsX11_wouldScore r_X11_wouldScore (va_Pc [.ref p0, .int p1, .int p2] (gPre D cA g0 sz)) (gQi D cA g0 sz (Q)) 1 60 (gA g0 sz) := by
  refine g_met (cc := cX11_wouldScore) (maxL := 5) (ret := (some .int)) (own := RX11) (by decide) rfl rfl (Nat.le_of_ble_eq_true rfl) ?_
  intro p e s m args below meth c ls CF hr hlk hnm hc hl
  obtain ⟨hx, hb, hml, hown, hts⟩ := id CF
  have hl : lv_has ls 5 [(0, .ref p0), (1, .int p1), (2, .int p2)] := hl
  show W p l e r_X11_wouldScore s m args below meth c s.heap [] 0 0 (MQ below (gQi D cA g0 sz (Q)) args s 1 60 (gA g0 sz)) (F0 m 0 ls [])
  have hb_43 : ∀ (r0 : Nat) (i1 : Int32) (i2 : Int32) (r3 : Nat), ∀ (g : gS) (i4 : Int32), lpx2 (l_X11_wouldScore_43 r0 i1 i2 r3 Q) g i4 → ∀ (H : Heap) (locs : List Loc) (ls : Array Slot), gC D cA (gA g0 sz) s g H locs → lv_has ls 5 [(0, .ref r0), (1, .int i1), (2, .int i2), (3, .ref r3), (4, .int i4)] → W p l e r_X11_wouldScore s m args below meth c H locs 1 60 (MQ below (gQi D cA g0 sz (Q)) args s 1 60 (gA g0 sz)) (F0 m 43 ls []) := by
    intro r0 i1 i2 r3
    refine lpx2_run (P := fun (g : gS) (i4 : Int32) => ∀ (H : Heap) (locs : List Loc) (ls : Array Slot), gC D cA (gA g0 sz) s g H locs → lv_has ls 5 [(0, .ref r0), (1, .int i1), (2, .int i2), (3, .ref r3), (4, .int i4)] → W p l e r_X11_wouldScore s m args below meth c H locs 1 60 (MQ below (gQi D cA g0 sz (Q)) args s 1 60 (gA g0 sz)) (F0 m 43 ls [])) ?_
    intro k43 hk_43 g i4 h H locs ls hc hl
    have hb_73 : ∀ (g : gS) (i4 : Int32) (rs0 : Nat) (is1 : Int32) (is2 : Int32), b_X11_wouldScore_73 g r0 i1 i2 r3 i4 rs0 is1 is2 Q k43 → ∀ (H : Heap) (locs : List Loc) (ls : Array Slot), gC D cA (gA g0 sz) s g H locs → lv_has ls 5 [(0, .ref r0), (1, .int i1), (2, .int i2), (3, .ref r3), (4, .int i4)] → W p l e r_X11_wouldScore s m args below meth c H locs 1 60 (MQ below (gQi D cA g0 sz (Q)) args s 1 60 (gA g0 sz)) (F0 m 73 ls [.int is2, .int is1, .ref rs0]) := by
      intro g i4 rs0 is1 is2 h H locs ls hc hl
      unfold b_X11_wouldScore_73 at h
      obtain ⟨hk1, h⟩ := h
      obtain ⟨hi2, h⟩ := h
      obtain ⟨hz3, h⟩ := h
      refine g_zast CF hc hk1 (x := is2) hz3 hi2 dX11_wouldScore_73 (fun H locs hc => ?_)
      obtain ⟨g4, eg5⟩ : ∃ z, z = sU g rs0 (Int32.toNatClampNeg is1) is2 := ⟨_, rfl⟩
      have hc : gC D cA (gA g0 sz) s g4 H locs := by rw [eg5]; exact hc
      replace h := h g4 eg5
      refine lv_iinc (v := (i4 + 1)) (lv' := [(4, .int (i4 + 1)), (0, .ref r0), (1, .int i1), (2, .int i2), (3, .ref r3)]) hx hb dX11_wouldScore_74 hl (k := 4) rfl rfl (by decide) rfl (fun ls hl => ?_)
      refine lv_goto (tgt := 43) hx hb dX11_wouldScore_77 (by decide) ?_
      exact hk_43 g4 (i4 + 1) h _ _ _ hc (lv_sub hl [1, 2, 3, 4, 0] rfl)
    unfold l_X11_wouldScore_43 at h
    refine lv_iload hx hb dX11_wouldScore_43 (lv_at hl 4 rfl) ?_
    refine lv_aload_n hx hb dX11_wouldScore_45 rfl (lv_at hl 0 rfl) ?_
    obtain ⟨hk6, h⟩ := h
    refine g_get CF hc hk6 rfl (by decide) (fun _ h9 => List.mem_cons_of_mem _ (List.mem_append_right _ (h9))) (k := 1) (by decide) (List.mem_cons_of_mem _ (List.mem_append_left _ (List.mem_append_left _ (List.mem_of_getElem? (i := 3) rfl)))) rfl dX11_wouldScore_46 ?_
    refine lv_icmp_ge (tgt := 80) hx hb dX11_wouldScore_49 (by decide) (fun c7 => ?_) (fun c7 => ?_)
    · have h := h.1 c7
      refine lv_aload_n hx hb dX11_wouldScore_80 rfl (lv_at hl 0 rfl) ?_
      refine lv_iconst (v := 0) hx hb dX11_wouldScore_81 (by decide) ?_
      refine g_puti CF hc hk6 rfl (by decide) (fun _ h9 => List.mem_cons_of_mem _ (List.mem_append_right _ (h9))) tyX11 tyX11_ok nmX11 (k := 25) (by decide) (List.mem_cons_of_mem _ (List.mem_append_left _ (List.mem_append_left _ (List.mem_of_getElem? (i := 5) rfl)))) rfl (v := 0) (narrow_01 (by decide : (0 : Int32) = 0 ∨ (0 : Int32) = 1)) (fits_01 (by decide : (0 : Int32) = 0 ∨ (0 : Int32) = 1)) rfl dX11_wouldScore_82 (fun H locs hc => ?_)
      obtain ⟨g8, eg9⟩ : ∃ z, z = sU g r0 25 0 := ⟨_, rfl⟩
      have hc : gC D cA (gA g0 sz) s g8 H locs := by rw [eg9]; exact hc
      replace h := h g8 eg9
      refine lv_aload_n hx hb dX11_wouldScore_85 rfl (lv_at hl 0 rfl) ?_
      refine lv_iload_n hx hb dX11_wouldScore_86 rfl (lv_at hl 1 rfl) ?_
      refine lv_iload_n hx hb dX11_wouldScore_87 rfl (lv_at hl 2 rfl) ?_
      obtain ⟨hk10, h⟩ := h
      refine g_calli (va_runV (As := [.int i1, .int i2]) (rest := []) CF (c_X11_scoreNow h) (cwV 2 hts gX11_wouldScore_X11_scoreNow rfl rfl rfl (by decide +kernel) ⟨Nat.le_of_ble_eq_true rfl, Nat.le_of_ble_eq_true rfl⟩) (hc.preV hk10 rfl (by decide)) rfl rfl hl.1 rfl (lv_room (Nat.le_of_ble_eq_true rfl)) dX11_wouldScore_88 ⟨Nat.le_of_ble_eq_true rfl, Nat.le_of_ble_eq_true rfl⟩) hc (fun x11 g12 H locs hq hc => ?_)
      replace h := hq
      refine lv_istore (lv' := [(4, .int x11), (0, .ref r0), (1, .int i1), (2, .int i2), (3, .ref r3)]) hx hb dX11_wouldScore_91 hl (by decide) rfl (fun ls hl => ?_)
      refine lv_aload_n hx hb dX11_wouldScore_93 rfl (lv_at hl 1 rfl) ?_
      refine lv_aload_n hx hb dX11_wouldScore_94 rfl (lv_at hl 4 rfl) ?_
      obtain ⟨hk14, h⟩ := h
      refine g_putr CF hc hk14 rfl (by decide) (fun _ h9 => List.mem_cons_of_mem _ (List.mem_append_right _ (h9))) tyX11 tyX11_ok nmX11 (k := 6) (by decide) (List.mem_cons_of_mem _ (List.mem_append_left _ (List.mem_append_left _ (List.mem_of_getElem? (i := 1) rfl)))) rfl (some r3) narrow_ra fits_ra rfl dX11_wouldScore_95 (fun H locs hc => ?_)
      obtain ⟨g15, eg16⟩ : ∃ z, z = sV g12 r0 6 (some r3) := ⟨_, rfl⟩
      have hc : gC D cA (gA g0 sz) s g15 H locs := by rw [eg16]; exact hc
      replace h := h g15 eg16
      refine lv_aload_n hx hb dX11_wouldScore_98 rfl (lv_at hl 1 rfl) ?_
      refine lv_iconst (v := 0) hx hb dX11_wouldScore_99 (by decide) ?_
      obtain ⟨hk17, h⟩ := h
      refine g_puti CF hc hk17 rfl (by decide) (fun _ h9 => List.mem_cons_of_mem _ (List.mem_append_right _ (h9))) tyX11 tyX11_ok nmX11 (k := 25) (by decide) (List.mem_cons_of_mem _ (List.mem_append_left _ (List.mem_append_left _ (List.mem_of_getElem? (i := 5) rfl)))) rfl (v := 0) (narrow_01 (by decide : (0 : Int32) = 0 ∨ (0 : Int32) = 1)) (fits_01 (by decide : (0 : Int32) = 0 ∨ (0 : Int32) = 1)) rfl dX11_wouldScore_100 (fun H locs hc => ?_)
      obtain ⟨g18, eg19⟩ : ∃ z, z = sU g15 r0 25 0 := ⟨_, rfl⟩
      have hc : gC D cA (gA g0 sz) s g18 H locs := by rw [eg19]; exact hc
      replace h := h g18 eg19
      refine lv_iload hx hb dX11_wouldScore_103 (lv_at hl 0 rfl) ?_
      exact g_reti (r := x11) CF hr hlk hc rfl h dX11_wouldScore_105
    · have h := h.2 c7
      refine lv_aload_n hx hb dX11_wouldScore_52 rfl (lv_at hl 0 rfl) ?_
      obtain ⟨y20, e21, h⟩ := h
      refine g_getr CF hc hk6 rfl (by decide) (fun _ h9 => List.mem_cons_of_mem _ (List.mem_append_right _ (h9))) (k := 6) (by decide) (List.mem_cons_of_mem _ (List.mem_append_left _ (List.mem_append_left _ (List.mem_of_getElem? (i := 1) rfl)))) e21 rfl dX11_wouldScore_53 ?_
      refine lv_iload hx hb dX11_wouldScore_56 (lv_at hl 4 rfl) ?_
      refine lv_aload_n hx hb dX11_wouldScore_58 rfl (lv_at hl 0 rfl) ?_
      obtain ⟨y22, e23, h⟩ := h
      refine g_getr CF hc hk6 rfl (by decide) (fun _ h9 => List.mem_cons_of_mem _ (List.mem_append_right _ (h9))) (k := 5) (by decide) (List.mem_cons_of_mem _ (List.mem_append_left _ (List.mem_append_left _ (List.mem_of_getElem? (i := 4) rfl)))) e23 rfl dX11_wouldScore_59 ?_
      refine lv_iload hx hb dX11_wouldScore_62 (lv_at hl 4 rfl) ?_
      obtain ⟨hk24, h⟩ := h
      obtain ⟨hi25, h⟩ := h
      refine g_zald CF hc hk24 hi25 dX11_wouldScore_64 ?_
      refine lv_if_ne (tgt := 72) hx hb dX11_wouldScore_65 (by decide) (fun c26 => ?_) (fun c26 => ?_)
      · have h := h.2 c26
        refine lv_iconst (v := 0) hx hb dX11_wouldScore_72 (by decide) ?_
        exact hb_73 g i4 y20 i4 0 h _ _ _ hc (lv_sub hl [0, 1, 2, 3, 4] rfl)
      · have h := h.1 c26
        refine lv_iconst (v := 1) hx hb dX11_wouldScore_68 (by decide) ?_
        refine lv_goto (tgt := 73) hx hb dX11_wouldScore_69 (by decide) ?_
        exact hb_73 g i4 y20 i4 1 h _ _ _ hc (lv_sub hl [0, 1, 2, 3, 4] rfl)
  have hb_21 : ∀ (g : gS) (r0 : Nat), b_X11_wouldScore_21 g r0 Q → ∀ (H : Heap) (locs : List Loc) (ls : Array Slot), gC D cA (gA g0 sz) s g H locs → lv_has ls 5 [(0, .ref r0)] → W p l e r_X11_wouldScore s m args below meth c H locs 0 0 (MQ below (gQi D cA g0 sz (Q)) args s 1 60 (gA g0 sz)) (F0 m 21 ls []) := by
    intro g r0 h H locs ls hc hl
    unfold b_X11_wouldScore_21 at h
    refine lv_aload_n hx hb dX11_wouldScore_21 rfl (lv_at hl 0 rfl) ?_
    refine lv_iconst (v := 1) hx hb dX11_wouldScore_22 (by decide) ?_
    obtain ⟨hk27, h⟩ := h
    refine g_calli (va_runV (As := [.int 1]) (rest := []) CF (c_X11_no h) (cwV 1 hts gX11_wouldScore_X11_no rfl rfl rfl (by decide +kernel) ⟨Nat.le_of_ble_eq_true rfl, Nat.le_of_ble_eq_true rfl⟩) (hc.preV hk27 rfl (by decide)) rfl rfl hl.1 rfl (lv_room (Nat.le_of_ble_eq_true rfl)) dX11_wouldScore_23 ⟨Nat.le_of_ble_eq_true rfl, Nat.le_of_ble_eq_true rfl⟩) hc (fun x28 g29 H locs hq hc => ?_)
    replace h := hq
    refine W.widen (k := 1) (n := 60) (Nat.le_of_ble_eq_true rfl) (Nat.le_of_ble_eq_true rfl) ?_
    exact g_reti (r := x28) CF hr hlk hc rfl h dX11_wouldScore_26
  unfold w_X11_wouldScore at h
  obtain ⟨H, hH0⟩ : ∃ z, z = s.heap := ⟨_, rfl⟩
  rw [← hH0] at hc ⊢
  obtain ⟨locs, hlc0⟩ : ∃ z : List Loc, z = [] := ⟨_, rfl⟩
  rw [← hlc0] at hc ⊢
  refine lv_aload_n hx hb dX11_wouldScore_0 rfl (lv_at hl 0 rfl) ?_
  refine lv_iconst (v := 0) hx hb dX11_wouldScore_1 (by decide) ?_
  obtain ⟨hk31, h⟩ := h
  refine g_puti CF hc hk31 rfl (by decide) (fun _ h9 => List.mem_cons_of_mem _ (List.mem_append_right _ (h9))) tyX11 tyX11_ok nmX11 (k := 0) (by decide) (List.mem_cons_of_mem _ (List.mem_append_left _ (List.mem_append_left _ (List.mem_of_getElem? (i := 0) rfl)))) rfl (v := 0) rfl rfl rfl dX11_wouldScore_2 (fun H locs hc => ?_)
  obtain ⟨g32, eg33⟩ : ∃ z, z = sU g0 p0 0 0 := ⟨_, rfl⟩
  have hc : gC D cA (gA g0 sz) s g32 H locs := by rw [eg33]; exact hc
  replace h := h g32 eg33
  refine lv_aload_n hx hb dX11_wouldScore_5 rfl (lv_at hl 0 rfl) ?_
  refine lv_iload_n hx hb dX11_wouldScore_6 rfl (lv_at hl 1 rfl) ?_
  obtain ⟨hk34, h⟩ := h
  refine g_calli (va_runV (As := [.int p1]) (rest := []) CF (c_X11_isNode h) (cwV 1 hts gX11_wouldScore_X11_isNode rfl rfl rfl (by decide +kernel) ⟨Nat.le_of_ble_eq_true rfl, Nat.le_of_ble_eq_true rfl⟩) (hc.preV hk34 rfl (by decide)) rfl rfl hl.1 rfl (lv_room (Nat.le_of_ble_eq_true rfl)) dX11_wouldScore_7 ⟨Nat.le_of_ble_eq_true rfl, Nat.le_of_ble_eq_true rfl⟩) hc (fun x35 gq36 H locs hq hc => ?_)
  obtain ⟨rfl, h⟩ := hq
  refine lv_if_eq (tgt := 21) hx hb dX11_wouldScore_10 (by decide) (fun c37 => ?_) (fun c37 => ?_)
  · have h := h.1 c37
    exact hb_21 g32 p0 h _ _ _ hc (lv_sub hl [0] rfl)
  · have h := h.2 c37
    refine lv_aload_n hx hb dX11_wouldScore_13 rfl (lv_at hl 0 rfl) ?_
    refine lv_iload_n hx hb dX11_wouldScore_14 rfl (lv_at hl 2 rfl) ?_
    refine g_calli (va_runV (As := [.int p2]) (rest := []) CF (c_X11_isDocument h) (cwV 1 hts gX11_wouldScore_X11_isDocument rfl rfl rfl (by decide +kernel) ⟨Nat.le_of_ble_eq_true rfl, Nat.le_of_ble_eq_true rfl⟩) (hc.preV hk34 rfl (by decide)) rfl rfl hl.1 rfl (lv_room (Nat.le_of_ble_eq_true rfl)) dX11_wouldScore_15 ⟨Nat.le_of_ble_eq_true rfl, Nat.le_of_ble_eq_true rfl⟩) hc (fun x38 gq39 H locs hq hc => ?_)
    obtain ⟨rfl, h⟩ := hq
    refine lv_if_ne (tgt := 27) hx hb dX11_wouldScore_18 (by decide) (fun c40 => ?_) (fun c40 => ?_)
    · have h := h.2 c40
      refine lv_aload_n hx hb dX11_wouldScore_27 rfl (lv_at hl 0 rfl) ?_
      obtain ⟨y41, e42, h⟩ := h
      refine g_getr CF hc hk34 rfl (by decide) (fun _ h9 => List.mem_cons_of_mem _ (List.mem_append_right _ (h9))) (k := 6) (by decide) (List.mem_cons_of_mem _ (List.mem_append_left _ (List.mem_append_left _ (List.mem_of_getElem? (i := 1) rfl)))) e42 rfl dX11_wouldScore_28 ?_
      refine lv_astore_n (lv' := [(3, .ref y41), (0, .ref p0), (1, .int p1), (2, .int p2)]) hx hb dX11_wouldScore_31 rfl hl (by decide) rfl (fun ls hl => ?_)
      refine lv_aload_n hx hb dX11_wouldScore_32 rfl (lv_at hl 1 rfl) ?_
      refine lv_bipush (v := 60) hx hb dX11_wouldScore_33 (by decide) ?_
      refine g_newz CF hc (List.mem_cons_of_mem _ (List.mem_append_left _ (List.mem_append_left _ (List.mem_of_getElem? (i := 2) rfl)))) (n := 60) (N := 60) (by decide) (by decide) (by decide) (Nat.le_of_ble_eq_true rfl) (Nat.le_of_ble_eq_true rfl) dX11_wouldScore_35 (fun q43 H locs hq44 hc => ?_)
      replace h := h q43 hq44
      obtain ⟨g45, eg46⟩ : ∃ z, z = sNew g32 q43 22 60 := ⟨_, rfl⟩
      have hc : gC D cA (gA g0 sz) s g45 H locs := by rw [eg46]; exact hc
      replace h := h g45 eg46
      refine W.widen (k := 1) (n := 60) (Nat.le_of_ble_eq_true rfl) (Nat.le_of_ble_eq_true rfl) ?_
      obtain ⟨hk47, h⟩ := h
      refine g_putr CF hc hk47 rfl (by decide) (fun _ h9 => List.mem_cons_of_mem _ (List.mem_append_right _ (h9))) tyX11 tyX11_ok nmX11 (k := 6) (by decide) (List.mem_cons_of_mem _ (List.mem_append_left _ (List.mem_append_left _ (List.mem_of_getElem? (i := 1) rfl)))) rfl (some q43) narrow_ra fits_ra rfl dX11_wouldScore_37 (fun H locs hc => ?_)
      obtain ⟨g48, eg49⟩ : ∃ z, z = sV g45 p0 6 (some q43) := ⟨_, rfl⟩
      have hc : gC D cA (gA g0 sz) s g48 H locs := by rw [eg49]; exact hc
      replace h := h g48 eg49
      refine lv_iconst (v := 0) hx hb dX11_wouldScore_40 (by decide) ?_
      refine lv_istore (lv' := [(4, .int 0), (3, .ref y41), (0, .ref p0), (1, .int p1), (2, .int p2)]) hx hb dX11_wouldScore_41 hl (by decide) rfl (fun ls hl => ?_)
      exact hb_43 p0 p1 p2 y41 g48 0 h _ _ _ hc (lv_sub hl [2, 3, 4, 1, 0] rfl)
    · have h := h.1 c40
      exact hb_21 g32 p0 h _ _ _ hc (lv_sub hl [0] rfl)
def b_X11_waste_67 (g : gS) (ds0 : UInt64) (Q : UInt64 → gS → Prop) : Prop :=
  Q ds0 g
def b_X11_waste_46 (g : gS) (r0 : Nat) (i1 : Int32) (i3 : Int32) (is0 : Int32) (is1 : Int32) (Q : UInt64 → gS → Prop) (k14 : Int32 → Int32 → Prop) : Prop :=
  k14 (is0 + is1) (i3 + 1)
def b_X11_waste_45 (g : gS) (r0 : Nat) (i1 : Int32) (i3 : Int32) (is0 : Int32) (Q : UInt64 → gS → Prop) (k14 : Int32 → Int32 → Prop) : Prop :=
  b_X11_waste_46 g r0 i1 i3 is0 0 Q k14
def l_X11_waste_14 (g : gS) (r0 : Nat) (i1 : Int32) (Q : UInt64 → gS → Prop) (i2 : Int32) (i3 : Int32) (k14 : Int32 → Int32 → Prop) : Prop :=
  gK g r0 = 12 ∧ (((gI g r0 1) ≤ i3 → ((i1 = 0 → (b_X11_waste_67 g (0 : UInt64) Q)) ∧ (¬ i1 = 0 → (vf_n64 (FP.ddiv (FP.i2d i2) (FP.i2d i1)) ∧ (b_X11_waste_67 g (FP.ddiv (FP.i2d i2) (FP.i2d i1)) Q))))) ∧ (¬ (gI g r0 1) ≤ i3 → (∃ y5, gR g r0 6 = some y5 ∧ (gK g y5 = 22 ∧ (vp_in i3 (gN g y5) ∧ (((gI g y5 (Int32.toNatClampNeg i3)) = 0 → (b_X11_waste_45 g r0 i1 i3 i2 Q k14)) ∧ (¬ (gI g y5 (Int32.toNatClampNeg i3)) = 0 → (∃ y10, gR g r0 5 = some y10 ∧ (gK g y10 = 22 ∧ (vp_in i3 (gN g y10) ∧ (((gI g y10 (Int32.toNatClampNeg i3)) = 0 → (b_X11_waste_45 g r0 i1 i3 i2 Q k14)) ∧ (¬ (gI g y10 (Int32.toNatClampNeg i3)) = 0 → (b_X11_waste_46 g r0 i1 i3 i2 1 Q k14)))))))))))))
def w_X11_waste (g0 : gS) (p0 : Nat) (Q : UInt64 → gS → Prop) : Prop :=
  gK g0 p0 = 12 ∧ (∀ g16, g16 = sU g0 p0 0 0 → (gK g16 p0 = 12 ∧ (w_X11_lying g16 p0 (fun x19 g20 => (lpx2 (l_X11_waste_14 g20 p0 x19 Q) 0 0)))))
abbrev r_X11_waste : Room := { frames := 3, cells := 0, slots := 0, locals := 69 }
set_option maxHeartbeats 4000000 in
set_option maxRecDepth 100000 in
theorem c_X11_waste {l : Launch} {D : va_G} {cA : Nat → ClassId} {sz : Nat} {g0 : gS} {p0 : Nat} {Q : UInt64 → gS → Prop} (h : w_X11_waste g0 p0 Q) : Met l yX11_waste wsX11_waste r_X11_waste (va_Pc [.ref p0] (gPre D cA g0 sz)) (gQd D cA g0 sz (Q)) 0 0 (gA g0 sz) := by
  refine g_met (cc := cX11_waste) (maxL := 4) (ret := (some .double)) (own := RX11) (by decide) rfl rfl (Nat.le_of_ble_eq_true rfl) ?_
  intro p e s m args below meth c ls CF hr hlk hnm hc hl
  obtain ⟨hx, hb, hml, hown, hts⟩ := id CF
  have hl : lv_has ls 4 [(0, .ref p0)] := hl
  show W p l e r_X11_waste s m args below meth c s.heap [] 0 0 (MQ below (gQd D cA g0 sz (Q)) args s 0 0 (gA g0 sz)) (F0 m 0 ls [])
  have hb_67 : ∀ (g : gS) (ds0 : UInt64), b_X11_waste_67 g ds0 Q → ∀ (H : Heap) (locs : List Loc) (ls : Array Slot), gC D cA (gA g0 sz) s g H locs → lv_has ls 4 [] → W p l e r_X11_waste s m args below meth c H locs 0 0 (MQ below (gQd D cA g0 sz (Q)) args s 0 0 (gA g0 sz)) (F0 m 67 ls [.double ds0]) := by
    intro g ds0 h H locs ls hc hl
    unfold b_X11_waste_67 at h
    exact g_retd (r := ds0) CF hr hlk hc h dX11_waste_67
  have hb_14 : ∀ (g : gS) (r0 : Nat) (i1 : Int32), ∀ (i2 : Int32) (i3 : Int32), lpx2 (l_X11_waste_14 g r0 i1 Q) i2 i3 → ∀ (H : Heap) (locs : List Loc) (ls : Array Slot), gC D cA (gA g0 sz) s g H locs → lv_has ls 4 [(0, .ref r0), (1, .int i1), (2, .int i2), (3, .int i3)] → W p l e r_X11_waste s m args below meth c H locs 0 0 (MQ below (gQd D cA g0 sz (Q)) args s 0 0 (gA g0 sz)) (F0 m 14 ls []) := by
    intro g r0 i1
    refine lpx2_run (P := fun (i2 : Int32) (i3 : Int32) => ∀ (H : Heap) (locs : List Loc) (ls : Array Slot), gC D cA (gA g0 sz) s g H locs → lv_has ls 4 [(0, .ref r0), (1, .int i1), (2, .int i2), (3, .int i3)] → W p l e r_X11_waste s m args below meth c H locs 0 0 (MQ below (gQd D cA g0 sz (Q)) args s 0 0 (gA g0 sz)) (F0 m 14 ls [])) ?_
    intro k14 hk_14 i2 i3 h H locs ls hc hl
    have hb_46 : ∀ (i3 : Int32) (is0 : Int32) (is1 : Int32), b_X11_waste_46 g r0 i1 i3 is0 is1 Q k14 → ∀ (H : Heap) (locs : List Loc) (ls : Array Slot), gC D cA (gA g0 sz) s g H locs → lv_has ls 4 [(0, .ref r0), (1, .int i1), (3, .int i3)] → W p l e r_X11_waste s m args below meth c H locs 0 0 (MQ below (gQd D cA g0 sz (Q)) args s 0 0 (gA g0 sz)) (F0 m 46 ls [.int is1, .int is0]) := by
      intro i3 is0 is1 h H locs ls hc hl
      unfold b_X11_waste_46 at h
      refine lv_iadd hx hb dX11_waste_46 ?_
      refine lv_istore_n (lv' := [(2, .int (is0 + is1)), (0, .ref r0), (1, .int i1), (3, .int i3)]) hx hb dX11_waste_47 rfl hl (by decide) rfl (fun ls hl => ?_)
      refine lv_iinc (v := (i3 + 1)) (lv' := [(3, .int (i3 + 1)), (2, .int (is0 + is1)), (0, .ref r0), (1, .int i1)]) hx hb dX11_waste_48 hl (k := 3) rfl rfl (by decide) rfl (fun ls hl => ?_)
      refine lv_goto (tgt := 14) hx hb dX11_waste_51 (by decide) ?_
      exact hk_14 (is0 + is1) (i3 + 1) h _ _ _ hc (lv_sub hl [2, 3, 1, 0] rfl)
    have hb_45 : ∀ (i3 : Int32) (is0 : Int32), b_X11_waste_45 g r0 i1 i3 is0 Q k14 → ∀ (H : Heap) (locs : List Loc) (ls : Array Slot), gC D cA (gA g0 sz) s g H locs → lv_has ls 4 [(0, .ref r0), (1, .int i1), (3, .int i3)] → W p l e r_X11_waste s m args below meth c H locs 0 0 (MQ below (gQd D cA g0 sz (Q)) args s 0 0 (gA g0 sz)) (F0 m 45 ls [.int is0]) := by
      intro i3 is0 h H locs ls hc hl
      unfold b_X11_waste_45 at h
      refine lv_iconst (v := 0) hx hb dX11_waste_45 (by decide) ?_
      exact hb_46 i3 is0 0 h _ _ _ hc (lv_sub hl [0, 1, 2] rfl)
    unfold l_X11_waste_14 at h
    refine lv_iload_n hx hb dX11_waste_14 rfl (lv_at hl 3 rfl) ?_
    refine lv_aload_n hx hb dX11_waste_15 rfl (lv_at hl 0 rfl) ?_
    obtain ⟨hk1, h⟩ := h
    refine g_get CF hc hk1 rfl (by decide) (fun _ h9 => List.mem_cons_of_mem _ (List.mem_append_right _ (h9))) (k := 1) (by decide) (List.mem_cons_of_mem _ (List.mem_append_left _ (List.mem_append_left _ (List.mem_of_getElem? (i := 1) rfl)))) rfl dX11_waste_16 ?_
    refine lv_icmp_ge (tgt := 54) hx hb dX11_waste_19 (by decide) (fun c2 => ?_) (fun c2 => ?_)
    · have h := h.1 c2
      refine lv_iload_n hx hb dX11_waste_54 rfl (lv_at hl 1 rfl) ?_
      refine lv_if_ne (tgt := 62) hx hb dX11_waste_55 (by decide) (fun c3 => ?_) (fun c3 => ?_)
      · have h := h.2 c3
        refine lv_iload_n hx hb dX11_waste_62 rfl (lv_at hl 2 rfl) ?_
        refine lv_i2d hx hb dX11_waste_63 ?_
        refine lv_iload_n hx hb dX11_waste_64 rfl (lv_at hl 1 rfl) ?_
        refine lv_i2d hx hb dX11_waste_65 ?_
        obtain ⟨hz4, h⟩ := h
        refine lv_ddiv hx hb dX11_waste_66 hz4 ?_
        exact hb_67 g (FP.ddiv (FP.i2d i2) (FP.i2d i1)) h _ _ _ hc (lv_sub hl [] rfl)
      · have h := h.1 c3
        refine lv_dconst0 hx hb dX11_waste_58 ?_
        refine lv_goto (tgt := 67) hx hb dX11_waste_59 (by decide) ?_
        exact hb_67 g (0 : UInt64) h _ _ _ hc (lv_sub hl [] rfl)
    · have h := h.2 c2
      refine lv_iload_n hx hb dX11_waste_22 rfl (lv_at hl 2 rfl) ?_
      refine lv_aload_n hx hb dX11_waste_23 rfl (lv_at hl 0 rfl) ?_
      obtain ⟨y5, e6, h⟩ := h
      refine g_getr CF hc hk1 rfl (by decide) (fun _ h9 => List.mem_cons_of_mem _ (List.mem_append_right _ (h9))) (k := 6) (by decide) (List.mem_cons_of_mem _ (List.mem_append_left _ (List.mem_append_left _ (List.mem_of_getElem? (i := 2) rfl)))) e6 rfl dX11_waste_24 ?_
      refine lv_iload_n hx hb dX11_waste_27 rfl (lv_at hl 3 rfl) ?_
      obtain ⟨hk7, h⟩ := h
      obtain ⟨hi8, h⟩ := h
      refine g_zald CF hc hk7 hi8 dX11_waste_28 ?_
      refine lv_if_eq (tgt := 45) hx hb dX11_waste_29 (by decide) (fun c9 => ?_) (fun c9 => ?_)
      · have h := h.1 c9
        exact hb_45 i3 i2 h _ _ _ hc (lv_sub hl [0, 1, 3] rfl)
      · have h := h.2 c9
        refine lv_aload_n hx hb dX11_waste_32 rfl (lv_at hl 0 rfl) ?_
        obtain ⟨y10, e11, h⟩ := h
        refine g_getr CF hc hk1 rfl (by decide) (fun _ h9 => List.mem_cons_of_mem _ (List.mem_append_right _ (h9))) (k := 5) (by decide) (List.mem_cons_of_mem _ (List.mem_append_left _ (List.mem_append_left _ (List.mem_of_getElem? (i := 3) rfl)))) e11 rfl dX11_waste_33 ?_
        refine lv_iload_n hx hb dX11_waste_36 rfl (lv_at hl 3 rfl) ?_
        obtain ⟨hk12, h⟩ := h
        obtain ⟨hi13, h⟩ := h
        refine g_zald CF hc hk12 hi13 dX11_waste_37 ?_
        refine lv_if_eq (tgt := 45) hx hb dX11_waste_38 (by decide) (fun c14 => ?_) (fun c14 => ?_)
        · have h := h.1 c14
          exact hb_45 i3 i2 h _ _ _ hc (lv_sub hl [0, 1, 3] rfl)
        · have h := h.2 c14
          refine lv_iconst (v := 1) hx hb dX11_waste_41 (by decide) ?_
          refine lv_goto (tgt := 46) hx hb dX11_waste_42 (by decide) ?_
          exact hb_46 i3 i2 1 h _ _ _ hc (lv_sub hl [0, 1, 3] rfl)
  unfold w_X11_waste at h
  obtain ⟨H, hH0⟩ : ∃ z, z = s.heap := ⟨_, rfl⟩
  rw [← hH0] at hc ⊢
  obtain ⟨locs, hlc0⟩ : ∃ z : List Loc, z = [] := ⟨_, rfl⟩
  rw [← hlc0] at hc ⊢
  refine lv_aload_n hx hb dX11_waste_0 rfl (lv_at hl 0 rfl) ?_
  refine lv_iconst (v := 0) hx hb dX11_waste_1 (by decide) ?_
  obtain ⟨hk15, h⟩ := h
  refine g_puti CF hc hk15 rfl (by decide) (fun _ h9 => List.mem_cons_of_mem _ (List.mem_append_right _ (h9))) tyX11 tyX11_ok nmX11 (k := 0) (by decide) (List.mem_cons_of_mem _ (List.mem_append_left _ (List.mem_append_left _ (List.mem_of_getElem? (i := 0) rfl)))) rfl (v := 0) rfl rfl rfl dX11_waste_2 (fun H locs hc => ?_)
  obtain ⟨g16, eg17⟩ : ∃ z, z = sU g0 p0 0 0 := ⟨_, rfl⟩
  have hc : gC D cA (gA g0 sz) s g16 H locs := by rw [eg17]; exact hc
  replace h := h g16 eg17
  refine lv_aload_n hx hb dX11_waste_5 rfl (lv_at hl 0 rfl) ?_
  obtain ⟨hk18, h⟩ := h
  refine g_calli (va_runV (As := []) (rest := []) CF (c_X11_lying h) (cwV 0 hts gX11_waste_X11_lying rfl rfl rfl (by decide +kernel) ⟨Nat.le_of_ble_eq_true rfl, Nat.le_of_ble_eq_true rfl⟩) (hc.preV hk18 rfl (by decide)) rfl rfl hl.1 rfl (lv_room (Nat.le_of_ble_eq_true rfl)) dX11_waste_6 ⟨Nat.le_of_ble_eq_true rfl, Nat.le_of_ble_eq_true rfl⟩) hc (fun x19 g20 H locs hq hc => ?_)
  replace h := hq
  refine lv_istore_n (lv' := [(1, .int x19), (0, .ref p0)]) hx hb dX11_waste_9 rfl hl (by decide) rfl (fun ls hl => ?_)
  refine lv_iconst (v := 0) hx hb dX11_waste_10 (by decide) ?_
  refine lv_istore_n (lv' := [(2, .int 0), (1, .int x19), (0, .ref p0)]) hx hb dX11_waste_11 rfl hl (by decide) rfl (fun ls hl => ?_)
  refine lv_iconst (v := 0) hx hb dX11_waste_12 (by decide) ?_
  refine lv_istore_n (lv' := [(3, .int 0), (2, .int 0), (1, .int x19), (0, .ref p0)]) hx hb dX11_waste_13 rfl hl (by decide) rfl (fun ls hl => ?_)
  exact hb_14 g20 p0 x19 0 0 h _ _ _ hc (lv_sub hl [3, 2, 1, 0] rfl)
