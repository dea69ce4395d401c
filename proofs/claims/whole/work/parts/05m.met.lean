def b_X11_search_169 (g : gS) (r0 : Nat) (i1 : Int32) (i2 : Int32) (Q : Int32 → gS → Prop) (k26 : gS → Int32 → Prop) : Prop :=
  k26 g (i2 + 1)
def b_X11_search_153 (g : gS) (r0 : Nat) (i1 : Int32) (i2 : Int32) (i3 : Int32) (i4 : Int32) (Q : Int32 → gS → Prop) (k26 : gS → Int32 → Prop) : Prop :=
  gK g r0 = 12 ∧ (∃ y2, gR g r0 23 = some y2 ∧ (gK g y2 = 21 ∧ (vp_in i4 (gN g y2) ∧ (∀ g6, g6 = sU g y2 (Int32.toNatClampNeg i4) i2 → (gK g6 r0 = 12 ∧ (∃ y9, gR g6 r0 24 = some y9 ∧ (gK g6 y9 = 21 ∧ (vp_in i4 (gN g6 y9) ∧ (∀ g13, g13 = sU g6 y9 (Int32.toNatClampNeg i4) i3 → (b_X11_search_169 g13 r0 i1 i2 Q k26))))))))))
def b_X11_search_115 (g : gS) (r0 : Nat) (i1 : Int32) (i2 : Int32) (i3 : Int32) (i4 : Int32) (Q : Int32 → gS → Prop) (k26 : gS → Int32 → Prop) (k61 : gS → Int32 → Prop) : Prop :=
  gK g r0 = 12 ∧ (∃ y16, gR g r0 23 = some y16 ∧ (∃ y18, gR g r0 23 = some y18 ∧ (gK g y18 = 21 ∧ (vp_in (i4 - 1) (gN g y18) ∧ (gK g y16 = 21 ∧ (vp_in i4 (gN g y16) ∧ (∀ g24, g24 = sU g y16 (Int32.toNatClampNeg i4) (gI g y18 (Int32.toNatClampNeg (i4 - 1))) → (gK g24 r0 = 12 ∧ (∃ y27, gR g24 r0 24 = some y27 ∧ (∃ y29, gR g24 r0 24 = some y29 ∧ (gK g24 y29 = 21 ∧ (vp_in (i4 - 1) (gN g24 y29) ∧ (gK g24 y27 = 21 ∧ (vp_in i4 (gN g24 y27) ∧ (∀ g35, g35 = sU g24 y27 (Int32.toNatClampNeg i4) (gI g24 y29 (Int32.toNatClampNeg (i4 - 1))) → (k61 g35 (i4 + (-1))))))))))))))))))
def l_X11_search_61 (r0 : Nat) (i1 : Int32) (i2 : Int32) (i3 : Int32) (Q : Int32 → gS → Prop) (k26 : gS → Int32 → Prop) (g : gS) (i4 : Int32) (k61 : gS → Int32 → Prop) : Prop :=
  (i4 ≤ 0 → (b_X11_search_153 g r0 i1 i2 i3 i4 Q k26)) ∧ (¬ i4 ≤ 0 → (gK g r0 = 12 ∧ (∃ y39, gR g r0 24 = some y39 ∧ (gK g y39 = 21 ∧ (vp_in (i4 - 1) (gN g y39) ∧ (((gI g y39 (Int32.toNatClampNeg (i4 - 1))) < i3 → (b_X11_search_115 g r0 i1 i2 i3 i4 Q k26 k61)) ∧ (¬ (gI g y39 (Int32.toNatClampNeg (i4 - 1))) < i3 → (∃ y44, gR g r0 24 = some y44 ∧ (gK g y44 = 21 ∧ (vp_in (i4 - 1) (gN g y44) ∧ ((i3 = (gI g y44 (Int32.toNatClampNeg (i4 - 1))) → (∃ y49, gR g r0 3 = some y49 ∧ (gK g y49 = 21 ∧ (vp_in i2 (gN g y49) ∧ (∃ y53, gR g r0 3 = some y53 ∧ (∃ y55, gR g r0 23 = some y55 ∧ (gK g y55 = 21 ∧ (vp_in (i4 - 1) (gN g y55) ∧ (gK g y53 = 21 ∧ (vp_in (gI g y55 (Int32.toNatClampNeg (i4 - 1))) (gN g y53) ∧ (((gI g y49 (Int32.toNatClampNeg i2)) ≤ (gI g y53 (Int32.toNatClampNeg (gI g y55 (Int32.toNatClampNeg (i4 - 1))))) → (b_X11_search_153 g r0 i1 i2 i3 i4 Q k26)) ∧ (¬ (gI g y49 (Int32.toNatClampNeg i2)) ≤ (gI g y53 (Int32.toNatClampNeg (gI g y55 (Int32.toNatClampNeg (i4 - 1))))) → (b_X11_search_115 g r0 i1 i2 i3 i4 Q k26 k61))))))))))))) ∧ (¬ i3 = (gI g y44 (Int32.toNatClampNeg (i4 - 1))) → (b_X11_search_153 g r0 i1 i2 i3 i4 Q k26)))))))))))))
def l_X11_search_26 (r0 : Nat) (i1 : Int32) (Q : Int32 → gS → Prop) (g : gS) (i2 : Int32) (k26 : gS → Int32 → Prop) : Prop :=
  gK g r0 = 12 ∧ (((gI g r0 1) ≤ i2 → (Q (gI g r0 22) g)) ∧ (¬ (gI g r0 1) ≤ i2 → (w_X11_scoreNow g r0 i1 i2 (fun x64 g65 => ((0 ≤ x64 → (gK g65 r0 = 12 ∧ (∀ g69, g69 = sU g65 r0 22 ((gI g65 r0 22) + 1) → (lpx2 (l_X11_search_61 r0 i1 i2 x64 Q k26) g69 (gI g65 r0 22))))) ∧ (¬ 0 ≤ x64 → (b_X11_search_169 g65 r0 i1 i2 Q k26)))))))
def w_X11_search (g0 : gS) (p0 : Nat) (p1 : Int32) (Q : Int32 → gS → Prop) : Prop :=
  gK g0 p0 = 12 ∧ (∀ g72, g72 = sU g0 p0 0 0 → (gK g72 p0 = 12 ∧ (w_X11_isNode g72 p0 p1 (fun x75 => ((x75 = 0 → (w_X11_no g72 p0 1 (fun x80 g81 => (Q x80 g81)))) ∧ (¬ x75 = 0 → (∀ g78, g78 = sU g72 p0 22 0 → (lpx2 (l_X11_search_26 p0 p1 Q) g78 0))))))))
abbrev r_X11_search : Room := { frames := 8, cells := 0, slots := 0, locals := 190 }
set_option maxHeartbeats 4000000 in
set_option maxRecDepth 100000 in
theorem c_X11_search {l : Launch} {D : va_G} {cA : Nat → ClassId} {sz : Nat} {g0 : gS} {p0 : Nat} {p1 : Int32} {Q : Int32 → gS → Prop} (h : w_X11_search g0 p0 p1 Q) : Met l yX11_search wsX11_search r_X11_search (va_Pc [.ref p0, .int p1] (gPre D cA g0 sz)) (gQi D cA g0 sz (Q)) 0 0 (gA g0 sz) := by
  refine g_met (cc := cX11_search) (maxL := 5) (ret := (some .int)) (own := RX11) (by decide) rfl rfl (Nat.le_of_ble_eq_true rfl) ?_
  intro p e s m args below meth c ls CF hr hlk hnm hc hl
  obtain ⟨hx, hb, hml, hown, hts⟩ := id CF
  have hl : lv_has ls 5 [(0, .ref p0), (1, .int p1)] := hl
  show W p l e r_X11_search s m args below meth c s.heap [] 0 0 (MQ below (gQi D cA g0 sz (Q)) args s 0 0 (gA g0 sz)) (F0 m 0 ls [])
  have hb_26 : ∀ (r0 : Nat) (i1 : Int32), ∀ (g : gS) (i2 : Int32), lpx2 (l_X11_search_26 r0 i1 Q) g i2 → ∀ (H : Heap) (locs : List Loc) (ls : Array Slot), gC D cA (gA g0 sz) s g H locs → lv_has ls 5 [(0, .ref r0), (1, .int i1), (2, .int i2)] → W p l e r_X11_search s m args below meth c H locs 0 0 (MQ below (gQi D cA g0 sz (Q)) args s 0 0 (gA g0 sz)) (F0 m 26 ls []) := by
    intro r0 i1
    refine lpx2_run (P := fun (g : gS) (i2 : Int32) => ∀ (H : Heap) (locs : List Loc) (ls : Array Slot), gC D cA (gA g0 sz) s g H locs → lv_has ls 5 [(0, .ref r0), (1, .int i1), (2, .int i2)] → W p l e r_X11_search s m args below meth c H locs 0 0 (MQ below (gQi D cA g0 sz (Q)) args s 0 0 (gA g0 sz)) (F0 m 26 ls [])) ?_
    intro k26 hk_26 g i2 h H locs ls hc hl
    have hb_169 : ∀ (g : gS) (i2 : Int32), b_X11_search_169 g r0 i1 i2 Q k26 → ∀ (H : Heap) (locs : List Loc) (ls : Array Slot), gC D cA (gA g0 sz) s g H locs → lv_has ls 5 [(0, .ref r0), (1, .int i1), (2, .int i2)] → W p l e r_X11_search s m args below meth c H locs 0 0 (MQ below (gQi D cA g0 sz (Q)) args s 0 0 (gA g0 sz)) (F0 m 169 ls []) := by
      intro g i2 h H locs ls hc hl
      unfold b_X11_search_169 at h
      refine lv_iinc (v := (i2 + 1)) (lv' := [(2, .int (i2 + 1)), (0, .ref r0), (1, .int i1)]) hx hb dX11_search_169 hl (k := 2) rfl rfl (by decide) rfl (fun ls hl => ?_)
      refine lv_goto (tgt := 26) hx hb dX11_search_172 (by decide) ?_
      exact hk_26 g (i2 + 1) h _ _ _ hc (lv_sub hl [1, 2, 0] rfl)
    have hb_153 : ∀ (g : gS) (i2 : Int32) (i3 : Int32) (i4 : Int32), b_X11_search_153 g r0 i1 i2 i3 i4 Q k26 → ∀ (H : Heap) (locs : List Loc) (ls : Array Slot), gC D cA (gA g0 sz) s g H locs → lv_has ls 5 [(0, .ref r0), (1, .int i1), (2, .int i2), (3, .int i3), (4, .int i4)] → W p l e r_X11_search s m args below meth c H locs 0 0 (MQ below (gQi D cA g0 sz (Q)) args s 0 0 (gA g0 sz)) (F0 m 153 ls []) := by
      intro g i2 i3 i4 h H locs ls hc hl
      unfold b_X11_search_153 at h
      refine lv_aload_n hx hb dX11_search_153 rfl (lv_at hl 0 rfl) ?_
      obtain ⟨hk1, h⟩ := h
      obtain ⟨y2, e3, h⟩ := h
      refine g_getr CF hc hk1 rfl (by decide) (fun _ h9 => List.mem_cons_of_mem _ (List.mem_append_right _ (h9))) (k := 23) (by decide) (List.mem_cons_of_mem _ (List.mem_append_left _ (List.mem_append_left _ (List.mem_of_getElem? (i := 5) rfl)))) e3 rfl dX11_search_154 ?_
      refine lv_iload hx hb dX11_search_157 (lv_at hl 4 rfl) ?_
      refine lv_iload_n hx hb dX11_search_159 rfl (lv_at hl 2 rfl) ?_
      obtain ⟨hk4, h⟩ := h
      obtain ⟨hi5, h⟩ := h
      refine g_iast CF hc hk4 (x := i2) hi5 dX11_search_160 (fun H locs hc => ?_)
      obtain ⟨g6, eg7⟩ : ∃ z, z = sU g y2 (Int32.toNatClampNeg i4) i2 := ⟨_, rfl⟩
      have hc : gC D cA (gA g0 sz) s g6 H locs := by rw [eg7]; exact hc
      replace h := h g6 eg7
      refine lv_aload_n hx hb dX11_search_161 rfl (lv_at hl 0 rfl) ?_
      obtain ⟨hk8, h⟩ := h
      obtain ⟨y9, e10, h⟩ := h
      refine g_getr CF hc hk8 rfl (by decide) (fun _ h9 => List.mem_cons_of_mem _ (List.mem_append_right _ (h9))) (k := 24) (by decide) (List.mem_cons_of_mem _ (List.mem_append_left _ (List.mem_append_left _ (List.mem_of_getElem? (i := 3) rfl)))) e10 rfl dX11_search_162 ?_
      refine lv_iload hx hb dX11_search_165 (lv_at hl 4 rfl) ?_
      refine lv_iload_n hx hb dX11_search_167 rfl (lv_at hl 3 rfl) ?_
      obtain ⟨hk11, h⟩ := h
      obtain ⟨hi12, h⟩ := h
      refine g_iast CF hc hk11 (x := i3) hi12 dX11_search_168 (fun H locs hc => ?_)
      obtain ⟨g13, eg14⟩ : ∃ z, z = sU g6 y9 (Int32.toNatClampNeg i4) i3 := ⟨_, rfl⟩
      have hc : gC D cA (gA g0 sz) s g13 H locs := by rw [eg14]; exact hc
      replace h := h g13 eg14
      exact hb_169 g13 i2 h _ _ _ hc (lv_sub hl [0, 1, 2] rfl)
    have hb_61 : ∀ (i2 : Int32) (i3 : Int32), ∀ (g : gS) (i4 : Int32), lpx2 (l_X11_search_61 r0 i1 i2 i3 Q k26) g i4 → ∀ (H : Heap) (locs : List Loc) (ls : Array Slot), gC D cA (gA g0 sz) s g H locs → lv_has ls 5 [(0, .ref r0), (1, .int i1), (2, .int i2), (3, .int i3), (4, .int i4)] → W p l e r_X11_search s m args below meth c H locs 0 0 (MQ below (gQi D cA g0 sz (Q)) args s 0 0 (gA g0 sz)) (F0 m 61 ls []) := by
      intro i2 i3
      refine lpx2_run (P := fun (g : gS) (i4 : Int32) => ∀ (H : Heap) (locs : List Loc) (ls : Array Slot), gC D cA (gA g0 sz) s g H locs → lv_has ls 5 [(0, .ref r0), (1, .int i1), (2, .int i2), (3, .int i3), (4, .int i4)] → W p l e r_X11_search s m args below meth c H locs 0 0 (MQ below (gQi D cA g0 sz (Q)) args s 0 0 (gA g0 sz)) (F0 m 61 ls [])) ?_
      intro k61 hk_61 g i4 h H locs ls hc hl
      have hb_115 : ∀ (g : gS) (i4 : Int32), b_X11_search_115 g r0 i1 i2 i3 i4 Q k26 k61 → ∀ (H : Heap) (locs : List Loc) (ls : Array Slot), gC D cA (gA g0 sz) s g H locs → lv_has ls 5 [(0, .ref r0), (1, .int i1), (2, .int i2), (3, .int i3), (4, .int i4)] → W p l e r_X11_search s m args below meth c H locs 0 0 (MQ below (gQi D cA g0 sz (Q)) args s 0 0 (gA g0 sz)) (F0 m 115 ls []) := by
        intro g i4 h H locs ls hc hl
        unfold b_X11_search_115 at h
        refine lv_aload_n hx hb dX11_search_115 rfl (lv_at hl 0 rfl) ?_
        obtain ⟨hk15, h⟩ := h
        obtain ⟨y16, e17, h⟩ := h
        refine g_getr CF hc hk15 rfl (by decide) (fun _ h9 => List.mem_cons_of_mem _ (List.mem_append_right _ (h9))) (k := 23) (by decide) (List.mem_cons_of_mem _ (List.mem_append_left _ (List.mem_append_left _ (List.mem_of_getElem? (i := 5) rfl)))) e17 rfl dX11_search_116 ?_
        refine lv_iload hx hb dX11_search_119 (lv_at hl 4 rfl) ?_
        refine lv_aload_n hx hb dX11_search_121 rfl (lv_at hl 0 rfl) ?_
        obtain ⟨y18, e19, h⟩ := h
        refine g_getr CF hc hk15 rfl (by decide) (fun _ h9 => List.mem_cons_of_mem _ (List.mem_append_right _ (h9))) (k := 23) (by decide) (List.mem_cons_of_mem _ (List.mem_append_left _ (List.mem_append_left _ (List.mem_of_getElem? (i := 5) rfl)))) e19 rfl dX11_search_122 ?_
        refine lv_iload hx hb dX11_search_125 (lv_at hl 4 rfl) ?_
        refine lv_iconst (v := 1) hx hb dX11_search_127 (by decide) ?_
        refine lv_isub hx hb dX11_search_128 ?_
        obtain ⟨hk20, h⟩ := h
        obtain ⟨hi21, h⟩ := h
        refine g_iald CF hc hk20 hi21 dX11_search_129 ?_
        obtain ⟨hk22, h⟩ := h
        obtain ⟨hi23, h⟩ := h
        refine g_iast CF hc hk22 (x := (gI g y18 (Int32.toNatClampNeg (i4 - 1)))) hi23 dX11_search_130 (fun H locs hc => ?_)
        obtain ⟨g24, eg25⟩ : ∃ z, z = sU g y16 (Int32.toNatClampNeg i4) (gI g y18 (Int32.toNatClampNeg (i4 - 1))) := ⟨_, rfl⟩
        have hc : gC D cA (gA g0 sz) s g24 H locs := by rw [eg25]; exact hc
        replace h := h g24 eg25
        refine lv_aload_n hx hb dX11_search_131 rfl (lv_at hl 0 rfl) ?_
        obtain ⟨hk26, h⟩ := h
        obtain ⟨y27, e28, h⟩ := h
        refine g_getr CF hc hk26 rfl (by decide) (fun _ h9 => List.mem_cons_of_mem _ (List.mem_append_right _ (h9))) (k := 24) (by decide) (List.mem_cons_of_mem _ (List.mem_append_left _ (List.mem_append_left _ (List.mem_of_getElem? (i := 3) rfl)))) e28 rfl dX11_search_132 ?_
        refine lv_iload hx hb dX11_search_135 (lv_at hl 4 rfl) ?_
        refine lv_aload_n hx hb dX11_search_137 rfl (lv_at hl 0 rfl) ?_
        obtain ⟨y29, e30, h⟩ := h
        refine g_getr CF hc hk26 rfl (by decide) (fun _ h9 => List.mem_cons_of_mem _ (List.mem_append_right _ (h9))) (k := 24) (by decide) (List.mem_cons_of_mem _ (List.mem_append_left _ (List.mem_append_left _ (List.mem_of_getElem? (i := 3) rfl)))) e30 rfl dX11_search_138 ?_
        refine lv_iload hx hb dX11_search_141 (lv_at hl 4 rfl) ?_
        refine lv_iconst (v := 1) hx hb dX11_search_143 (by decide) ?_
        refine lv_isub hx hb dX11_search_144 ?_
        obtain ⟨hk31, h⟩ := h
        obtain ⟨hi32, h⟩ := h
        refine g_iald CF hc hk31 hi32 dX11_search_145 ?_
        obtain ⟨hk33, h⟩ := h
        obtain ⟨hi34, h⟩ := h
        refine g_iast CF hc hk33 (x := (gI g24 y29 (Int32.toNatClampNeg (i4 - 1)))) hi34 dX11_search_146 (fun H locs hc => ?_)
        obtain ⟨g35, eg36⟩ : ∃ z, z = sU g24 y27 (Int32.toNatClampNeg i4) (gI g24 y29 (Int32.toNatClampNeg (i4 - 1))) := ⟨_, rfl⟩
        have hc : gC D cA (gA g0 sz) s g35 H locs := by rw [eg36]; exact hc
        replace h := h g35 eg36
        refine lv_iinc (v := (i4 + (-1))) (lv' := [(4, .int (i4 + (-1))), (0, .ref r0), (1, .int i1), (2, .int i2), (3, .int i3)]) hx hb dX11_search_147 hl (k := 4) rfl rfl (by decide) rfl (fun ls hl => ?_)
        refine lv_goto (tgt := 61) hx hb dX11_search_150 (by decide) ?_
        exact hk_61 g35 (i4 + (-1)) h _ _ _ hc (lv_sub hl [1, 2, 3, 4, 0] rfl)
      unfold l_X11_search_61 at h
      refine lv_iload hx hb dX11_search_61 (lv_at hl 4 rfl) ?_
      refine lv_if_le (tgt := 153) hx hb dX11_search_63 (by decide) (fun c37 => ?_) (fun c37 => ?_)
      · have h := h.1 c37
        exact hb_153 g i2 i3 i4 h _ _ _ hc (lv_sub hl [0, 1, 2, 3, 4] rfl)
      · have h := h.2 c37
        refine lv_iload_n hx hb dX11_search_66 rfl (lv_at hl 3 rfl) ?_
        refine lv_aload_n hx hb dX11_search_67 rfl (lv_at hl 0 rfl) ?_
        obtain ⟨hk38, h⟩ := h
        obtain ⟨y39, e40, h⟩ := h
        refine g_getr CF hc hk38 rfl (by decide) (fun _ h9 => List.mem_cons_of_mem _ (List.mem_append_right _ (h9))) (k := 24) (by decide) (List.mem_cons_of_mem _ (List.mem_append_left _ (List.mem_append_left _ (List.mem_of_getElem? (i := 3) rfl)))) e40 rfl dX11_search_68 ?_
        refine lv_iload hx hb dX11_search_71 (lv_at hl 4 rfl) ?_
        refine lv_iconst (v := 1) hx hb dX11_search_73 (by decide) ?_
        refine lv_isub hx hb dX11_search_74 ?_
        obtain ⟨hk41, h⟩ := h
        obtain ⟨hi42, h⟩ := h
        refine g_iald CF hc hk41 hi42 dX11_search_75 ?_
        refine lv_icmp_gt (tgt := 115) hx hb dX11_search_76 (by decide) (fun c43 => ?_) (fun c43 => ?_)
        · have h := h.1 c43
          exact hb_115 g i4 h _ _ _ hc (lv_sub hl [0, 1, 2, 3, 4] rfl)
        · have h := h.2 c43
          refine lv_iload_n hx hb dX11_search_79 rfl (lv_at hl 3 rfl) ?_
          refine lv_aload_n hx hb dX11_search_80 rfl (lv_at hl 0 rfl) ?_
          obtain ⟨y44, e45, h⟩ := h
          refine g_getr CF hc hk38 rfl (by decide) (fun _ h9 => List.mem_cons_of_mem _ (List.mem_append_right _ (h9))) (k := 24) (by decide) (List.mem_cons_of_mem _ (List.mem_append_left _ (List.mem_append_left _ (List.mem_of_getElem? (i := 3) rfl)))) e45 rfl dX11_search_81 ?_
          refine lv_iload hx hb dX11_search_84 (lv_at hl 4 rfl) ?_
          refine lv_iconst (v := 1) hx hb dX11_search_86 (by decide) ?_
          refine lv_isub hx hb dX11_search_87 ?_
          obtain ⟨hk46, h⟩ := h
          obtain ⟨hi47, h⟩ := h
          refine g_iald CF hc hk46 hi47 dX11_search_88 ?_
          refine lv_icmp_ne (tgt := 153) hx hb dX11_search_89 (by decide) (fun c48 => ?_) (fun c48 => ?_)
          · have h := h.2 c48
            exact hb_153 g i2 i3 i4 h _ _ _ hc (lv_sub hl [0, 1, 2, 3, 4] rfl)
          · have h := h.1 c48
            refine lv_aload_n hx hb dX11_search_92 rfl (lv_at hl 0 rfl) ?_
            obtain ⟨y49, e50, h⟩ := h
            refine g_getr CF hc hk38 rfl (by decide) (fun _ h9 => List.mem_cons_of_mem _ (List.mem_append_right _ (h9))) (k := 3) (by decide) (List.mem_cons_of_mem _ (List.mem_append_left _ (List.mem_append_left _ (List.mem_of_getElem? (i := 4) rfl)))) e50 rfl dX11_search_93 ?_
            refine lv_iload_n hx hb dX11_search_96 rfl (lv_at hl 2 rfl) ?_
            obtain ⟨hk51, h⟩ := h
            obtain ⟨hi52, h⟩ := h
            refine g_iald CF hc hk51 hi52 dX11_search_97 ?_
            refine lv_aload_n hx hb dX11_search_98 rfl (lv_at hl 0 rfl) ?_
            obtain ⟨y53, e54, h⟩ := h
            refine g_getr CF hc hk38 rfl (by decide) (fun _ h9 => List.mem_cons_of_mem _ (List.mem_append_right _ (h9))) (k := 3) (by decide) (List.mem_cons_of_mem _ (List.mem_append_left _ (List.mem_append_left _ (List.mem_of_getElem? (i := 4) rfl)))) e54 rfl dX11_search_99 ?_
            refine lv_aload_n hx hb dX11_search_102 rfl (lv_at hl 0 rfl) ?_
            obtain ⟨y55, e56, h⟩ := h
            refine g_getr CF hc hk38 rfl (by decide) (fun _ h9 => List.mem_cons_of_mem _ (List.mem_append_right _ (h9))) (k := 23) (by decide) (List.mem_cons_of_mem _ (List.mem_append_left _ (List.mem_append_left _ (List.mem_of_getElem? (i := 5) rfl)))) e56 rfl dX11_search_103 ?_
            refine lv_iload hx hb dX11_search_106 (lv_at hl 4 rfl) ?_
            refine lv_iconst (v := 1) hx hb dX11_search_108 (by decide) ?_
            refine lv_isub hx hb dX11_search_109 ?_
            obtain ⟨hk57, h⟩ := h
            obtain ⟨hi58, h⟩ := h
            refine g_iald CF hc hk57 hi58 dX11_search_110 ?_
            obtain ⟨hk59, h⟩ := h
            obtain ⟨hi60, h⟩ := h
            refine g_iald CF hc hk59 hi60 dX11_search_111 ?_
            refine lv_icmp_le (tgt := 153) hx hb dX11_search_112 (by decide) (fun c61 => ?_) (fun c61 => ?_)
            · have h := h.1 c61
              exact hb_153 g i2 i3 i4 h _ _ _ hc (lv_sub hl [0, 1, 2, 3, 4] rfl)
            · have h := h.2 c61
              exact hb_115 g i4 h _ _ _ hc (lv_sub hl [0, 1, 2, 3, 4] rfl)
    unfold l_X11_search_26 at h
    refine lv_iload_n hx hb dX11_search_26 rfl (lv_at hl 2 rfl) ?_
    refine lv_aload_n hx hb dX11_search_27 rfl (lv_at hl 0 rfl) ?_
    obtain ⟨hk62, h⟩ := h
    refine g_get CF hc hk62 rfl (by decide) (fun _ h9 => List.mem_cons_of_mem _ (List.mem_append_right _ (h9))) (k := 1) (by decide) (List.mem_cons_of_mem _ (List.mem_append_left _ (List.mem_append_left _ (List.mem_of_getElem? (i := 2) rfl)))) rfl dX11_search_28 ?_
    refine lv_icmp_ge (tgt := 175) hx hb dX11_search_31 (by decide) (fun c63 => ?_) (fun c63 => ?_)
    · have h := h.1 c63
      refine lv_aload_n hx hb dX11_search_175 rfl (lv_at hl 0 rfl) ?_
      refine g_get CF hc hk62 rfl (by decide) (fun _ h9 => List.mem_cons_of_mem _ (List.mem_append_right _ (h9))) (k := 22) (by decide) (List.mem_cons_of_mem _ (List.mem_append_left _ (List.mem_append_left _ (List.mem_of_getElem? (i := 1) rfl)))) rfl dX11_search_176 ?_
      exact g_reti (r := (gI g r0 22)) CF hr hlk hc rfl h dX11_search_179
    · have h := h.2 c63
      refine lv_aload_n hx hb dX11_search_34 rfl (lv_at hl 0 rfl) ?_
      refine lv_iload_n hx hb dX11_search_35 rfl (lv_at hl 1 rfl) ?_
      refine lv_iload_n hx hb dX11_search_36 rfl (lv_at hl 2 rfl) ?_
      refine g_calli (va_runV (As := [.int i1, .int i2]) (rest := []) CF (c_X11_scoreNow h) (cwV 2 hts gX11_search_X11_scoreNow rfl rfl rfl (by decide +kernel) ⟨Nat.le_of_ble_eq_true rfl, Nat.le_of_ble_eq_true rfl⟩) (hc.preV hk62 rfl (by decide)) rfl rfl hl.1 rfl (lv_room (Nat.le_of_ble_eq_true rfl)) dX11_search_37 ⟨Nat.le_of_ble_eq_true rfl, Nat.le_of_ble_eq_true rfl⟩) hc (fun x64 g65 H locs hq hc => ?_)
      replace h := hq
      refine lv_istore_n (lv' := [(3, .int x64), (0, .ref r0), (1, .int i1), (2, .int i2)]) hx hb dX11_search_40 rfl hl (by decide) rfl (fun ls hl => ?_)
      refine lv_iload_n hx hb dX11_search_41 rfl (lv_at hl 0 rfl) ?_
      refine lv_if_ge (tgt := 48) hx hb dX11_search_42 (by decide) (fun c67 => ?_) (fun c67 => ?_)
      · have h := h.1 c67
        refine lv_aload_n hx hb dX11_search_48 rfl (lv_at hl 1 rfl) ?_
        refine lv_dup hx hb dX11_search_49 rfl ?_
        obtain ⟨hk68, h⟩ := h
        refine g_get CF hc hk68 rfl (by decide) (fun _ h9 => List.mem_cons_of_mem _ (List.mem_append_right _ (h9))) (k := 22) (by decide) (List.mem_cons_of_mem _ (List.mem_append_left _ (List.mem_append_left _ (List.mem_of_getElem? (i := 1) rfl)))) rfl dX11_search_50 ?_
        refine lv_dup_x1 hx hb dX11_search_53 rfl rfl ?_
        refine lv_iconst (v := 1) hx hb dX11_search_54 (by decide) ?_
        refine lv_iadd hx hb dX11_search_55 ?_
        refine g_puti CF hc hk68 rfl (by decide) (fun _ h9 => List.mem_cons_of_mem _ (List.mem_append_right _ (h9))) tyX11 tyX11_ok nmX11 (k := 22) (by decide) (List.mem_cons_of_mem _ (List.mem_append_left _ (List.mem_append_left _ (List.mem_of_getElem? (i := 1) rfl)))) rfl (v := ((gI g65 r0 22) + 1)) rfl rfl rfl dX11_search_56 (fun H locs hc => ?_)
        obtain ⟨g69, eg70⟩ : ∃ z, z = sU g65 r0 22 ((gI g65 r0 22) + 1) := ⟨_, rfl⟩
        have hc : gC D cA (gA g0 sz) s g69 H locs := by rw [eg70]; exact hc
        replace h := h g69 eg70
        refine lv_istore (lv' := [(4, .int (gI g65 r0 22)), (3, .int x64), (0, .ref r0), (1, .int i1), (2, .int i2)]) hx hb dX11_search_59 hl (by decide) rfl (fun ls hl => ?_)
        exact hb_61 i2 x64 g69 (gI g65 r0 22) h _ _ _ hc (lv_sub hl [2, 3, 4, 1, 0] rfl)
      · have h := h.2 c67
        refine lv_goto (tgt := 169) hx hb dX11_search_45 (by decide) ?_
        exact hb_169 g65 i2 h _ _ _ hc (lv_sub hl [1, 2, 3] rfl)
  unfold w_X11_search at h
  obtain ⟨H, hH0⟩ : ∃ z, z = s.heap := ⟨_, rfl⟩
  rw [← hH0] at hc ⊢
  obtain ⟨locs, hlc0⟩ : ∃ z : List Loc, z = [] := ⟨_, rfl⟩
  rw [← hlc0] at hc ⊢
  refine lv_aload_n hx hb dX11_search_0 rfl (lv_at hl 0 rfl) ?_
  refine lv_iconst (v := 0) hx hb dX11_search_1 (by decide) ?_
  obtain ⟨hk71, h⟩ := h
  refine g_puti CF hc hk71 rfl (by decide) (fun _ h9 => List.mem_cons_of_mem _ (List.mem_append_right _ (h9))) tyX11 tyX11_ok nmX11 (k := 0) (by decide) (List.mem_cons_of_mem _ (List.mem_append_left _ (List.mem_append_left _ (List.mem_of_getElem? (i := 0) rfl)))) rfl (v := 0) rfl rfl rfl dX11_search_2 (fun H locs hc => ?_)
  obtain ⟨g72, eg73⟩ : ∃ z, z = sU g0 p0 0 0 := ⟨_, rfl⟩
  have hc : gC D cA (gA g0 sz) s g72 H locs := by rw [eg73]; exact hc
  replace h := h g72 eg73
  refine lv_aload_n hx hb dX11_search_5 rfl (lv_at hl 0 rfl) ?_
  refine lv_iload_n hx hb dX11_search_6 rfl (lv_at hl 1 rfl) ?_
  obtain ⟨hk74, h⟩ := h
  refine g_calli (va_runV (As := [.int p1]) (rest := []) CF (c_X11_isNode h) (cwV 1 hts gX11_search_X11_isNode rfl rfl rfl (by decide +kernel) ⟨Nat.le_of_ble_eq_true rfl, Nat.le_of_ble_eq_true rfl⟩) (hc.preV hk74 rfl (by decide)) rfl rfl hl.1 rfl (lv_room (Nat.le_of_ble_eq_true rfl)) dX11_search_7 ⟨Nat.le_of_ble_eq_true rfl, Nat.le_of_ble_eq_true rfl⟩) hc (fun x75 gq76 H locs hq hc => ?_)
  obtain ⟨rfl, h⟩ := hq
  refine lv_if_ne (tgt := 19) hx hb dX11_search_10 (by decide) (fun c77 => ?_) (fun c77 => ?_)
  · have h := h.2 c77
    refine lv_aload_n hx hb dX11_search_19 rfl (lv_at hl 0 rfl) ?_
    refine lv_iconst (v := 0) hx hb dX11_search_20 (by decide) ?_
    refine g_puti CF hc hk74 rfl (by decide) (fun _ h9 => List.mem_cons_of_mem _ (List.mem_append_right _ (h9))) tyX11 tyX11_ok nmX11 (k := 22) (by decide) (List.mem_cons_of_mem _ (List.mem_append_left _ (List.mem_append_left _ (List.mem_of_getElem? (i := 1) rfl)))) rfl (v := 0) rfl rfl rfl dX11_search_21 (fun H locs hc => ?_)
    obtain ⟨g78, eg79⟩ : ∃ z, z = sU g72 p0 22 0 := ⟨_, rfl⟩
    have hc : gC D cA (gA g0 sz) s g78 H locs := by rw [eg79]; exact hc
    replace h := h g78 eg79
    refine lv_iconst (v := 0) hx hb dX11_search_24 (by decide) ?_
    refine lv_istore_n (lv' := [(2, .int 0), (0, .ref p0), (1, .int p1)]) hx hb dX11_search_25 rfl hl (by decide) rfl (fun ls hl => ?_)
    exact hb_26 p0 p1 g78 0 h _ _ _ hc (lv_sub hl [1, 2, 0] rfl)
  · have h := h.1 c77
    refine lv_aload_n hx hb dX11_search_13 rfl (lv_at hl 0 rfl) ?_
    refine lv_iconst (v := 1) hx hb dX11_search_14 (by decide) ?_
    refine g_calli (va_runV (As := [.int 1]) (rest := []) CF (c_X11_no h) (cwV 1 hts gX11_search_X11_no rfl rfl rfl (by decide +kernel) ⟨Nat.le_of_ble_eq_true rfl, Nat.le_of_ble_eq_true rfl⟩) (hc.preV hk74 rfl (by decide)) rfl rfl hl.1 rfl (lv_room (Nat.le_of_ble_eq_true rfl)) dX11_search_15 ⟨Nat.le_of_ble_eq_true rfl, Nat.le_of_ble_eq_true rfl⟩) hc (fun x80 g81 H locs hq hc => ?_)
    replace h := hq
    exact g_reti (r := x80) CF hr hlk hc rfl h dX11_search_18
def w_X11_results (g0 : gS) (p0 : Nat) (Q : Int32 → gS → Prop) : Prop :=
  gK g0 p0 = 12 ∧ (w_X11_ok g0 p0 (gI g0 p0 22) (fun x2 g3 => (Q x2 g3)))
abbrev r_X11_results : Room := { frames := 1, cells := 0, slots := 0, locals := 21 }
set_option maxHeartbeats 4000000 in
set_option maxRecDepth 100000 in
theorem c_X11_results {l : Launch} {D : va_G} {cA : Nat → ClassId} {sz : Nat} {g0 : gS} {p0 : Nat} {Q : Int32 → gS → Prop} (h : w_X11_results g0 p0 Q) : Met l yX11_results wsX11_results r_X11_results (va_Pc [.ref p0] (gPre D cA g0 sz)) (gQi D cA g0 sz (Q)) 0 0 (gA g0 sz) := by
  refine g_met (cc := cX11_results) (maxL := 1) (ret := (some .int)) (own := RX11) (by decide) rfl rfl (Nat.le_of_ble_eq_true rfl) ?_
  intro p e s m args below meth c ls CF hr hlk hnm hc hl
  obtain ⟨hx, hb, hml, hown, hts⟩ := id CF
  have hl : lv_has ls 1 [(0, .ref p0)] := hl
  show W p l e r_X11_results s m args below meth c s.heap [] 0 0 (MQ below (gQi D cA g0 sz (Q)) args s 0 0 (gA g0 sz)) (F0 m 0 ls [])
  unfold w_X11_results at h
  obtain ⟨H, hH0⟩ : ∃ z, z = s.heap := ⟨_, rfl⟩
  rw [← hH0] at hc ⊢
  obtain ⟨locs, hlc0⟩ : ∃ z : List Loc, z = [] := ⟨_, rfl⟩
  rw [← hlc0] at hc ⊢
  refine lv_aload_n hx hb dX11_results_0 rfl (lv_at hl 0 rfl) ?_
  refine lv_aload_n hx hb dX11_results_1 rfl (lv_at hl 0 rfl) ?_
  obtain ⟨hk1, h⟩ := h
  refine g_get CF hc hk1 rfl (by decide) (fun _ h9 => List.mem_cons_of_mem _ (List.mem_append_right _ (h9))) (k := 22) (by decide) (List.mem_cons_of_mem _ (List.mem_append_left _ (List.mem_of_getElem? (i := 0) rfl))) rfl dX11_results_2 ?_
  refine g_calli (va_runV (As := [.int (gI g0 p0 22)]) (rest := []) CF (c_X11_ok h) (cwV 1 hts gX11_results_X11_ok rfl rfl rfl (by decide +kernel) ⟨Nat.le_of_ble_eq_true rfl, Nat.le_of_ble_eq_true rfl⟩) (hc.preV hk1 rfl (by decide)) rfl rfl hl.1 rfl (lv_room (Nat.le_of_ble_eq_true rfl)) dX11_results_5 ⟨Nat.le_of_ble_eq_true rfl, Nat.le_of_ble_eq_true rfl⟩) hc (fun x2 g3 H locs hq hc => ?_)
  replace h := hq
  exact g_reti (r := x2) CF hr hlk hc rfl h dX11_results_8
def b_X11_resultAt_33 (g : gS) (is0 : Int32) (Q : Int32 → gS → Prop) : Prop :=
  Q is0 g
def w_X11_resultAt (g0 : gS) (p0 : Nat) (p1 : Int32) (Q : Int32 → gS → Prop) : Prop :=
  gK g0 p0 = 12 ∧ (∀ g2, g2 = sU g0 p0 0 0 → (gK g2 p0 = 12 ∧ (w_X11_isIn g2 p1 0 ((gI g2 p0 22) - 1) (fun x5 => ((x5 = 0 → (w_X11_no g2 p0 1 (fun x8 g9 => (b_X11_resultAt_33 g9 x8 Q)))) ∧ (¬ x5 = 0 → (∃ y11, gR g2 p0 23 = some y11 ∧ (gK g2 y11 = 21 ∧ (vp_in p1 (gN g2 y11) ∧ (b_X11_resultAt_33 g2 (gI g2 y11 (Int32.toNatClampNeg p1)) Q))))))))))
abbrev r_X11_resultAt : Room := { frames := 1, cells := 0, slots := 0, locals := 22 }
set_option maxHeartbeats 4000000 in
set_option maxRecDepth 100000 in
theorem c_X11_resultAt {l : Launch} {D : va_G} {cA : Nat → ClassId} {sz : Nat} {g0 : gS} {p0 : Nat} {p1 : Int32} {Q : Int32 → gS → Prop} (h : w_X11_resultAt g0 p0 p1 Q) : Met l yX11_resultAt wsX11_resultAt r_X11_resultAt (va_Pc [.ref p0, .int p1] (gPre D cA g0 sz)) (gQi D cA g0 sz (Q)) 0 0 (gA g0 sz) := by
  refine g_met (cc := cX11_resultAt) (maxL := 2) (ret := (some .int)) (own := RX11) (by decide) rfl rfl (Nat.le_of_ble_eq_true rfl) ?_
  intro p e s m args below meth c ls CF hr hlk hnm hc hl
  obtain ⟨hx, hb, hml, hown, hts⟩ := id CF
  have hl : lv_has ls 2 [(0, .ref p0), (1, .int p1)] := hl
  show W p l e r_X11_resultAt s m args below meth c s.heap [] 0 0 (MQ below (gQi D cA g0 sz (Q)) args s 0 0 (gA g0 sz)) (F0 m 0 ls [])
  have hb_33 : ∀ (g : gS) (is0 : Int32), b_X11_resultAt_33 g is0 Q → ∀ (H : Heap) (locs : List Loc) (ls : Array Slot), gC D cA (gA g0 sz) s g H locs → lv_has ls 2 [] → W p l e r_X11_resultAt s m args below meth c H locs 0 0 (MQ below (gQi D cA g0 sz (Q)) args s 0 0 (gA g0 sz)) (F0 m 33 ls [.int is0]) := by
    intro g is0 h H locs ls hc hl
    unfold b_X11_resultAt_33 at h
    exact g_reti (r := is0) CF hr hlk hc rfl h dX11_resultAt_33
  unfold w_X11_resultAt at h
  obtain ⟨H, hH0⟩ : ∃ z, z = s.heap := ⟨_, rfl⟩
  rw [← hH0] at hc ⊢
  obtain ⟨locs, hlc0⟩ : ∃ z : List Loc, z = [] := ⟨_, rfl⟩
  rw [← hlc0] at hc ⊢
  refine lv_aload_n hx hb dX11_resultAt_0 rfl (lv_at hl 0 rfl) ?_
  refine lv_iconst (v := 0) hx hb dX11_resultAt_1 (by decide) ?_
  obtain ⟨hk1, h⟩ := h
  refine g_puti CF hc hk1 rfl (by decide) (fun _ h9 => List.mem_cons_of_mem _ (List.mem_append_right _ (h9))) tyX11 tyX11_ok nmX11 (k := 0) (by decide) (List.mem_cons_of_mem _ (List.mem_append_left _ (List.mem_of_getElem? (i := 0) rfl))) rfl (v := 0) rfl rfl rfl dX11_resultAt_2 (fun H locs hc => ?_)
  obtain ⟨g2, eg3⟩ : ∃ z, z = sU g0 p0 0 0 := ⟨_, rfl⟩
  have hc : gC D cA (gA g0 sz) s g2 H locs := by rw [eg3]; exact hc
  replace h := h g2 eg3
  refine lv_iload_n hx hb dX11_resultAt_5 rfl (lv_at hl 1 rfl) ?_
  refine lv_iconst (v := 0) hx hb dX11_resultAt_6 (by decide) ?_
  refine lv_aload_n hx hb dX11_resultAt_7 rfl (lv_at hl 0 rfl) ?_
  obtain ⟨hk4, h⟩ := h
  refine g_get CF hc hk4 rfl (by decide) (fun _ h9 => List.mem_cons_of_mem _ (List.mem_append_right _ (h9))) (k := 22) (by decide) (List.mem_cons_of_mem _ (List.mem_append_left _ (List.mem_of_getElem? (i := 1) rfl))) rfl dX11_resultAt_8 ?_
  refine lv_iconst (v := 1) hx hb dX11_resultAt_11 (by decide) ?_
  refine lv_isub hx hb dX11_resultAt_12 ?_
  refine g_calli (va_runS (As := [.int p1, .int 0, .int ((gI g2 p0 22) - 1)]) (rest := []) CF (c_X11_isIn h) (va_cwS 3 hts gX11_resultAt_X11_isIn rfl rfl rfl (by decide +kernel) ⟨Nat.le_of_ble_eq_true rfl, Nat.le_of_ble_eq_true rfl⟩) hc.preS rfl rfl hl.1 rfl (lv_room (Nat.le_of_ble_eq_true rfl)) dX11_resultAt_13 ⟨Nat.le_of_ble_eq_true rfl, Nat.le_of_ble_eq_true rfl⟩) hc (fun x5 gq6 H locs hq hc => ?_)
  obtain ⟨rfl, h⟩ := hq
  refine lv_if_eq (tgt := 28) hx hb dX11_resultAt_16 (by decide) (fun c7 => ?_) (fun c7 => ?_)
  · have h := h.1 c7
    refine lv_aload_n hx hb dX11_resultAt_28 rfl (lv_at hl 0 rfl) ?_
    refine lv_iconst (v := 1) hx hb dX11_resultAt_29 (by decide) ?_
    refine g_calli (va_runV (As := [.int 1]) (rest := []) CF (c_X11_no h) (cwV 1 hts gX11_resultAt_X11_no rfl rfl rfl (by decide +kernel) ⟨Nat.le_of_ble_eq_true rfl, Nat.le_of_ble_eq_true rfl⟩) (hc.preV hk4 rfl (by decide)) rfl rfl hl.1 rfl (lv_room (Nat.le_of_ble_eq_true rfl)) dX11_resultAt_30 ⟨Nat.le_of_ble_eq_true rfl, Nat.le_of_ble_eq_true rfl⟩) hc (fun x8 g9 H locs hq hc => ?_)
    replace h := hq
    exact hb_33 g9 x8 h _ _ _ hc (lv_sub hl [] rfl)
  · have h := h.2 c7
    refine lv_aload_n hx hb dX11_resultAt_19 rfl (lv_at hl 0 rfl) ?_
    obtain ⟨y11, e12, h⟩ := h
    refine g_getr CF hc hk4 rfl (by decide) (fun _ h9 => List.mem_cons_of_mem _ (List.mem_append_right _ (h9))) (k := 23) (by decide) (List.mem_cons_of_mem _ (List.mem_append_left _ (List.mem_of_getElem? (i := 2) rfl))) e12 rfl dX11_resultAt_20 ?_
    refine lv_iload_n hx hb dX11_resultAt_23 rfl (lv_at hl 1 rfl) ?_
    obtain ⟨hk13, h⟩ := h
    obtain ⟨hi14, h⟩ := h
    refine g_iald CF hc hk13 hi14 dX11_resultAt_24 ?_
    refine lv_goto (tgt := 33) hx hb dX11_resultAt_25 (by decide) ?_
    exact hb_33 g2 (gI g2 y11 (Int32.toNatClampNeg p1)) h _ _ _ hc (lv_sub hl [] rfl)
def b_X11_scoreAt_33 (g : gS) (is0 : Int32) (Q : Int32 → gS → Prop) : Prop :=
  Q is0 g
def w_X11_scoreAt (g0 : gS) (p0 : Nat) (p1 : Int32) (Q : Int32 → gS → Prop) : Prop :=
  gK g0 p0 = 12 ∧ (∀ g2, g2 = sU g0 p0 0 0 → (gK g2 p0 = 12 ∧ (w_X11_isIn g2 p1 0 ((gI g2 p0 22) - 1) (fun x5 => ((x5 = 0 → (w_X11_no g2 p0 1 (fun x8 g9 => (b_X11_scoreAt_33 g9 x8 Q)))) ∧ (¬ x5 = 0 → (∃ y11, gR g2 p0 24 = some y11 ∧ (gK g2 y11 = 21 ∧ (vp_in p1 (gN g2 y11) ∧ (b_X11_scoreAt_33 g2 (gI g2 y11 (Int32.toNatClampNeg p1)) Q))))))))))
abbrev r_X11_scoreAt : Room := { frames := 1, cells := 0, slots := 0, locals := 22 }
set_option maxHeartbeats 4000000 in
set_option maxRecDepth 100000 in
theorem c_X11_scoreAt {l : Launch} {D : va_G} {cA : Nat → ClassId} {sz : Nat} {g0 : gS} {p0 : Nat} {p1 : Int32} {Q : Int32 → gS → Prop} (h : w_X11_scoreAt g0 p0 p1 Q) : Met l yX11_scoreAt wsX11_scoreAt r_X11_scoreAt (va_Pc [.ref p0, .int p1] (gPre D cA g0 sz)) (gQi D cA g0 sz (Q)) 0 0 (gA g0 sz) := by
  refine g_met (cc := cX11_scoreAt) (maxL := 2) (ret := (some .int)) (own := RX11) (by decide) rfl rfl (Nat.le_of_ble_eq_true rfl) ?_
  intro p e s m args below meth c ls CF hr hlk hnm hc hl
  obtain ⟨hx, hb, hml, hown, hts⟩ := id CF
  have hl : lv_has ls 2 [(0, .ref p0), (1, .int p1)] := hl
  show W p l e r_X11_scoreAt s m args below meth c s.heap [] 0 0 (MQ below (gQi D cA g0 sz (Q)) args s 0 0 (gA g0 sz)) (F0 m 0 ls [])
  have hb_33 : ∀ (g : gS) (is0 : Int32), b_X11_scoreAt_33 g is0 Q → ∀ (H : Heap) (locs : List Loc) (ls : Array Slot), gC D cA (gA g0 sz) s g H locs → lv_has ls 2 [] → W p l e r_X11_scoreAt s m args below meth c H locs 0 0 (MQ below (gQi D cA g0 sz (Q)) args s 0 0 (gA g0 sz)) (F0 m 33 ls [.int is0]) := by
    intro g is0 h H locs ls hc hl
    unfold b_X11_scoreAt_33 at h
    exact g_reti (r := is0) CF hr hlk hc rfl h dX11_scoreAt_33
  unfold w_X11_scoreAt at h
  obtain ⟨H, hH0⟩ : ∃ z, z = s.heap := ⟨_, rfl⟩
  rw [← hH0] at hc ⊢
  obtain ⟨locs, hlc0⟩ : ∃ z : List Loc, z = [] := ⟨_, rfl⟩
  rw [← hlc0] at hc ⊢
  refine lv_aload_n hx hb dX11_scoreAt_0 rfl (lv_at hl 0 rfl) ?_
  refine lv_iconst (v := 0) hx hb dX11_scoreAt_1 (by decide) ?_
  obtain ⟨hk1, h⟩ := h
  refine g_puti CF hc hk1 rfl (by decide) (fun _ h9 => List.mem_cons_of_mem _ (List.mem_append_right _ (h9))) tyX11 tyX11_ok nmX11 (k := 0) (by decide) (List.mem_cons_of_mem _ (List.mem_append_left _ (List.mem_of_getElem? (i := 0) rfl))) rfl (v := 0) rfl rfl rfl dX11_scoreAt_2 (fun H locs hc => ?_)
  obtain ⟨g2, eg3⟩ : ∃ z, z = sU g0 p0 0 0 := ⟨_, rfl⟩
  have hc : gC D cA (gA g0 sz) s g2 H locs := by rw [eg3]; exact hc
  replace h := h g2 eg3
  refine lv_iload_n hx hb dX11_scoreAt_5 rfl (lv_at hl 1 rfl) ?_
  refine lv_iconst (v := 0) hx hb dX11_scoreAt_6 (by decide) ?_
  refine lv_aload_n hx hb dX11_scoreAt_7 rfl (lv_at hl 0 rfl) ?_
  obtain ⟨hk4, h⟩ := h
  refine g_get CF hc hk4 rfl (by decide) (fun _ h9 => List.mem_cons_of_mem _ (List.mem_append_right _ (h9))) (k := 22) (by decide) (List.mem_cons_of_mem _ (List.mem_append_left _ (List.mem_of_getElem? (i := 1) rfl))) rfl dX11_scoreAt_8 ?_
  refine lv_iconst (v := 1) hx hb dX11_scoreAt_11 (by decide) ?_
  refine lv_isub hx hb dX11_scoreAt_12 ?_
  refine g_calli (va_runS (As := [.int p1, .int 0, .int ((gI g2 p0 22) - 1)]) (rest := []) CF (c_X11_isIn h) (va_cwS 3 hts gX11_scoreAt_X11_isIn rfl rfl rfl (by decide +kernel) ⟨Nat.le_of_ble_eq_true rfl, Nat.le_of_ble_eq_true rfl⟩) hc.preS rfl rfl hl.1 rfl (lv_room (Nat.le_of_ble_eq_true rfl)) dX11_scoreAt_13 ⟨Nat.le_of_ble_eq_true rfl, Nat.le_of_ble_eq_true rfl⟩) hc (fun x5 gq6 H locs hq hc => ?_)
  obtain ⟨rfl, h⟩ := hq
  refine lv_if_eq (tgt := 28) hx hb dX11_scoreAt_16 (by decide) (fun c7 => ?_) (fun c7 => ?_)
  · have h := h.1 c7
    refine lv_aload_n hx hb dX11_scoreAt_28 rfl (lv_at hl 0 rfl) ?_
    refine lv_iconst (v := 1) hx hb dX11_scoreAt_29 (by decide) ?_
    refine g_calli (va_runV (As := [.int 1]) (rest := []) CF (c_X11_no h) (cwV 1 hts gX11_scoreAt_X11_no rfl rfl rfl (by decide +kernel) ⟨Nat.le_of_ble_eq_true rfl, Nat.le_of_ble_eq_true rfl⟩) (hc.preV hk4 rfl (by decide)) rfl rfl hl.1 rfl (lv_room (Nat.le_of_ble_eq_true rfl)) dX11_scoreAt_30 ⟨Nat.le_of_ble_eq_true rfl, Nat.le_of_ble_eq_true rfl⟩) hc (fun x8 g9 H locs hq hc => ?_)
    replace h := hq
    exact hb_33 g9 x8 h _ _ _ hc (lv_sub hl [] rfl)
  · have h := h.2 c7
    refine lv_aload_n hx hb dX11_scoreAt_19 rfl (lv_at hl 0 rfl) ?_
    obtain ⟨y11, e12, h⟩ := h
    refine g_getr CF hc hk4 rfl (by decide) (fun _ h9 => List.mem_cons_of_mem _ (List.mem_append_right _ (h9))) (k := 24) (by decide) (List.mem_cons_of_mem _ (List.mem_append_left _ (List.mem_of_getElem? (i := 2) rfl))) e12 rfl dX11_scoreAt_20 ?_
    refine lv_iload_n hx hb dX11_scoreAt_23 rfl (lv_at hl 1 rfl) ?_
    obtain ⟨hk13, h⟩ := h
    obtain ⟨hi14, h⟩ := h
    refine g_iald CF hc hk13 hi14 dX11_scoreAt_24 ?_
    refine lv_goto (tgt := 33) hx hb dX11_scoreAt_25 (by decide) ?_
    exact hb_33 g2 (gI g2 y11 (Int32.toNatClampNeg p1)) h _ _ _ hc (lv_sub hl [] rfl)
def b_X11_kindNow_33 (g : gS) (r0 : Nat) (i1 : Int32) (i3 : Int32) (is0 : Int32) (is1 : Int32) (Q : Int32 → Prop) (k4 : Int32 → Int32 → Prop) : Prop :=
  k4 (is0 + is1) (i3 + 1)
def l_X11_kindNow_4 (g : gS) (r0 : Nat) (i1 : Int32) (Q : Int32 → Prop) (i2 : Int32) (i3 : Int32) (k4 : Int32 → Int32 → Prop) : Prop :=
  gK g r0 = 12 ∧ (((gI g r0 22) ≤ i3 → (Q i2)) ∧ (¬ (gI g r0 22) ≤ i3 → (∃ y3, gR g r0 4 = some y3 ∧ (∃ y5, gR g r0 23 = some y5 ∧ (gK g y5 = 21 ∧ (vp_in i3 (gN g y5) ∧ (gK g y3 = 21 ∧ (vp_in (gI g y5 (Int32.toNatClampNeg i3)) (gN g y3) ∧ (((gI g y3 (Int32.toNatClampNeg (gI g y5 (Int32.toNatClampNeg i3)))) = i1 → (b_X11_kindNow_33 g r0 i1 i3 i2 1 Q k4)) ∧ (¬ (gI g y3 (Int32.toNatClampNeg (gI g y5 (Int32.toNatClampNeg i3)))) = i1 → (b_X11_kindNow_33 g r0 i1 i3 i2 0 Q k4)))))))))))
def w_X11_kindNow (g : gS) (p0 : Nat) (p1 : Int32) (Q : Int32 → Prop) : Prop :=
  lpx2 (l_X11_kindNow_4 g p0 p1 Q) 0 0
abbrev r_X11_kindNow : Room := { frames := 0, cells := 0, slots := 0, locals := 0 }
set_option maxHeartbeats 4000000 in
set_option maxRecDepth 100000 in
theorem c_X11_kindNow {l : Launch} {D : va_G} {cA : Nat → ClassId} {sz : Nat} {g : gS} {p0 : Nat} {p1 : Int32} {Q : Int32 → Prop} (h : w_X11_kindNow g p0 p1 Q) : Met l yX11_kindNow wsX11_kindNow r_X11_kindNow (va_Pc [.ref p0, .int p1] (gPre D cA g sz)) (gQi D cA g sz (fun r g2 => g = g2 ∧ Q r)) 0 0 (gA g sz) := by
  refine g_met (cc := cX11_kindNow) (maxL := 4) (ret := (some .int)) (own := RX11) (by decide) rfl rfl (Nat.le_of_ble_eq_true rfl) ?_
  intro p e s m args below meth c ls CF hr hlk hnm hc hl
  obtain ⟨hx, hb, hml, hown, hts⟩ := id CF
  have hl : lv_has ls 4 [(0, .ref p0), (1, .int p1)] := hl
  show W p l e r_X11_kindNow s m args below meth c s.heap [] 0 0 (MQ below (gQi D cA g sz (fun r g2 => g = g2 ∧ Q r)) args s 0 0 (gA g sz)) (F0 m 0 ls [])
  have hb_4 : ∀ (r0 : Nat) (i1 : Int32), ∀ (i2 : Int32) (i3 : Int32), lpx2 (l_X11_kindNow_4 g r0 i1 Q) i2 i3 → ∀ (H : Heap) (locs : List Loc) (ls : Array Slot), gC D cA (gA g sz) s g H locs → lv_has ls 4 [(0, .ref r0), (1, .int i1), (2, .int i2), (3, .int i3)] → W p l e r_X11_kindNow s m args below meth c H locs 0 0 (MQ below (gQi D cA g sz (fun r g2 => g = g2 ∧ Q r)) args s 0 0 (gA g sz)) (F0 m 4 ls []) := by
    intro r0 i1
    refine lpx2_run (P := fun (i2 : Int32) (i3 : Int32) => ∀ (H : Heap) (locs : List Loc) (ls : Array Slot), gC D cA (gA g sz) s g H locs → lv_has ls 4 [(0, .ref r0), (1, .int i1), (2, .int i2), (3, .int i3)] → W p l e r_X11_kindNow s m args below meth c H locs 0 0 (MQ below (gQi D cA g sz (fun r g2 => g = g2 ∧ Q r)) args s 0 0 (gA g sz)) (F0 m 4 ls [])) ?_
    intro k4 hk_4 i2 i3 h H locs ls hc hl
    have hb_33 : ∀ (i3 : Int32) (is0 : Int32) (is1 : Int32), b_X11_kindNow_33 g r0 i1 i3 is0 is1 Q k4 → ∀ (H : Heap) (locs : List Loc) (ls : Array Slot), gC D cA (gA g sz) s g H locs → lv_has ls 4 [(0, .ref r0), (1, .int i1), (3, .int i3)] → W p l e r_X11_kindNow s m args below meth c H locs 0 0 (MQ below (gQi D cA g sz (fun r g2 => g = g2 ∧ Q r)) args s 0 0 (gA g sz)) (F0 m 33 ls [.int is1, .int is0]) := by
      intro i3 is0 is1 h H locs ls hc hl
      unfold b_X11_kindNow_33 at h
      refine lv_iadd hx hb dX11_kindNow_33 ?_
      refine lv_istore_n (lv' := [(2, .int (is0 + is1)), (0, .ref r0), (1, .int i1), (3, .int i3)]) hx hb dX11_kindNow_34 rfl hl (by decide) rfl (fun ls hl => ?_)
      refine lv_iinc (v := (i3 + 1)) (lv' := [(3, .int (i3 + 1)), (2, .int (is0 + is1)), (0, .ref r0), (1, .int i1)]) hx hb dX11_kindNow_35 hl (k := 3) rfl rfl (by decide) rfl (fun ls hl => ?_)
      refine lv_goto (tgt := 4) hx hb dX11_kindNow_38 (by decide) ?_
      exact hk_4 (is0 + is1) (i3 + 1) h _ _ _ hc (lv_sub hl [2, 3, 1, 0] rfl)
    unfold l_X11_kindNow_4 at h
    refine lv_iload_n hx hb dX11_kindNow_4 rfl (lv_at hl 3 rfl) ?_
    refine lv_aload_n hx hb dX11_kindNow_5 rfl (lv_at hl 0 rfl) ?_
    obtain ⟨hk1, h⟩ := h
    refine g_get CF hc hk1 rfl (by decide) (fun _ h9 => List.mem_cons_of_mem _ (List.mem_append_right _ (h9))) (k := 22) (by decide) (List.mem_cons_of_mem _ (List.mem_append_left _ (List.mem_of_getElem? (i := 0) rfl))) rfl dX11_kindNow_6 ?_
    refine lv_icmp_ge (tgt := 41) hx hb dX11_kindNow_9 (by decide) (fun c2 => ?_) (fun c2 => ?_)
    · have h := h.1 c2
      refine lv_iload_n hx hb dX11_kindNow_41 rfl (lv_at hl 2 rfl) ?_
      exact g_reti (r := i2) CF hr hlk hc rfl ⟨rfl, h⟩ dX11_kindNow_42
    · have h := h.2 c2
      refine lv_iload_n hx hb dX11_kindNow_12 rfl (lv_at hl 2 rfl) ?_
      refine lv_aload_n hx hb dX11_kindNow_13 rfl (lv_at hl 0 rfl) ?_
      obtain ⟨y3, e4, h⟩ := h
      refine g_getr CF hc hk1 rfl (by decide) (fun _ h9 => List.mem_cons_of_mem _ (List.mem_append_right _ (h9))) (k := 4) (by decide) (List.mem_cons_of_mem _ (List.mem_append_left _ (List.mem_of_getElem? (i := 1) rfl))) e4 rfl dX11_kindNow_14 ?_
      refine lv_aload_n hx hb dX11_kindNow_17 rfl (lv_at hl 0 rfl) ?_
      obtain ⟨y5, e6, h⟩ := h
      refine g_getr CF hc hk1 rfl (by decide) (fun _ h9 => List.mem_cons_of_mem _ (List.mem_append_right _ (h9))) (k := 23) (by decide) (List.mem_cons_of_mem _ (List.mem_append_left _ (List.mem_of_getElem? (i := 2) rfl))) e6 rfl dX11_kindNow_18 ?_
      refine lv_iload_n hx hb dX11_kindNow_21 rfl (lv_at hl 3 rfl) ?_
      obtain ⟨hk7, h⟩ := h
      obtain ⟨hi8, h⟩ := h
      refine g_iald CF hc hk7 hi8 dX11_kindNow_22 ?_
      obtain ⟨hk9, h⟩ := h
      obtain ⟨hi10, h⟩ := h
      refine g_iald CF hc hk9 hi10 dX11_kindNow_23 ?_
      refine lv_iload_n hx hb dX11_kindNow_24 rfl (lv_at hl 1 rfl) ?_
      refine lv_icmp_ne (tgt := 32) hx hb dX11_kindNow_25 (by decide) (fun c11 => ?_) (fun c11 => ?_)
      · have h := h.2 c11
        refine lv_iconst (v := 0) hx hb dX11_kindNow_32 (by decide) ?_
        exact hb_33 i3 i2 0 h _ _ _ hc (lv_sub hl [0, 1, 3] rfl)
      · have h := h.1 c11
        refine lv_iconst (v := 1) hx hb dX11_kindNow_28 (by decide) ?_
        refine lv_goto (tgt := 33) hx hb dX11_kindNow_29 (by decide) ?_
        exact hb_33 i3 i2 1 h _ _ _ hc (lv_sub hl [0, 1, 3] rfl)
  unfold w_X11_kindNow at h
  obtain ⟨H, hH0⟩ : ∃ z, z = s.heap := ⟨_, rfl⟩
  rw [← hH0] at hc ⊢
  obtain ⟨locs, hlc0⟩ : ∃ z : List Loc, z = [] := ⟨_, rfl⟩
  rw [← hlc0] at hc ⊢
  refine lv_iconst (v := 0) hx hb dX11_kindNow_0 (by decide) ?_
  refine lv_istore_n (lv' := [(2, .int 0), (0, .ref p0), (1, .int p1)]) hx hb dX11_kindNow_1 rfl hl (by decide) rfl (fun ls hl => ?_)
  refine lv_iconst (v := 0) hx hb dX11_kindNow_2 (by decide) ?_
  refine lv_istore_n (lv' := [(3, .int 0), (2, .int 0), (0, .ref p0), (1, .int p1)]) hx hb dX11_kindNow_3 rfl hl (by decide) rfl (fun ls hl => ?_)
  exact hb_4 p0 p1 0 0 h _ _ _ hc (lv_sub hl [2, 3, 1, 0] rfl)
def b_X11_ofKind_28 (g : gS) (is0 : Int32) (Q : Int32 → gS → Prop) : Prop :=
  Q is0 g
def w_X11_ofKind (g0 : gS) (p0 : Nat) (p1 : Int32) (Q : Int32 → gS → Prop) : Prop :=
  gK g0 p0 = 12 ∧ (∀ g2, g2 = sU g0 p0 0 0 → (w_X11_isIn g2 p1 0 7 (fun x4 => ((x4 = 0 → (gK g2 p0 = 12 ∧ (w_X11_no g2 p0 1 (fun x8 g9 => (b_X11_ofKind_28 g9 x8 Q))))) ∧ (¬ x4 = 0 → (gK g2 p0 = 12 ∧ (w_X11_kindNow g2 p0 p1 (fun x12 => (b_X11_ofKind_28 g2 x12 Q)))))))))
abbrev r_X11_ofKind : Room := { frames := 1, cells := 0, slots := 0, locals := 23 }
set_option maxHeartbeats 4000000 in
set_option maxRecDepth 100000 in
theorem c_X11_ofKind {l : Launch} {D : va_G} {cA : Nat → ClassId} {sz : Nat} {g0 : gS} {p0 : Nat} {p1 : Int32} {Q : Int32 → gS → Prop} (h : w_X11_ofKind g0 p0 p1 Q) : Met l yX11_ofKind wsX11_ofKind r_X11_ofKind (va_Pc [.ref p0, .int p1] (gPre D cA g0 sz)) (gQi D cA g0 sz (Q)) 0 0 (gA g0 sz) := by
  refine g_met (cc := cX11_ofKind) (maxL := 2) (ret := (some .int)) (own := RX11) (by decide) rfl rfl (Nat.le_of_ble_eq_true rfl) ?_
  intro p e s m args below meth c ls CF hr hlk hnm hc hl
  obtain ⟨hx, hb, hml, hown, hts⟩ := id CF
  have hl : lv_has ls 2 [(0, .ref p0), (1, .int p1)] := hl
  show W p l e r_X11_ofKind s m args below meth c s.heap [] 0 0 (MQ below (gQi D cA g0 sz (Q)) args s 0 0 (gA g0 sz)) (F0 m 0 ls [])
  have hb_28 : ∀ (g : gS) (is0 : Int32), b_X11_ofKind_28 g is0 Q → ∀ (H : Heap) (locs : List Loc) (ls : Array Slot), gC D cA (gA g0 sz) s g H locs → lv_has ls 2 [] → W p l e r_X11_ofKind s m args below meth c H locs 0 0 (MQ below (gQi D cA g0 sz (Q)) args s 0 0 (gA g0 sz)) (F0 m 28 ls [.int is0]) := by
    intro g is0 h H locs ls hc hl
    unfold b_X11_ofKind_28 at h
    exact g_reti (r := is0) CF hr hlk hc rfl h dX11_ofKind_28
  unfold w_X11_ofKind at h
  obtain ⟨H, hH0⟩ : ∃ z, z = s.heap := ⟨_, rfl⟩
  rw [← hH0] at hc ⊢
  obtain ⟨locs, hlc0⟩ : ∃ z : List Loc, z = [] := ⟨_, rfl⟩
  rw [← hlc0] at hc ⊢
  refine lv_aload_n hx hb dX11_ofKind_0 rfl (lv_at hl 0 rfl) ?_
  refine lv_iconst (v := 0) hx hb dX11_ofKind_1 (by decide) ?_
  obtain ⟨hk1, h⟩ := h
  refine g_puti CF hc hk1 rfl (by decide) (fun _ h9 => List.mem_cons_of_mem _ (List.mem_append_right _ (h9))) tyX11 tyX11_ok nmX11 (k := 0) (by decide) (List.mem_cons_of_mem _ (List.mem_append_left _ (List.mem_of_getElem? (i := 0) rfl))) rfl (v := 0) rfl rfl rfl dX11_ofKind_2 (fun H locs hc => ?_)
  obtain ⟨g2, eg3⟩ : ∃ z, z = sU g0 p0 0 0 := ⟨_, rfl⟩
  have hc : gC D cA (gA g0 sz) s g2 H locs := by rw [eg3]; exact hc
  replace h := h g2 eg3
  refine lv_iload_n hx hb dX11_ofKind_5 rfl (lv_at hl 1 rfl) ?_
  refine lv_iconst (v := 0) hx hb dX11_ofKind_6 (by decide) ?_
  refine lv_bipush (v := 7) hx hb dX11_ofKind_7 (by decide) ?_
  refine g_calli (va_runS (As := [.int p1, .int 0, .int 7]) (rest := []) CF (c_X11_isIn h) (va_cwS 3 hts gX11_ofKind_X11_isIn rfl rfl rfl (by decide +kernel) ⟨Nat.le_of_ble_eq_true rfl, Nat.le_of_ble_eq_true rfl⟩) hc.preS rfl rfl hl.1 rfl (lv_room (Nat.le_of_ble_eq_true rfl)) dX11_ofKind_9 ⟨Nat.le_of_ble_eq_true rfl, Nat.le_of_ble_eq_true rfl⟩) hc (fun x4 gq5 H locs hq hc => ?_)
  obtain ⟨rfl, h⟩ := hq
  refine lv_if_eq (tgt := 23) hx hb dX11_ofKind_12 (by decide) (fun c6 => ?_) (fun c6 => ?_)
  · have h := h.1 c6
    refine lv_aload_n hx hb dX11_ofKind_23 rfl (lv_at hl 0 rfl) ?_
    refine lv_iconst (v := 1) hx hb dX11_ofKind_24 (by decide) ?_
    obtain ⟨hk7, h⟩ := h
    refine g_calli (va_runV (As := [.int 1]) (rest := []) CF (c_X11_no h) (cwV 1 hts gX11_ofKind_X11_no rfl rfl rfl (by decide +kernel) ⟨Nat.le_of_ble_eq_true rfl, Nat.le_of_ble_eq_true rfl⟩) (hc.preV hk7 rfl (by decide)) rfl rfl hl.1 rfl (lv_room (Nat.le_of_ble_eq_true rfl)) dX11_ofKind_25 ⟨Nat.le_of_ble_eq_true rfl, Nat.le_of_ble_eq_true rfl⟩) hc (fun x8 g9 H locs hq hc => ?_)
    replace h := hq
    exact hb_28 g9 x8 h _ _ _ hc (lv_sub hl [] rfl)
  · have h := h.2 c6
    refine lv_aload_n hx hb dX11_ofKind_15 rfl (lv_at hl 0 rfl) ?_
    refine lv_iload_n hx hb dX11_ofKind_16 rfl (lv_at hl 1 rfl) ?_
    obtain ⟨hk11, h⟩ := h
    refine g_calli (va_runV (As := [.int p1]) (rest := []) CF (c_X11_kindNow h) (cwV 1 hts gX11_ofKind_X11_kindNow rfl rfl rfl (by decide +kernel) ⟨Nat.le_of_ble_eq_true rfl, Nat.le_of_ble_eq_true rfl⟩) (hc.preV hk11 rfl (by decide)) rfl rfl hl.1 rfl (lv_room (Nat.le_of_ble_eq_true rfl)) dX11_ofKind_17 ⟨Nat.le_of_ble_eq_true rfl, Nat.le_of_ble_eq_true rfl⟩) hc (fun x12 gq13 H locs hq hc => ?_)
    obtain ⟨rfl, h⟩ := hq
    refine lv_goto (tgt := 28) hx hb dX11_ofKind_20 (by decide) ?_
    exact hb_28 g2 x12 h _ _ _ hc (lv_sub hl [] rfl)
def b_X11_ofDates_77 (g : gS) (r0 : Nat) (i1 : Int32) (i2 : Int32) (i4 : Int32) (is0 : Int32) (is1 : Int32) (Q : Int32 → gS → Prop) (k38 : Int32 → Int32 → Prop) : Prop :=
  k38 (is0 + is1) (i4 + 1)
def l_X11_ofDates_38 (g : gS) (r0 : Nat) (i1 : Int32) (i2 : Int32) (Q : Int32 → gS → Prop) (i3 : Int32) (i4 : Int32) (k38 : Int32 → Int32 → Prop) : Prop :=
  gK g r0 = 12 ∧ (((gI g r0 22) ≤ i4 → (Q i3 g)) ∧ (¬ (gI g r0 22) ≤ i4 → (∃ y3, gR g r0 3 = some y3 ∧ (∃ y5, gR g r0 23 = some y5 ∧ (gK g y5 = 21 ∧ (vp_in i4 (gN g y5) ∧ (gK g y3 = 21 ∧ (vp_in (gI g y5 (Int32.toNatClampNeg i4)) (gN g y3) ∧ (w_X11_isIn g (gI g y3 (Int32.toNatClampNeg (gI g y5 (Int32.toNatClampNeg i4)))) i1 ((i1 + i2) - 1) (fun x11 => ((x11 = 0 → (b_X11_ofDates_77 g r0 i1 i2 i4 i3 0 Q k38)) ∧ (¬ x11 = 0 → (b_X11_ofDates_77 g r0 i1 i2 i4 i3 1 Q k38)))))))))))))
def b_X11_ofDates_27 (g : gS) (r0 : Nat) (Q : Int32 → gS → Prop) : Prop :=
  gK g r0 = 12 ∧ (w_X11_no g r0 1 (fun x15 g16 => (Q x15 g16)))
def w_X11_ofDates (g0 : gS) (p0 : Nat) (p1 : Int32) (p2 : Int32) (Q : Int32 → gS → Prop) : Prop :=
  gK g0 p0 = 12 ∧ (∀ g19, g19 = sU g0 p0 0 0 → (w_X11_isIn g19 p1 0 9999 (fun x21 => ((x21 = 0 → (b_X11_ofDates_27 g19 p0 Q)) ∧ (¬ x21 = 0 → (w_X11_isIn g19 p2 1 10000 (fun x24 => ((x24 = 0 → (b_X11_ofDates_27 g19 p0 Q)) ∧ (¬ x24 = 0 → (lpx2 (l_X11_ofDates_38 g19 p0 p1 p2 Q) 0 0))))))))))
abbrev r_X11_ofDates : Room := { frames := 1, cells := 0, slots := 0, locals := 22 }
set_option maxHeartbeats 4000000 in
set_option maxRecDepth 100000 in
theorem c_X11_ofDates {l : Launch} {D : va_G} {cA : Nat → ClassId} {sz : Nat} {g0 : gS} {p0 : Nat} {p1 : Int32} {p2 : Int32} {Q : Int32 → gS → Prop} (h : w_X11_ofDates g0 p0 p1 p2 Q) : Met l yX11_ofDates wsX11_ofDates r_X11_ofDates (va_Pc [.ref p0, .int p1, .int p2] (gPre D cA g0 sz)) (gQi D cA g0 sz (Q)) 0 0 (gA g0 sz) := by
  refine g_met (cc := cX11_ofDates) (maxL := 5) (ret := (some .int)) (own := RX11) (by decide) rfl rfl (Nat.le_of_ble_eq_true rfl) ?_
  intro p e s m args below meth c ls CF hr hlk hnm hc hl
  obtain ⟨hx, hb, hml, hown, hts⟩ := id CF
  have hl : lv_has ls 5 [(0, .ref p0), (1, .int p1), (2, .int p2)] := hl
  show W p l e r_X11_ofDates s m args below meth c s.heap [] 0 0 (MQ below (gQi D cA g0 sz (Q)) args s 0 0 (gA g0 sz)) (F0 m 0 ls [])
  have hb_38 : ∀ (g : gS) (r0 : Nat) (i1 : Int32) (i2 : Int32), ∀ (i3 : Int32) (i4 : Int32), lpx2 (l_X11_ofDates_38 g r0 i1 i2 Q) i3 i4 → ∀ (H : Heap) (locs : List Loc) (ls : Array Slot), gC D cA (gA g0 sz) s g H locs → lv_has ls 5 [(0, .ref r0), (1, .int i1), (2, .int i2), (3, .int i3), (4, .int i4)] → W p l e r_X11_ofDates s m args below meth c H locs 0 0 (MQ below (gQi D cA g0 sz (Q)) args s 0 0 (gA g0 sz)) (F0 m 38 ls []) := by
    intro g r0 i1 i2
    refine lpx2_run (P := fun (i3 : Int32) (i4 : Int32) => ∀ (H : Heap) (locs : List Loc) (ls : Array Slot), gC D cA (gA g0 sz) s g H locs → lv_has ls 5 [(0, .ref r0), (1, .int i1), (2, .int i2), (3, .int i3), (4, .int i4)] → W p l e r_X11_ofDates s m args below meth c H locs 0 0 (MQ below (gQi D cA g0 sz (Q)) args s 0 0 (gA g0 sz)) (F0 m 38 ls [])) ?_
    intro k38 hk_38 i3 i4 h H locs ls hc hl
    have hb_77 : ∀ (i4 : Int32) (is0 : Int32) (is1 : Int32), b_X11_ofDates_77 g r0 i1 i2 i4 is0 is1 Q k38 → ∀ (H : Heap) (locs : List Loc) (ls : Array Slot), gC D cA (gA g0 sz) s g H locs → lv_has ls 5 [(0, .ref r0), (1, .int i1), (2, .int i2), (4, .int i4)] → W p l e r_X11_ofDates s m args below meth c H locs 0 0 (MQ below (gQi D cA g0 sz (Q)) args s 0 0 (gA g0 sz)) (F0 m 77 ls [.int is1, .int is0]) := by
      intro i4 is0 is1 h H locs ls hc hl
      unfold b_X11_ofDates_77 at h
      refine lv_iadd hx hb dX11_ofDates_77 ?_
      refine lv_istore_n (lv' := [(3, .int (is0 + is1)), (0, .ref r0), (1, .int i1), (2, .int i2), (4, .int i4)]) hx hb dX11_ofDates_78 rfl hl (by decide) rfl (fun ls hl => ?_)
      refine lv_iinc (v := (i4 + 1)) (lv' := [(4, .int (i4 + 1)), (3, .int (is0 + is1)), (0, .ref r0), (1, .int i1), (2, .int i2)]) hx hb dX11_ofDates_79 hl (k := 4) rfl rfl (by decide) rfl (fun ls hl => ?_)
      refine lv_goto (tgt := 38) hx hb dX11_ofDates_82 (by decide) ?_
      exact hk_38 (is0 + is1) (i4 + 1) h _ _ _ hc (lv_sub hl [2, 3, 4, 1, 0] rfl)
    unfold l_X11_ofDates_38 at h
    refine lv_iload hx hb dX11_ofDates_38 (lv_at hl 4 rfl) ?_
    refine lv_aload_n hx hb dX11_ofDates_40 rfl (lv_at hl 0 rfl) ?_
    obtain ⟨hk1, h⟩ := h
    refine g_get CF hc hk1 rfl (by decide) (fun _ h9 => List.mem_cons_of_mem _ (List.mem_append_right _ (h9))) (k := 22) (by decide) (List.mem_cons_of_mem _ (List.mem_append_left _ (List.mem_of_getElem? (i := 1) rfl))) rfl dX11_ofDates_41 ?_
    refine lv_icmp_ge (tgt := 85) hx hb dX11_ofDates_44 (by decide) (fun c2 => ?_) (fun c2 => ?_)
    · have h := h.1 c2
      refine lv_iload_n hx hb dX11_ofDates_85 rfl (lv_at hl 3 rfl) ?_
      exact g_reti (r := i3) CF hr hlk hc rfl h dX11_ofDates_86
    · have h := h.2 c2
      refine lv_iload_n hx hb dX11_ofDates_47 rfl (lv_at hl 3 rfl) ?_
      refine lv_aload_n hx hb dX11_ofDates_48 rfl (lv_at hl 0 rfl) ?_
      obtain ⟨y3, e4, h⟩ := h
      refine g_getr CF hc hk1 rfl (by decide) (fun _ h9 => List.mem_cons_of_mem _ (List.mem_append_right _ (h9))) (k := 3) (by decide) (List.mem_cons_of_mem _ (List.mem_append_left _ (List.mem_of_getElem? (i := 2) rfl))) e4 rfl dX11_ofDates_49 ?_
      refine lv_aload_n hx hb dX11_ofDates_52 rfl (lv_at hl 0 rfl) ?_
      obtain ⟨y5, e6, h⟩ := h
      refine g_getr CF hc hk1 rfl (by decide) (fun _ h9 => List.mem_cons_of_mem _ (List.mem_append_right _ (h9))) (k := 23) (by decide) (List.mem_cons_of_mem _ (List.mem_append_left _ (List.mem_of_getElem? (i := 3) rfl))) e6 rfl dX11_ofDates_53 ?_
      refine lv_iload hx hb dX11_ofDates_56 (lv_at hl 4 rfl) ?_
      obtain ⟨hk7, h⟩ := h
      obtain ⟨hi8, h⟩ := h
      refine g_iald CF hc hk7 hi8 dX11_ofDates_58 ?_
      obtain ⟨hk9, h⟩ := h
      obtain ⟨hi10, h⟩ := h
      refine g_iald CF hc hk9 hi10 dX11_ofDates_59 ?_
      refine lv_iload_n hx hb dX11_ofDates_60 rfl (lv_at hl 1 rfl) ?_
      refine lv_iload_n hx hb dX11_ofDates_61 rfl (lv_at hl 1 rfl) ?_
      refine lv_iload_n hx hb dX11_ofDates_62 rfl (lv_at hl 2 rfl) ?_
      refine lv_iadd hx hb dX11_ofDates_63 ?_
      refine lv_iconst (v := 1) hx hb dX11_ofDates_64 (by decide) ?_
      refine lv_isub hx hb dX11_ofDates_65 ?_
      refine g_calli (va_runS (As := [.int (gI g y3 (Int32.toNatClampNeg (gI g y5 (Int32.toNatClampNeg i4)))), .int i1, .int ((i1 + i2) - 1)]) (rest := [.int i3]) CF (c_X11_isIn h) (va_cwS 3 hts gX11_ofDates_X11_isIn rfl rfl rfl (by decide +kernel) ⟨Nat.le_of_ble_eq_true rfl, Nat.le_of_ble_eq_true rfl⟩) hc.preS rfl rfl hl.1 rfl (lv_room (Nat.le_of_ble_eq_true rfl)) dX11_ofDates_66 ⟨Nat.le_of_ble_eq_true rfl, Nat.le_of_ble_eq_true rfl⟩) hc (fun x11 gq12 H locs hq hc => ?_)
      obtain ⟨rfl, h⟩ := hq
      refine lv_if_eq (tgt := 76) hx hb dX11_ofDates_69 (by decide) (fun c13 => ?_) (fun c13 => ?_)
      · have h := h.1 c13
        refine lv_iconst (v := 0) hx hb dX11_ofDates_76 (by decide) ?_
        exact hb_77 i4 i3 0 h _ _ _ hc (lv_sub hl [0, 1, 2, 4] rfl)
      · have h := h.2 c13
        refine lv_iconst (v := 1) hx hb dX11_ofDates_72 (by decide) ?_
        refine lv_goto (tgt := 77) hx hb dX11_ofDates_73 (by decide) ?_
        exact hb_77 i4 i3 1 h _ _ _ hc (lv_sub hl [0, 1, 2, 4] rfl)
  have hb_27 : ∀ (g : gS) (r0 : Nat), b_X11_ofDates_27 g r0 Q → ∀ (H : Heap) (locs : List Loc) (ls : Array Slot), gC D cA (gA g0 sz) s g H locs → lv_has ls 5 [(0, .ref r0)] → W p l e r_X11_ofDates s m args below meth c H locs 0 0 (MQ below (gQi D cA g0 sz (Q)) args s 0 0 (gA g0 sz)) (F0 m 27 ls []) := by
    intro g r0 h H locs ls hc hl
    unfold b_X11_ofDates_27 at h
    refine lv_aload_n hx hb dX11_ofDates_27 rfl (lv_at hl 0 rfl) ?_
    refine lv_iconst (v := 1) hx hb dX11_ofDates_28 (by decide) ?_
    obtain ⟨hk14, h⟩ := h
    refine g_calli (va_runV (As := [.int 1]) (rest := []) CF (c_X11_no h) (cwV 1 hts gX11_ofDates_X11_no rfl rfl rfl (by decide +kernel) ⟨Nat.le_of_ble_eq_true rfl, Nat.le_of_ble_eq_true rfl⟩) (hc.preV hk14 rfl (by decide)) rfl rfl hl.1 rfl (lv_room (Nat.le_of_ble_eq_true rfl)) dX11_ofDates_29 ⟨Nat.le_of_ble_eq_true rfl, Nat.le_of_ble_eq_true rfl⟩) hc (fun x15 g16 H locs hq hc => ?_)
    replace h := hq
    exact g_reti (r := x15) CF hr hlk hc rfl h dX11_ofDates_32
  unfold w_X11_ofDates at h
  obtain ⟨H, hH0⟩ : ∃ z, z = s.heap := ⟨_, rfl⟩
  rw [← hH0] at hc ⊢
  obtain ⟨locs, hlc0⟩ : ∃ z : List Loc, z = [] := ⟨_, rfl⟩
  rw [← hlc0] at hc ⊢
  refine lv_aload_n hx hb dX11_ofDates_0 rfl (lv_at hl 0 rfl) ?_
  refine lv_iconst (v := 0) hx hb dX11_ofDates_1 (by decide) ?_
  obtain ⟨hk18, h⟩ := h
  refine g_puti CF hc hk18 rfl (by decide) (fun _ h9 => List.mem_cons_of_mem _ (List.mem_append_right _ (h9))) tyX11 tyX11_ok nmX11 (k := 0) (by decide) (List.mem_cons_of_mem _ (List.mem_append_left _ (List.mem_of_getElem? (i := 0) rfl))) rfl (v := 0) rfl rfl rfl dX11_ofDates_2 (fun H locs hc => ?_)
  obtain ⟨g19, eg20⟩ : ∃ z, z = sU g0 p0 0 0 := ⟨_, rfl⟩
  have hc : gC D cA (gA g0 sz) s g19 H locs := by rw [eg20]; exact hc
  replace h := h g19 eg20
  refine lv_iload_n hx hb dX11_ofDates_5 rfl (lv_at hl 1 rfl) ?_
  refine lv_iconst (v := 0) hx hb dX11_ofDates_6 (by decide) ?_
  refine lv_sipush (v := 9999) hx hb dX11_ofDates_7 (by decide) ?_
  refine g_calli (va_runS (As := [.int p1, .int 0, .int 9999]) (rest := []) CF (c_X11_isIn h) (va_cwS 3 hts gX11_ofDates_X11_isIn rfl rfl rfl (by decide +kernel) ⟨Nat.le_of_ble_eq_true rfl, Nat.le_of_ble_eq_true rfl⟩) hc.preS rfl rfl hl.1 rfl (lv_room (Nat.le_of_ble_eq_true rfl)) dX11_ofDates_10 ⟨Nat.le_of_ble_eq_true rfl, Nat.le_of_ble_eq_true rfl⟩) hc (fun x21 gq22 H locs hq hc => ?_)
  obtain ⟨rfl, h⟩ := hq
  refine lv_if_eq (tgt := 27) hx hb dX11_ofDates_13 (by decide) (fun c23 => ?_) (fun c23 => ?_)
  · have h := h.1 c23
    exact hb_27 g19 p0 h _ _ _ hc (lv_sub hl [0] rfl)
  · have h := h.2 c23
    refine lv_iload_n hx hb dX11_ofDates_16 rfl (lv_at hl 2 rfl) ?_
    refine lv_iconst (v := 1) hx hb dX11_ofDates_17 (by decide) ?_
    refine lv_sipush (v := 10000) hx hb dX11_ofDates_18 (by decide) ?_
    refine g_calli (va_runS (As := [.int p2, .int 1, .int 10000]) (rest := []) CF (c_X11_isIn h) (va_cwS 3 hts gX11_ofDates_X11_isIn rfl rfl rfl (by decide +kernel) ⟨Nat.le_of_ble_eq_true rfl, Nat.le_of_ble_eq_true rfl⟩) hc.preS rfl rfl hl.1 rfl (lv_room (Nat.le_of_ble_eq_true rfl)) dX11_ofDates_21 ⟨Nat.le_of_ble_eq_true rfl, Nat.le_of_ble_eq_true rfl⟩) hc (fun x24 gq25 H locs hq hc => ?_)
    obtain ⟨rfl, h⟩ := hq
    refine lv_if_ne (tgt := 33) hx hb dX11_ofDates_24 (by decide) (fun c26 => ?_) (fun c26 => ?_)
    · have h := h.2 c26
      refine lv_iconst (v := 0) hx hb dX11_ofDates_33 (by decide) ?_
      refine lv_istore_n (lv' := [(3, .int 0), (0, .ref p0), (1, .int p1), (2, .int p2)]) hx hb dX11_ofDates_34 rfl hl (by decide) rfl (fun ls hl => ?_)
      refine lv_iconst (v := 0) hx hb dX11_ofDates_35 (by decide) ?_
      refine lv_istore (lv' := [(4, .int 0), (3, .int 0), (0, .ref p0), (1, .int p1), (2, .int p2)]) hx hb dX11_ofDates_36 hl (by decide) rfl (fun ls hl => ?_)
      exact hb_38 g19 p0 p1 p2 0 0 h _ _ _ hc (lv_sub hl [2, 3, 4, 1, 0] rfl)
    · have h := h.1 c26
      exact hb_27 g19 p0 h _ _ _ hc (lv_sub hl [0] rfl)
def b_X11_termNodes_212 (g : gS) (r0 : Nat) (i2 : Int32) (i3 : Int32) (i4 : Int32) (i5 : Int32) (Q : Int32 → Prop) (k10 : Int32 → Int32 → Int32 → Prop) : Prop :=
  k10 i3 i4 (i5 + (-1))
def l_X11_termNodes_176 (g : gS) (r0 : Nat) (i2 : Int32) (i4 : Int32) (i5 : Int32) (Q : Int32 → Prop) (k10 : Int32 → Int32 → Int32 → Prop) (i3 : Int32) (i6 : Int32) (k176 : Int32 → Int32 → Prop) : Prop :=
  gK g r0 = 12 ∧ (∃ y2, gR g r0 18 = some y2 ∧ (gK g y2 = 21 ∧ (vp_in i5 (gN g y2) ∧ (∃ y6, gR g r0 19 = some y6 ∧ (gK g y6 = 21 ∧ (vp_in i5 (gN g y6) ∧ ((((gI g y2 (Int32.toNatClampNeg i5)) + (gI g y6 (Int32.toNatClampNeg i5))) ≤ i6 → (b_X11_termNodes_212 g r0 i2 i3 i4 i5 Q k10)) ∧ (¬ ((gI g y2 (Int32.toNatClampNeg i5)) + (gI g y6 (Int32.toNatClampNeg i5))) ≤ i6 → (k176 (i3 ||| (1 <<< (i6 &&& 31))) (i6 + 1))))))))))
def l_X11_termNodes_10 (g : gS) (r0 : Nat) (i2 : Int32) (Q : Int32 → Prop) (i3 : Int32) (i4 : Int32) (i5 : Int32) (k10 : Int32 → Int32 → Int32 → Prop) : Prop :=
  (i5 < 0 → (Q i4)) ∧ (¬ i5 < 0 → ((((i3 >>> (i5 &&& 31)) &&& 1) = 0 → (b_X11_termNodes_212 g r0 i2 i3 i4 i5 Q k10)) ∧ (¬ ((i3 >>> (i5 &&& 31)) &&& 1) = 0 → (gK g r0 = 12 ∧ (∃ y14, gR g r0 17 = some y14 ∧ (gK g y14 = 21 ∧ (vp_in i5 (gN g y14) ∧ (((gI g y14 (Int32.toNatClampNeg i5)).toInt < 0 ∨ 8 < (gI g y14 (Int32.toNatClampNeg i5)).toInt → (b_X11_termNodes_212 g r0 i2 i3 i4 i5 Q k10)) ∧ ((gI g y14 (Int32.toNatClampNeg i5)).toInt = 0 → (b_X11_termNodes_212 g r0 i2 i3 (i4 ||| (1 <<< (i5 &&& 31))) i5 Q k10)) ∧ ((gI g y14 (Int32.toNatClampNeg i5)).toInt = 1 → (∃ y19, gR g r0 18 = some y19 ∧ (gK g y19 = 21 ∧ (vp_in i5 (gN g y19) ∧ (∃ y23, gR g r0 19 = some y23 ∧ (gK g y23 = 21 ∧ (vp_in i5 (gN g y23) ∧ (b_X11_termNodes_212 g r0 i2 (i3 ||| ((1 <<< ((gI g y19 (Int32.toNatClampNeg i5)) &&& 31)) ||| (1 <<< ((gI g y23 (Int32.toNatClampNeg i5)) &&& 31)))) i4 i5 Q k10)))))))) ∧ ((gI g y14 (Int32.toNatClampNeg i5)).toInt = 2 → (∃ y27, gR g r0 18 = some y27 ∧ (gK g y27 = 21 ∧ (vp_in i5 (gN g y27) ∧ (∃ y31, gR g r0 19 = some y31 ∧ (gK g y31 = 21 ∧ (vp_in i5 (gN g y31) ∧ (b_X11_termNodes_212 g r0 i2 (i3 ||| ((1 <<< ((gI g y27 (Int32.toNatClampNeg i5)) &&& 31)) ||| (1 <<< ((gI g y31 (Int32.toNatClampNeg i5)) &&& 31)))) i4 i5 Q k10)))))))) ∧ ((gI g y14 (Int32.toNatClampNeg i5)).toInt = 3 → (∃ y35, gR g r0 18 = some y35 ∧ (gK g y35 = 21 ∧ (vp_in i5 (gN g y35) ∧ ((i2 = 0 → (b_X11_termNodes_212 g r0 i2 (i3 ||| (1 <<< ((gI g y35 (Int32.toNatClampNeg i5)) &&& 31))) i4 i5 Q k10)) ∧ (¬ i2 = 0 → (∃ y40, gR g r0 19 = some y40 ∧ (gK g y40 = 21 ∧ (vp_in i5 (gN g y40) ∧ (b_X11_termNodes_212 g r0 i2 ((i3 ||| (1 <<< ((gI g y35 (Int32.toNatClampNeg i5)) &&& 31))) ||| (1 <<< ((gI g y40 (Int32.toNatClampNeg i5)) &&& 31))) i4 i5 Q k10)))))))))) ∧ ((gI g y14 (Int32.toNatClampNeg i5)).toInt = 4 → (∃ y44, gR g r0 18 = some y44 ∧ (gK g y44 = 21 ∧ (vp_in i5 (gN g y44) ∧ (∃ y48, gR g r0 19 = some y48 ∧ (gK g y48 = 21 ∧ (vp_in i5 (gN g y48) ∧ (b_X11_termNodes_212 g r0 i2 (i3 ||| ((1 <<< ((gI g y44 (Int32.toNatClampNeg i5)) &&& 31)) ||| (1 <<< ((gI g y48 (Int32.toNatClampNeg i5)) &&& 31)))) i4 i5 Q k10)))))))) ∧ ((gI g y14 (Int32.toNatClampNeg i5)).toInt = 5 → (b_X11_termNodes_212 g r0 i2 i3 i4 i5 Q k10)) ∧ ((gI g y14 (Int32.toNatClampNeg i5)).toInt = 6 → (b_X11_termNodes_212 g r0 i2 i3 i4 i5 Q k10)) ∧ ((gI g y14 (Int32.toNatClampNeg i5)).toInt = 7 → (∃ y52, gR g r0 18 = some y52 ∧ (gK g y52 = 21 ∧ (vp_in i5 (gN g y52) ∧ (b_X11_termNodes_212 g r0 i2 (i3 ||| (1 <<< ((gI g y52 (Int32.toNatClampNeg i5)) &&& 31))) i4 i5 Q k10))))) ∧ ((gI g y14 (Int32.toNatClampNeg i5)).toInt = 8 → (∃ y56, gR g r0 18 = some y56 ∧ (gK g y56 = 21 ∧ (vp_in i5 (gN g y56) ∧ (lpx2 (l_X11_termNodes_176 g r0 i2 i4 i5 Q k10) i3 (gI g y56 (Int32.toNatClampNeg i5)))))))))))))))
def w_X11_termNodes (g : gS) (p0 : Nat) (p1 : Int32) (p2 : Int32) (Q : Int32 → Prop) : Prop :=
  lpx3 (l_X11_termNodes_10 g p0 p2 Q) (1 <<< (p1 &&& 31)) 0 p1
abbrev r_X11_termNodes : Room := { frames := 0, cells := 0, slots := 0, locals := 0 }
set_option maxHeartbeats 4000000 in
set_option maxRecDepth 100000 in
theorem c_X11_termNodes {l : Launch} {D : va_G} {cA : Nat → ClassId} {sz : Nat} {g : gS} {p0 : Nat} {p1 : Int32} {p2 : Int32} {Q : Int32 → Prop} (h : w_X11_termNodes g p0 p1 p2 Q) : Met l yX11_termNodes wsX11_termNodes r_X11_termNodes (va_Pc [.ref p0, .int p1, .int p2] (gPre D cA g sz)) (gQi D cA g sz (fun r g2 => g = g2 ∧ Q r)) 0 0 (gA g sz) := by
  refine g_met (cc := cX11_termNodes) (maxL := 7) (ret := (some .int)) (own := RX11) (by decide) rfl rfl (Nat.le_of_ble_eq_true rfl) ?_
  intro p e s m args below meth c ls CF hr hlk hnm hc hl
  obtain ⟨hx, hb, hml, hown, hts⟩ := id CF
  have hl : lv_has ls 7 [(0, .ref p0), (1, .int p1), (2, .int p2)] := hl
  show W p l e r_X11_termNodes s m args below meth c s.heap [] 0 0 (MQ below (gQi D cA g sz (fun r g2 => g = g2 ∧ Q r)) args s 0 0 (gA g sz)) (F0 m 0 ls [])
  have hb_10 : ∀ (r0 : Nat) (i2 : Int32), ∀ (i3 : Int32) (i4 : Int32) (i5 : Int32), lpx3 (l_X11_termNodes_10 g r0 i2 Q) i3 i4 i5 → ∀ (H : Heap) (locs : List Loc) (ls : Array Slot), gC D cA (gA g sz) s g H locs → lv_has ls 7 [(0, .ref r0), (2, .int i2), (3, .int i3), (4, .int i4), (5, .int i5)] → W p l e r_X11_termNodes s m args below meth c H locs 0 0 (MQ below (gQi D cA g sz (fun r g2 => g = g2 ∧ Q r)) args s 0 0 (gA g sz)) (F0 m 10 ls []) := by
    intro r0 i2
    refine lpx3_run (P := fun (i3 : Int32) (i4 : Int32) (i5 : Int32) => ∀ (H : Heap) (locs : List Loc) (ls : Array Slot), gC D cA (gA g sz) s g H locs → lv_has ls 7 [(0, .ref r0), (2, .int i2), (3, .int i3), (4, .int i4), (5, .int i5)] → W p l e r_X11_termNodes s m args below meth c H locs 0 0 (MQ below (gQi D cA g sz (fun r g2 => g = g2 ∧ Q r)) args s 0 0 (gA g sz)) (F0 m 10 ls [])) ?_
    intro k10 hk_10 i3 i4 i5 h H locs ls hc hl
    have hb_212 : ∀ (i3 : Int32) (i4 : Int32) (i5 : Int32), b_X11_termNodes_212 g r0 i2 i3 i4 i5 Q k10 → ∀ (H : Heap) (locs : List Loc) (ls : Array Slot), gC D cA (gA g sz) s g H locs → lv_has ls 7 [(0, .ref r0), (2, .int i2), (3, .int i3), (4, .int i4), (5, .int i5)] → W p l e r_X11_termNodes s m args below meth c H locs 0 0 (MQ below (gQi D cA g sz (fun r g2 => g = g2 ∧ Q r)) args s 0 0 (gA g sz)) (F0 m 212 ls []) := by
      intro i3 i4 i5 h H locs ls hc hl
      unfold b_X11_termNodes_212 at h
      refine lv_iinc (v := (i5 + (-1))) (lv' := [(5, .int (i5 + (-1))), (0, .ref r0), (2, .int i2), (3, .int i3), (4, .int i4)]) hx hb dX11_termNodes_212 hl (k := 4) rfl rfl (by decide) rfl (fun ls hl => ?_)
      refine lv_goto (tgt := 10) hx hb dX11_termNodes_215 (by decide) ?_
      exact hk_10 i3 i4 (i5 + (-1)) h _ _ _ hc (lv_sub hl [1, 2, 3, 4, 0] rfl)
    have hb_176 : ∀ (i4 : Int32) (i5 : Int32), ∀ (i3 : Int32) (i6 : Int32), lpx2 (l_X11_termNodes_176 g r0 i2 i4 i5 Q k10) i3 i6 → ∀ (H : Heap) (locs : List Loc) (ls : Array Slot), gC D cA (gA g sz) s g H locs → lv_has ls 7 [(0, .ref r0), (2, .int i2), (3, .int i3), (4, .int i4), (5, .int i5), (6, .int i6)] → W p l e r_X11_termNodes s m args below meth c H locs 0 0 (MQ below (gQi D cA g sz (fun r g2 => g = g2 ∧ Q r)) args s 0 0 (gA g sz)) (F0 m 176 ls []) := by
      intro i4 i5
      refine lpx2_run (P := fun (i3 : Int32) (i6 : Int32) => ∀ (H : Heap) (locs : List Loc) (ls : Array Slot), gC D cA (gA g sz) s g H locs → lv_has ls 7 [(0, .ref r0), (2, .int i2), (3, .int i3), (4, .int i4), (5, .int i5), (6, .int i6)] → W p l e r_X11_termNodes s m args below meth c H locs 0 0 (MQ below (gQi D cA g sz (fun r g2 => g = g2 ∧ Q r)) args s 0 0 (gA g sz)) (F0 m 176 ls [])) ?_
      intro k176 hk_176 i3 i6 h H locs ls hc hl
      unfold l_X11_termNodes_176 at h
      refine lv_iload hx hb dX11_termNodes_176 (lv_at hl 5 rfl) ?_
      refine lv_aload_n hx hb dX11_termNodes_178 rfl (lv_at hl 0 rfl) ?_
      obtain ⟨hk1, h⟩ := h
      obtain ⟨y2, e3, h⟩ := h
      refine g_getr CF hc hk1 rfl (by decide) (fun _ h9 => List.mem_cons_of_mem _ (List.mem_append_right _ (h9))) (k := 18) (by decide) (List.mem_cons_of_mem _ (List.mem_append_left _ (List.mem_of_getElem? (i := 1) rfl))) e3 rfl dX11_termNodes_179 ?_
      refine lv_iload hx hb dX11_termNodes_182 (lv_at hl 4 rfl) ?_
      obtain ⟨hk4, h⟩ := h
      obtain ⟨hi5, h⟩ := h
      refine g_iald CF hc hk4 hi5 dX11_termNodes_184 ?_
      refine lv_aload_n hx hb dX11_termNodes_185 rfl (lv_at hl 0 rfl) ?_
      obtain ⟨y6, e7, h⟩ := h
      refine g_getr CF hc hk1 rfl (by decide) (fun _ h9 => List.mem_cons_of_mem _ (List.mem_append_right _ (h9))) (k := 19) (by decide) (List.mem_cons_of_mem _ (List.mem_append_left _ (List.mem_of_getElem? (i := 2) rfl))) e7 rfl dX11_termNodes_186 ?_
      refine lv_iload hx hb dX11_termNodes_189 (lv_at hl 4 rfl) ?_
      obtain ⟨hk8, h⟩ := h
      obtain ⟨hi9, h⟩ := h
      refine g_iald CF hc hk8 hi9 dX11_termNodes_191 ?_
      refine lv_iadd hx hb dX11_termNodes_192 ?_
      refine lv_icmp_ge (tgt := 209) hx hb dX11_termNodes_193 (by decide) (fun c10 => ?_) (fun c10 => ?_)
      · have h := h.1 c10
        refine lv_goto (tgt := 212) hx hb dX11_termNodes_209 (by decide) ?_
        exact hb_212 i3 i4 i5 h _ _ _ hc (lv_sub hl [0, 1, 2, 3, 4] rfl)
      · have h := h.2 c10
        refine lv_iload_n hx hb dX11_termNodes_196 rfl (lv_at hl 2 rfl) ?_
        refine lv_iconst (v := 1) hx hb dX11_termNodes_197 (by decide) ?_
        refine lv_iload hx hb dX11_termNodes_198 (lv_at hl 5 rfl) ?_
        refine lv_ishl hx hb dX11_termNodes_200 ?_
        refine lv_ior hx hb dX11_termNodes_201 ?_
        refine lv_istore_n (lv' := [(3, .int (i3 ||| (1 <<< (i6 &&& 31)))), (0, .ref r0), (2, .int i2), (4, .int i4), (5, .int i5), (6, .int i6)]) hx hb dX11_termNodes_202 rfl hl (by decide) rfl (fun ls hl => ?_)
        refine lv_iinc (v := (i6 + 1)) (lv' := [(6, .int (i6 + 1)), (3, .int (i3 ||| (1 <<< (i6 &&& 31)))), (0, .ref r0), (2, .int i2), (4, .int i4), (5, .int i5)]) hx hb dX11_termNodes_203 hl (k := 5) rfl rfl (by decide) rfl (fun ls hl => ?_)
        refine lv_goto (tgt := 176) hx hb dX11_termNodes_206 (by decide) ?_
        exact hk_176 (i3 ||| (1 <<< (i6 &&& 31))) (i6 + 1) h _ _ _ hc (lv_sub hl [2, 3, 1, 4, 5, 0] rfl)
    unfold l_X11_termNodes_10 at h
    refine lv_iload hx hb dX11_termNodes_10 (lv_at hl 4 rfl) ?_
    refine lv_if_lt (tgt := 218) hx hb dX11_termNodes_12 (by decide) (fun c11 => ?_) (fun c11 => ?_)
    · have h := h.1 c11
      refine lv_iload hx hb dX11_termNodes_218 (lv_at hl 3 rfl) ?_
      exact g_reti (r := i4) CF hr hlk hc rfl ⟨rfl, h⟩ dX11_termNodes_220
    · have h := h.2 c11
      refine lv_iload_n hx hb dX11_termNodes_15 rfl (lv_at hl 2 rfl) ?_
      refine lv_iload hx hb dX11_termNodes_16 (lv_at hl 4 rfl) ?_
      refine lv_ishr hx hb dX11_termNodes_18 ?_
      refine lv_iconst (v := 1) hx hb dX11_termNodes_19 (by decide) ?_
      refine lv_iand hx hb dX11_termNodes_20 ?_
      refine lv_if_ne (tgt := 27) hx hb dX11_termNodes_21 (by decide) (fun c12 => ?_) (fun c12 => ?_)
      · have h := h.2 c12
        refine lv_aload_n hx hb dX11_termNodes_27 rfl (lv_at hl 0 rfl) ?_
        obtain ⟨hk13, h⟩ := h
        obtain ⟨y14, e15, h⟩ := h
        refine g_getr CF hc hk13 rfl (by decide) (fun _ h9 => List.mem_cons_of_mem _ (List.mem_append_right _ (h9))) (k := 17) (by decide) (List.mem_cons_of_mem _ (List.mem_append_left _ (List.mem_of_getElem? (i := 0) rfl))) e15 rfl dX11_termNodes_28 ?_
        refine lv_iload hx hb dX11_termNodes_31 (lv_at hl 4 rfl) ?_
        obtain ⟨hk16, h⟩ := h
        obtain ⟨hi17, h⟩ := h
        refine g_iald CF hc hk16 hi17 dX11_termNodes_33 ?_
        by_cases hd18 : (gI g y14 (Int32.toNatClampNeg i5)).toInt < 0 ∨ 8 < (gI g y14 (Int32.toNatClampNeg i5)).toInt
        · replace h := h.1 hd18
          refine lv_tableOut (tgt := 212) hx hb dX11_termNodes_34 hd18 (by decide) ?_
          exact hb_212 i3 i4 i5 h _ _ _ hc (lv_sub hl [0, 1, 2, 3, 4] rfl)
        · replace h := h.2
          rcases (show (gI g y14 (Int32.toNatClampNeg i5)).toInt = 0 ∨ (gI g y14 (Int32.toNatClampNeg i5)).toInt = 1 ∨ (gI g y14 (Int32.toNatClampNeg i5)).toInt = 2 ∨ (gI g y14 (Int32.toNatClampNeg i5)).toInt = 3 ∨ (gI g y14 (Int32.toNatClampNeg i5)).toInt = 4 ∨ (gI g y14 (Int32.toNatClampNeg i5)).toInt = 5 ∨ (gI g y14 (Int32.toNatClampNeg i5)).toInt = 6 ∨ (gI g y14 (Int32.toNatClampNeg i5)).toInt = 7 ∨ (gI g y14 (Int32.toNatClampNeg i5)).toInt = 8 by omega) with hs | hs | hs | hs | hs | hs | hs | hs | hs
          · have h := h.1 hs
            refine lv_tableIn (off := 50) (tgt := 84) hx hb dX11_termNodes_34 (by omega) (by omega) (by rw [hs]; rfl) (by decide) ?_
            refine lv_iload hx hb dX11_termNodes_84 (lv_at hl 3 rfl) ?_
            refine lv_iconst (v := 1) hx hb dX11_termNodes_86 (by decide) ?_
            refine lv_iload hx hb dX11_termNodes_87 (lv_at hl 4 rfl) ?_
            refine lv_ishl hx hb dX11_termNodes_89 ?_
            refine lv_ior hx hb dX11_termNodes_90 ?_
            refine lv_istore (lv' := [(4, .int (i4 ||| (1 <<< (i5 &&& 31)))), (0, .ref r0), (2, .int i2), (3, .int i3), (5, .int i5)]) hx hb dX11_termNodes_91 hl (by decide) rfl (fun ls hl => ?_)
            refine lv_goto (tgt := 212) hx hb dX11_termNodes_93 (by decide) ?_
            exact hb_212 i3 (i4 ||| (1 <<< (i5 &&& 31))) i5 h _ _ _ hc (lv_sub hl [1, 2, 3, 0, 4] rfl)
          · have h := h.2.1 hs
            refine lv_tableIn (off := 93) (tgt := 127) hx hb dX11_termNodes_34 (by omega) (by omega) (by rw [hs]; rfl) (by decide) ?_
            refine lv_iload_n hx hb dX11_termNodes_127 rfl (lv_at hl 2 rfl) ?_
            refine lv_iconst (v := 1) hx hb dX11_termNodes_128 (by decide) ?_
            refine lv_aload_n hx hb dX11_termNodes_129 rfl (lv_at hl 0 rfl) ?_
            obtain ⟨y19, e20, h⟩ := h
            refine g_getr CF hc hk13 rfl (by decide) (fun _ h9 => List.mem_cons_of_mem _ (List.mem_append_right _ (h9))) (k := 18) (by decide) (List.mem_cons_of_mem _ (List.mem_append_left _ (List.mem_of_getElem? (i := 1) rfl))) e20 rfl dX11_termNodes_130 ?_
            refine lv_iload hx hb dX11_termNodes_133 (lv_at hl 4 rfl) ?_
            obtain ⟨hk21, h⟩ := h
            obtain ⟨hi22, h⟩ := h
            refine g_iald CF hc hk21 hi22 dX11_termNodes_135 ?_
            refine lv_ishl hx hb dX11_termNodes_136 ?_
            refine lv_iconst (v := 1) hx hb dX11_termNodes_137 (by decide) ?_
            refine lv_aload_n hx hb dX11_termNodes_138 rfl (lv_at hl 0 rfl) ?_
            obtain ⟨y23, e24, h⟩ := h
            refine g_getr CF hc hk13 rfl (by decide) (fun _ h9 => List.mem_cons_of_mem _ (List.mem_append_right _ (h9))) (k := 19) (by decide) (List.mem_cons_of_mem _ (List.mem_append_left _ (List.mem_of_getElem? (i := 2) rfl))) e24 rfl dX11_termNodes_139 ?_
            refine lv_iload hx hb dX11_termNodes_142 (lv_at hl 4 rfl) ?_
            obtain ⟨hk25, h⟩ := h
            obtain ⟨hi26, h⟩ := h
            refine g_iald CF hc hk25 hi26 dX11_termNodes_144 ?_
            refine lv_ishl hx hb dX11_termNodes_145 ?_
            refine lv_ior hx hb dX11_termNodes_146 ?_
            refine lv_ior hx hb dX11_termNodes_147 ?_
            refine lv_istore_n (lv' := [(3, .int (i3 ||| ((1 <<< ((gI g y19 (Int32.toNatClampNeg i5)) &&& 31)) ||| (1 <<< ((gI g y23 (Int32.toNatClampNeg i5)) &&& 31))))), (0, .ref r0), (2, .int i2), (4, .int i4), (5, .int i5)]) hx hb dX11_termNodes_148 rfl hl (by decide) rfl (fun ls hl => ?_)
            refine lv_goto (tgt := 212) hx hb dX11_termNodes_149 (by decide) ?_
            exact hb_212 (i3 ||| ((1 <<< ((gI g y19 (Int32.toNatClampNeg i5)) &&& 31)) ||| (1 <<< ((gI g y23 (Int32.toNatClampNeg i5)) &&& 31)))) i4 i5 h _ _ _ hc (lv_sub hl [1, 2, 0, 3, 4] rfl)
          · have h := h.2.2.1 hs
            refine lv_tableIn (off := 93) (tgt := 127) hx hb dX11_termNodes_34 (by omega) (by omega) (by rw [hs]; rfl) (by decide) ?_
            refine lv_iload_n hx hb dX11_termNodes_127 rfl (lv_at hl 2 rfl) ?_
            refine lv_iconst (v := 1) hx hb dX11_termNodes_128 (by decide) ?_
            refine lv_aload_n hx hb dX11_termNodes_129 rfl (lv_at hl 0 rfl) ?_
            obtain ⟨y27, e28, h⟩ := h
            refine g_getr CF hc hk13 rfl (by decide) (fun _ h9 => List.mem_cons_of_mem _ (List.mem_append_right _ (h9))) (k := 18) (by decide) (List.mem_cons_of_mem _ (List.mem_append_left _ (List.mem_of_getElem? (i := 1) rfl))) e28 rfl dX11_termNodes_130 ?_
            refine lv_iload hx hb dX11_termNodes_133 (lv_at hl 4 rfl) ?_
            obtain ⟨hk29, h⟩ := h
            obtain ⟨hi30, h⟩ := h
            refine g_iald CF hc hk29 hi30 dX11_termNodes_135 ?_
            refine lv_ishl hx hb dX11_termNodes_136 ?_
            refine lv_iconst (v := 1) hx hb dX11_termNodes_137 (by decide) ?_
            refine lv_aload_n hx hb dX11_termNodes_138 rfl (lv_at hl 0 rfl) ?_
            obtain ⟨y31, e32, h⟩ := h
            refine g_getr CF hc hk13 rfl (by decide) (fun _ h9 => List.mem_cons_of_mem _ (List.mem_append_right _ (h9))) (k := 19) (by decide) (List.mem_cons_of_mem _ (List.mem_append_left _ (List.mem_of_getElem? (i := 2) rfl))) e32 rfl dX11_termNodes_139 ?_
            refine lv_iload hx hb dX11_termNodes_142 (lv_at hl 4 rfl) ?_
            obtain ⟨hk33, h⟩ := h
            obtain ⟨hi34, h⟩ := h
            refine g_iald CF hc hk33 hi34 dX11_termNodes_144 ?_
            refine lv_ishl hx hb dX11_termNodes_145 ?_
            refine lv_ior hx hb dX11_termNodes_146 ?_
            refine lv_ior hx hb dX11_termNodes_147 ?_
            refine lv_istore_n (lv' := [(3, .int (i3 ||| ((1 <<< ((gI g y27 (Int32.toNatClampNeg i5)) &&& 31)) ||| (1 <<< ((gI g y31 (Int32.toNatClampNeg i5)) &&& 31))))), (0, .ref r0), (2, .int i2), (4, .int i4), (5, .int i5)]) hx hb dX11_termNodes_148 rfl hl (by decide) rfl (fun ls hl => ?_)
            refine lv_goto (tgt := 212) hx hb dX11_termNodes_149 (by decide) ?_
            exact hb_212 (i3 ||| ((1 <<< ((gI g y27 (Int32.toNatClampNeg i5)) &&& 31)) ||| (1 <<< ((gI g y31 (Int32.toNatClampNeg i5)) &&& 31)))) i4 i5 h _ _ _ hc (lv_sub hl [1, 2, 0, 3, 4] rfl)
          · have h := h.2.2.2.1 hs
            refine lv_tableIn (off := 62) (tgt := 96) hx hb dX11_termNodes_34 (by omega) (by omega) (by rw [hs]; rfl) (by decide) ?_
            refine lv_iload_n hx hb dX11_termNodes_96 rfl (lv_at hl 2 rfl) ?_
            refine lv_iconst (v := 1) hx hb dX11_termNodes_97 (by decide) ?_
            refine lv_aload_n hx hb dX11_termNodes_98 rfl (lv_at hl 0 rfl) ?_
            obtain ⟨y35, e36, h⟩ := h
            refine g_getr CF hc hk13 rfl (by decide) (fun _ h9 => List.mem_cons_of_mem _ (List.mem_append_right _ (h9))) (k := 18) (by decide) (List.mem_cons_of_mem _ (List.mem_append_left _ (List.mem_of_getElem? (i := 1) rfl))) e36 rfl dX11_termNodes_99 ?_
            refine lv_iload hx hb dX11_termNodes_102 (lv_at hl 4 rfl) ?_
            obtain ⟨hk37, h⟩ := h
            obtain ⟨hi38, h⟩ := h
            refine g_iald CF hc hk37 hi38 dX11_termNodes_104 ?_
            refine lv_ishl hx hb dX11_termNodes_105 ?_
            refine lv_ior hx hb dX11_termNodes_106 ?_
            refine lv_istore_n (lv' := [(3, .int (i3 ||| (1 <<< ((gI g y35 (Int32.toNatClampNeg i5)) &&& 31)))), (0, .ref r0), (2, .int i2), (4, .int i4), (5, .int i5)]) hx hb dX11_termNodes_107 rfl hl (by decide) rfl (fun ls hl => ?_)
            refine lv_iload_n hx hb dX11_termNodes_108 rfl (lv_at hl 2 rfl) ?_
            refine lv_if_eq (tgt := 212) hx hb dX11_termNodes_109 (by decide) (fun c39 => ?_) (fun c39 => ?_)
            · have h := h.1 c39
              exact hb_212 (i3 ||| (1 <<< ((gI g y35 (Int32.toNatClampNeg i5)) &&& 31))) i4 i5 h _ _ _ hc (lv_sub hl [1, 2, 0, 3, 4] rfl)
            · have h := h.2 c39
              refine lv_iload_n hx hb dX11_termNodes_112 rfl (lv_at hl 0 rfl) ?_
              refine lv_iconst (v := 1) hx hb dX11_termNodes_113 (by decide) ?_
              refine lv_aload_n hx hb dX11_termNodes_114 rfl (lv_at hl 1 rfl) ?_
              obtain ⟨y40, e41, h⟩ := h
              refine g_getr CF hc hk13 rfl (by decide) (fun _ h9 => List.mem_cons_of_mem _ (List.mem_append_right _ (h9))) (k := 19) (by decide) (List.mem_cons_of_mem _ (List.mem_append_left _ (List.mem_of_getElem? (i := 2) rfl))) e41 rfl dX11_termNodes_115 ?_
              refine lv_iload hx hb dX11_termNodes_118 (lv_at hl 4 rfl) ?_
              obtain ⟨hk42, h⟩ := h
              obtain ⟨hi43, h⟩ := h
              refine g_iald CF hc hk42 hi43 dX11_termNodes_120 ?_
              refine lv_ishl hx hb dX11_termNodes_121 ?_
              refine lv_ior hx hb dX11_termNodes_122 ?_
              refine lv_istore_n (lv' := [(3, .int ((i3 ||| (1 <<< ((gI g y35 (Int32.toNatClampNeg i5)) &&& 31))) ||| (1 <<< ((gI g y40 (Int32.toNatClampNeg i5)) &&& 31)))), (0, .ref r0), (2, .int i2), (4, .int i4), (5, .int i5)]) hx hb dX11_termNodes_123 rfl hl (by decide) rfl (fun ls hl => ?_)
              refine lv_goto (tgt := 212) hx hb dX11_termNodes_124 (by decide) ?_
              exact hb_212 ((i3 ||| (1 <<< ((gI g y35 (Int32.toNatClampNeg i5)) &&& 31))) ||| (1 <<< ((gI g y40 (Int32.toNatClampNeg i5)) &&& 31))) i4 i5 h _ _ _ hc (lv_sub hl [1, 2, 0, 3, 4] rfl)
          · have h := h.2.2.2.2.1 hs
            refine lv_tableIn (off := 93) (tgt := 127) hx hb dX11_termNodes_34 (by omega) (by omega) (by rw [hs]; rfl) (by decide) ?_
            refine lv_iload_n hx hb dX11_termNodes_127 rfl (lv_at hl 2 rfl) ?_
            refine lv_iconst (v := 1) hx hb dX11_termNodes_128 (by decide) ?_
            refine lv_aload_n hx hb dX11_termNodes_129 rfl (lv_at hl 0 rfl) ?_
            obtain ⟨y44, e45, h⟩ := h
            refine g_getr CF hc hk13 rfl (by decide) (fun _ h9 => List.mem_cons_of_mem _ (List.mem_append_right _ (h9))) (k := 18) (by decide) (List.mem_cons_of_mem _ (List.mem_append_left _ (List.mem_of_getElem? (i := 1) rfl))) e45 rfl dX11_termNodes_130 ?_
            refine lv_iload hx hb dX11_termNodes_133 (lv_at hl 4 rfl) ?_
            obtain ⟨hk46, h⟩ := h
            obtain ⟨hi47, h⟩ := h
            refine g_iald CF hc hk46 hi47 dX11_termNodes_135 ?_
            refine lv_ishl hx hb dX11_termNodes_136 ?_
            refine lv_iconst (v := 1) hx hb dX11_termNodes_137 (by decide) ?_
            refine lv_aload_n hx hb dX11_termNodes_138 rfl (lv_at hl 0 rfl) ?_
            obtain ⟨y48, e49, h⟩ := h
            refine g_getr CF hc hk13 rfl (by decide) (fun _ h9 => List.mem_cons_of_mem _ (List.mem_append_right _ (h9))) (k := 19) (by decide) (List.mem_cons_of_mem _ (List.mem_append_left _ (List.mem_of_getElem? (i := 2) rfl))) e49 rfl dX11_termNodes_139 ?_
            refine lv_iload hx hb dX11_termNodes_142 (lv_at hl 4 rfl) ?_
            obtain ⟨hk50, h⟩ := h
            obtain ⟨hi51, h⟩ := h
            refine g_iald CF hc hk50 hi51 dX11_termNodes_144 ?_
            refine lv_ishl hx hb dX11_termNodes_145 ?_
            refine lv_ior hx hb dX11_termNodes_146 ?_
            refine lv_ior hx hb dX11_termNodes_147 ?_
            refine lv_istore_n (lv' := [(3, .int (i3 ||| ((1 <<< ((gI g y44 (Int32.toNatClampNeg i5)) &&& 31)) ||| (1 <<< ((gI g y48 (Int32.toNatClampNeg i5)) &&& 31))))), (0, .ref r0), (2, .int i2), (4, .int i4), (5, .int i5)]) hx hb dX11_termNodes_148 rfl hl (by decide) rfl (fun ls hl => ?_)
            refine lv_goto (tgt := 212) hx hb dX11_termNodes_149 (by decide) ?_
            exact hb_212 (i3 ||| ((1 <<< ((gI g y44 (Int32.toNatClampNeg i5)) &&& 31)) ||| (1 <<< ((gI g y48 (Int32.toNatClampNeg i5)) &&& 31)))) i4 i5 h _ _ _ hc (lv_sub hl [1, 2, 0, 3, 4] rfl)
          · have h := h.2.2.2.2.2.1 hs
            refine lv_tableIn (off := 178) (tgt := 212) hx hb dX11_termNodes_34 (by omega) (by omega) (by rw [hs]; rfl) (by decide) ?_
            exact hb_212 i3 i4 i5 h _ _ _ hc (lv_sub hl [0, 1, 2, 3, 4] rfl)
          · have h := h.2.2.2.2.2.2.1 hs
            refine lv_tableIn (off := 178) (tgt := 212) hx hb dX11_termNodes_34 (by omega) (by omega) (by rw [hs]; rfl) (by decide) ?_
            exact hb_212 i3 i4 i5 h _ _ _ hc (lv_sub hl [0, 1, 2, 3, 4] rfl)
          · have h := h.2.2.2.2.2.2.2.1 hs
            refine lv_tableIn (off := 118) (tgt := 152) hx hb dX11_termNodes_34 (by omega) (by omega) (by rw [hs]; rfl) (by decide) ?_
            refine lv_iload_n hx hb dX11_termNodes_152 rfl (lv_at hl 2 rfl) ?_
            refine lv_iconst (v := 1) hx hb dX11_termNodes_153 (by decide) ?_
            refine lv_aload_n hx hb dX11_termNodes_154 rfl (lv_at hl 0 rfl) ?_
            obtain ⟨y52, e53, h⟩ := h
            refine g_getr CF hc hk13 rfl (by decide) (fun _ h9 => List.mem_cons_of_mem _ (List.mem_append_right _ (h9))) (k := 18) (by decide) (List.mem_cons_of_mem _ (List.mem_append_left _ (List.mem_of_getElem? (i := 1) rfl))) e53 rfl dX11_termNodes_155 ?_
            refine lv_iload hx hb dX11_termNodes_158 (lv_at hl 4 rfl) ?_
            obtain ⟨hk54, h⟩ := h
            obtain ⟨hi55, h⟩ := h
            refine g_iald CF hc hk54 hi55 dX11_termNodes_160 ?_
            refine lv_ishl hx hb dX11_termNodes_161 ?_
            refine lv_ior hx hb dX11_termNodes_162 ?_
            refine lv_istore_n (lv' := [(3, .int (i3 ||| (1 <<< ((gI g y52 (Int32.toNatClampNeg i5)) &&& 31)))), (0, .ref r0), (2, .int i2), (4, .int i4), (5, .int i5)]) hx hb dX11_termNodes_163 rfl hl (by decide) rfl (fun ls hl => ?_)
            refine lv_goto (tgt := 212) hx hb dX11_termNodes_164 (by decide) ?_
            exact hb_212 (i3 ||| (1 <<< ((gI g y52 (Int32.toNatClampNeg i5)) &&& 31))) i4 i5 h _ _ _ hc (lv_sub hl [1, 2, 0, 3, 4] rfl)
          · have h := h.2.2.2.2.2.2.2.2 hs
            refine lv_tableIn (off := 133) (tgt := 167) hx hb dX11_termNodes_34 (by omega) (by omega) (by rw [hs]; rfl) (by decide) ?_
            refine lv_aload_n hx hb dX11_termNodes_167 rfl (lv_at hl 0 rfl) ?_
            obtain ⟨y56, e57, h⟩ := h
            refine g_getr CF hc hk13 rfl (by decide) (fun _ h9 => List.mem_cons_of_mem _ (List.mem_append_right _ (h9))) (k := 18) (by decide) (List.mem_cons_of_mem _ (List.mem_append_left _ (List.mem_of_getElem? (i := 1) rfl))) e57 rfl dX11_termNodes_168 ?_
            refine lv_iload hx hb dX11_termNodes_171 (lv_at hl 4 rfl) ?_
            obtain ⟨hk58, h⟩ := h
            obtain ⟨hi59, h⟩ := h
            refine g_iald CF hc hk58 hi59 dX11_termNodes_173 ?_
            refine lv_istore (lv' := [(6, .int (gI g y56 (Int32.toNatClampNeg i5))), (0, .ref r0), (2, .int i2), (3, .int i3), (4, .int i4), (5, .int i5)]) hx hb dX11_termNodes_174 hl (by decide) rfl (fun ls hl => ?_)
            exact hb_176 i4 i5 i3 (gI g y56 (Int32.toNatClampNeg i5)) h _ _ _ hc (lv_sub hl [1, 2, 3, 4, 5, 0] rfl)
      · have h := h.1 c12
        refine lv_goto (tgt := 212) hx hb dX11_termNodes_24 (by decide) ?_
        exact hb_212 i3 i4 i5 h _ _ _ hc (lv_sub hl [0, 1, 2, 3, 4] rfl)
  unfold w_X11_termNodes at h
  obtain ⟨H, hH0⟩ : ∃ z, z = s.heap := ⟨_, rfl⟩
  rw [← hH0] at hc ⊢
  obtain ⟨locs, hlc0⟩ : ∃ z : List Loc, z = [] := ⟨_, rfl⟩
  rw [← hlc0] at hc ⊢
  refine lv_iconst (v := 1) hx hb dX11_termNodes_0 (by decide) ?_
  refine lv_iload_n hx hb dX11_termNodes_1 rfl (lv_at hl 1 rfl) ?_
  refine lv_ishl hx hb dX11_termNodes_2 ?_
  refine lv_istore_n (lv' := [(3, .int (1 <<< (p1 &&& 31))), (0, .ref p0), (1, .int p1), (2, .int p2)]) hx hb dX11_termNodes_3 rfl hl (by decide) rfl (fun ls hl => ?_)
  refine lv_iconst (v := 0) hx hb dX11_termNodes_4 (by decide) ?_
  refine lv_istore (lv' := [(4, .int 0), (3, .int (1 <<< (p1 &&& 31))), (0, .ref p0), (1, .int p1), (2, .int p2)]) hx hb dX11_termNodes_5 hl (by decide) rfl (fun ls hl => ?_)
  refine lv_iload_n hx hb dX11_termNodes_7 rfl (lv_at hl 3 rfl) ?_
  refine lv_istore (lv' := [(5, .int p1), (4, .int 0), (3, .int (1 <<< (p1 &&& 31))), (0, .ref p0), (1, .int p1), (2, .int p2)]) hx hb dX11_termNodes_8 hl (by decide) rfl (fun ls hl => ?_)
  exact hb_10 p0 p2 (1 <<< (p1 &&& 31)) 0 p1 h _ _ _ hc (lv_sub hl [3, 5, 2, 1, 0] rfl)
def b_X11_window_259 (g : gS) (r0 : Nat) (i1 : Int32) (i3 : Int32) (i4 : Int32) (i5 : Int32) (i6 : Int32) (i7 : Int32) (i8 : Int32) (Q : Int32 → gS → Prop) (k68 : Int32 → Int32 → Int32 → Prop) : Prop :=
  k68 i6 i7 (i8 + 1)
def b_X11_window_235 (g : gS) (r0 : Nat) (i1 : Int32) (i3 : Int32) (i4 : Int32) (i5 : Int32) (i6 : Int32) (i7 : Int32) (i8 : Int32) (i10 : Int32) (is0 : Int32) (is1 : Int32) (Q : Int32 → gS → Prop) (k68 : Int32 → Int32 → Int32 → Prop) (k86 : Int32 → Int32 → Prop) : Prop :=
  k86 (is0 + is1) (i10 + 1)
def b_X11_window_214 (g : gS) (r0 : Nat) (i1 : Int32) (i3 : Int32) (i4 : Int32) (i5 : Int32) (i6 : Int32) (i7 : Int32) (i8 : Int32) (i9 : Int32) (i10 : Int32) (i12 : Int32) (is0 : Int32) (is1 : Int32) (Q : Int32 → gS → Prop) (k68 : Int32 → Int32 → Int32 → Prop) (k86 : Int32 → Int32 → Prop) (k181 : Int32 → Int32 → Prop) : Prop :=
  k181 (is0 &&& is1) (i12 + 1)
def l_X11_window_181 (g : gS) (r0 : Nat) (i1 : Int32) (i3 : Int32) (i4 : Int32) (i5 : Int32) (i6 : Int32) (i7 : Int32) (i8 : Int32) (i9 : Int32) (i10 : Int32) (Q : Int32 → gS → Prop) (k68 : Int32 → Int32 → Int32 → Prop) (k86 : Int32 → Int32 → Prop) (i11 : Int32) (i12 : Int32) (k181 : Int32 → Int32 → Prop) : Prop :=
  (i10 ≤ i12 → ((i11 = 0 → (b_X11_window_235 g r0 i1 i3 i4 i5 i6 i7 i8 i10 i9 0 Q k68 k86)) ∧ (¬ i11 = 0 → (b_X11_window_235 g r0 i1 i3 i4 i5 i6 i7 i8 i10 i9 1 Q k68 k86)))) ∧ (¬ i10 ≤ i12 → (gK g r0 = 12 ∧ (w_X11_at g r0 i1 i3 i12 (fun x4 => (w_X11_at g r0 i1 i3 i10 (fun x6 => ((x4 = x6 → (b_X11_window_214 g r0 i1 i3 i4 i5 i6 i7 i8 i9 i10 i12 i11 0 Q k68 k86 k181)) ∧ (¬ x4 = x6 → (b_X11_window_214 g r0 i1 i3 i4 i5 i6 i7 i8 i9 i10 i12 i11 1 Q k68 k86 k181)))))))))
def b_X11_window_168 (g : gS) (r0 : Nat) (i1 : Int32) (i3 : Int32) (i4 : Int32) (i5 : Int32) (i6 : Int32) (i7 : Int32) (i8 : Int32) (i9 : Int32) (i10 : Int32) (i12 : Int32) (is0 : Int32) (is1 : Int32) (Q : Int32 → gS → Prop) (k68 : Int32 → Int32 → Int32 → Prop) (k86 : Int32 → Int32 → Prop) (k111 : Int32 → Int32 → Prop) : Prop :=
  k111 (is0 ||| is1) (i12 + 1)
def b_X11_window_167 (g : gS) (r0 : Nat) (i1 : Int32) (i3 : Int32) (i4 : Int32) (i5 : Int32) (i6 : Int32) (i7 : Int32) (i8 : Int32) (i9 : Int32) (i10 : Int32) (i12 : Int32) (is0 : Int32) (Q : Int32 → gS → Prop) (k68 : Int32 → Int32 → Int32 → Prop) (k86 : Int32 → Int32 → Prop) (k111 : Int32 → Int32 → Prop) : Prop :=
  b_X11_window_168 g r0 i1 i3 i4 i5 i6 i7 i8 i9 i10 i12 is0 0 Q k68 k86 k111
def l_X11_window_111 (g : gS) (r0 : Nat) (i1 : Int32) (i3 : Int32) (i4 : Int32) (i5 : Int32) (i6 : Int32) (i7 : Int32) (i8 : Int32) (i9 : Int32) (i10 : Int32) (Q : Int32 → gS → Prop) (k68 : Int32 → Int32 → Int32 → Prop) (k86 : Int32 → Int32 → Prop) (i11 : Int32) (i12 : Int32) (k111 : Int32 → Int32 → Prop) : Prop :=
  gK g r0 = 12 ∧ (((gI g r0 16) ≤ i12 → (lpx2 (l_X11_window_181 g r0 i1 i3 i4 i5 i6 i7 i8 i9 i10 Q k68 k86) i11 i8)) ∧ (¬ (gI g r0 16) ≤ i12 → ((((i5 >>> (i12 &&& 31)) &&& 1) = 0 → (b_X11_window_167 g r0 i1 i3 i4 i5 i6 i7 i8 i9 i10 i12 i11 Q k68 k86 k111)) ∧ (¬ ((i5 >>> (i12 &&& 31)) &&& 1) = 0 → (∃ y12, gR g r0 19 = some y12 ∧ (gK g y12 = 21 ∧ (vp_in i12 (gN g y12) ∧ (((((gI g y12 (Int32.toNatClampNeg i12)) >>> (i3 &&& 31)) &&& 1) = 0 → (b_X11_window_167 g r0 i1 i3 i4 i5 i6 i7 i8 i9 i10 i12 i11 Q k68 k86 k111)) ∧ (¬ (((gI g y12 (Int32.toNatClampNeg i12)) >>> (i3 &&& 31)) &&& 1) = 0 → (w_X11_at g r0 i1 i3 i10 (fun x17 => (w_X11_looksFor g r0 i12 x17 (fun x19 => ((x19 = 0 → (b_X11_window_167 g r0 i1 i3 i4 i5 i6 i7 i8 i9 i10 i12 i11 Q k68 k86 k111)) ∧ (¬ x19 = 0 → (b_X11_window_168 g r0 i1 i3 i4 i5 i6 i7 i8 i9 i10 i12 i11 1 Q k68 k86 k111))))))))))))))))
def l_X11_window_86 (g : gS) (r0 : Nat) (i1 : Int32) (i3 : Int32) (i4 : Int32) (i5 : Int32) (i6 : Int32) (i7 : Int32) (i8 : Int32) (Q : Int32 → gS → Prop) (k68 : Int32 → Int32 → Int32 → Prop) (i9 : Int32) (i10 : Int32) (k86 : Int32 → Int32 → Prop) : Prop :=
  gK g r0 = 12 ∧ (w_X11_many g r0 i1 i3 (fun x23 => (((if x23 < (i8 + i4) then x23 else (i8 + i4)) ≤ i10 → ((i9 ≤ i7 → (b_X11_window_259 g r0 i1 i3 i4 i5 i6 i7 i8 Q k68)) ∧ (¬ i9 ≤ i7 → (b_X11_window_259 g r0 i1 i3 i4 i5 i8 i9 i8 Q k68)))) ∧ (¬ (if x23 < (i8 + i4) then x23 else (i8 + i4)) ≤ i10 → (lpx2 (l_X11_window_111 g r0 i1 i3 i4 i5 i6 i7 i8 i9 i10 Q k68 k86) 0 0)))))
def l_X11_window_68 (g : gS) (r0 : Nat) (i1 : Int32) (i3 : Int32) (i4 : Int32) (i5 : Int32) (Q : Int32 → gS → Prop) (i6 : Int32) (i7 : Int32) (i8 : Int32) (k68 : Int32 → Int32 → Int32 → Prop) : Prop :=
  gK g r0 = 12 ∧ (w_X11_many g r0 i1 i3 (fun x28 => ((x28 ≤ i8 → (Q i6 g)) ∧ (¬ x28 ≤ i8 → (lpx2 (l_X11_window_86 g r0 i1 i3 i4 i5 i6 i7 i8 Q k68) 0 i8)))))
def b_X11_window_28 (g : gS) (r0 : Nat) (Q : Int32 → gS → Prop) : Prop :=
  gK g r0 = 12 ∧ (w_X11_no g r0 1 (fun x32 g33 => (Q x32 g33)))
def w_X11_window (g0 : gS) (p0 : Nat) (p1 : Int32) (p2 : Int32) (p3 : Int32) (p4 : Int32) (Q : Int32 → gS → Prop) : Prop :=
  gK g0 p0 = 12 ∧ (∀ g36, g36 = sU g0 p0 0 0 → (gK g36 p0 = 12 ∧ (w_X11_isDocument g36 p0 p1 (fun x39 => ((x39 = 0 → (b_X11_window_28 g36 p0 Q)) ∧ (¬ x39 = 0 → (w_X11_isNode g36 p0 p2 (fun x42 => ((x42 = 0 → (b_X11_window_28 g36 p0 Q)) ∧ (¬ x42 = 0 → (w_X11_isField g36 p3 (fun x45 => ((x45 = 0 → (b_X11_window_28 g36 p0 Q)) ∧ (¬ x45 = 0 → (w_X11_isIn g36 p4 1 12 (fun x48 => ((x48 = 0 → (w_X11_no g36 p0 2 (fun x53 g54 => (Q x53 g54)))) ∧ (¬ x48 = 0 → (w_X11_termNodes g36 p0 p2 0 (fun x51 => (lpx3 (l_X11_window_68 g36 p0 p1 p3 p4 x51 Q) (-1) 0 0)))))))))))))))))))))
abbrev r_X11_window : Room := { frames := 2, cells := 0, slots := 0, locals := 43 }
set_option maxHeartbeats 4000000 in
set_option maxRecDepth 100000 in
theorem c_X11_window {l : Launch} {D : va_G} {cA : Nat → ClassId} {sz : Nat} {g0 : gS} {p0 : Nat} {p1 : Int32} {p2 : Int32} {p3 : Int32} {p4 : Int32} {Q : Int32 → gS → Prop} (h : w_X11_window g0 p0 p1 p2 p3 p4 Q) : Met l yX11_window wsX11_window r_X11_window (va_Pc [.ref p0, .int p1, .int p2, .int p3, .int p4] (gPre D cA g0 sz)) (gQi D cA g0 sz (Q)) 0 0 (gA g0 sz) := by
  refine g_met (cc := cX11_window) (maxL := 13) (ret := (some .int)) (own := RX11) (by decide) rfl rfl (Nat.le_of_ble_eq_true rfl) ?_
  intro p e s m args below meth c ls CF hr hlk hnm hc hl
  obtain ⟨hx, hb, hml, hown, hts⟩ := id CF
  have hl : lv_has ls 13 [(0, .ref p0), (1, .int p1), (2, .int p2), (3, .int p3), (4, .int p4)] := hl
  show W p l e r_X11_window s m args below meth c s.heap [] 0 0 (MQ below (gQi D cA g0 sz (Q)) args s 0 0 (gA g0 sz)) (F0 m 0 ls [])
  have hb_68 : ∀ (g : gS) (r0 : Nat) (i1 : Int32) (i3 : Int32) (i4 : Int32) (i5 : Int32), ∀ (i6 : Int32) (i7 : Int32) (i8 : Int32), lpx3 (l_X11_window_68 g r0 i1 i3 i4 i5 Q) i6 i7 i8 → ∀ (H : Heap) (locs : List Loc) (ls : Array Slot), gC D cA (gA g0 sz) s g H locs → lv_has ls 13 [(0, .ref r0), (1, .int i1), (3, .int i3), (4, .int i4), (5, .int i5), (6, .int i6), (7, .int i7), (8, .int i8)] → W p l e r_X11_window s m args below meth c H locs 0 0 (MQ below (gQi D cA g0 sz (Q)) args s 0 0 (gA g0 sz)) (F0 m 68 ls []) := by
    intro g r0 i1 i3 i4 i5
    refine lpx3_run (P := fun (i6 : Int32) (i7 : Int32) (i8 : Int32) => ∀ (H : Heap) (locs : List Loc) (ls : Array Slot), gC D cA (gA g0 sz) s g H locs → lv_has ls 13 [(0, .ref r0), (1, .int i1), (3, .int i3), (4, .int i4), (5, .int i5), (6, .int i6), (7, .int i7), (8, .int i8)] → W p l e r_X11_window s m args below meth c H locs 0 0 (MQ below (gQi D cA g0 sz (Q)) args s 0 0 (gA g0 sz)) (F0 m 68 ls [])) ?_
    intro k68 hk_68 i6 i7 i8 h H locs ls hc hl
    have hb_259 : ∀ (i6 : Int32) (i7 : Int32) (i8 : Int32), b_X11_window_259 g r0 i1 i3 i4 i5 i6 i7 i8 Q k68 → ∀ (H : Heap) (locs : List Loc) (ls : Array Slot), gC D cA (gA g0 sz) s g H locs → lv_has ls 13 [(0, .ref r0), (1, .int i1), (3, .int i3), (4, .int i4), (5, .int i5), (6, .int i6), (7, .int i7), (8, .int i8)] → W p l e r_X11_window s m args below meth c H locs 0 0 (MQ below (gQi D cA g0 sz (Q)) args s 0 0 (gA g0 sz)) (F0 m 259 ls []) := by
      intro i6 i7 i8 h H locs ls hc hl
      unfold b_X11_window_259 at h
      refine lv_iinc (v := (i8 + 1)) (lv' := [(8, .int (i8 + 1)), (0, .ref r0), (1, .int i1), (3, .int i3), (4, .int i4), (5, .int i5), (6, .int i6), (7, .int i7)]) hx hb dX11_window_259 hl (k := 7) rfl rfl (by decide) rfl (fun ls hl => ?_)
      refine lv_goto (tgt := 68) hx hb dX11_window_262 (by decide) ?_
      exact hk_68 i6 i7 (i8 + 1) h _ _ _ hc (lv_sub hl [1, 2, 3, 4, 5, 6, 7, 0] rfl)
    have hb_86 : ∀ (i6 : Int32) (i7 : Int32) (i8 : Int32), ∀ (i9 : Int32) (i10 : Int32), lpx2 (l_X11_window_86 g r0 i1 i3 i4 i5 i6 i7 i8 Q k68) i9 i10 → ∀ (H : Heap) (locs : List Loc) (ls : Array Slot), gC D cA (gA g0 sz) s g H locs → lv_has ls 13 [(0, .ref r0), (1, .int i1), (3, .int i3), (4, .int i4), (5, .int i5), (6, .int i6), (7, .int i7), (8, .int i8), (9, .int i9), (10, .int i10)] → W p l e r_X11_window s m args below meth c H locs 0 0 (MQ below (gQi D cA g0 sz (Q)) args s 0 0 (gA g0 sz)) (F0 m 86 ls []) := by
      intro i6 i7 i8
      refine lpx2_run (P := fun (i9 : Int32) (i10 : Int32) => ∀ (H : Heap) (locs : List Loc) (ls : Array Slot), gC D cA (gA g0 sz) s g H locs → lv_has ls 13 [(0, .ref r0), (1, .int i1), (3, .int i3), (4, .int i4), (5, .int i5), (6, .int i6), (7, .int i7), (8, .int i8), (9, .int i9), (10, .int i10)] → W p l e r_X11_window s m args below meth c H locs 0 0 (MQ below (gQi D cA g0 sz (Q)) args s 0 0 (gA g0 sz)) (F0 m 86 ls [])) ?_
      intro k86 hk_86 i9 i10 h H locs ls hc hl
      have hb_235 : ∀ (i10 : Int32) (is0 : Int32) (is1 : Int32), b_X11_window_235 g r0 i1 i3 i4 i5 i6 i7 i8 i10 is0 is1 Q k68 k86 → ∀ (H : Heap) (locs : List Loc) (ls : Array Slot), gC D cA (gA g0 sz) s g H locs → lv_has ls 13 [(0, .ref r0), (1, .int i1), (3, .int i3), (4, .int i4), (5, .int i5), (6, .int i6), (7, .int i7), (8, .int i8), (10, .int i10)] → W p l e r_X11_window s m args below meth c H locs 0 0 (MQ below (gQi D cA g0 sz (Q)) args s 0 0 (gA g0 sz)) (F0 m 235 ls [.int is1, .int is0]) := by
        intro i10 is0 is1 h H locs ls hc hl
        unfold b_X11_window_235 at h
        refine lv_iadd hx hb dX11_window_235 ?_
        refine lv_istore (lv' := [(9, .int (is0 + is1)), (0, .ref r0), (1, .int i1), (3, .int i3), (4, .int i4), (5, .int i5), (6, .int i6), (7, .int i7), (8, .int i8), (10, .int i10)]) hx hb dX11_window_236 hl (by decide) rfl (fun ls hl => ?_)
        refine lv_iinc (v := (i10 + 1)) (lv' := [(10, .int (i10 + 1)), (9, .int (is0 + is1)), (0, .ref r0), (1, .int i1), (3, .int i3), (4, .int i4), (5, .int i5), (6, .int i6), (7, .int i7), (8, .int i8)]) hx hb dX11_window_238 hl (k := 9) rfl rfl (by decide) rfl (fun ls hl => ?_)
        refine lv_goto (tgt := 86) hx hb dX11_window_241 (by decide) ?_
        exact hk_86 (is0 + is1) (i10 + 1) h _ _ _ hc (lv_sub hl [2, 3, 4, 5, 6, 7, 8, 9, 1, 0] rfl)
      have hb_181 : ∀ (i9 : Int32) (i10 : Int32), ∀ (i11 : Int32) (i12 : Int32), lpx2 (l_X11_window_181 g r0 i1 i3 i4 i5 i6 i7 i8 i9 i10 Q k68 k86) i11 i12 → ∀ (H : Heap) (locs : List Loc) (ls : Array Slot), gC D cA (gA g0 sz) s g H locs → lv_has ls 13 [(0, .ref r0), (1, .int i1), (3, .int i3), (4, .int i4), (5, .int i5), (6, .int i6), (7, .int i7), (8, .int i8), (9, .int i9), (10, .int i10), (11, .int i11), (12, .int i12)] → W p l e r_X11_window s m args below meth c H locs 0 0 (MQ below (gQi D cA g0 sz (Q)) args s 0 0 (gA g0 sz)) (F0 m 181 ls []) := by
        intro i9 i10
        refine lpx2_run (P := fun (i11 : Int32) (i12 : Int32) => ∀ (H : Heap) (locs : List Loc) (ls : Array Slot), gC D cA (gA g0 sz) s g H locs → lv_has ls 13 [(0, .ref r0), (1, .int i1), (3, .int i3), (4, .int i4), (5, .int i5), (6, .int i6), (7, .int i7), (8, .int i8), (9, .int i9), (10, .int i10), (11, .int i11), (12, .int i12)] → W p l e r_X11_window s m args below meth c H locs 0 0 (MQ below (gQi D cA g0 sz (Q)) args s 0 0 (gA g0 sz)) (F0 m 181 ls [])) ?_
        intro k181 hk_181 i11 i12 h H locs ls hc hl
        have hb_214 : ∀ (i12 : Int32) (is0 : Int32) (is1 : Int32), b_X11_window_214 g r0 i1 i3 i4 i5 i6 i7 i8 i9 i10 i12 is0 is1 Q k68 k86 k181 → ∀ (H : Heap) (locs : List Loc) (ls : Array Slot), gC D cA (gA g0 sz) s g H locs → lv_has ls 13 [(0, .ref r0), (1, .int i1), (3, .int i3), (4, .int i4), (5, .int i5), (6, .int i6), (7, .int i7), (8, .int i8), (9, .int i9), (10, .int i10), (12, .int i12)] → W p l e r_X11_window s m args below meth c H locs 0 0 (MQ below (gQi D cA g0 sz (Q)) args s 0 0 (gA g0 sz)) (F0 m 214 ls [.int is1, .int is0]) := by
          intro i12 is0 is1 h H locs ls hc hl
          unfold b_X11_window_214 at h
          refine lv_iand hx hb dX11_window_214 ?_
          refine lv_istore (lv' := [(11, .int (is0 &&& is1)), (0, .ref r0), (1, .int i1), (3, .int i3), (4, .int i4), (5, .int i5), (6, .int i6), (7, .int i7), (8, .int i8), (9, .int i9), (10, .int i10), (12, .int i12)]) hx hb dX11_window_215 hl (by decide) rfl (fun ls hl => ?_)
          refine lv_iinc (v := (i12 + 1)) (lv' := [(12, .int (i12 + 1)), (11, .int (is0 &&& is1)), (0, .ref r0), (1, .int i1), (3, .int i3), (4, .int i4), (5, .int i5), (6, .int i6), (7, .int i7), (8, .int i8), (9, .int i9), (10, .int i10)]) hx hb dX11_window_217 hl (k := 11) rfl rfl (by decide) rfl (fun ls hl => ?_)
          refine lv_goto (tgt := 181) hx hb dX11_window_220 (by decide) ?_
          exact hk_181 (is0 &&& is1) (i12 + 1) h _ _ _ hc (lv_sub hl [2, 3, 4, 5, 6, 7, 8, 9, 10, 11, 1, 0] rfl)
        unfold l_X11_window_181 at h
        refine lv_iload hx hb dX11_window_181 (lv_at hl 11 rfl) ?_
        refine lv_iload hx hb dX11_window_183 (lv_at hl 9 rfl) ?_
        refine lv_icmp_ge (tgt := 223) hx hb dX11_window_185 (by decide) (fun c1 => ?_) (fun c1 => ?_)
        · have h := h.1 c1
          refine lv_iload hx hb dX11_window_223 (lv_at hl 8 rfl) ?_
          refine lv_iload hx hb dX11_window_225 (lv_at hl 10 rfl) ?_
          refine lv_if_eq (tgt := 234) hx hb dX11_window_227 (by decide) (fun c2 => ?_) (fun c2 => ?_)
          · have h := h.1 c2
            refine lv_iconst (v := 0) hx hb dX11_window_234 (by decide) ?_
            exact hb_235 i10 i9 0 h _ _ _ hc (lv_sub hl [0, 1, 2, 3, 4, 5, 6, 7, 9] rfl)
          · have h := h.2 c2
            refine lv_iconst (v := 1) hx hb dX11_window_230 (by decide) ?_
            refine lv_goto (tgt := 235) hx hb dX11_window_231 (by decide) ?_
            exact hb_235 i10 i9 1 h _ _ _ hc (lv_sub hl [0, 1, 2, 3, 4, 5, 6, 7, 9] rfl)
        · have h := h.2 c1
          refine lv_iload hx hb dX11_window_188 (lv_at hl 10 rfl) ?_
          refine lv_aload_n hx hb dX11_window_190 rfl (lv_at hl 0 rfl) ?_
          refine lv_iload_n hx hb dX11_window_191 rfl (lv_at hl 1 rfl) ?_
          refine lv_iload_n hx hb dX11_window_192 rfl (lv_at hl 2 rfl) ?_
          refine lv_iload hx hb dX11_window_193 (lv_at hl 11 rfl) ?_
          obtain ⟨hk3, h⟩ := h
          refine g_calli (va_runV (As := [.int i1, .int i3, .int i12]) (rest := [.int i11]) CF (c_X11_at h) (cwV 3 hts gX11_window_X11_at rfl rfl rfl (by decide +kernel) ⟨Nat.le_of_ble_eq_true rfl, Nat.le_of_ble_eq_true rfl⟩) (hc.preV hk3 rfl (by decide)) rfl rfl hl.1 rfl (lv_room (Nat.le_of_ble_eq_true rfl)) dX11_window_195 ⟨Nat.le_of_ble_eq_true rfl, Nat.le_of_ble_eq_true rfl⟩) hc (fun x4 gq5 H locs hq hc => ?_)
          obtain ⟨rfl, h⟩ := hq
          refine lv_aload_n hx hb dX11_window_198 rfl (lv_at hl 0 rfl) ?_
          refine lv_iload_n hx hb dX11_window_199 rfl (lv_at hl 1 rfl) ?_
          refine lv_iload_n hx hb dX11_window_200 rfl (lv_at hl 2 rfl) ?_
          refine lv_iload hx hb dX11_window_201 (lv_at hl 9 rfl) ?_
          refine g_calli (va_runV (As := [.int i1, .int i3, .int i10]) (rest := [.int x4, .int i11]) CF (c_X11_at h) (cwV 3 hts gX11_window_X11_at rfl rfl rfl (by decide +kernel) ⟨Nat.le_of_ble_eq_true rfl, Nat.le_of_ble_eq_true rfl⟩) (hc.preV hk3 rfl (by decide)) rfl rfl hl.1 rfl (lv_room (Nat.le_of_ble_eq_true rfl)) dX11_window_203 ⟨Nat.le_of_ble_eq_true rfl, Nat.le_of_ble_eq_true rfl⟩) hc (fun x6 gq7 H locs hq hc => ?_)
          obtain ⟨rfl, h⟩ := hq
          refine lv_icmp_eq (tgt := 213) hx hb dX11_window_206 (by decide) (fun c8 => ?_) (fun c8 => ?_)
          · have h := h.1 c8
            refine lv_iconst (v := 0) hx hb dX11_window_213 (by decide) ?_
            exact hb_214 i12 i11 0 h _ _ _ hc (lv_sub hl [0, 1, 2, 3, 4, 5, 6, 7, 8, 9, 11] rfl)
          · have h := h.2 c8
            refine lv_iconst (v := 1) hx hb dX11_window_209 (by decide) ?_
            refine lv_goto (tgt := 214) hx hb dX11_window_210 (by decide) ?_
            exact hb_214 i12 i11 1 h _ _ _ hc (lv_sub hl [0, 1, 2, 3, 4, 5, 6, 7, 8, 9, 11] rfl)
      have hb_111 : ∀ (i9 : Int32) (i10 : Int32), ∀ (i11 : Int32) (i12 : Int32), lpx2 (l_X11_window_111 g r0 i1 i3 i4 i5 i6 i7 i8 i9 i10 Q k68 k86) i11 i12 → ∀ (H : Heap) (locs : List Loc) (ls : Array Slot), gC D cA (gA g0 sz) s g H locs → lv_has ls 13 [(0, .ref r0), (1, .int i1), (3, .int i3), (4, .int i4), (5, .int i5), (6, .int i6), (7, .int i7), (8, .int i8), (9, .int i9), (10, .int i10), (11, .int i11), (12, .int i12)] → W p l e r_X11_window s m args below meth c H locs 0 0 (MQ below (gQi D cA g0 sz (Q)) args s 0 0 (gA g0 sz)) (F0 m 111 ls []) := by
        intro i9 i10
        refine lpx2_run (P := fun (i11 : Int32) (i12 : Int32) => ∀ (H : Heap) (locs : List Loc) (ls : Array Slot), gC D cA (gA g0 sz) s g H locs → lv_has ls 13 [(0, .ref r0), (1, .int i1), (3, .int i3), (4, .int i4), (5, .int i5), (6, .int i6), (7, .int i7), (8, .int i8), (9, .int i9), (10, .int i10), (11, .int i11), (12, .int i12)] → W p l e r_X11_window s m args below meth c H locs 0 0 (MQ below (gQi D cA g0 sz (Q)) args s 0 0 (gA g0 sz)) (F0 m 111 ls [])) ?_
        intro k111 hk_111 i11 i12 h H locs ls hc hl
        have hb_168 : ∀ (i12 : Int32) (is0 : Int32) (is1 : Int32), b_X11_window_168 g r0 i1 i3 i4 i5 i6 i7 i8 i9 i10 i12 is0 is1 Q k68 k86 k111 → ∀ (H : Heap) (locs : List Loc) (ls : Array Slot), gC D cA (gA g0 sz) s g H locs → lv_has ls 13 [(0, .ref r0), (1, .int i1), (3, .int i3), (4, .int i4), (5, .int i5), (6, .int i6), (7, .int i7), (8, .int i8), (9, .int i9), (10, .int i10), (12, .int i12)] → W p l e r_X11_window s m args below meth c H locs 0 0 (MQ below (gQi D cA g0 sz (Q)) args s 0 0 (gA g0 sz)) (F0 m 168 ls [.int is1, .int is0]) := by
          intro i12 is0 is1 h H locs ls hc hl
          unfold b_X11_window_168 at h
          refine lv_ior hx hb dX11_window_168 ?_
          refine lv_istore (lv' := [(11, .int (is0 ||| is1)), (0, .ref r0), (1, .int i1), (3, .int i3), (4, .int i4), (5, .int i5), (6, .int i6), (7, .int i7), (8, .int i8), (9, .int i9), (10, .int i10), (12, .int i12)]) hx hb dX11_window_169 hl (by decide) rfl (fun ls hl => ?_)
          refine lv_iinc (v := (i12 + 1)) (lv' := [(12, .int (i12 + 1)), (11, .int (is0 ||| is1)), (0, .ref r0), (1, .int i1), (3, .int i3), (4, .int i4), (5, .int i5), (6, .int i6), (7, .int i7), (8, .int i8), (9, .int i9), (10, .int i10)]) hx hb dX11_window_171 hl (k := 11) rfl rfl (by decide) rfl (fun ls hl => ?_)
          refine lv_goto (tgt := 111) hx hb dX11_window_174 (by decide) ?_
          exact hk_111 (is0 ||| is1) (i12 + 1) h _ _ _ hc (lv_sub hl [2, 3, 4, 5, 6, 7, 8, 9, 10, 11, 1, 0] rfl)
        have hb_167 : ∀ (i12 : Int32) (is0 : Int32), b_X11_window_167 g r0 i1 i3 i4 i5 i6 i7 i8 i9 i10 i12 is0 Q k68 k86 k111 → ∀ (H : Heap) (locs : List Loc) (ls : Array Slot), gC D cA (gA g0 sz) s g H locs → lv_has ls 13 [(0, .ref r0), (1, .int i1), (3, .int i3), (4, .int i4), (5, .int i5), (6, .int i6), (7, .int i7), (8, .int i8), (9, .int i9), (10, .int i10), (12, .int i12)] → W p l e r_X11_window s m args below meth c H locs 0 0 (MQ below (gQi D cA g0 sz (Q)) args s 0 0 (gA g0 sz)) (F0 m 167 ls [.int is0]) := by
          intro i12 is0 h H locs ls hc hl
          unfold b_X11_window_167 at h
          refine lv_iconst (v := 0) hx hb dX11_window_167 (by decide) ?_
          exact hb_168 i12 is0 0 h _ _ _ hc (lv_sub hl [0, 1, 2, 3, 4, 5, 6, 7, 8, 9, 10] rfl)
        unfold l_X11_window_111 at h
        refine lv_iload hx hb dX11_window_111 (lv_at hl 11 rfl) ?_
        refine lv_aload_n hx hb dX11_window_113 rfl (lv_at hl 0 rfl) ?_
        obtain ⟨hk9, h⟩ := h
        refine g_get CF hc hk9 rfl (by decide) (fun _ h9 => List.mem_cons_of_mem _ (List.mem_append_right _ (h9))) (k := 16) (by decide) (List.mem_cons_of_mem _ (List.mem_append_left _ (List.mem_append_left _ (List.mem_of_getElem? (i := 5) rfl)))) rfl dX11_window_114 ?_
        refine lv_icmp_ge (tgt := 177) hx hb dX11_window_117 (by decide) (fun c10 => ?_) (fun c10 => ?_)
        · have h := h.1 c10
          refine lv_iload hx hb dX11_window_177 (lv_at hl 7 rfl) ?_
          refine lv_istore (lv' := [(12, .int i8), (0, .ref r0), (1, .int i1), (3, .int i3), (4, .int i4), (5, .int i5), (6, .int i6), (7, .int i7), (8, .int i8), (9, .int i9), (10, .int i10), (11, .int i11)]) hx hb dX11_window_179 hl (by decide) rfl (fun ls hl => ?_)
          exact hb_181 i9 i10 i11 i8 h _ _ _ hc (lv_sub hl [1, 2, 3, 4, 5, 6, 7, 8, 9, 10, 11, 0] rfl)
        · have h := h.2 c10
          refine lv_iload hx hb dX11_window_120 (lv_at hl 10 rfl) ?_
          refine lv_iload hx hb dX11_window_122 (lv_at hl 4 rfl) ?_
          refine lv_iload hx hb dX11_window_124 (lv_at hl 11 rfl) ?_
          refine lv_ishr hx hb dX11_window_126 ?_
          refine lv_iconst (v := 1) hx hb dX11_window_127 (by decide) ?_
          refine lv_iand hx hb dX11_window_128 ?_
          refine lv_if_eq (tgt := 167) hx hb dX11_window_129 (by decide) (fun c11 => ?_) (fun c11 => ?_)
          · have h := h.1 c11
            exact hb_167 i12 i11 h _ _ _ hc (lv_sub hl [0, 1, 2, 3, 4, 5, 6, 7, 8, 9, 11] rfl)
          · have h := h.2 c11
            refine lv_aload_n hx hb dX11_window_132 rfl (lv_at hl 0 rfl) ?_
            obtain ⟨y12, e13, h⟩ := h
            refine g_getr CF hc hk9 rfl (by decide) (fun _ h9 => List.mem_cons_of_mem _ (List.mem_append_right _ (h9))) (k := 19) (by decide) (List.mem_cons_of_mem _ (List.mem_append_left _ (List.mem_append_left _ (List.mem_of_getElem? (i := 6) rfl)))) e13 rfl dX11_window_133 ?_
            refine lv_iload hx hb dX11_window_136 (lv_at hl 11 rfl) ?_
            obtain ⟨hk14, h⟩ := h
            obtain ⟨hi15, h⟩ := h
            refine g_iald CF hc hk14 hi15 dX11_window_138 ?_
            refine lv_iload_n hx hb dX11_window_139 rfl (lv_at hl 2 rfl) ?_
            refine lv_ishr hx hb dX11_window_140 ?_
            refine lv_iconst (v := 1) hx hb dX11_window_141 (by decide) ?_
            refine lv_iand hx hb dX11_window_142 ?_
            refine lv_if_eq (tgt := 167) hx hb dX11_window_143 (by decide) (fun c16 => ?_) (fun c16 => ?_)
            · have h := h.1 c16
              exact hb_167 i12 i11 h _ _ _ hc (lv_sub hl [0, 1, 2, 3, 4, 5, 6, 7, 8, 9, 11] rfl)
            · have h := h.2 c16
              refine lv_aload_n hx hb dX11_window_146 rfl (lv_at hl 0 rfl) ?_
              refine lv_iload hx hb dX11_window_147 (lv_at hl 11 rfl) ?_
              refine lv_aload_n hx hb dX11_window_149 rfl (lv_at hl 0 rfl) ?_
              refine lv_iload_n hx hb dX11_window_150 rfl (lv_at hl 1 rfl) ?_
              refine lv_iload_n hx hb dX11_window_151 rfl (lv_at hl 2 rfl) ?_
              refine lv_iload hx hb dX11_window_152 (lv_at hl 9 rfl) ?_
              refine g_calli (va_runV (As := [.int i1, .int i3, .int i10]) (rest := [.int i12, .ref r0, .int i11]) CF (c_X11_at h) (cwV 3 hts gX11_window_X11_at rfl rfl rfl (by decide +kernel) ⟨Nat.le_of_ble_eq_true rfl, Nat.le_of_ble_eq_true rfl⟩) (hc.preV hk9 rfl (by decide)) rfl rfl hl.1 rfl (lv_room (Nat.le_of_ble_eq_true rfl)) dX11_window_154 ⟨Nat.le_of_ble_eq_true rfl, Nat.le_of_ble_eq_true rfl⟩) hc (fun x17 gq18 H locs hq hc => ?_)
              obtain ⟨rfl, h⟩ := hq
              refine g_calli (va_runV (As := [.int i12, .int x17]) (rest := [.int i11]) CF (c_X11_looksFor h) (cwV 2 hts gX11_window_X11_looksFor rfl rfl rfl (by decide +kernel) ⟨Nat.le_of_ble_eq_true rfl, Nat.le_of_ble_eq_true rfl⟩) (hc.preV hk9 rfl (by decide)) rfl rfl hl.1 rfl (lv_room (Nat.le_of_ble_eq_true rfl)) dX11_window_157 ⟨Nat.le_of_ble_eq_true rfl, Nat.le_of_ble_eq_true rfl⟩) hc (fun x19 gq20 H locs hq hc => ?_)
              obtain ⟨rfl, h⟩ := hq
              refine lv_if_eq (tgt := 167) hx hb dX11_window_160 (by decide) (fun c21 => ?_) (fun c21 => ?_)
              · have h := h.1 c21
                exact hb_167 i12 i11 h _ _ _ hc (lv_sub hl [0, 1, 2, 3, 4, 5, 6, 7, 8, 9, 11] rfl)
              · have h := h.2 c21
                refine lv_iconst (v := 1) hx hb dX11_window_163 (by decide) ?_
                refine lv_goto (tgt := 168) hx hb dX11_window_164 (by decide) ?_
                exact hb_168 i12 i11 1 h _ _ _ hc (lv_sub hl [0, 1, 2, 3, 4, 5, 6, 7, 8, 9, 11] rfl)
      unfold l_X11_window_86 at h
      refine lv_iload hx hb dX11_window_86 (lv_at hl 9 rfl) ?_
      refine lv_iload hx hb dX11_window_88 (lv_at hl 7 rfl) ?_
      refine lv_iload hx hb dX11_window_90 (lv_at hl 3 rfl) ?_
      refine lv_iadd hx hb dX11_window_92 ?_
      refine lv_aload_n hx hb dX11_window_93 rfl (lv_at hl 0 rfl) ?_
      refine lv_iload_n hx hb dX11_window_94 rfl (lv_at hl 1 rfl) ?_
      refine lv_iload_n hx hb dX11_window_95 rfl (lv_at hl 2 rfl) ?_
      obtain ⟨hk22, h⟩ := h
      refine g_calli (va_runV (As := [.int i1, .int i3]) (rest := [.int (i8 + i4), .int i10]) CF (c_X11_many h) (cwV 2 hts gX11_window_X11_many rfl rfl rfl (by decide +kernel) ⟨Nat.le_of_ble_eq_true rfl, Nat.le_of_ble_eq_true rfl⟩) (hc.preV hk22 rfl (by decide)) rfl rfl hl.1 rfl (lv_room (Nat.le_of_ble_eq_true rfl)) dX11_window_96 ⟨Nat.le_of_ble_eq_true rfl, Nat.le_of_ble_eq_true rfl⟩) hc (fun x23 gq24 H locs hq hc => ?_)
      obtain ⟨rfl, h⟩ := hq
      refine va_mmin hx hb (hml.trans hl.1.symm) hown (hts _ (List.mem_cons_of_mem _ (List.mem_append_left _ (List.mem_append_left _ (List.mem_of_getElem? (i := 1) rfl))))) (hts _ (List.mem_cons_of_mem _ (List.mem_append_left _ (List.mem_append_left _ (List.mem_of_getElem? (i := 2) rfl))))) (hts _ (List.mem_cons_of_mem _ (List.mem_append_left _ (List.mem_append_left _ (List.mem_of_getElem? (i := 3) rfl))))) (hts _ (List.mem_cons_of_mem _ (List.mem_append_left _ (List.mem_append_left _ (List.mem_of_getElem? (i := 4) rfl))))) (Nat.le_of_ble_eq_true rfl) (Nat.le_of_ble_eq_true rfl) (Nat.le_of_ble_eq_true rfl) (Nat.le_of_ble_eq_true rfl) dX11_window_99 ?_
      refine lv_icmp_ge (tgt := 244) hx hb dX11_window_102 (by decide) (fun c25 => ?_) (fun c25 => ?_)
      · have h := h.1 c25
        refine lv_iload hx hb dX11_window_244 (lv_at hl 8 rfl) ?_
        refine lv_iload hx hb dX11_window_246 (lv_at hl 6 rfl) ?_
        refine lv_icmp_le (tgt := 259) hx hb dX11_window_248 (by decide) (fun c26 => ?_) (fun c26 => ?_)
        · have h := h.1 c26
          exact hb_259 i6 i7 i8 h _ _ _ hc (lv_sub hl [0, 1, 2, 3, 4, 5, 6, 7] rfl)
        · have h := h.2 c26
          refine lv_iload hx hb dX11_window_251 (lv_at hl 7 rfl) ?_
          refine lv_istore (lv' := [(6, .int i8), (0, .ref r0), (1, .int i1), (3, .int i3), (4, .int i4), (5, .int i5), (7, .int i7), (8, .int i8), (9, .int i9), (10, .int i10)]) hx hb dX11_window_253 hl (by decide) rfl (fun ls hl => ?_)
          refine lv_iload hx hb dX11_window_255 (lv_at hl 8 rfl) ?_
          refine lv_istore (lv' := [(7, .int i9), (6, .int i8), (0, .ref r0), (1, .int i1), (3, .int i3), (4, .int i4), (5, .int i5), (8, .int i8), (9, .int i9), (10, .int i10)]) hx hb dX11_window_257 hl (by decide) rfl (fun ls hl => ?_)
          exact hb_259 i8 i9 i8 h _ _ _ hc (lv_sub hl [2, 3, 4, 5, 6, 1, 0, 7] rfl)
      · have h := h.2 c25
        refine lv_iconst (v := 0) hx hb dX11_window_105 (by decide) ?_
        refine lv_istore (lv' := [(11, .int 0), (0, .ref r0), (1, .int i1), (3, .int i3), (4, .int i4), (5, .int i5), (6, .int i6), (7, .int i7), (8, .int i8), (9, .int i9), (10, .int i10)]) hx hb dX11_window_106 hl (by decide) rfl (fun ls hl => ?_)
        refine lv_iconst (v := 0) hx hb dX11_window_108 (by decide) ?_
        refine lv_istore (lv' := [(12, .int 0), (11, .int 0), (0, .ref r0), (1, .int i1), (3, .int i3), (4, .int i4), (5, .int i5), (6, .int i6), (7, .int i7), (8, .int i8), (9, .int i9), (10, .int i10)]) hx hb dX11_window_109 hl (by decide) rfl (fun ls hl => ?_)
        exact hb_111 i9 i10 0 0 h _ _ _ hc (lv_sub hl [2, 3, 4, 5, 6, 7, 8, 9, 10, 11, 1, 0] rfl)
    unfold l_X11_window_68 at h
    refine lv_iload hx hb dX11_window_68 (lv_at hl 7 rfl) ?_
    refine lv_aload_n hx hb dX11_window_70 rfl (lv_at hl 0 rfl) ?_
    refine lv_iload_n hx hb dX11_window_71 rfl (lv_at hl 1 rfl) ?_
    refine lv_iload_n hx hb dX11_window_72 rfl (lv_at hl 2 rfl) ?_
    obtain ⟨hk27, h⟩ := h
    refine g_calli (va_runV (As := [.int i1, .int i3]) (rest := [.int i8]) CF (c_X11_many h) (cwV 2 hts gX11_window_X11_many rfl rfl rfl (by decide +kernel) ⟨Nat.le_of_ble_eq_true rfl, Nat.le_of_ble_eq_true rfl⟩) (hc.preV hk27 rfl (by decide)) rfl rfl hl.1 rfl (lv_room (Nat.le_of_ble_eq_true rfl)) dX11_window_73 ⟨Nat.le_of_ble_eq_true rfl, Nat.le_of_ble_eq_true rfl⟩) hc (fun x28 gq29 H locs hq hc => ?_)
    obtain ⟨rfl, h⟩ := hq
    refine lv_icmp_ge (tgt := 265) hx hb dX11_window_76 (by decide) (fun c30 => ?_) (fun c30 => ?_)
    · have h := h.1 c30
      refine lv_iload hx hb dX11_window_265 (lv_at hl 5 rfl) ?_
      exact g_reti (r := i6) CF hr hlk hc rfl h dX11_window_267
    · have h := h.2 c30
      refine lv_iconst (v := 0) hx hb dX11_window_79 (by decide) ?_
      refine lv_istore (lv' := [(9, .int 0), (0, .ref r0), (1, .int i1), (3, .int i3), (4, .int i4), (5, .int i5), (6, .int i6), (7, .int i7), (8, .int i8)]) hx hb dX11_window_80 hl (by decide) rfl (fun ls hl => ?_)
      refine lv_iload hx hb dX11_window_82 (lv_at hl 8 rfl) ?_
      refine lv_istore (lv' := [(10, .int i8), (9, .int 0), (0, .ref r0), (1, .int i1), (3, .int i3), (4, .int i4), (5, .int i5), (6, .int i6), (7, .int i7), (8, .int i8)]) hx hb dX11_window_84 hl (by decide) rfl (fun ls hl => ?_)
      exact hb_86 i6 i7 i8 0 i8 h _ _ _ hc (lv_sub hl [2, 3, 4, 5, 6, 7, 8, 9, 1, 0] rfl)
  have hb_28 : ∀ (g : gS) (r0 : Nat), b_X11_window_28 g r0 Q → ∀ (H : Heap) (locs : List Loc) (ls : Array Slot), gC D cA (gA g0 sz) s g H locs → lv_has ls 13 [(0, .ref r0)] → W p l e r_X11_window s m args below meth c H locs 0 0 (MQ below (gQi D cA g0 sz (Q)) args s 0 0 (gA g0 sz)) (F0 m 28 ls []) := by
    intro g r0 h H locs ls hc hl
    unfold b_X11_window_28 at h
    refine lv_aload_n hx hb dX11_window_28 rfl (lv_at hl 0 rfl) ?_
    refine lv_iconst (v := 1) hx hb dX11_window_29 (by decide) ?_
    obtain ⟨hk31, h⟩ := h
    refine g_calli (va_runV (As := [.int 1]) (rest := []) CF (c_X11_no h) (cwV 1 hts gX11_window_X11_no rfl rfl rfl (by decide +kernel) ⟨Nat.le_of_ble_eq_true rfl, Nat.le_of_ble_eq_true rfl⟩) (hc.preV hk31 rfl (by decide)) rfl rfl hl.1 rfl (lv_room (Nat.le_of_ble_eq_true rfl)) dX11_window_30 ⟨Nat.le_of_ble_eq_true rfl, Nat.le_of_ble_eq_true rfl⟩) hc (fun x32 g33 H locs hq hc => ?_)
    replace h := hq
    exact g_reti (r := x32) CF hr hlk hc rfl h dX11_window_33
  unfold w_X11_window at h
  obtain ⟨H, hH0⟩ : ∃ z, z = s.heap := ⟨_, rfl⟩
  rw [← hH0] at hc ⊢
  obtain ⟨locs, hlc0⟩ : ∃ z : List Loc, z = [] := ⟨_, rfl⟩
  rw [← hlc0] at hc ⊢
  refine lv_aload_n hx hb dX11_window_0 rfl (lv_at hl 0 rfl) ?_
  refine lv_iconst (v := 0) hx hb dX11_window_1 (by decide) ?_
  obtain ⟨hk35, h⟩ := h
  refine g_puti CF hc hk35 rfl (by decide) (fun _ h9 => List.mem_cons_of_mem _ (List.mem_append_right _ (h9))) tyX11 tyX11_ok nmX11 (k := 0) (by decide) (List.mem_cons_of_mem _ (List.mem_append_left _ (List.mem_append_left _ (List.mem_of_getElem? (i := 0) rfl)))) rfl (v := 0) rfl rfl rfl dX11_window_2 (fun H locs hc => ?_)
  obtain ⟨g36, eg37⟩ : ∃ z, z = sU g0 p0 0 0 := ⟨_, rfl⟩
  have hc : gC D cA (gA g0 sz) s g36 H locs := by rw [eg37]; exact hc
  replace h := h g36 eg37
  refine lv_aload_n hx hb dX11_window_5 rfl (lv_at hl 0 rfl) ?_
  refine lv_iload_n hx hb dX11_window_6 rfl (lv_at hl 1 rfl) ?_
  obtain ⟨hk38, h⟩ := h
  refine g_calli (va_runV (As := [.int p1]) (rest := []) CF (c_X11_isDocument h) (cwV 1 hts gX11_window_X11_isDocument rfl rfl rfl (by decide +kernel) ⟨Nat.le_of_ble_eq_true rfl, Nat.le_of_ble_eq_true rfl⟩) (hc.preV hk38 rfl (by decide)) rfl rfl hl.1 rfl (lv_room (Nat.le_of_ble_eq_true rfl)) dX11_window_7 ⟨Nat.le_of_ble_eq_true rfl, Nat.le_of_ble_eq_true rfl⟩) hc (fun x39 gq40 H locs hq hc => ?_)
  obtain ⟨rfl, h⟩ := hq
  refine lv_if_eq (tgt := 28) hx hb dX11_window_10 (by decide) (fun c41 => ?_) (fun c41 => ?_)
  · have h := h.1 c41
    exact hb_28 g36 p0 h _ _ _ hc (lv_sub hl [0] rfl)
  · have h := h.2 c41
    refine lv_aload_n hx hb dX11_window_13 rfl (lv_at hl 0 rfl) ?_
    refine lv_iload_n hx hb dX11_window_14 rfl (lv_at hl 2 rfl) ?_
    refine g_calli (va_runV (As := [.int p2]) (rest := []) CF (c_X11_isNode h) (cwV 1 hts gX11_window_X11_isNode rfl rfl rfl (by decide +kernel) ⟨Nat.le_of_ble_eq_true rfl, Nat.le_of_ble_eq_true rfl⟩) (hc.preV hk38 rfl (by decide)) rfl rfl hl.1 rfl (lv_room (Nat.le_of_ble_eq_true rfl)) dX11_window_15 ⟨Nat.le_of_ble_eq_true rfl, Nat.le_of_ble_eq_true rfl⟩) hc (fun x42 gq43 H locs hq hc => ?_)
    obtain ⟨rfl, h⟩ := hq
    refine lv_if_eq (tgt := 28) hx hb dX11_window_18 (by decide) (fun c44 => ?_) (fun c44 => ?_)
    · have h := h.1 c44
      exact hb_28 g36 p0 h _ _ _ hc (lv_sub hl [0] rfl)
    · have h := h.2 c44
      refine lv_iload_n hx hb dX11_window_21 rfl (lv_at hl 3 rfl) ?_
      refine g_calli (va_runS (As := [.int p3]) (rest := []) CF (c_X11_isField h) (va_cwS 1 hts gX11_window_X11_isField rfl rfl rfl (by decide +kernel) ⟨Nat.le_of_ble_eq_true rfl, Nat.le_of_ble_eq_true rfl⟩) hc.preS rfl rfl hl.1 rfl (lv_room (Nat.le_of_ble_eq_true rfl)) dX11_window_22 ⟨Nat.le_of_ble_eq_true rfl, Nat.le_of_ble_eq_true rfl⟩) hc (fun x45 gq46 H locs hq hc => ?_)
      obtain ⟨rfl, h⟩ := hq
      refine lv_if_ne (tgt := 34) hx hb dX11_window_25 (by decide) (fun c47 => ?_) (fun c47 => ?_)
      · have h := h.2 c47
        refine lv_iload hx hb dX11_window_34 (lv_at hl 4 rfl) ?_
        refine lv_iconst (v := 1) hx hb dX11_window_36 (by decide) ?_
        refine lv_bipush (v := 12) hx hb dX11_window_37 (by decide) ?_
        refine g_calli (va_runS (As := [.int p4, .int 1, .int 12]) (rest := []) CF (c_X11_isIn h) (va_cwS 3 hts gX11_window_X11_isIn rfl rfl rfl (by decide +kernel) ⟨Nat.le_of_ble_eq_true rfl, Nat.le_of_ble_eq_true rfl⟩) hc.preS rfl rfl hl.1 rfl (lv_room (Nat.le_of_ble_eq_true rfl)) dX11_window_39 ⟨Nat.le_of_ble_eq_true rfl, Nat.le_of_ble_eq_true rfl⟩) hc (fun x48 gq49 H locs hq hc => ?_)
        obtain ⟨rfl, h⟩ := hq
        refine lv_if_ne (tgt := 51) hx hb dX11_window_42 (by decide) (fun c50 => ?_) (fun c50 => ?_)
        · have h := h.2 c50
          refine lv_aload_n hx hb dX11_window_51 rfl (lv_at hl 0 rfl) ?_
          refine lv_iload_n hx hb dX11_window_52 rfl (lv_at hl 2 rfl) ?_
          refine lv_iconst (v := 0) hx hb dX11_window_53 (by decide) ?_
          refine g_calli (va_runV (As := [.int p2, .int 0]) (rest := []) CF (c_X11_termNodes h) (cwV 2 hts gX11_window_X11_termNodes rfl rfl rfl (by decide +kernel) ⟨Nat.le_of_ble_eq_true rfl, Nat.le_of_ble_eq_true rfl⟩) (hc.preV hk38 rfl (by decide)) rfl rfl hl.1 rfl (lv_room (Nat.le_of_ble_eq_true rfl)) dX11_window_54 ⟨Nat.le_of_ble_eq_true rfl, Nat.le_of_ble_eq_true rfl⟩) hc (fun x51 gq52 H locs hq hc => ?_)
          obtain ⟨rfl, h⟩ := hq
          refine lv_istore (lv' := [(5, .int x51), (0, .ref p0), (1, .int p1), (2, .int p2), (3, .int p3), (4, .int p4)]) hx hb dX11_window_57 hl (by decide) rfl (fun ls hl => ?_)
          refine lv_iconst (v := (-1)) hx hb dX11_window_59 (by decide) ?_
          refine lv_istore (lv' := [(6, .int (-1)), (5, .int x51), (0, .ref p0), (1, .int p1), (2, .int p2), (3, .int p3), (4, .int p4)]) hx hb dX11_window_60 hl (by decide) rfl (fun ls hl => ?_)
          refine lv_iconst (v := 0) hx hb dX11_window_62 (by decide) ?_
          refine lv_istore (lv' := [(7, .int 0), (6, .int (-1)), (5, .int x51), (0, .ref p0), (1, .int p1), (2, .int p2), (3, .int p3), (4, .int p4)]) hx hb dX11_window_63 hl (by decide) rfl (fun ls hl => ?_)
          refine lv_iconst (v := 0) hx hb dX11_window_65 (by decide) ?_
          refine lv_istore (lv' := [(8, .int 0), (7, .int 0), (6, .int (-1)), (5, .int x51), (0, .ref p0), (1, .int p1), (2, .int p2), (3, .int p3), (4, .int p4)]) hx hb dX11_window_66 hl (by decide) rfl (fun ls hl => ?_)
          exact hb_68 g36 p0 p1 p3 p4 x51 (-1) 0 0 h _ _ _ hc (lv_sub hl [4, 5, 7, 8, 3, 2, 1, 0] rfl)
        · have h := h.1 c50
          refine lv_aload_n hx hb dX11_window_45 rfl (lv_at hl 0 rfl) ?_
          refine lv_iconst (v := 2) hx hb dX11_window_46 (by decide) ?_
          refine g_calli (va_runV (As := [.int 2]) (rest := []) CF (c_X11_no h) (cwV 1 hts gX11_window_X11_no rfl rfl rfl (by decide +kernel) ⟨Nat.le_of_ble_eq_true rfl, Nat.le_of_ble_eq_true rfl⟩) (hc.preV hk38 rfl (by decide)) rfl rfl hl.1 rfl (lv_room (Nat.le_of_ble_eq_true rfl)) dX11_window_47 ⟨Nat.le_of_ble_eq_true rfl, Nat.le_of_ble_eq_true rfl⟩) hc (fun x53 g54 H locs hq hc => ?_)
          replace h := hq
          exact g_reti (r := x53) CF hr hlk hc rfl h dX11_window_50
      · have h := h.1 c47
        exact hb_28 g36 p0 h _ _ _ hc (lv_sub hl [0] rfl)
def b_X11_isThere_23 (g : gS) (is0 : Int32) (Q : Int32 → Prop) : Prop :=
  (is0 = 0 ∨ is0 = 1) ∧ (Q is0)
def b_X11_isThere_22 (g : gS) (Q : Int32 → Prop) : Prop :=
  b_X11_isThere_23 g 0 Q
def w_X11_isThere (g : gS) (p0 : Nat) (p1 : Int32) (Q : Int32 → Prop) : Prop :=
  gK g p0 = 12 ∧ (∃ y3, gR g p0 6 = some y3 ∧ (gK g y3 = 22 ∧ (vp_in p1 (gN g y3) ∧ (((gI g y3 (Int32.toNatClampNeg p1)) = 0 → (b_X11_isThere_22 g Q)) ∧ (¬ (gI g y3 (Int32.toNatClampNeg p1)) = 0 → (∃ y8, gR g p0 5 = some y8 ∧ (gK g y8 = 22 ∧ (vp_in p1 (gN g y8) ∧ (((gI g y8 (Int32.toNatClampNeg p1)) = 0 → (b_X11_isThere_23 g 1 Q)) ∧ (¬ (gI g y8 (Int32.toNatClampNeg p1)) = 0 → (b_X11_isThere_22 g Q)))))))))))
abbrev r_X11_isThere : Room := { frames := 0, cells := 0, slots := 0, locals := 0 }
set_option maxHeartbeats 4000000 in
set_option maxRecDepth 100000 in
theorem c_X11_isThere {l : Launch} {D : va_G} {cA : Nat → ClassId} {sz : Nat} {g : gS} {p0 : Nat} {p1 : Int32} {Q : Int32 → Prop} (h : w_X11_isThere g p0 p1 Q) : Met l yX11_isThere wsX11_isThere r_X11_isThere (va_Pc [.ref p0, .int p1] (gPre D cA g sz)) (gQi D cA g sz (fun r g2 => g = g2 ∧ Q r)) 0 0 (gA g sz) := by
  refine g_met (cc := cX11_isThere) (maxL := 2) (ret := (some .boolean)) (own := RX11) (by decide) rfl rfl (Nat.le_of_ble_eq_true rfl) ?_
  intro p e s m args below meth c ls CF hr hlk hnm hc hl
  obtain ⟨hx, hb, hml, hown, hts⟩ := id CF
  have hl : lv_has ls 2 [(0, .ref p0), (1, .int p1)] := hl
  show W p l e r_X11_isThere s m args below meth c s.heap [] 0 0 (MQ below (gQi D cA g sz (fun r g2 => g = g2 ∧ Q r)) args s 0 0 (gA g sz)) (F0 m 0 ls [])
  have hb_23 : ∀ (is0 : Int32), b_X11_isThere_23 g is0 Q → ∀ (H : Heap) (locs : List Loc) (ls : Array Slot), gC D cA (gA g sz) s g H locs → lv_has ls 2 [] → W p l e r_X11_isThere s m args below meth c H locs 0 0 (MQ below (gQi D cA g sz (fun r g2 => g = g2 ∧ Q r)) args s 0 0 (gA g sz)) (F0 m 23 ls [.int is0]) := by
    intro is0 h H locs ls hc hl
    unfold b_X11_isThere_23 at h
    obtain ⟨hz1, h⟩ := h
    exact g_reti (r := is0) CF hr hlk hc (narrow_01 hz1) ⟨rfl, h⟩ dX11_isThere_23
  have hb_22 : b_X11_isThere_22 g Q → ∀ (H : Heap) (locs : List Loc) (ls : Array Slot), gC D cA (gA g sz) s g H locs → lv_has ls 2 [] → W p l e r_X11_isThere s m args below meth c H locs 0 0 (MQ below (gQi D cA g sz (fun r g2 => g = g2 ∧ Q r)) args s 0 0 (gA g sz)) (F0 m 22 ls []) := by
    intro h H locs ls hc hl
    unfold b_X11_isThere_22 at h
    refine lv_iconst (v := 0) hx hb dX11_isThere_22 (by decide) ?_
    exact hb_23 0 h _ _ _ hc (lv_sub hl [] rfl)
  unfold w_X11_isThere at h
  obtain ⟨H, hH0⟩ : ∃ z, z = s.heap := ⟨_, rfl⟩
  rw [← hH0] at hc ⊢
  obtain ⟨locs, hlc0⟩ : ∃ z : List Loc, z = [] := ⟨_, rfl⟩
  rw [← hlc0] at hc ⊢
  refine lv_aload_n hx hb dX11_isThere_0 rfl (lv_at hl 0 rfl) ?_
  obtain ⟨hk2, h⟩ := h
  obtain ⟨y3, e4, h⟩ := h
  refine g_getr CF hc hk2 rfl (by decide) (fun _ h9 => List.mem_cons_of_mem _ (List.mem_append_right _ (h9))) (k := 6) (by decide) (List.mem_cons_of_mem _ (List.mem_append_left _ (List.mem_of_getElem? (i := 0) rfl))) e4 rfl dX11_isThere_1 ?_
  refine lv_iload_n hx hb dX11_isThere_4 rfl (lv_at hl 1 rfl) ?_
  obtain ⟨hk5, h⟩ := h
  obtain ⟨hi6, h⟩ := h
  refine g_zald CF hc hk5 hi6 dX11_isThere_5 ?_
  refine lv_if_eq (tgt := 22) hx hb dX11_isThere_6 (by decide) (fun c7 => ?_) (fun c7 => ?_)
  · have h := h.1 c7
    exact hb_22  h _ _ _ hc (lv_sub hl [] rfl)
  · have h := h.2 c7
    refine lv_aload_n hx hb dX11_isThere_9 rfl (lv_at hl 0 rfl) ?_
    obtain ⟨y8, e9, h⟩ := h
    refine g_getr CF hc hk2 rfl (by decide) (fun _ h9 => List.mem_cons_of_mem _ (List.mem_append_right _ (h9))) (k := 5) (by decide) (List.mem_cons_of_mem _ (List.mem_append_left _ (List.mem_of_getElem? (i := 1) rfl))) e9 rfl dX11_isThere_10 ?_
    refine lv_iload_n hx hb dX11_isThere_13 rfl (lv_at hl 1 rfl) ?_
    obtain ⟨hk10, h⟩ := h
    obtain ⟨hi11, h⟩ := h
    refine g_zald CF hc hk10 hi11 dX11_isThere_14 ?_
    refine lv_if_ne (tgt := 22) hx hb dX11_isThere_15 (by decide) (fun c12 => ?_) (fun c12 => ?_)
    · have h := h.2 c12
      exact hb_22  h _ _ _ hc (lv_sub hl [] rfl)
    · have h := h.1 c12
      refine lv_iconst (v := 1) hx hb dX11_isThere_18 (by decide) ?_
      refine lv_goto (tgt := 23) hx hb dX11_isThere_19 (by decide) ?_
      exact hb_23 1 h _ _ _ hc (lv_sub hl [] rfl)
