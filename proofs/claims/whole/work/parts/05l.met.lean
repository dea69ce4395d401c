def b_X11_termScore_144 (g : gS) (is0 : Int32) (Q : Int32 → gS → Prop) : Prop :=
  Q is0 g
def b_X11_termScore_125 (g : gS) (r0 : Nat) (i1 : Int32) (i2 : Int32) (i3 : Int32) (i4 : Int32) (i5 : Int32) (Q : Int32 → gS → Prop) (k8 : gS → Int32 → Int32 → Int32 → Prop) : Prop :=
  k8 g i3 i4 (i5 + 1)
def b_X11_termScore_122 (g : gS) (r0 : Nat) (i1 : Int32) (i2 : Int32) (i4 : Int32) (i5 : Int32) (is0 : Int32) (is1 : Int32) (is2 : Int32) (Q : Int32 → gS → Prop) (k8 : gS → Int32 → Int32 → Int32 → Prop) : Prop :=
  b_X11_termScore_125 g r0 i1 i2 (is0 + (is1 + is2)) i4 i5 Q k8
def l_X11_termScore_34 (g : gS) (r0 : Nat) (i1 : Int32) (i2 : Int32) (i3 : Int32) (i5 : Int32) (Q : Int32 → gS → Prop) (k8 : gS → Int32 → Int32 → Int32 → Prop) (i4 : Int32) (i6 : Int32) (k34 : Int32 → Int32 → Prop) : Prop :=
  gK g r0 = 12 ∧ (w_X11_many g r0 i2 i5 (fun x2 => ((x2 ≤ i6 → (∃ y5, gR g r0 18 = some y5 ∧ (gK g y5 = 21 ∧ (vp_in i1 (gN g y5) ∧ (w_X11_taste g r0 i2 i5 (gI g y5 (Int32.toNatClampNeg i1)) (fun x9 g10 => (gK g10 r0 = 12 ∧ (∃ y13, gR g10 r0 11 = some y13 ∧ (∃ y15, gR g10 r0 18 = some y15 ∧ (gK g10 y15 = 21 ∧ (vp_in i1 (gN g10 y15) ∧ (gK g10 y13 = 21 ∧ (vp_in (gI g10 y15 (Int32.toNatClampNeg i1)) (gN g10 y13) ∧ (((gI g10 y13 (Int32.toNatClampNeg (gI g10 y15 (Int32.toNatClampNeg i1)))) = (-1) → (b_X11_termScore_122 g10 r0 i1 i2 i4 i5 i3 x9 0 Q k8)) ∧ (¬ (gI g10 y13 (Int32.toNatClampNeg (gI g10 y15 (Int32.toNatClampNeg i1)))) = (-1) → (∃ y22, gR g10 r0 11 = some y22 ∧ (∃ y24, gR g10 r0 18 = some y24 ∧ (gK g10 y24 = 21 ∧ (vp_in i1 (gN g10 y24) ∧ (gK g10 y22 = 21 ∧ (vp_in (gI g10 y24 (Int32.toNatClampNeg i1)) (gN g10 y22) ∧ (w_X11_taste g10 r0 i2 i5 (gI g10 y22 (Int32.toNatClampNeg (gI g10 y24 (Int32.toNatClampNeg i1)))) (fun x30 g31 => (b_X11_termScore_122 g31 r0 i1 i2 i4 i5 i3 x9 x30 Q k8)))))))))))))))))))))))) ∧ (¬ x2 ≤ i6 → (w_X11_at g r0 i2 i5 i6 (fun x33 => (w_X11_looksFor g r0 i1 x33 (fun x35 => (k34 (i4 ||| x35) (i6 + 1))))))))))
def l_X11_termScore_8 (r0 : Nat) (i1 : Int32) (i2 : Int32) (Q : Int32 → gS → Prop) (g : gS) (i3 : Int32) (i4 : Int32) (i5 : Int32) (k8 : gS → Int32 → Int32 → Int32 → Prop) : Prop :=
  (3 ≤ i5 → ((i4 = 0 → (b_X11_termScore_144 g (-1) Q)) ∧ (¬ i4 = 0 → (w_X11_least g i3 (fun x39 => (b_X11_termScore_144 g x39 Q)))))) ∧ (¬ 3 ≤ i5 → (gK g r0 = 12 ∧ (∃ y42, gR g r0 19 = some y42 ∧ (gK g y42 = 21 ∧ (vp_in i1 (gN g y42) ∧ (((((gI g y42 (Int32.toNatClampNeg i1)) >>> (i5 &&& 31)) &&& 1) = 0 → (b_X11_termScore_125 g r0 i1 i2 i3 i4 i5 Q k8)) ∧ (¬ (((gI g y42 (Int32.toNatClampNeg i1)) >>> (i5 &&& 31)) &&& 1) = 0 → (lpx2 (l_X11_termScore_34 g r0 i1 i2 i3 i5 Q k8) i4 0))))))))
def w_X11_termScore (g0 : gS) (p0 : Nat) (p1 : Int32) (p2 : Int32) (Q : Int32 → gS → Prop) : Prop :=
  lpx4 (l_X11_termScore_8 p0 p1 p2 Q) g0 0 0 0
abbrev r_X11_termScore : Room := { frames := 5, cells := 0, slots := 0, locals := 117 }
set_option maxHeartbeats 4000000 in
set_option maxRecDepth 100000 in
theorem c_X11_termScore {l : Launch} {D : va_G} {cA : Nat → ClassId} {sz : Nat} {g0 : gS} {p0 : Nat} {p1 : Int32} {p2 : Int32} {Q : Int32 → gS → Prop} (h : w_X11_termScore g0 p0 p1 p2 Q) : Met l yX11_termScore wsX11_termScore r_X11_termScore (va_Pc [.ref p0, .int p1, .int p2] (gPre D cA g0 sz)) (gQi D cA g0 sz (Q)) 0 0 (gA g0 sz) := by
  refine g_met (cc := cX11_termScore) (maxL := 7) (ret := (some .int)) (own := RX11) (by decide) rfl rfl (Nat.le_of_ble_eq_true rfl) ?_
  intro p e s m args below meth c ls CF hr hlk hnm hc hl
  obtain ⟨hx, hb, hml, hown, hts⟩ := id CF
  have hl : lv_has ls 7 [(0, .ref p0), (1, .int p1), (2, .int p2)] := hl
  show W p l e r_X11_termScore s m args below meth c s.heap [] 0 0 (MQ below (gQi D cA g0 sz (Q)) args s 0 0 (gA g0 sz)) (F0 m 0 ls [])
  have hb_144 : ∀ (g : gS) (is0 : Int32), b_X11_termScore_144 g is0 Q → ∀ (H : Heap) (locs : List Loc) (ls : Array Slot), gC D cA (gA g0 sz) s g H locs → lv_has ls 7 [] → W p l e r_X11_termScore s m args below meth c H locs 0 0 (MQ below (gQi D cA g0 sz (Q)) args s 0 0 (gA g0 sz)) (F0 m 144 ls [.int is0]) := by
    intro g is0 h H locs ls hc hl
    unfold b_X11_termScore_144 at h
    exact g_reti (r := is0) CF hr hlk hc rfl h dX11_termScore_144
  have hb_8 : ∀ (r0 : Nat) (i1 : Int32) (i2 : Int32), ∀ (g : gS) (i3 : Int32) (i4 : Int32) (i5 : Int32), lpx4 (l_X11_termScore_8 r0 i1 i2 Q) g i3 i4 i5 → ∀ (H : Heap) (locs : List Loc) (ls : Array Slot), gC D cA (gA g0 sz) s g H locs → lv_has ls 7 [(0, .ref r0), (1, .int i1), (2, .int i2), (3, .int i3), (4, .int i4), (5, .int i5)] → W p l e r_X11_termScore s m args below meth c H locs 0 0 (MQ below (gQi D cA g0 sz (Q)) args s 0 0 (gA g0 sz)) (F0 m 8 ls []) := by
    intro r0 i1 i2
    refine lpx4_run (P := fun (g : gS) (i3 : Int32) (i4 : Int32) (i5 : Int32) => ∀ (H : Heap) (locs : List Loc) (ls : Array Slot), gC D cA (gA g0 sz) s g H locs → lv_has ls 7 [(0, .ref r0), (1, .int i1), (2, .int i2), (3, .int i3), (4, .int i4), (5, .int i5)] → W p l e r_X11_termScore s m args below meth c H locs 0 0 (MQ below (gQi D cA g0 sz (Q)) args s 0 0 (gA g0 sz)) (F0 m 8 ls [])) ?_
    intro k8 hk_8 g i3 i4 i5 h H locs ls hc hl
    have hb_125 : ∀ (g : gS) (i3 : Int32) (i4 : Int32) (i5 : Int32), b_X11_termScore_125 g r0 i1 i2 i3 i4 i5 Q k8 → ∀ (H : Heap) (locs : List Loc) (ls : Array Slot), gC D cA (gA g0 sz) s g H locs → lv_has ls 7 [(0, .ref r0), (1, .int i1), (2, .int i2), (3, .int i3), (4, .int i4), (5, .int i5)] → W p l e r_X11_termScore s m args below meth c H locs 0 0 (MQ below (gQi D cA g0 sz (Q)) args s 0 0 (gA g0 sz)) (F0 m 125 ls []) := by
      intro g i3 i4 i5 h H locs ls hc hl
      unfold b_X11_termScore_125 at h
      refine lv_iinc (v := (i5 + 1)) (lv' := [(5, .int (i5 + 1)), (0, .ref r0), (1, .int i1), (2, .int i2), (3, .int i3), (4, .int i4)]) hx hb dX11_termScore_125 hl (k := 5) rfl rfl (by decide) rfl (fun ls hl => ?_)
      refine lv_goto (tgt := 8) hx hb dX11_termScore_128 (by decide) ?_
      exact hk_8 g i3 i4 (i5 + 1) h _ _ _ hc (lv_sub hl [1, 2, 3, 4, 5, 0] rfl)
    have hb_122 : ∀ (g : gS) (i4 : Int32) (i5 : Int32) (is0 : Int32) (is1 : Int32) (is2 : Int32), b_X11_termScore_122 g r0 i1 i2 i4 i5 is0 is1 is2 Q k8 → ∀ (H : Heap) (locs : List Loc) (ls : Array Slot), gC D cA (gA g0 sz) s g H locs → lv_has ls 7 [(0, .ref r0), (1, .int i1), (2, .int i2), (4, .int i4), (5, .int i5)] → W p l e r_X11_termScore s m args below meth c H locs 0 0 (MQ below (gQi D cA g0 sz (Q)) args s 0 0 (gA g0 sz)) (F0 m 122 ls [.int is2, .int is1, .int is0]) := by
      intro g i4 i5 is0 is1 is2 h H locs ls hc hl
      unfold b_X11_termScore_122 at h
      refine lv_iadd hx hb dX11_termScore_122 ?_
      refine lv_iadd hx hb dX11_termScore_123 ?_
      refine lv_istore_n (lv' := [(3, .int (is0 + (is1 + is2))), (0, .ref r0), (1, .int i1), (2, .int i2), (4, .int i4), (5, .int i5)]) hx hb dX11_termScore_124 rfl hl (by decide) rfl (fun ls hl => ?_)
      exact hb_125 g (is0 + (is1 + is2)) i4 i5 h _ _ _ hc (lv_sub hl [1, 2, 3, 0, 4, 5] rfl)
    have hb_34 : ∀ (g : gS) (i3 : Int32) (i5 : Int32), ∀ (i4 : Int32) (i6 : Int32), lpx2 (l_X11_termScore_34 g r0 i1 i2 i3 i5 Q k8) i4 i6 → ∀ (H : Heap) (locs : List Loc) (ls : Array Slot), gC D cA (gA g0 sz) s g H locs → lv_has ls 7 [(0, .ref r0), (1, .int i1), (2, .int i2), (3, .int i3), (4, .int i4), (5, .int i5), (6, .int i6)] → W p l e r_X11_termScore s m args below meth c H locs 0 0 (MQ below (gQi D cA g0 sz (Q)) args s 0 0 (gA g0 sz)) (F0 m 34 ls []) := by
      intro g i3 i5
      refine lpx2_run (P := fun (i4 : Int32) (i6 : Int32) => ∀ (H : Heap) (locs : List Loc) (ls : Array Slot), gC D cA (gA g0 sz) s g H locs → lv_has ls 7 [(0, .ref r0), (1, .int i1), (2, .int i2), (3, .int i3), (4, .int i4), (5, .int i5), (6, .int i6)] → W p l e r_X11_termScore s m args below meth c H locs 0 0 (MQ below (gQi D cA g0 sz (Q)) args s 0 0 (gA g0 sz)) (F0 m 34 ls [])) ?_
      intro k34 hk_34 i4 i6 h H locs ls hc hl
      unfold l_X11_termScore_34 at h
      refine lv_iload hx hb dX11_termScore_34 (lv_at hl 6 rfl) ?_
      refine lv_aload_n hx hb dX11_termScore_36 rfl (lv_at hl 0 rfl) ?_
      refine lv_iload_n hx hb dX11_termScore_37 rfl (lv_at hl 2 rfl) ?_
      refine lv_iload hx hb dX11_termScore_38 (lv_at hl 5 rfl) ?_
      obtain ⟨hk1, h⟩ := h
      refine g_calli (va_runV (As := [.int i2, .int i5]) (rest := [.int i6]) CF (c_X11_many h) (cwV 2 hts gX11_termScore_X11_many rfl rfl rfl (by decide +kernel) ⟨Nat.le_of_ble_eq_true rfl, Nat.le_of_ble_eq_true rfl⟩) (hc.preV hk1 rfl (by decide)) rfl rfl hl.1 rfl (lv_room (Nat.le_of_ble_eq_true rfl)) dX11_termScore_40 ⟨Nat.le_of_ble_eq_true rfl, Nat.le_of_ble_eq_true rfl⟩) hc (fun x2 gq3 H locs hq hc => ?_)
      obtain ⟨rfl, h⟩ := hq
      refine lv_icmp_ge (tgt := 71) hx hb dX11_termScore_43 (by decide) (fun c4 => ?_) (fun c4 => ?_)
      · have h := h.1 c4
        refine lv_iload_n hx hb dX11_termScore_71 rfl (lv_at hl 3 rfl) ?_
        refine lv_aload_n hx hb dX11_termScore_72 rfl (lv_at hl 0 rfl) ?_
        refine lv_iload_n hx hb dX11_termScore_73 rfl (lv_at hl 2 rfl) ?_
        refine lv_iload hx hb dX11_termScore_74 (lv_at hl 5 rfl) ?_
        refine lv_aload_n hx hb dX11_termScore_76 rfl (lv_at hl 0 rfl) ?_
        obtain ⟨y5, e6, h⟩ := h
        refine g_getr CF hc hk1 rfl (by decide) (fun _ h9 => List.mem_cons_of_mem _ (List.mem_append_right _ (h9))) (k := 18) (by decide) (List.mem_cons_of_mem _ (List.mem_append_left _ (List.mem_append_left _ (List.mem_of_getElem? (i := 1) rfl)))) e6 rfl dX11_termScore_77 ?_
        refine lv_iload_n hx hb dX11_termScore_80 rfl (lv_at hl 1 rfl) ?_
        obtain ⟨hk7, h⟩ := h
        obtain ⟨hi8, h⟩ := h
        refine g_iald CF hc hk7 hi8 dX11_termScore_81 ?_
        refine g_calli (va_runV (As := [.int i2, .int i5, .int (gI g y5 (Int32.toNatClampNeg i1))]) (rest := [.int i3]) CF (c_X11_taste h) (cwV 3 hts gX11_termScore_X11_taste rfl rfl rfl (by decide +kernel) ⟨Nat.le_of_ble_eq_true rfl, Nat.le_of_ble_eq_true rfl⟩) (hc.preV hk1 rfl (by decide)) rfl rfl hl.1 rfl (lv_room (Nat.le_of_ble_eq_true rfl)) dX11_termScore_82 ⟨Nat.le_of_ble_eq_true rfl, Nat.le_of_ble_eq_true rfl⟩) hc (fun x9 g10 H locs hq hc => ?_)
        replace h := hq
        refine lv_aload_n hx hb dX11_termScore_85 rfl (lv_at hl 0 rfl) ?_
        obtain ⟨hk12, h⟩ := h
        obtain ⟨y13, e14, h⟩ := h
        refine g_getr CF hc hk12 rfl (by decide) (fun _ h9 => List.mem_cons_of_mem _ (List.mem_append_right _ (h9))) (k := 11) (by decide) (List.mem_cons_of_mem _ (List.mem_append_left _ (List.mem_append_left _ (List.mem_of_getElem? (i := 2) rfl)))) e14 rfl dX11_termScore_86 ?_
        refine lv_aload_n hx hb dX11_termScore_89 rfl (lv_at hl 0 rfl) ?_
        obtain ⟨y15, e16, h⟩ := h
        refine g_getr CF hc hk12 rfl (by decide) (fun _ h9 => List.mem_cons_of_mem _ (List.mem_append_right _ (h9))) (k := 18) (by decide) (List.mem_cons_of_mem _ (List.mem_append_left _ (List.mem_append_left _ (List.mem_of_getElem? (i := 1) rfl)))) e16 rfl dX11_termScore_90 ?_
        refine lv_iload_n hx hb dX11_termScore_93 rfl (lv_at hl 1 rfl) ?_
        obtain ⟨hk17, h⟩ := h
        obtain ⟨hi18, h⟩ := h
        refine g_iald CF hc hk17 hi18 dX11_termScore_94 ?_
        obtain ⟨hk19, h⟩ := h
        obtain ⟨hi20, h⟩ := h
        refine g_iald CF hc hk19 hi20 dX11_termScore_95 ?_
        refine lv_iconst (v := (-1)) hx hb dX11_termScore_96 (by decide) ?_
        refine lv_icmp_ne (tgt := 104) hx hb dX11_termScore_97 (by decide) (fun c21 => ?_) (fun c21 => ?_)
        · have h := h.2 c21
          refine lv_aload_n hx hb dX11_termScore_104 rfl (lv_at hl 0 rfl) ?_
          refine lv_iload_n hx hb dX11_termScore_105 rfl (lv_at hl 2 rfl) ?_
          refine lv_iload hx hb dX11_termScore_106 (lv_at hl 5 rfl) ?_
          refine lv_aload_n hx hb dX11_termScore_108 rfl (lv_at hl 0 rfl) ?_
          obtain ⟨y22, e23, h⟩ := h
          refine g_getr CF hc hk12 rfl (by decide) (fun _ h9 => List.mem_cons_of_mem _ (List.mem_append_right _ (h9))) (k := 11) (by decide) (List.mem_cons_of_mem _ (List.mem_append_left _ (List.mem_append_left _ (List.mem_of_getElem? (i := 2) rfl)))) e23 rfl dX11_termScore_109 ?_
          refine lv_aload_n hx hb dX11_termScore_112 rfl (lv_at hl 0 rfl) ?_
          obtain ⟨y24, e25, h⟩ := h
          refine g_getr CF hc hk12 rfl (by decide) (fun _ h9 => List.mem_cons_of_mem _ (List.mem_append_right _ (h9))) (k := 18) (by decide) (List.mem_cons_of_mem _ (List.mem_append_left _ (List.mem_append_left _ (List.mem_of_getElem? (i := 1) rfl)))) e25 rfl dX11_termScore_113 ?_
          refine lv_iload_n hx hb dX11_termScore_116 rfl (lv_at hl 1 rfl) ?_
          obtain ⟨hk26, h⟩ := h
          obtain ⟨hi27, h⟩ := h
          refine g_iald CF hc hk26 hi27 dX11_termScore_117 ?_
          obtain ⟨hk28, h⟩ := h
          obtain ⟨hi29, h⟩ := h
          refine g_iald CF hc hk28 hi29 dX11_termScore_118 ?_
          refine g_calli (va_runV (As := [.int i2, .int i5, .int (gI g10 y22 (Int32.toNatClampNeg (gI g10 y24 (Int32.toNatClampNeg i1))))]) (rest := [.int x9, .int i3]) CF (c_X11_taste h) (cwV 3 hts gX11_termScore_X11_taste rfl rfl rfl (by decide +kernel) ⟨Nat.le_of_ble_eq_true rfl, Nat.le_of_ble_eq_true rfl⟩) (hc.preV hk12 rfl (by decide)) rfl rfl hl.1 rfl (lv_room (Nat.le_of_ble_eq_true rfl)) dX11_termScore_119 ⟨Nat.le_of_ble_eq_true rfl, Nat.le_of_ble_eq_true rfl⟩) hc (fun x30 g31 H locs hq hc => ?_)
          replace h := hq
          exact hb_122 g31 i4 i5 i3 x9 x30 h _ _ _ hc (lv_sub hl [0, 1, 2, 4, 5] rfl)
        · have h := h.1 c21
          refine lv_iconst (v := 0) hx hb dX11_termScore_100 (by decide) ?_
          refine lv_goto (tgt := 122) hx hb dX11_termScore_101 (by decide) ?_
          exact hb_122 g10 i4 i5 i3 x9 0 h _ _ _ hc (lv_sub hl [0, 1, 2, 4, 5] rfl)
      · have h := h.2 c4
        refine lv_iload hx hb dX11_termScore_46 (lv_at hl 4 rfl) ?_
        refine lv_aload_n hx hb dX11_termScore_48 rfl (lv_at hl 0 rfl) ?_
        refine lv_iload_n hx hb dX11_termScore_49 rfl (lv_at hl 1 rfl) ?_
        refine lv_aload_n hx hb dX11_termScore_50 rfl (lv_at hl 0 rfl) ?_
        refine lv_iload_n hx hb dX11_termScore_51 rfl (lv_at hl 2 rfl) ?_
        refine lv_iload hx hb dX11_termScore_52 (lv_at hl 5 rfl) ?_
        refine lv_iload hx hb dX11_termScore_54 (lv_at hl 6 rfl) ?_
        refine g_calli (va_runV (As := [.int i2, .int i5, .int i6]) (rest := [.int i1, .ref r0, .int i4]) CF (c_X11_at h) (cwV 3 hts gX11_termScore_X11_at rfl rfl rfl (by decide +kernel) ⟨Nat.le_of_ble_eq_true rfl, Nat.le_of_ble_eq_true rfl⟩) (hc.preV hk1 rfl (by decide)) rfl rfl hl.1 rfl (lv_room (Nat.le_of_ble_eq_true rfl)) dX11_termScore_56 ⟨Nat.le_of_ble_eq_true rfl, Nat.le_of_ble_eq_true rfl⟩) hc (fun x33 gq34 H locs hq hc => ?_)
        obtain ⟨rfl, h⟩ := hq
        refine g_calli (va_runV (As := [.int i1, .int x33]) (rest := [.int i4]) CF (c_X11_looksFor h) (cwV 2 hts gX11_termScore_X11_looksFor rfl rfl rfl (by decide +kernel) ⟨Nat.le_of_ble_eq_true rfl, Nat.le_of_ble_eq_true rfl⟩) (hc.preV hk1 rfl (by decide)) rfl rfl hl.1 rfl (lv_room (Nat.le_of_ble_eq_true rfl)) dX11_termScore_59 ⟨Nat.le_of_ble_eq_true rfl, Nat.le_of_ble_eq_true rfl⟩) hc (fun x35 gq36 H locs hq hc => ?_)
        obtain ⟨rfl, h⟩ := hq
        refine lv_ior hx hb dX11_termScore_62 ?_
        refine lv_istore (lv' := [(4, .int (i4 ||| x35)), (0, .ref r0), (1, .int i1), (2, .int i2), (3, .int i3), (5, .int i5), (6, .int i6)]) hx hb dX11_termScore_63 hl (by decide) rfl (fun ls hl => ?_)
        refine lv_iinc (v := (i6 + 1)) (lv' := [(6, .int (i6 + 1)), (4, .int (i4 ||| x35)), (0, .ref r0), (1, .int i1), (2, .int i2), (3, .int i3), (5, .int i5)]) hx hb dX11_termScore_65 hl (k := 6) rfl rfl (by decide) rfl (fun ls hl => ?_)
        refine lv_goto (tgt := 34) hx hb dX11_termScore_68 (by decide) ?_
        exact hk_34 (i4 ||| x35) (i6 + 1) h _ _ _ hc (lv_sub hl [2, 3, 4, 5, 1, 6, 0] rfl)
    unfold l_X11_termScore_8 at h
    refine lv_iload hx hb dX11_termScore_8 (lv_at hl 5 rfl) ?_
    refine lv_iconst (v := 3) hx hb dX11_termScore_10 (by decide) ?_
    refine lv_icmp_ge (tgt := 131) hx hb dX11_termScore_11 (by decide) (fun c37 => ?_) (fun c37 => ?_)
    · have h := h.1 c37
      refine lv_iload hx hb dX11_termScore_131 (lv_at hl 4 rfl) ?_
      refine lv_if_eq (tgt := 143) hx hb dX11_termScore_133 (by decide) (fun c38 => ?_) (fun c38 => ?_)
      · have h := h.1 c38
        refine lv_iconst (v := (-1)) hx hb dX11_termScore_143 (by decide) ?_
        exact hb_144 g (-1) h _ _ _ hc (lv_sub hl [] rfl)
      · have h := h.2 c38
        refine lv_iload_n hx hb dX11_termScore_136 rfl (lv_at hl 3 rfl) ?_
        refine g_calli (va_runS (As := [.int i3]) (rest := []) CF (c_X11_least h) (va_cwS 1 hts gX11_termScore_X11_least rfl rfl rfl (by decide +kernel) ⟨Nat.le_of_ble_eq_true rfl, Nat.le_of_ble_eq_true rfl⟩) hc.preS rfl rfl hl.1 rfl (lv_room (Nat.le_of_ble_eq_true rfl)) dX11_termScore_137 ⟨Nat.le_of_ble_eq_true rfl, Nat.le_of_ble_eq_true rfl⟩) hc (fun x39 gq40 H locs hq hc => ?_)
        obtain ⟨rfl, h⟩ := hq
        refine lv_goto (tgt := 144) hx hb dX11_termScore_140 (by decide) ?_
        exact hb_144 g x39 h _ _ _ hc (lv_sub hl [] rfl)
    · have h := h.2 c37
      refine lv_aload_n hx hb dX11_termScore_14 rfl (lv_at hl 0 rfl) ?_
      obtain ⟨hk41, h⟩ := h
      obtain ⟨y42, e43, h⟩ := h
      refine g_getr CF hc hk41 rfl (by decide) (fun _ h9 => List.mem_cons_of_mem _ (List.mem_append_right _ (h9))) (k := 19) (by decide) (List.mem_cons_of_mem _ (List.mem_append_left _ (List.mem_append_left _ (List.mem_of_getElem? (i := 0) rfl)))) e43 rfl dX11_termScore_15 ?_
      refine lv_iload_n hx hb dX11_termScore_18 rfl (lv_at hl 1 rfl) ?_
      obtain ⟨hk44, h⟩ := h
      obtain ⟨hi45, h⟩ := h
      refine g_iald CF hc hk44 hi45 dX11_termScore_19 ?_
      refine lv_iload hx hb dX11_termScore_20 (lv_at hl 5 rfl) ?_
      refine lv_ishr hx hb dX11_termScore_22 ?_
      refine lv_iconst (v := 1) hx hb dX11_termScore_23 (by decide) ?_
      refine lv_iand hx hb dX11_termScore_24 ?_
      refine lv_if_ne (tgt := 31) hx hb dX11_termScore_25 (by decide) (fun c46 => ?_) (fun c46 => ?_)
      · have h := h.2 c46
        refine lv_iconst (v := 0) hx hb dX11_termScore_31 (by decide) ?_
        refine lv_istore (lv' := [(6, .int 0), (0, .ref r0), (1, .int i1), (2, .int i2), (3, .int i3), (4, .int i4), (5, .int i5)]) hx hb dX11_termScore_32 hl (by decide) rfl (fun ls hl => ?_)
        exact hb_34 g i3 i5 i4 0 h _ _ _ hc (lv_sub hl [1, 2, 3, 4, 5, 6, 0] rfl)
      · have h := h.1 c46
        refine lv_goto (tgt := 125) hx hb dX11_termScore_28 (by decide) ?_
        exact hb_125 g i3 i4 i5 h _ _ _ hc (lv_sub hl [0, 1, 2, 3, 4, 5] rfl)
  unfold w_X11_termScore at h
  obtain ⟨H, hH0⟩ : ∃ z, z = s.heap := ⟨_, rfl⟩
  rw [← hH0] at hc ⊢
  obtain ⟨locs, hlc0⟩ : ∃ z : List Loc, z = [] := ⟨_, rfl⟩
  rw [← hlc0] at hc ⊢
  refine lv_iconst (v := 0) hx hb dX11_termScore_0 (by decide) ?_
  refine lv_istore_n (lv' := [(3, .int 0), (0, .ref p0), (1, .int p1), (2, .int p2)]) hx hb dX11_termScore_1 rfl hl (by decide) rfl (fun ls hl => ?_)
  refine lv_iconst (v := 0) hx hb dX11_termScore_2 (by decide) ?_
  refine lv_istore (lv' := [(4, .int 0), (3, .int 0), (0, .ref p0), (1, .int p1), (2, .int p2)]) hx hb dX11_termScore_3 hl (by decide) rfl (fun ls hl => ?_)
  refine lv_iconst (v := 0) hx hb dX11_termScore_5 (by decide) ?_
  refine lv_istore (lv' := [(5, .int 0), (4, .int 0), (3, .int 0), (0, .ref p0), (1, .int p1), (2, .int p2)]) hx hb dX11_termScore_6 hl (by decide) rfl (fun ls hl => ?_)
  exact hb_8 p0 p1 p2 g0 0 0 0 h _ _ _ hc (lv_sub hl [3, 4, 5, 2, 1, 0] rfl)
def b_X11_nearFields_216 (g : gS) (r0 : Nat) (i1 : Int32) (i2 : Int32) (i3 : Int32) (i4 : Int32) (Q : Int32 → Prop) (k5 : Int32 → Int32 → Prop) : Prop :=
  k5 i3 (i4 + 1)
def b_X11_nearFields_214 (g : gS) (r0 : Nat) (i1 : Int32) (i2 : Int32) (i4 : Int32) (is0 : Int32) (is1 : Int32) (Q : Int32 → Prop) (k5 : Int32 → Int32 → Prop) : Prop :=
  b_X11_nearFields_216 g r0 i1 i2 (is0 + is1) i4 Q k5
def b_X11_nearFields_188 (g : gS) (r0 : Nat) (i1 : Int32) (i2 : Int32) (i3 : Int32) (i4 : Int32) (i6 : Int32) (i7 : Int32) (is0 : Int32) (is1 : Int32) (Q : Int32 → Prop) (k5 : Int32 → Int32 → Prop) (k58 : Int32 → Int32 → Prop) (k73 : Int32 → Int32 → Prop) : Prop :=
  k73 (is0 ||| is1) (i7 + 1)
def b_X11_nearFields_187 (g : gS) (r0 : Nat) (i1 : Int32) (i2 : Int32) (i3 : Int32) (i4 : Int32) (i6 : Int32) (i7 : Int32) (is0 : Int32) (Q : Int32 → Prop) (k5 : Int32 → Int32 → Prop) (k58 : Int32 → Int32 → Prop) (k73 : Int32 → Int32 → Prop) : Prop :=
  b_X11_nearFields_188 g r0 i1 i2 i3 i4 i6 i7 is0 0 Q k5 k58 k73
def b_X11_nearFields_130 (g : gS) (r0 : Nat) (i1 : Int32) (i2 : Int32) (i3 : Int32) (i4 : Int32) (i5 : Int32) (i6 : Int32) (i7 : Int32) (is0 : Int32) (Q : Int32 → Prop) (k5 : Int32 → Int32 → Prop) (k58 : Int32 → Int32 → Prop) (k73 : Int32 → Int32 → Prop) : Prop :=
  (is0 = 0 → (b_X11_nearFields_187 g r0 i1 i2 i3 i4 i6 i7 i5 Q k5 k58 k73)) ∧ (¬ is0 = 0 → (gK g r0 = 12 ∧ (∃ y3, gR g r0 18 = some y3 ∧ (gK g y3 = 21 ∧ (vp_in i1 (gN g y3) ∧ (w_X11_at g r0 i2 i4 i6 (fun x7 => (w_X11_looksFor g r0 (gI g y3 (Int32.toNatClampNeg i1)) x7 (fun x9 => ((x9 = 0 → (b_X11_nearFields_187 g r0 i1 i2 i3 i4 i6 i7 i5 Q k5 k58 k73)) ∧ (¬ x9 = 0 → (∃ y12, gR g r0 19 = some y12 ∧ (gK g y12 = 21 ∧ (vp_in i1 (gN g y12) ∧ (w_X11_at g r0 i2 i4 i7 (fun x16 => (w_X11_looksFor g r0 (gI g y12 (Int32.toNatClampNeg i1)) x16 (fun x18 => ((x18 = 0 → (b_X11_nearFields_187 g r0 i1 i2 i3 i4 i6 i7 i5 Q k5 k58 k73)) ∧ (¬ x18 = 0 → (b_X11_nearFields_188 g r0 i1 i2 i3 i4 i6 i7 i5 1 Q k5 k58 k73)))))))))))))))))))))
def b_X11_nearFields_129 (g : gS) (r0 : Nat) (i1 : Int32) (i2 : Int32) (i3 : Int32) (i4 : Int32) (i5 : Int32) (i6 : Int32) (i7 : Int32) (Q : Int32 → Prop) (k5 : Int32 → Int32 → Prop) (k58 : Int32 → Int32 → Prop) (k73 : Int32 → Int32 → Prop) : Prop :=
  b_X11_nearFields_130 g r0 i1 i2 i3 i4 i5 i6 i7 0 Q k5 k58 k73
def b_X11_nearFields_125 (g : gS) (r0 : Nat) (i1 : Int32) (i2 : Int32) (i3 : Int32) (i4 : Int32) (i5 : Int32) (i6 : Int32) (i7 : Int32) (Q : Int32 → Prop) (k5 : Int32 → Int32 → Prop) (k58 : Int32 → Int32 → Prop) (k73 : Int32 → Int32 → Prop) : Prop :=
  b_X11_nearFields_130 g r0 i1 i2 i3 i4 i5 i6 i7 1 Q k5 k58 k73
def l_X11_nearFields_73 (g : gS) (r0 : Nat) (i1 : Int32) (i2 : Int32) (i3 : Int32) (i4 : Int32) (i6 : Int32) (Q : Int32 → Prop) (k5 : Int32 → Int32 → Prop) (k58 : Int32 → Int32 → Prop) (i5 : Int32) (i7 : Int32) (k73 : Int32 → Int32 → Prop) : Prop :=
  gK g r0 = 12 ∧ (w_X11_many g r0 i2 i4 (fun x22 => ((x22 ≤ i7 → (k58 i5 (i6 + 1))) ∧ (¬ x22 ≤ i7 → ((i6 = i7 → (b_X11_nearFields_129 g r0 i1 i2 i3 i4 i5 i6 i7 Q k5 k58 k73)) ∧ (¬ i6 = i7 → (∃ y26, gR g r0 20 = some y26 ∧ (gK g y26 = 21 ∧ (vp_in i1 (gN g y26) ∧ (((gI g y26 (Int32.toNatClampNeg i1)) < (if 0 ≤ (i6 - i7) then (i6 - i7) else 0 - (i6 - i7)) → (b_X11_nearFields_129 g r0 i1 i2 i3 i4 i5 i6 i7 Q k5 k58 k73)) ∧ (¬ (gI g y26 (Int32.toNatClampNeg i1)) < (if 0 ≤ (i6 - i7) then (i6 - i7) else 0 - (i6 - i7)) → (∃ y31, gR g r0 21 = some y31 ∧ (gK g y31 = 22 ∧ (vp_in i1 (gN g y31) ∧ (((gI g y31 (Int32.toNatClampNeg i1)) = 0 → (b_X11_nearFields_125 g r0 i1 i2 i3 i4 i5 i6 i7 Q k5 k58 k73)) ∧ (¬ (gI g y31 (Int32.toNatClampNeg i1)) = 0 → ((i7 ≤ i6 → (b_X11_nearFields_129 g r0 i1 i2 i3 i4 i5 i6 i7 Q k5 k58 k73)) ∧ (¬ i7 ≤ i6 → (b_X11_nearFields_125 g r0 i1 i2 i3 i4 i5 i6 i7 Q k5 k58 k73)))))))))))))))))))
def l_X11_nearFields_58 (g : gS) (r0 : Nat) (i1 : Int32) (i2 : Int32) (i3 : Int32) (i4 : Int32) (Q : Int32 → Prop) (k5 : Int32 → Int32 → Prop) (i5 : Int32) (i6 : Int32) (k58 : Int32 → Int32 → Prop) : Prop :=
  gK g r0 = 12 ∧ (w_X11_many g r0 i2 i4 (fun x38 => ((x38 ≤ i6 → ((i5 = 0 → (b_X11_nearFields_214 g r0 i1 i2 i4 i3 0 Q k5)) ∧ (¬ i5 = 0 → (b_X11_nearFields_214 g r0 i1 i2 i4 i3 1 Q k5)))) ∧ (¬ x38 ≤ i6 → (lpx2 (l_X11_nearFields_73 g r0 i1 i2 i3 i4 i6 Q k5 k58) i5 0)))))
def l_X11_nearFields_5 (g : gS) (r0 : Nat) (i1 : Int32) (i2 : Int32) (Q : Int32 → Prop) (i3 : Int32) (i4 : Int32) (k5 : Int32 → Int32 → Prop) : Prop :=
  (3 ≤ i4 → (Q i3)) ∧ (¬ 3 ≤ i4 → (gK g r0 = 12 ∧ (∃ y44, gR g r0 19 = some y44 ∧ (∃ y46, gR g r0 18 = some y46 ∧ (gK g y46 = 21 ∧ (vp_in i1 (gN g y46) ∧ (gK g y44 = 21 ∧ (vp_in (gI g y46 (Int32.toNatClampNeg i1)) (gN g y44) ∧ (((((gI g y44 (Int32.toNatClampNeg (gI g y46 (Int32.toNatClampNeg i1)))) >>> (i4 &&& 31)) &&& 1) = 0 → (b_X11_nearFields_216 g r0 i1 i2 i3 i4 Q k5)) ∧ (¬ (((gI g y44 (Int32.toNatClampNeg (gI g y46 (Int32.toNatClampNeg i1)))) >>> (i4 &&& 31)) &&& 1) = 0 → (∃ y53, gR g r0 19 = some y53 ∧ (∃ y55, gR g r0 19 = some y55 ∧ (gK g y55 = 21 ∧ (vp_in i1 (gN g y55) ∧ (gK g y53 = 21 ∧ (vp_in (gI g y55 (Int32.toNatClampNeg i1)) (gN g y53) ∧ (((((gI g y53 (Int32.toNatClampNeg (gI g y55 (Int32.toNatClampNeg i1)))) >>> (i4 &&& 31)) &&& 1) = 0 → (b_X11_nearFields_216 g r0 i1 i2 i3 i4 Q k5)) ∧ (¬ (((gI g y53 (Int32.toNatClampNeg (gI g y55 (Int32.toNatClampNeg i1)))) >>> (i4 &&& 31)) &&& 1) = 0 → (lpx2 (l_X11_nearFields_58 g r0 i1 i2 i3 i4 Q k5) 0 0)))))))))))))))))))
def w_X11_nearFields (g : gS) (p0 : Nat) (p1 : Int32) (p2 : Int32) (Q : Int32 → Prop) : Prop :=
  lpx2 (l_X11_nearFields_5 g p0 p1 p2 Q) 0 0
abbrev r_X11_nearFields : Room := { frames := 1, cells := 0, slots := 0, locals := 23 }
set_option maxHeartbeats 4000000 in
set_option maxRecDepth 100000 in
theorem c_X11_nearFields {l : Launch} {D : va_G} {cA : Nat → ClassId} {sz : Nat} {g : gS} {p0 : Nat} {p1 : Int32} {p2 : Int32} {Q : Int32 → Prop} (h : w_X11_nearFields g p0 p1 p2 Q) : Met l yX11_nearFields wsX11_nearFields r_X11_nearFields (va_Pc [.ref p0, .int p1, .int p2] (gPre D cA g sz)) (gQi D cA g sz (fun r g2 => g = g2 ∧ Q r)) 0 0 (gA g sz) := by
  refine g_met (cc := cX11_nearFields) (maxL := 9) (ret := (some .int)) (own := RX11) (by decide) rfl rfl (Nat.le_of_ble_eq_true rfl) ?_
  intro p e s m args below meth c ls CF hr hlk hnm hc hl
  obtain ⟨hx, hb, hml, hown, hts⟩ := id CF
  have hl : lv_has ls 9 [(0, .ref p0), (1, .int p1), (2, .int p2)] := hl
  show W p l e r_X11_nearFields s m args below meth c s.heap [] 0 0 (MQ below (gQi D cA g sz (fun r g2 => g = g2 ∧ Q r)) args s 0 0 (gA g sz)) (F0 m 0 ls [])
  have hb_5 : ∀ (r0 : Nat) (i1 : Int32) (i2 : Int32), ∀ (i3 : Int32) (i4 : Int32), lpx2 (l_X11_nearFields_5 g r0 i1 i2 Q) i3 i4 → ∀ (H : Heap) (locs : List Loc) (ls : Array Slot), gC D cA (gA g sz) s g H locs → lv_has ls 9 [(0, .ref r0), (1, .int i1), (2, .int i2), (3, .int i3), (4, .int i4)] → W p l e r_X11_nearFields s m args below meth c H locs 0 0 (MQ below (gQi D cA g sz (fun r g2 => g = g2 ∧ Q r)) args s 0 0 (gA g sz)) (F0 m 5 ls []) := by
    intro r0 i1 i2
    refine lpx2_run (P := fun (i3 : Int32) (i4 : Int32) => ∀ (H : Heap) (locs : List Loc) (ls : Array Slot), gC D cA (gA g sz) s g H locs → lv_has ls 9 [(0, .ref r0), (1, .int i1), (2, .int i2), (3, .int i3), (4, .int i4)] → W p l e r_X11_nearFields s m args below meth c H locs 0 0 (MQ below (gQi D cA g sz (fun r g2 => g = g2 ∧ Q r)) args s 0 0 (gA g sz)) (F0 m 5 ls [])) ?_
    intro k5 hk_5 i3 i4 h H locs ls hc hl
    have hb_216 : ∀ (i3 : Int32) (i4 : Int32), b_X11_nearFields_216 g r0 i1 i2 i3 i4 Q k5 → ∀ (H : Heap) (locs : List Loc) (ls : Array Slot), gC D cA (gA g sz) s g H locs → lv_has ls 9 [(0, .ref r0), (1, .int i1), (2, .int i2), (3, .int i3), (4, .int i4)] → W p l e r_X11_nearFields s m args below meth c H locs 0 0 (MQ below (gQi D cA g sz (fun r g2 => g = g2 ∧ Q r)) args s 0 0 (gA g sz)) (F0 m 216 ls []) := by
      intro i3 i4 h H locs ls hc hl
      unfold b_X11_nearFields_216 at h
      refine lv_iinc (v := (i4 + 1)) (lv' := [(4, .int (i4 + 1)), (0, .ref r0), (1, .int i1), (2, .int i2), (3, .int i3)]) hx hb dX11_nearFields_216 hl (k := 4) rfl rfl (by decide) rfl (fun ls hl => ?_)
      refine lv_goto (tgt := 5) hx hb dX11_nearFields_219 (by decide) ?_
      exact hk_5 i3 (i4 + 1) h _ _ _ hc (lv_sub hl [1, 2, 3, 4, 0] rfl)
    have hb_214 : ∀ (i4 : Int32) (is0 : Int32) (is1 : Int32), b_X11_nearFields_214 g r0 i1 i2 i4 is0 is1 Q k5 → ∀ (H : Heap) (locs : List Loc) (ls : Array Slot), gC D cA (gA g sz) s g H locs → lv_has ls 9 [(0, .ref r0), (1, .int i1), (2, .int i2), (4, .int i4)] → W p l e r_X11_nearFields s m args below meth c H locs 0 0 (MQ below (gQi D cA g sz (fun r g2 => g = g2 ∧ Q r)) args s 0 0 (gA g sz)) (F0 m 214 ls [.int is1, .int is0]) := by
      intro i4 is0 is1 h H locs ls hc hl
      unfold b_X11_nearFields_214 at h
      refine lv_iadd hx hb dX11_nearFields_214 ?_
      refine lv_istore_n (lv' := [(3, .int (is0 + is1)), (0, .ref r0), (1, .int i1), (2, .int i2), (4, .int i4)]) hx hb dX11_nearFields_215 rfl hl (by decide) rfl (fun ls hl => ?_)
      exact hb_216 (is0 + is1) i4 h _ _ _ hc (lv_sub hl [1, 2, 3, 0, 4] rfl)
    have hb_58 : ∀ (i3 : Int32) (i4 : Int32), ∀ (i5 : Int32) (i6 : Int32), lpx2 (l_X11_nearFields_58 g r0 i1 i2 i3 i4 Q k5) i5 i6 → ∀ (H : Heap) (locs : List Loc) (ls : Array Slot), gC D cA (gA g sz) s g H locs → lv_has ls 9 [(0, .ref r0), (1, .int i1), (2, .int i2), (3, .int i3), (4, .int i4), (5, .int i5), (6, .int i6)] → W p l e r_X11_nearFields s m args below meth c H locs 0 0 (MQ below (gQi D cA g sz (fun r g2 => g = g2 ∧ Q r)) args s 0 0 (gA g sz)) (F0 m 58 ls []) := by
      intro i3 i4
      refine lpx2_run (P := fun (i5 : Int32) (i6 : Int32) => ∀ (H : Heap) (locs : List Loc) (ls : Array Slot), gC D cA (gA g sz) s g H locs → lv_has ls 9 [(0, .ref r0), (1, .int i1), (2, .int i2), (3, .int i3), (4, .int i4), (5, .int i5), (6, .int i6)] → W p l e r_X11_nearFields s m args below meth c H locs 0 0 (MQ below (gQi D cA g sz (fun r g2 => g = g2 ∧ Q r)) args s 0 0 (gA g sz)) (F0 m 58 ls [])) ?_
      intro k58 hk_58 i5 i6 h H locs ls hc hl
      have hb_73 : ∀ (i6 : Int32), ∀ (i5 : Int32) (i7 : Int32), lpx2 (l_X11_nearFields_73 g r0 i1 i2 i3 i4 i6 Q k5 k58) i5 i7 → ∀ (H : Heap) (locs : List Loc) (ls : Array Slot), gC D cA (gA g sz) s g H locs → lv_has ls 9 [(0, .ref r0), (1, .int i1), (2, .int i2), (3, .int i3), (4, .int i4), (5, .int i5), (6, .int i6), (7, .int i7)] → W p l e r_X11_nearFields s m args below meth c H locs 0 0 (MQ below (gQi D cA g sz (fun r g2 => g = g2 ∧ Q r)) args s 0 0 (gA g sz)) (F0 m 73 ls []) := by
        intro i6
        refine lpx2_run (P := fun (i5 : Int32) (i7 : Int32) => ∀ (H : Heap) (locs : List Loc) (ls : Array Slot), gC D cA (gA g sz) s g H locs → lv_has ls 9 [(0, .ref r0), (1, .int i1), (2, .int i2), (3, .int i3), (4, .int i4), (5, .int i5), (6, .int i6), (7, .int i7)] → W p l e r_X11_nearFields s m args below meth c H locs 0 0 (MQ below (gQi D cA g sz (fun r g2 => g = g2 ∧ Q r)) args s 0 0 (gA g sz)) (F0 m 73 ls [])) ?_
        intro k73 hk_73 i5 i7 h H locs ls hc hl
        have hb_188 : ∀ (i7 : Int32) (is0 : Int32) (is1 : Int32), b_X11_nearFields_188 g r0 i1 i2 i3 i4 i6 i7 is0 is1 Q k5 k58 k73 → ∀ (H : Heap) (locs : List Loc) (ls : Array Slot), gC D cA (gA g sz) s g H locs → lv_has ls 9 [(0, .ref r0), (1, .int i1), (2, .int i2), (3, .int i3), (4, .int i4), (6, .int i6), (7, .int i7)] → W p l e r_X11_nearFields s m args below meth c H locs 0 0 (MQ below (gQi D cA g sz (fun r g2 => g = g2 ∧ Q r)) args s 0 0 (gA g sz)) (F0 m 188 ls [.int is1, .int is0]) := by
          intro i7 is0 is1 h H locs ls hc hl
          unfold b_X11_nearFields_188 at h
          refine lv_ior hx hb dX11_nearFields_188 ?_
          refine lv_istore (lv' := [(5, .int (is0 ||| is1)), (0, .ref r0), (1, .int i1), (2, .int i2), (3, .int i3), (4, .int i4), (6, .int i6), (7, .int i7)]) hx hb dX11_nearFields_189 hl (by decide) rfl (fun ls hl => ?_)
          refine lv_iinc (v := (i7 + 1)) (lv' := [(7, .int (i7 + 1)), (5, .int (is0 ||| is1)), (0, .ref r0), (1, .int i1), (2, .int i2), (3, .int i3), (4, .int i4), (6, .int i6)]) hx hb dX11_nearFields_191 hl (k := 7) rfl rfl (by decide) rfl (fun ls hl => ?_)
          refine lv_goto (tgt := 73) hx hb dX11_nearFields_194 (by decide) ?_
          exact hk_73 (is0 ||| is1) (i7 + 1) h _ _ _ hc (lv_sub hl [2, 3, 4, 5, 6, 1, 7, 0] rfl)
        have hb_187 : ∀ (i7 : Int32) (is0 : Int32), b_X11_nearFields_187 g r0 i1 i2 i3 i4 i6 i7 is0 Q k5 k58 k73 → ∀ (H : Heap) (locs : List Loc) (ls : Array Slot), gC D cA (gA g sz) s g H locs → lv_has ls 9 [(0, .ref r0), (1, .int i1), (2, .int i2), (3, .int i3), (4, .int i4), (6, .int i6), (7, .int i7)] → W p l e r_X11_nearFields s m args below meth c H locs 0 0 (MQ below (gQi D cA g sz (fun r g2 => g = g2 ∧ Q r)) args s 0 0 (gA g sz)) (F0 m 187 ls [.int is0]) := by
          intro i7 is0 h H locs ls hc hl
          unfold b_X11_nearFields_187 at h
          refine lv_iconst (v := 0) hx hb dX11_nearFields_187 (by decide) ?_
          exact hb_188 i7 is0 0 h _ _ _ hc (lv_sub hl [0, 1, 2, 3, 4, 5, 6] rfl)
        have hb_130 : ∀ (i5 : Int32) (i7 : Int32) (is0 : Int32), b_X11_nearFields_130 g r0 i1 i2 i3 i4 i5 i6 i7 is0 Q k5 k58 k73 → ∀ (H : Heap) (locs : List Loc) (ls : Array Slot), gC D cA (gA g sz) s g H locs → lv_has ls 9 [(0, .ref r0), (1, .int i1), (2, .int i2), (3, .int i3), (4, .int i4), (5, .int i5), (6, .int i6), (7, .int i7)] → W p l e r_X11_nearFields s m args below meth c H locs 0 0 (MQ below (gQi D cA g sz (fun r g2 => g = g2 ∧ Q r)) args s 0 0 (gA g sz)) (F0 m 130 ls [.int is0]) := by
          intro i5 i7 is0 h H locs ls hc hl
          unfold b_X11_nearFields_130 at h
          refine lv_istore (lv' := [(8, .int is0), (0, .ref r0), (1, .int i1), (2, .int i2), (3, .int i3), (4, .int i4), (5, .int i5), (6, .int i6), (7, .int i7)]) hx hb dX11_nearFields_130 hl (by decide) rfl (fun ls hl => ?_)
          refine lv_iload hx hb dX11_nearFields_132 (lv_at hl 6 rfl) ?_
          refine lv_iload hx hb dX11_nearFields_134 (lv_at hl 0 rfl) ?_
          refine lv_if_eq (tgt := 187) hx hb dX11_nearFields_136 (by decide) (fun c1 => ?_) (fun c1 => ?_)
          · have h := h.1 c1
            exact hb_187 i7 i5 h _ _ _ hc (lv_sub hl [1, 2, 3, 4, 5, 7, 8] rfl)
          · have h := h.2 c1
            refine lv_aload_n hx hb dX11_nearFields_139 rfl (lv_at hl 1 rfl) ?_
            refine lv_aload_n hx hb dX11_nearFields_140 rfl (lv_at hl 1 rfl) ?_
            obtain ⟨hk2, h⟩ := h
            obtain ⟨y3, e4, h⟩ := h
            refine g_getr CF hc hk2 rfl (by decide) (fun _ h9 => List.mem_cons_of_mem _ (List.mem_append_right _ (h9))) (k := 18) (by decide) (List.mem_cons_of_mem _ (List.mem_append_left _ (List.mem_append_left _ (List.mem_of_getElem? (i := 1) rfl)))) e4 rfl dX11_nearFields_141 ?_
            refine lv_iload_n hx hb dX11_nearFields_144 rfl (lv_at hl 2 rfl) ?_
            obtain ⟨hk5, h⟩ := h
            obtain ⟨hi6, h⟩ := h
            refine g_iald CF hc hk5 hi6 dX11_nearFields_145 ?_
            refine lv_aload_n hx hb dX11_nearFields_146 rfl (lv_at hl 1 rfl) ?_
            refine lv_iload_n hx hb dX11_nearFields_147 rfl (lv_at hl 3 rfl) ?_
            refine lv_iload hx hb dX11_nearFields_148 (lv_at hl 5 rfl) ?_
            refine lv_iload hx hb dX11_nearFields_150 (lv_at hl 7 rfl) ?_
            refine g_calli (va_runV (As := [.int i2, .int i4, .int i6]) (rest := [.int (gI g y3 (Int32.toNatClampNeg i1)), .ref r0, .int i5]) CF (c_X11_at h) (cwV 3 hts gX11_nearFields_X11_at rfl rfl rfl (by decide +kernel) ⟨Nat.le_of_ble_eq_true rfl, Nat.le_of_ble_eq_true rfl⟩) (hc.preV hk2 rfl (by decide)) rfl rfl hl.1 rfl (lv_room (Nat.le_of_ble_eq_true rfl)) dX11_nearFields_152 ⟨Nat.le_of_ble_eq_true rfl, Nat.le_of_ble_eq_true rfl⟩) hc (fun x7 gq8 H locs hq hc => ?_)
            obtain ⟨rfl, h⟩ := hq
            refine g_calli (va_runV (As := [.int (gI g y3 (Int32.toNatClampNeg i1)), .int x7]) (rest := [.int i5]) CF (c_X11_looksFor h) (cwV 2 hts gX11_nearFields_X11_looksFor rfl rfl rfl (by decide +kernel) ⟨Nat.le_of_ble_eq_true rfl, Nat.le_of_ble_eq_true rfl⟩) (hc.preV hk2 rfl (by decide)) rfl rfl hl.1 rfl (lv_room (Nat.le_of_ble_eq_true rfl)) dX11_nearFields_155 ⟨Nat.le_of_ble_eq_true rfl, Nat.le_of_ble_eq_true rfl⟩) hc (fun x9 gq10 H locs hq hc => ?_)
            obtain ⟨rfl, h⟩ := hq
            refine lv_if_eq (tgt := 187) hx hb dX11_nearFields_158 (by decide) (fun c11 => ?_) (fun c11 => ?_)
            · have h := h.1 c11
              exact hb_187 i7 i5 h _ _ _ hc (lv_sub hl [1, 2, 3, 4, 5, 7, 8] rfl)
            · have h := h.2 c11
              refine lv_aload_n hx hb dX11_nearFields_161 rfl (lv_at hl 1 rfl) ?_
              refine lv_aload_n hx hb dX11_nearFields_162 rfl (lv_at hl 1 rfl) ?_
              obtain ⟨y12, e13, h⟩ := h
              refine g_getr CF hc hk2 rfl (by decide) (fun _ h9 => List.mem_cons_of_mem _ (List.mem_append_right _ (h9))) (k := 19) (by decide) (List.mem_cons_of_mem _ (List.mem_append_left _ (List.mem_append_left _ (List.mem_of_getElem? (i := 0) rfl)))) e13 rfl dX11_nearFields_163 ?_
              refine lv_iload_n hx hb dX11_nearFields_166 rfl (lv_at hl 2 rfl) ?_
              obtain ⟨hk14, h⟩ := h
              obtain ⟨hi15, h⟩ := h
              refine g_iald CF hc hk14 hi15 dX11_nearFields_167 ?_
              refine lv_aload_n hx hb dX11_nearFields_168 rfl (lv_at hl 1 rfl) ?_
              refine lv_iload_n hx hb dX11_nearFields_169 rfl (lv_at hl 3 rfl) ?_
              refine lv_iload hx hb dX11_nearFields_170 (lv_at hl 5 rfl) ?_
              refine lv_iload hx hb dX11_nearFields_172 (lv_at hl 8 rfl) ?_
              refine g_calli (va_runV (As := [.int i2, .int i4, .int i7]) (rest := [.int (gI g y12 (Int32.toNatClampNeg i1)), .ref r0, .int i5]) CF (c_X11_at h) (cwV 3 hts gX11_nearFields_X11_at rfl rfl rfl (by decide +kernel) ⟨Nat.le_of_ble_eq_true rfl, Nat.le_of_ble_eq_true rfl⟩) (hc.preV hk2 rfl (by decide)) rfl rfl hl.1 rfl (lv_room (Nat.le_of_ble_eq_true rfl)) dX11_nearFields_174 ⟨Nat.le_of_ble_eq_true rfl, Nat.le_of_ble_eq_true rfl⟩) hc (fun x16 gq17 H locs hq hc => ?_)
              obtain ⟨rfl, h⟩ := hq
              refine g_calli (va_runV (As := [.int (gI g y12 (Int32.toNatClampNeg i1)), .int x16]) (rest := [.int i5]) CF (c_X11_looksFor h) (cwV 2 hts gX11_nearFields_X11_looksFor rfl rfl rfl (by decide +kernel) ⟨Nat.le_of_ble_eq_true rfl, Nat.le_of_ble_eq_true rfl⟩) (hc.preV hk2 rfl (by decide)) rfl rfl hl.1 rfl (lv_room (Nat.le_of_ble_eq_true rfl)) dX11_nearFields_177 ⟨Nat.le_of_ble_eq_true rfl, Nat.le_of_ble_eq_true rfl⟩) hc (fun x18 gq19 H locs hq hc => ?_)
              obtain ⟨rfl, h⟩ := hq
              refine lv_if_eq (tgt := 187) hx hb dX11_nearFields_180 (by decide) (fun c20 => ?_) (fun c20 => ?_)
              · have h := h.1 c20
                exact hb_187 i7 i5 h _ _ _ hc (lv_sub hl [1, 2, 3, 4, 5, 7, 8] rfl)
              · have h := h.2 c20
                refine lv_iconst (v := 1) hx hb dX11_nearFields_183 (by decide) ?_
                refine lv_goto (tgt := 188) hx hb dX11_nearFields_184 (by decide) ?_
                exact hb_188 i7 i5 1 h _ _ _ hc (lv_sub hl [1, 2, 3, 4, 5, 7, 8] rfl)
        have hb_129 : ∀ (i5 : Int32) (i7 : Int32), b_X11_nearFields_129 g r0 i1 i2 i3 i4 i5 i6 i7 Q k5 k58 k73 → ∀ (H : Heap) (locs : List Loc) (ls : Array Slot), gC D cA (gA g sz) s g H locs → lv_has ls 9 [(0, .ref r0), (1, .int i1), (2, .int i2), (3, .int i3), (4, .int i4), (5, .int i5), (6, .int i6), (7, .int i7)] → W p l e r_X11_nearFields s m args below meth c H locs 0 0 (MQ below (gQi D cA g sz (fun r g2 => g = g2 ∧ Q r)) args s 0 0 (gA g sz)) (F0 m 129 ls []) := by
          intro i5 i7 h H locs ls hc hl
          unfold b_X11_nearFields_129 at h
          refine lv_iconst (v := 0) hx hb dX11_nearFields_129 (by decide) ?_
          exact hb_130 i5 i7 0 h _ _ _ hc (lv_sub hl [0, 1, 2, 3, 4, 5, 6, 7] rfl)
        have hb_125 : ∀ (i5 : Int32) (i7 : Int32), b_X11_nearFields_125 g r0 i1 i2 i3 i4 i5 i6 i7 Q k5 k58 k73 → ∀ (H : Heap) (locs : List Loc) (ls : Array Slot), gC D cA (gA g sz) s g H locs → lv_has ls 9 [(0, .ref r0), (1, .int i1), (2, .int i2), (3, .int i3), (4, .int i4), (5, .int i5), (6, .int i6), (7, .int i7)] → W p l e r_X11_nearFields s m args below meth c H locs 0 0 (MQ below (gQi D cA g sz (fun r g2 => g = g2 ∧ Q r)) args s 0 0 (gA g sz)) (F0 m 125 ls []) := by
          intro i5 i7 h H locs ls hc hl
          unfold b_X11_nearFields_125 at h
          refine lv_iconst (v := 1) hx hb dX11_nearFields_125 (by decide) ?_
          refine lv_goto (tgt := 130) hx hb dX11_nearFields_126 (by decide) ?_
          exact hb_130 i5 i7 1 h _ _ _ hc (lv_sub hl [0, 1, 2, 3, 4, 5, 6, 7] rfl)
        unfold l_X11_nearFields_73 at h
        refine lv_iload hx hb dX11_nearFields_73 (lv_at hl 7 rfl) ?_
        refine lv_aload_n hx hb dX11_nearFields_75 rfl (lv_at hl 0 rfl) ?_
        refine lv_iload_n hx hb dX11_nearFields_76 rfl (lv_at hl 2 rfl) ?_
        refine lv_iload hx hb dX11_nearFields_77 (lv_at hl 4 rfl) ?_
        obtain ⟨hk21, h⟩ := h
        refine g_calli (va_runV (As := [.int i2, .int i4]) (rest := [.int i7]) CF (c_X11_many h) (cwV 2 hts gX11_nearFields_X11_many rfl rfl rfl (by decide +kernel) ⟨Nat.le_of_ble_eq_true rfl, Nat.le_of_ble_eq_true rfl⟩) (hc.preV hk21 rfl (by decide)) rfl rfl hl.1 rfl (lv_room (Nat.le_of_ble_eq_true rfl)) dX11_nearFields_79 ⟨Nat.le_of_ble_eq_true rfl, Nat.le_of_ble_eq_true rfl⟩) hc (fun x22 gq23 H locs hq hc => ?_)
        obtain ⟨rfl, h⟩ := hq
        refine lv_icmp_ge (tgt := 197) hx hb dX11_nearFields_82 (by decide) (fun c24 => ?_) (fun c24 => ?_)
        · have h := h.1 c24
          refine lv_iinc (v := (i6 + 1)) (lv' := [(6, .int (i6 + 1)), (0, .ref r0), (1, .int i1), (2, .int i2), (3, .int i3), (4, .int i4), (5, .int i5), (7, .int i7)]) hx hb dX11_nearFields_197 hl (k := 6) rfl rfl (by decide) rfl (fun ls hl => ?_)
          refine lv_goto (tgt := 58) hx hb dX11_nearFields_200 (by decide) ?_
          exact hk_58 i5 (i6 + 1) h _ _ _ hc (lv_sub hl [1, 2, 3, 4, 5, 6, 0] rfl)
        · have h := h.2 c24
          refine lv_iload hx hb dX11_nearFields_85 (lv_at hl 6 rfl) ?_
          refine lv_iload hx hb dX11_nearFields_87 (lv_at hl 7 rfl) ?_
          refine lv_icmp_eq (tgt := 129) hx hb dX11_nearFields_89 (by decide) (fun c25 => ?_) (fun c25 => ?_)
          · have h := h.1 c25
            exact hb_129 i5 i7 h _ _ _ hc (lv_sub hl [0, 1, 2, 3, 4, 5, 6, 7] rfl)
          · have h := h.2 c25
            refine lv_iload hx hb dX11_nearFields_92 (lv_at hl 6 rfl) ?_
            refine lv_iload hx hb dX11_nearFields_94 (lv_at hl 7 rfl) ?_
            refine lv_isub hx hb dX11_nearFields_96 ?_
            refine va_mabs hx hb (hml.trans hl.1.symm) hown (hts _ (List.mem_cons_of_mem _ (List.mem_append_left _ (List.mem_append_left _ (List.mem_of_getElem? (i := 2) rfl))))) (hts _ (List.mem_cons_of_mem _ (List.mem_append_left _ (List.mem_append_left _ (List.mem_of_getElem? (i := 3) rfl))))) (hts _ (List.mem_cons_of_mem _ (List.mem_append_left _ (List.mem_append_left _ (List.mem_of_getElem? (i := 4) rfl))))) (hts _ (List.mem_cons_of_mem _ (List.mem_append_left _ (List.mem_append_left _ (List.mem_of_getElem? (i := 5) rfl))))) (Nat.le_of_ble_eq_true rfl) (Nat.le_of_ble_eq_true rfl) (Nat.le_of_ble_eq_true rfl) (Nat.le_of_ble_eq_true rfl) dX11_nearFields_97 ?_
            refine lv_aload_n hx hb dX11_nearFields_100 rfl (lv_at hl 0 rfl) ?_
            obtain ⟨y26, e27, h⟩ := h
            refine g_getr CF hc hk21 rfl (by decide) (fun _ h9 => List.mem_cons_of_mem _ (List.mem_append_right _ (h9))) (k := 20) (by decide) (List.mem_cons_of_mem _ (List.mem_append_left _ (List.mem_append_left _ (List.mem_of_getElem? (i := 6) rfl)))) e27 rfl dX11_nearFields_101 ?_
            refine lv_iload_n hx hb dX11_nearFields_104 rfl (lv_at hl 1 rfl) ?_
            obtain ⟨hk28, h⟩ := h
            obtain ⟨hi29, h⟩ := h
            refine g_iald CF hc hk28 hi29 dX11_nearFields_105 ?_
            refine lv_icmp_gt (tgt := 129) hx hb dX11_nearFields_106 (by decide) (fun c30 => ?_) (fun c30 => ?_)
            · have h := h.1 c30
              exact hb_129 i5 i7 h _ _ _ hc (lv_sub hl [0, 1, 2, 3, 4, 5, 6, 7] rfl)
            · have h := h.2 c30
              refine lv_aload_n hx hb dX11_nearFields_109 rfl (lv_at hl 0 rfl) ?_
              obtain ⟨y31, e32, h⟩ := h
              refine g_getr CF hc hk21 rfl (by decide) (fun _ h9 => List.mem_cons_of_mem _ (List.mem_append_right _ (h9))) (k := 21) (by decide) (List.mem_cons_of_mem _ (List.mem_append_left _ (List.mem_append_left _ (List.mem_of_getElem? (i := 7) rfl)))) e32 rfl dX11_nearFields_110 ?_
              refine lv_iload_n hx hb dX11_nearFields_113 rfl (lv_at hl 1 rfl) ?_
              obtain ⟨hk33, h⟩ := h
              obtain ⟨hi34, h⟩ := h
              refine g_zald CF hc hk33 hi34 dX11_nearFields_114 ?_
              refine lv_if_eq (tgt := 125) hx hb dX11_nearFields_115 (by decide) (fun c35 => ?_) (fun c35 => ?_)
              · have h := h.1 c35
                exact hb_125 i5 i7 h _ _ _ hc (lv_sub hl [0, 1, 2, 3, 4, 5, 6, 7] rfl)
              · have h := h.2 c35
                refine lv_iload hx hb dX11_nearFields_118 (lv_at hl 6 rfl) ?_
                refine lv_iload hx hb dX11_nearFields_120 (lv_at hl 7 rfl) ?_
                refine lv_icmp_ge (tgt := 129) hx hb dX11_nearFields_122 (by decide) (fun c36 => ?_) (fun c36 => ?_)
                · have h := h.1 c36
                  exact hb_129 i5 i7 h _ _ _ hc (lv_sub hl [0, 1, 2, 3, 4, 5, 6, 7] rfl)
                · have h := h.2 c36
                  exact hb_125 i5 i7 h _ _ _ hc (lv_sub hl [0, 1, 2, 3, 4, 5, 6, 7] rfl)
      unfold l_X11_nearFields_58 at h
      refine lv_iload hx hb dX11_nearFields_58 (lv_at hl 6 rfl) ?_
      refine lv_aload_n hx hb dX11_nearFields_60 rfl (lv_at hl 0 rfl) ?_
      refine lv_iload_n hx hb dX11_nearFields_61 rfl (lv_at hl 2 rfl) ?_
      refine lv_iload hx hb dX11_nearFields_62 (lv_at hl 4 rfl) ?_
      obtain ⟨hk37, h⟩ := h
      refine g_calli (va_runV (As := [.int i2, .int i4]) (rest := [.int i6]) CF (c_X11_many h) (cwV 2 hts gX11_nearFields_X11_many rfl rfl rfl (by decide +kernel) ⟨Nat.le_of_ble_eq_true rfl, Nat.le_of_ble_eq_true rfl⟩) (hc.preV hk37 rfl (by decide)) rfl rfl hl.1 rfl (lv_room (Nat.le_of_ble_eq_true rfl)) dX11_nearFields_64 ⟨Nat.le_of_ble_eq_true rfl, Nat.le_of_ble_eq_true rfl⟩) hc (fun x38 gq39 H locs hq hc => ?_)
      obtain ⟨rfl, h⟩ := hq
      refine lv_icmp_ge (tgt := 203) hx hb dX11_nearFields_67 (by decide) (fun c40 => ?_) (fun c40 => ?_)
      · have h := h.1 c40
        refine lv_iload_n hx hb dX11_nearFields_203 rfl (lv_at hl 3 rfl) ?_
        refine lv_iload hx hb dX11_nearFields_204 (lv_at hl 5 rfl) ?_
        refine lv_if_eq (tgt := 213) hx hb dX11_nearFields_206 (by decide) (fun c41 => ?_) (fun c41 => ?_)
        · have h := h.1 c41
          refine lv_iconst (v := 0) hx hb dX11_nearFields_213 (by decide) ?_
          exact hb_214 i4 i3 0 h _ _ _ hc (lv_sub hl [0, 1, 2, 4] rfl)
        · have h := h.2 c41
          refine lv_iconst (v := 1) hx hb dX11_nearFields_209 (by decide) ?_
          refine lv_goto (tgt := 214) hx hb dX11_nearFields_210 (by decide) ?_
          exact hb_214 i4 i3 1 h _ _ _ hc (lv_sub hl [0, 1, 2, 4] rfl)
      · have h := h.2 c40
        refine lv_iconst (v := 0) hx hb dX11_nearFields_70 (by decide) ?_
        refine lv_istore (lv' := [(7, .int 0), (0, .ref r0), (1, .int i1), (2, .int i2), (3, .int i3), (4, .int i4), (5, .int i5), (6, .int i6)]) hx hb dX11_nearFields_71 hl (by decide) rfl (fun ls hl => ?_)
        exact hb_73 i6 i5 0 h _ _ _ hc (lv_sub hl [1, 2, 3, 4, 5, 6, 7, 0] rfl)
    unfold l_X11_nearFields_5 at h
    refine lv_iload hx hb dX11_nearFields_5 (lv_at hl 4 rfl) ?_
    refine lv_iconst (v := 3) hx hb dX11_nearFields_7 (by decide) ?_
    refine lv_icmp_ge (tgt := 222) hx hb dX11_nearFields_8 (by decide) (fun c42 => ?_) (fun c42 => ?_)
    · have h := h.1 c42
      refine lv_iload_n hx hb dX11_nearFields_222 rfl (lv_at hl 3 rfl) ?_
      exact g_reti (r := i3) CF hr hlk hc rfl ⟨rfl, h⟩ dX11_nearFields_223
    · have h := h.2 c42
      refine lv_aload_n hx hb dX11_nearFields_11 rfl (lv_at hl 0 rfl) ?_
      obtain ⟨hk43, h⟩ := h
      obtain ⟨y44, e45, h⟩ := h
      refine g_getr CF hc hk43 rfl (by decide) (fun _ h9 => List.mem_cons_of_mem _ (List.mem_append_right _ (h9))) (k := 19) (by decide) (List.mem_cons_of_mem _ (List.mem_append_left _ (List.mem_append_left _ (List.mem_of_getElem? (i := 0) rfl)))) e45 rfl dX11_nearFields_12 ?_
      refine lv_aload_n hx hb dX11_nearFields_15 rfl (lv_at hl 0 rfl) ?_
      obtain ⟨y46, e47, h⟩ := h
      refine g_getr CF hc hk43 rfl (by decide) (fun _ h9 => List.mem_cons_of_mem _ (List.mem_append_right _ (h9))) (k := 18) (by decide) (List.mem_cons_of_mem _ (List.mem_append_left _ (List.mem_append_left _ (List.mem_of_getElem? (i := 1) rfl)))) e47 rfl dX11_nearFields_16 ?_
      refine lv_iload_n hx hb dX11_nearFields_19 rfl (lv_at hl 1 rfl) ?_
      obtain ⟨hk48, h⟩ := h
      obtain ⟨hi49, h⟩ := h
      refine g_iald CF hc hk48 hi49 dX11_nearFields_20 ?_
      obtain ⟨hk50, h⟩ := h
      obtain ⟨hi51, h⟩ := h
      refine g_iald CF hc hk50 hi51 dX11_nearFields_21 ?_
      refine lv_iload hx hb dX11_nearFields_22 (lv_at hl 4 rfl) ?_
      refine lv_ishr hx hb dX11_nearFields_24 ?_
      refine lv_iconst (v := 1) hx hb dX11_nearFields_25 (by decide) ?_
      refine lv_iand hx hb dX11_nearFields_26 ?_
      refine lv_if_eq (tgt := 216) hx hb dX11_nearFields_27 (by decide) (fun c52 => ?_) (fun c52 => ?_)
      · have h := h.1 c52
        exact hb_216 i3 i4 h _ _ _ hc (lv_sub hl [0, 1, 2, 3, 4] rfl)
      · have h := h.2 c52
        refine lv_aload_n hx hb dX11_nearFields_30 rfl (lv_at hl 0 rfl) ?_
        obtain ⟨y53, e54, h⟩ := h
        refine g_getr CF hc hk43 rfl (by decide) (fun _ h9 => List.mem_cons_of_mem _ (List.mem_append_right _ (h9))) (k := 19) (by decide) (List.mem_cons_of_mem _ (List.mem_append_left _ (List.mem_append_left _ (List.mem_of_getElem? (i := 0) rfl)))) e54 rfl dX11_nearFields_31 ?_
        refine lv_aload_n hx hb dX11_nearFields_34 rfl (lv_at hl 0 rfl) ?_
        obtain ⟨y55, e56, h⟩ := h
        refine g_getr CF hc hk43 rfl (by decide) (fun _ h9 => List.mem_cons_of_mem _ (List.mem_append_right _ (h9))) (k := 19) (by decide) (List.mem_cons_of_mem _ (List.mem_append_left _ (List.mem_append_left _ (List.mem_of_getElem? (i := 0) rfl)))) e56 rfl dX11_nearFields_35 ?_
        refine lv_iload_n hx hb dX11_nearFields_38 rfl (lv_at hl 1 rfl) ?_
        obtain ⟨hk57, h⟩ := h
        obtain ⟨hi58, h⟩ := h
        refine g_iald CF hc hk57 hi58 dX11_nearFields_39 ?_
        obtain ⟨hk59, h⟩ := h
        obtain ⟨hi60, h⟩ := h
        refine g_iald CF hc hk59 hi60 dX11_nearFields_40 ?_
        refine lv_iload hx hb dX11_nearFields_41 (lv_at hl 4 rfl) ?_
        refine lv_ishr hx hb dX11_nearFields_43 ?_
        refine lv_iconst (v := 1) hx hb dX11_nearFields_44 (by decide) ?_
        refine lv_iand hx hb dX11_nearFields_45 ?_
        refine lv_if_ne (tgt := 52) hx hb dX11_nearFields_46 (by decide) (fun c61 => ?_) (fun c61 => ?_)
        · have h := h.2 c61
          refine lv_iconst (v := 0) hx hb dX11_nearFields_52 (by decide) ?_
          refine lv_istore (lv' := [(5, .int 0), (0, .ref r0), (1, .int i1), (2, .int i2), (3, .int i3), (4, .int i4)]) hx hb dX11_nearFields_53 hl (by decide) rfl (fun ls hl => ?_)
          refine lv_iconst (v := 0) hx hb dX11_nearFields_55 (by decide) ?_
          refine lv_istore (lv' := [(6, .int 0), (5, .int 0), (0, .ref r0), (1, .int i1), (2, .int i2), (3, .int i3), (4, .int i4)]) hx hb dX11_nearFields_56 hl (by decide) rfl (fun ls hl => ?_)
          exact hb_58 i3 i4 0 0 h _ _ _ hc (lv_sub hl [2, 3, 4, 5, 6, 1, 0] rfl)
        · have h := h.1 c61
          refine lv_goto (tgt := 216) hx hb dX11_nearFields_49 (by decide) ?_
          exact hb_216 i3 i4 h _ _ _ hc (lv_sub hl [0, 1, 2, 3, 4] rfl)
  unfold w_X11_nearFields at h
  obtain ⟨H, hH0⟩ : ∃ z, z = s.heap := ⟨_, rfl⟩
  rw [← hH0] at hc ⊢
  obtain ⟨locs, hlc0⟩ : ∃ z : List Loc, z = [] := ⟨_, rfl⟩
  rw [← hlc0] at hc ⊢
  refine lv_iconst (v := 0) hx hb dX11_nearFields_0 (by decide) ?_
  refine lv_istore_n (lv' := [(3, .int 0), (0, .ref p0), (1, .int p1), (2, .int p2)]) hx hb dX11_nearFields_1 rfl hl (by decide) rfl (fun ls hl => ?_)
  refine lv_iconst (v := 0) hx hb dX11_nearFields_2 (by decide) ?_
  refine lv_istore (lv' := [(4, .int 0), (3, .int 0), (0, .ref p0), (1, .int p1), (2, .int p2)]) hx hb dX11_nearFields_3 hl (by decide) rfl (fun ls hl => ?_)
  exact hb_5 p0 p1 p2 0 0 h _ _ _ hc (lv_sub hl [2, 3, 4, 1, 0] rfl)
def b_X11_mostScore_79 (g : gS) (is0 : Int32) (Q : Int32 → Prop) : Prop :=
  Q is0
def b_X11_mostScore_55 (g : gS) (r0 : Nat) (i1 : Int32) (i2 : Int32) (i3 : Int32) (i4 : Int32) (Q : Int32 → Prop) (k12 : Int32 → Int32 → Int32 → Prop) : Prop :=
  k12 i2 i3 (i4 + 1)
def l_X11_mostScore_12 (g : gS) (r0 : Nat) (i1 : Int32) (Q : Int32 → Prop) (i2 : Int32) (i3 : Int32) (i4 : Int32) (k12 : Int32 → Int32 → Int32 → Prop) : Prop :=
  gK g r0 = 12 ∧ (∃ y2, gR g r0 18 = some y2 ∧ (gK g y2 = 21 ∧ (vp_in i1 (gN g y2) ∧ (∃ y6, gR g r0 19 = some y6 ∧ (gK g y6 = 21 ∧ (vp_in i1 (gN g y6) ∧ ((((gI g y2 (Int32.toNatClampNeg i1)) + (gI g y6 (Int32.toNatClampNeg i1))) ≤ i4 → (∃ y11, gR g r0 20 = some y11 ∧ (gK g y11 = 21 ∧ (vp_in i1 (gN g y11) ∧ (((gI g y11 (Int32.toNatClampNeg i1)) ≤ i3 → (w_X11_least g i2 (fun x16 => (b_X11_mostScore_79 g x16 Q)))) ∧ (¬ (gI g y11 (Int32.toNatClampNeg i1)) ≤ i3 → (b_X11_mostScore_79 g (-1) Q))))))) ∧ (¬ ((gI g y2 (Int32.toNatClampNeg i1)) + (gI g y6 (Int32.toNatClampNeg i1))) ≤ i4 → (∃ y18, gR g r0 29 = some y18 ∧ (gK g y18 = 21 ∧ (vp_in i4 (gN g y18) ∧ ((0 ≤ (gI g y18 (Int32.toNatClampNeg i4)) → (b_X11_mostScore_55 g r0 i1 (i2 + (gI g y18 (Int32.toNatClampNeg i4))) (i3 + 1) i4 Q k12)) ∧ (¬ 0 ≤ (gI g y18 (Int32.toNatClampNeg i4)) → (b_X11_mostScore_55 g r0 i1 i2 i3 i4 Q k12))))))))))))))
def w_X11_mostScore (g : gS) (p0 : Nat) (p1 : Int32) (Q : Int32 → Prop) : Prop :=
  gK g p0 = 12 ∧ (∃ y24, gR g p0 18 = some y24 ∧ (gK g y24 = 21 ∧ (vp_in p1 (gN g y24) ∧ (lpx3 (l_X11_mostScore_12 g p0 p1 Q) 0 0 (gI g y24 (Int32.toNatClampNeg p1))))))
abbrev r_X11_mostScore : Room := { frames := 2, cells := 0, slots := 0, locals := 42 }
set_option maxHeartbeats 4000000 in
set_option maxRecDepth 100000 in
theorem c_X11_mostScore {l : Launch} {D : va_G} {cA : Nat → ClassId} {sz : Nat} {g : gS} {p0 : Nat} {p1 : Int32} {Q : Int32 → Prop} (h : w_X11_mostScore g p0 p1 Q) : Met l yX11_mostScore wsX11_mostScore r_X11_mostScore (va_Pc [.ref p0, .int p1] (gPre D cA g sz)) (gQi D cA g sz (fun r g2 => g = g2 ∧ Q r)) 0 0 (gA g sz) := by
  refine g_met (cc := cX11_mostScore) (maxL := 6) (ret := (some .int)) (own := RX11) (by decide) rfl rfl (Nat.le_of_ble_eq_true rfl) ?_
  intro p e s m args below meth c ls CF hr hlk hnm hc hl
  obtain ⟨hx, hb, hml, hown, hts⟩ := id CF
  have hl : lv_has ls 6 [(0, .ref p0), (1, .int p1)] := hl
  show W p l e r_X11_mostScore s m args below meth c s.heap [] 0 0 (MQ below (gQi D cA g sz (fun r g2 => g = g2 ∧ Q r)) args s 0 0 (gA g sz)) (F0 m 0 ls [])
  have hb_79 : ∀ (is0 : Int32), b_X11_mostScore_79 g is0 Q → ∀ (H : Heap) (locs : List Loc) (ls : Array Slot), gC D cA (gA g sz) s g H locs → lv_has ls 6 [] → W p l e r_X11_mostScore s m args below meth c H locs 0 0 (MQ below (gQi D cA g sz (fun r g2 => g = g2 ∧ Q r)) args s 0 0 (gA g sz)) (F0 m 79 ls [.int is0]) := by
    intro is0 h H locs ls hc hl
    unfold b_X11_mostScore_79 at h
    exact g_reti (r := is0) CF hr hlk hc rfl ⟨rfl, h⟩ dX11_mostScore_79
  have hb_12 : ∀ (r0 : Nat) (i1 : Int32), ∀ (i2 : Int32) (i3 : Int32) (i4 : Int32), lpx3 (l_X11_mostScore_12 g r0 i1 Q) i2 i3 i4 → ∀ (H : Heap) (locs : List Loc) (ls : Array Slot), gC D cA (gA g sz) s g H locs → lv_has ls 6 [(0, .ref r0), (1, .int i1), (2, .int i2), (3, .int i3), (4, .int i4)] → W p l e r_X11_mostScore s m args below meth c H locs 0 0 (MQ below (gQi D cA g sz (fun r g2 => g = g2 ∧ Q r)) args s 0 0 (gA g sz)) (F0 m 12 ls []) := by
    intro r0 i1
    refine lpx3_run (P := fun (i2 : Int32) (i3 : Int32) (i4 : Int32) => ∀ (H : Heap) (locs : List Loc) (ls : Array Slot), gC D cA (gA g sz) s g H locs → lv_has ls 6 [(0, .ref r0), (1, .int i1), (2, .int i2), (3, .int i3), (4, .int i4)] → W p l e r_X11_mostScore s m args below meth c H locs 0 0 (MQ below (gQi D cA g sz (fun r g2 => g = g2 ∧ Q r)) args s 0 0 (gA g sz)) (F0 m 12 ls [])) ?_
    intro k12 hk_12 i2 i3 i4 h H locs ls hc hl
    have hb_55 : ∀ (i2 : Int32) (i3 : Int32) (i4 : Int32), b_X11_mostScore_55 g r0 i1 i2 i3 i4 Q k12 → ∀ (H : Heap) (locs : List Loc) (ls : Array Slot), gC D cA (gA g sz) s g H locs → lv_has ls 6 [(0, .ref r0), (1, .int i1), (2, .int i2), (3, .int i3), (4, .int i4)] → W p l e r_X11_mostScore s m args below meth c H locs 0 0 (MQ below (gQi D cA g sz (fun r g2 => g = g2 ∧ Q r)) args s 0 0 (gA g sz)) (F0 m 55 ls []) := by
      intro i2 i3 i4 h H locs ls hc hl
      unfold b_X11_mostScore_55 at h
      refine lv_iinc (v := (i4 + 1)) (lv' := [(4, .int (i4 + 1)), (0, .ref r0), (1, .int i1), (2, .int i2), (3, .int i3)]) hx hb dX11_mostScore_55 hl (k := 4) rfl rfl (by decide) rfl (fun ls hl => ?_)
      refine lv_goto (tgt := 12) hx hb dX11_mostScore_58 (by decide) ?_
      exact hk_12 i2 i3 (i4 + 1) h _ _ _ hc (lv_sub hl [1, 2, 3, 4, 0] rfl)
    unfold l_X11_mostScore_12 at h
    refine lv_iload hx hb dX11_mostScore_12 (lv_at hl 4 rfl) ?_
    refine lv_aload_n hx hb dX11_mostScore_14 rfl (lv_at hl 0 rfl) ?_
    obtain ⟨hk1, h⟩ := h
    obtain ⟨y2, e3, h⟩ := h
    refine g_getr CF hc hk1 rfl (by decide) (fun _ h9 => List.mem_cons_of_mem _ (List.mem_append_right _ (h9))) (k := 18) (by decide) (List.mem_cons_of_mem _ (List.mem_append_left _ (List.mem_of_getElem? (i := 0) rfl))) e3 rfl dX11_mostScore_15 ?_
    refine lv_iload_n hx hb dX11_mostScore_18 rfl (lv_at hl 1 rfl) ?_
    obtain ⟨hk4, h⟩ := h
    obtain ⟨hi5, h⟩ := h
    refine g_iald CF hc hk4 hi5 dX11_mostScore_19 ?_
    refine lv_aload_n hx hb dX11_mostScore_20 rfl (lv_at hl 0 rfl) ?_
    obtain ⟨y6, e7, h⟩ := h
    refine g_getr CF hc hk1 rfl (by decide) (fun _ h9 => List.mem_cons_of_mem _ (List.mem_append_right _ (h9))) (k := 19) (by decide) (List.mem_cons_of_mem _ (List.mem_append_left _ (List.mem_of_getElem? (i := 1) rfl))) e7 rfl dX11_mostScore_21 ?_
    refine lv_iload_n hx hb dX11_mostScore_24 rfl (lv_at hl 1 rfl) ?_
    obtain ⟨hk8, h⟩ := h
    obtain ⟨hi9, h⟩ := h
    refine g_iald CF hc hk8 hi9 dX11_mostScore_25 ?_
    refine lv_iadd hx hb dX11_mostScore_26 ?_
    refine lv_icmp_ge (tgt := 61) hx hb dX11_mostScore_27 (by decide) (fun c10 => ?_) (fun c10 => ?_)
    · have h := h.1 c10
      refine lv_iload_n hx hb dX11_mostScore_61 rfl (lv_at hl 3 rfl) ?_
      refine lv_aload_n hx hb dX11_mostScore_62 rfl (lv_at hl 0 rfl) ?_
      obtain ⟨y11, e12, h⟩ := h
      refine g_getr CF hc hk1 rfl (by decide) (fun _ h9 => List.mem_cons_of_mem _ (List.mem_append_right _ (h9))) (k := 20) (by decide) (List.mem_cons_of_mem _ (List.mem_append_left _ (List.mem_of_getElem? (i := 3) rfl))) e12 rfl dX11_mostScore_63 ?_
      refine lv_iload_n hx hb dX11_mostScore_66 rfl (lv_at hl 1 rfl) ?_
      obtain ⟨hk13, h⟩ := h
      obtain ⟨hi14, h⟩ := h
      refine g_iald CF hc hk13 hi14 dX11_mostScore_67 ?_
      refine lv_icmp_ge (tgt := 75) hx hb dX11_mostScore_68 (by decide) (fun c15 => ?_) (fun c15 => ?_)
      · have h := h.1 c15
        refine lv_iload_n hx hb dX11_mostScore_75 rfl (lv_at hl 2 rfl) ?_
        refine g_calli (va_runS (As := [.int i2]) (rest := []) CF (c_X11_least h) (va_cwS 1 hts gX11_mostScore_X11_least rfl rfl rfl (by decide +kernel) ⟨Nat.le_of_ble_eq_true rfl, Nat.le_of_ble_eq_true rfl⟩) hc.preS rfl rfl hl.1 rfl (lv_room (Nat.le_of_ble_eq_true rfl)) dX11_mostScore_76 ⟨Nat.le_of_ble_eq_true rfl, Nat.le_of_ble_eq_true rfl⟩) hc (fun x16 gq17 H locs hq hc => ?_)
        obtain ⟨rfl, h⟩ := hq
        exact hb_79 x16 h _ _ _ hc (lv_sub hl [] rfl)
      · have h := h.2 c15
        refine lv_iconst (v := (-1)) hx hb dX11_mostScore_71 (by decide) ?_
        refine lv_goto (tgt := 79) hx hb dX11_mostScore_72 (by decide) ?_
        exact hb_79 (-1) h _ _ _ hc (lv_sub hl [] rfl)
    · have h := h.2 c10
      refine lv_aload_n hx hb dX11_mostScore_30 rfl (lv_at hl 0 rfl) ?_
      obtain ⟨y18, e19, h⟩ := h
      refine g_getr CF hc hk1 rfl (by decide) (fun _ h9 => List.mem_cons_of_mem _ (List.mem_append_right _ (h9))) (k := 29) (by decide) (List.mem_cons_of_mem _ (List.mem_append_left _ (List.mem_of_getElem? (i := 2) rfl))) e19 rfl dX11_mostScore_31 ?_
      refine lv_iload hx hb dX11_mostScore_34 (lv_at hl 4 rfl) ?_
      obtain ⟨hk20, h⟩ := h
      obtain ⟨hi21, h⟩ := h
      refine g_iald CF hc hk20 hi21 dX11_mostScore_36 ?_
      refine lv_istore (lv' := [(5, .int (gI g y18 (Int32.toNatClampNeg i4))), (0, .ref r0), (1, .int i1), (2, .int i2), (3, .int i3), (4, .int i4)]) hx hb dX11_mostScore_37 hl (by decide) rfl (fun ls hl => ?_)
      refine lv_iload hx hb dX11_mostScore_39 (lv_at hl 0 rfl) ?_
      refine lv_if_ge (tgt := 47) hx hb dX11_mostScore_41 (by decide) (fun c22 => ?_) (fun c22 => ?_)
      · have h := h.1 c22
        refine lv_iinc (v := (i3 + 1)) (lv' := [(3, .int (i3 + 1)), (5, .int (gI g y18 (Int32.toNatClampNeg i4))), (0, .ref r0), (1, .int i1), (2, .int i2), (4, .int i4)]) hx hb dX11_mostScore_47 hl (k := 4) rfl rfl (by decide) rfl (fun ls hl => ?_)
        refine lv_iload_n hx hb dX11_mostScore_50 rfl (lv_at hl 4 rfl) ?_
        refine lv_iload hx hb dX11_mostScore_51 (lv_at hl 1 rfl) ?_
        refine lv_iadd hx hb dX11_mostScore_53 ?_
        refine lv_istore_n (lv' := [(2, .int (i2 + (gI g y18 (Int32.toNatClampNeg i4)))), (3, .int (i3 + 1)), (5, .int (gI g y18 (Int32.toNatClampNeg i4))), (0, .ref r0), (1, .int i1), (4, .int i4)]) hx hb dX11_mostScore_54 rfl hl (by decide) rfl (fun ls hl => ?_)
        exact hb_55 (i2 + (gI g y18 (Int32.toNatClampNeg i4))) (i3 + 1) i4 h _ _ _ hc (lv_sub hl [3, 4, 0, 1, 5] rfl)
      · have h := h.2 c22
        refine lv_goto (tgt := 55) hx hb dX11_mostScore_44 (by decide) ?_
        exact hb_55 i2 i3 i4 h _ _ _ hc (lv_sub hl [1, 2, 3, 4, 5] rfl)
  unfold w_X11_mostScore at h
  obtain ⟨H, hH0⟩ : ∃ z, z = s.heap := ⟨_, rfl⟩
  rw [← hH0] at hc ⊢
  obtain ⟨locs, hlc0⟩ : ∃ z : List Loc, z = [] := ⟨_, rfl⟩
  rw [← hlc0] at hc ⊢
  refine lv_iconst (v := 0) hx hb dX11_mostScore_0 (by decide) ?_
  refine lv_istore_n (lv' := [(2, .int 0), (0, .ref p0), (1, .int p1)]) hx hb dX11_mostScore_1 rfl hl (by decide) rfl (fun ls hl => ?_)
  refine lv_iconst (v := 0) hx hb dX11_mostScore_2 (by decide) ?_
  refine lv_istore_n (lv' := [(3, .int 0), (2, .int 0), (0, .ref p0), (1, .int p1)]) hx hb dX11_mostScore_3 rfl hl (by decide) rfl (fun ls hl => ?_)
  refine lv_aload_n hx hb dX11_mostScore_4 rfl (lv_at hl 2 rfl) ?_
  obtain ⟨hk23, h⟩ := h
  obtain ⟨y24, e25, h⟩ := h
  refine g_getr CF hc hk23 rfl (by decide) (fun _ h9 => List.mem_cons_of_mem _ (List.mem_append_right _ (h9))) (k := 18) (by decide) (List.mem_cons_of_mem _ (List.mem_append_left _ (List.mem_of_getElem? (i := 0) rfl))) e25 rfl dX11_mostScore_5 ?_
  refine lv_iload_n hx hb dX11_mostScore_8 rfl (lv_at hl 3 rfl) ?_
  obtain ⟨hk26, h⟩ := h
  obtain ⟨hi27, h⟩ := h
  refine g_iald CF hc hk26 hi27 dX11_mostScore_9 ?_
  refine lv_istore (lv' := [(4, .int (gI g y24 (Int32.toNatClampNeg p1))), (3, .int 0), (2, .int 0), (0, .ref p0), (1, .int p1)]) hx hb dX11_mostScore_10 hl (by decide) rfl (fun ls hl => ?_)
  exact hb_12 p0 p1 0 0 (gI g y24 (Int32.toNatClampNeg p1)) h _ _ _ hc (lv_sub hl [3, 4, 2, 1, 0] rfl)
def b_X11_scoreOf_321 (g : gS) (is0 : Int32) (Q : Int32 → gS → Prop) : Prop :=
  Q is0 g
def b_X11_scoreOf_286 (g : gS) (is0 : Int32) (Q : Int32 → gS → Prop) : Prop :=
  Q is0 g
def b_X11_scoreOf_262 (g : gS) (is0 : Int32) (Q : Int32 → gS → Prop) : Prop :=
  Q is0 g
def b_X11_scoreOf_232 (g : gS) (is0 : Int32) (Q : Int32 → gS → Prop) : Prop :=
  Q is0 g
def b_X11_scoreOf_185 (g : gS) (is0 : Int32) (Q : Int32 → gS → Prop) : Prop :=
  Q is0 g
def b_X11_scoreOf_155 (g : gS) (is0 : Int32) (Q : Int32 → gS → Prop) : Prop :=
  Q is0 g
def b_X11_scoreOf_104 (g : gS) (is0 : Int32) (Q : Int32 → gS → Prop) : Prop :=
  Q is0 g
def b_X11_scoreOf_93 (g : gS) (Q : Int32 → gS → Prop) : Prop :=
  b_X11_scoreOf_104 g (-1) Q
def w_X11_scoreOf (g0 : gS) (p0 : Nat) (p1 : Int32) (p2 : Int32) (Q : Int32 → gS → Prop) : Prop :=
  gK g0 p0 = 12 ∧ (∃ y2, gR g0 p0 17 = some y2 ∧ (gK g0 y2 = 21 ∧ (vp_in p1 (gN g0 y2) ∧ (((gI g0 y2 (Int32.toNatClampNeg p1)).toInt < 0 ∨ 7 < (gI g0 y2 (Int32.toNatClampNeg p1)).toInt → (w_X11_mostScore g0 p0 p1 (fun x7 => (Q x7 g0)))) ∧ ((gI g0 y2 (Int32.toNatClampNeg p1)).toInt = 0 → (w_X11_termScore g0 p0 p1 p2 (fun x9 g10 => (Q x9 g10)))) ∧ ((gI g0 y2 (Int32.toNatClampNeg p1)).toInt = 1 → (∃ y12, gR g0 p0 29 = some y12 ∧ (∃ y14, gR g0 p0 18 = some y14 ∧ (gK g0 y14 = 21 ∧ (vp_in p1 (gN g0 y14) ∧ (gK g0 y12 = 21 ∧ (vp_in (gI g0 y14 (Int32.toNatClampNeg p1)) (gN g0 y12) ∧ (∃ y20, gR g0 p0 29 = some y20 ∧ (∃ y22, gR g0 p0 19 = some y22 ∧ (gK g0 y22 = 21 ∧ (vp_in p1 (gN g0 y22) ∧ (gK g0 y20 = 21 ∧ (vp_in (gI g0 y22 (Int32.toNatClampNeg p1)) (gN g0 y20) ∧ (((gI g0 y12 (Int32.toNatClampNeg (gI g0 y14 (Int32.toNatClampNeg p1)))) < 0 → (b_X11_scoreOf_93 g0 Q)) ∧ (¬ (gI g0 y12 (Int32.toNatClampNeg (gI g0 y14 (Int32.toNatClampNeg p1)))) < 0 → ((0 ≤ (gI g0 y20 (Int32.toNatClampNeg (gI g0 y22 (Int32.toNatClampNeg p1)))) → (w_X11_least g0 ((gI g0 y12 (Int32.toNatClampNeg (gI g0 y14 (Int32.toNatClampNeg p1)))) + (gI g0 y20 (Int32.toNatClampNeg (gI g0 y22 (Int32.toNatClampNeg p1))))) (fun x30 => (b_X11_scoreOf_104 g0 x30 Q)))) ∧ (¬ 0 ≤ (gI g0 y20 (Int32.toNatClampNeg (gI g0 y22 (Int32.toNatClampNeg p1)))) → (b_X11_scoreOf_93 g0 Q)))))))))))))))))) ∧ ((gI g0 y2 (Int32.toNatClampNeg p1)).toInt = 2 → (∃ y32, gR g0 p0 29 = some y32 ∧ (∃ y34, gR g0 p0 18 = some y34 ∧ (gK g0 y34 = 21 ∧ (vp_in p1 (gN g0 y34) ∧ (gK g0 y32 = 21 ∧ (vp_in (gI g0 y34 (Int32.toNatClampNeg p1)) (gN g0 y32) ∧ (∃ y40, gR g0 p0 29 = some y40 ∧ (∃ y42, gR g0 p0 19 = some y42 ∧ (gK g0 y42 = 21 ∧ (vp_in p1 (gN g0 y42) ∧ (gK g0 y40 = 21 ∧ (vp_in (gI g0 y42 (Int32.toNatClampNeg p1)) (gN g0 y40) ∧ ((0 ≤ (gI g0 y32 (Int32.toNatClampNeg (gI g0 y34 (Int32.toNatClampNeg p1)))) → ((0 ≤ (gI g0 y40 (Int32.toNatClampNeg (gI g0 y42 (Int32.toNatClampNeg p1)))) → (w_X11_least g0 ((gI g0 y32 (Int32.toNatClampNeg (gI g0 y34 (Int32.toNatClampNeg p1)))) + (gI g0 y40 (Int32.toNatClampNeg (gI g0 y42 (Int32.toNatClampNeg p1))))) (fun x50 => (b_X11_scoreOf_155 g0 x50 Q)))) ∧ (¬ 0 ≤ (gI g0 y40 (Int32.toNatClampNeg (gI g0 y42 (Int32.toNatClampNeg p1)))) → (b_X11_scoreOf_155 g0 (gI g0 y32 (Int32.toNatClampNeg (gI g0 y34 (Int32.toNatClampNeg p1)))) Q)))) ∧ (¬ 0 ≤ (gI g0 y32 (Int32.toNatClampNeg (gI g0 y34 (Int32.toNatClampNeg p1)))) → (b_X11_scoreOf_155 g0 (gI g0 y40 (Int32.toNatClampNeg (gI g0 y42 (Int32.toNatClampNeg p1)))) Q)))))))))))))))) ∧ ((gI g0 y2 (Int32.toNatClampNeg p1)).toInt = 3 → (∃ y52, gR g0 p0 29 = some y52 ∧ (∃ y54, gR g0 p0 19 = some y54 ∧ (gK g0 y54 = 21 ∧ (vp_in p1 (gN g0 y54) ∧ (gK g0 y52 = 21 ∧ (vp_in (gI g0 y54 (Int32.toNatClampNeg p1)) (gN g0 y52) ∧ ((0 ≤ (gI g0 y52 (Int32.toNatClampNeg (gI g0 y54 (Int32.toNatClampNeg p1)))) → (b_X11_scoreOf_185 g0 (-1) Q)) ∧ (¬ 0 ≤ (gI g0 y52 (Int32.toNatClampNeg (gI g0 y54 (Int32.toNatClampNeg p1)))) → (∃ y61, gR g0 p0 29 = some y61 ∧ (∃ y63, gR g0 p0 18 = some y63 ∧ (gK g0 y63 = 21 ∧ (vp_in p1 (gN g0 y63) ∧ (gK g0 y61 = 21 ∧ (vp_in (gI g0 y63 (Int32.toNatClampNeg p1)) (gN g0 y61) ∧ (b_X11_scoreOf_185 g0 (gI g0 y61 (Int32.toNatClampNeg (gI g0 y63 (Int32.toNatClampNeg p1)))) Q)))))))))))))))) ∧ ((gI g0 y2 (Int32.toNatClampNeg p1)).toInt = 4 → (w_X11_nearFields g0 p0 p1 p2 (fun x69 => ((x69 = 0 → (b_X11_scoreOf_232 g0 (-1) Q)) ∧ (¬ x69 = 0 → (∃ y72, gR g0 p0 29 = some y72 ∧ (∃ y74, gR g0 p0 18 = some y74 ∧ (gK g0 y74 = 21 ∧ (vp_in p1 (gN g0 y74) ∧ (gK g0 y72 = 21 ∧ (vp_in (gI g0 y74 (Int32.toNatClampNeg p1)) (gN g0 y72) ∧ (∃ y80, gR g0 p0 29 = some y80 ∧ (∃ y82, gR g0 p0 19 = some y82 ∧ (gK g0 y82 = 21 ∧ (vp_in p1 (gN g0 y82) ∧ (gK g0 y80 = 21 ∧ (vp_in (gI g0 y82 (Int32.toNatClampNeg p1)) (gN g0 y80) ∧ (w_X11_least g0 (((gI g0 y72 (Int32.toNatClampNeg (gI g0 y74 (Int32.toNatClampNeg p1)))) + (gI g0 y80 (Int32.toNatClampNeg (gI g0 y82 (Int32.toNatClampNeg p1))))) + (100 * x69)) (fun x88 => (b_X11_scoreOf_232 g0 x88 Q)))))))))))))))))))) ∧ ((gI g0 y2 (Int32.toNatClampNeg p1)).toInt = 5 → (∃ y90, gR g0 p0 3 = some y90 ∧ (gK g0 y90 = 21 ∧ (vp_in p2 (gN g0 y90) ∧ (∃ y94, gR g0 p0 18 = some y94 ∧ (gK g0 y94 = 21 ∧ (vp_in p1 (gN g0 y94) ∧ (∃ y98, gR g0 p0 19 = some y98 ∧ (gK g0 y98 = 21 ∧ (vp_in p1 (gN g0 y98) ∧ (w_X11_isIn g0 (gI g0 y90 (Int32.toNatClampNeg p2)) (gI g0 y94 (Int32.toNatClampNeg p1)) (gI g0 y98 (Int32.toNatClampNeg p1)) (fun x102 => ((x102 = 0 → (b_X11_scoreOf_262 g0 (-1) Q)) ∧ (¬ x102 = 0 → (b_X11_scoreOf_262 g0 0 Q))))))))))))))) ∧ ((gI g0 y2 (Int32.toNatClampNeg p1)).toInt = 6 → (∃ y105, gR g0 p0 18 = some y105 ∧ (gK g0 y105 = 21 ∧ (vp_in p1 (gN g0 y105) ∧ (∃ y109, gR g0 p0 4 = some y109 ∧ (gK g0 y109 = 21 ∧ (vp_in p2 (gN g0 y109) ∧ (((((gI g0 y105 (Int32.toNatClampNeg p1)) >>> ((gI g0 y109 (Int32.toNatClampNeg p2)) &&& 31)) &&& 1) = 0 → (b_X11_scoreOf_286 g0 (-1) Q)) ∧ (¬ (((gI g0 y105 (Int32.toNatClampNeg p1)) >>> ((gI g0 y109 (Int32.toNatClampNeg p2)) &&& 31)) &&& 1) = 0 → (b_X11_scoreOf_286 g0 0 Q)))))))))) ∧ ((gI g0 y2 (Int32.toNatClampNeg p1)).toInt = 7 → (∃ y114, gR g0 p0 29 = some y114 ∧ (∃ y116, gR g0 p0 18 = some y116 ∧ (gK g0 y116 = 21 ∧ (vp_in p1 (gN g0 y116) ∧ (gK g0 y114 = 21 ∧ (vp_in (gI g0 y116 (Int32.toNatClampNeg p1)) (gN g0 y114) ∧ ((0 ≤ (gI g0 y114 (Int32.toNatClampNeg (gI g0 y116 (Int32.toNatClampNeg p1)))) → (∃ y123, gR g0 p0 19 = some y123 ∧ (gK g0 y123 = 21 ∧ (vp_in p1 (gN g0 y123) ∧ (w_X11_least g0 (((gI g0 y114 (Int32.toNatClampNeg (gI g0 y116 (Int32.toNatClampNeg p1)))) * (gI g0 y123 (Int32.toNatClampNeg p1))) / 100) (fun x127 => (b_X11_scoreOf_321 g0 x127 Q))))))) ∧ (¬ 0 ≤ (gI g0 y114 (Int32.toNatClampNeg (gI g0 y116 (Int32.toNatClampNeg p1)))) → (b_X11_scoreOf_321 g0 (-1) Q))))))))))))))
abbrev r_X11_scoreOf : Room := { frames := 6, cells := 0, slots := 0, locals := 143 }
set_option maxHeartbeats 4000000 in
set_option maxRecDepth 100000 in
theorem c_X11_scoreOf {l : Launch} {D : va_G} {cA : Nat → ClassId} {sz : Nat} {g0 : gS} {p0 : Nat} {p1 : Int32} {p2 : Int32} {Q : Int32 → gS → Prop} (h : w_X11_scoreOf g0 p0 p1 p2 Q) : Met l yX11_scoreOf wsX11_scoreOf r_X11_scoreOf (va_Pc [.ref p0, .int p1, .int p2] (gPre D cA g0 sz)) (gQi D cA g0 sz (Q)) 0 0 (gA g0 sz) := by
  refine g_met (cc := cX11_scoreOf) (maxL := 5) (ret := (some .int)) (own := RX11) (by decide) rfl rfl (Nat.le_of_ble_eq_true rfl) ?_
  intro p e s m args below meth c ls CF hr hlk hnm hc hl
  obtain ⟨hx, hb, hml, hown, hts⟩ := id CF
  have hl : lv_has ls 5 [(0, .ref p0), (1, .int p1), (2, .int p2)] := hl
  show W p l e r_X11_scoreOf s m args below meth c s.heap [] 0 0 (MQ below (gQi D cA g0 sz (Q)) args s 0 0 (gA g0 sz)) (F0 m 0 ls [])
  have hb_321 : ∀ (g : gS) (is0 : Int32), b_X11_scoreOf_321 g is0 Q → ∀ (H : Heap) (locs : List Loc) (ls : Array Slot), gC D cA (gA g0 sz) s g H locs → lv_has ls 5 [] → W p l e r_X11_scoreOf s m args below meth c H locs 0 0 (MQ below (gQi D cA g0 sz (Q)) args s 0 0 (gA g0 sz)) (F0 m 321 ls [.int is0]) := by
    intro g is0 h H locs ls hc hl
    unfold b_X11_scoreOf_321 at h
    exact g_reti (r := is0) CF hr hlk hc rfl h dX11_scoreOf_321
  have hb_286 : ∀ (g : gS) (is0 : Int32), b_X11_scoreOf_286 g is0 Q → ∀ (H : Heap) (locs : List Loc) (ls : Array Slot), gC D cA (gA g0 sz) s g H locs → lv_has ls 5 [] → W p l e r_X11_scoreOf s m args below meth c H locs 0 0 (MQ below (gQi D cA g0 sz (Q)) args s 0 0 (gA g0 sz)) (F0 m 286 ls [.int is0]) := by
    intro g is0 h H locs ls hc hl
    unfold b_X11_scoreOf_286 at h
    exact g_reti (r := is0) CF hr hlk hc rfl h dX11_scoreOf_286
  have hb_262 : ∀ (g : gS) (is0 : Int32), b_X11_scoreOf_262 g is0 Q → ∀ (H : Heap) (locs : List Loc) (ls : Array Slot), gC D cA (gA g0 sz) s g H locs → lv_has ls 5 [] → W p l e r_X11_scoreOf s m args below meth c H locs 0 0 (MQ below (gQi D cA g0 sz (Q)) args s 0 0 (gA g0 sz)) (F0 m 262 ls [.int is0]) := by
    intro g is0 h H locs ls hc hl
    unfold b_X11_scoreOf_262 at h
    exact g_reti (r := is0) CF hr hlk hc rfl h dX11_scoreOf_262
  have hb_232 : ∀ (g : gS) (is0 : Int32), b_X11_scoreOf_232 g is0 Q → ∀ (H : Heap) (locs : List Loc) (ls : Array Slot), gC D cA (gA g0 sz) s g H locs → lv_has ls 5 [] → W p l e r_X11_scoreOf s m args below meth c H locs 0 0 (MQ below (gQi D cA g0 sz (Q)) args s 0 0 (gA g0 sz)) (F0 m 232 ls [.int is0]) := by
    intro g is0 h H locs ls hc hl
    unfold b_X11_scoreOf_232 at h
    exact g_reti (r := is0) CF hr hlk hc rfl h dX11_scoreOf_232
  have hb_185 : ∀ (g : gS) (is0 : Int32), b_X11_scoreOf_185 g is0 Q → ∀ (H : Heap) (locs : List Loc) (ls : Array Slot), gC D cA (gA g0 sz) s g H locs → lv_has ls 5 [] → W p l e r_X11_scoreOf s m args below meth c H locs 0 0 (MQ below (gQi D cA g0 sz (Q)) args s 0 0 (gA g0 sz)) (F0 m 185 ls [.int is0]) := by
    intro g is0 h H locs ls hc hl
    unfold b_X11_scoreOf_185 at h
    exact g_reti (r := is0) CF hr hlk hc rfl h dX11_scoreOf_185
  have hb_155 : ∀ (g : gS) (is0 : Int32), b_X11_scoreOf_155 g is0 Q → ∀ (H : Heap) (locs : List Loc) (ls : Array Slot), gC D cA (gA g0 sz) s g H locs → lv_has ls 5 [] → W p l e r_X11_scoreOf s m args below meth c H locs 0 0 (MQ below (gQi D cA g0 sz (Q)) args s 0 0 (gA g0 sz)) (F0 m 155 ls [.int is0]) := by
    intro g is0 h H locs ls hc hl
    unfold b_X11_scoreOf_155 at h
    exact g_reti (r := is0) CF hr hlk hc rfl h dX11_scoreOf_155
  have hb_104 : ∀ (g : gS) (is0 : Int32), b_X11_scoreOf_104 g is0 Q → ∀ (H : Heap) (locs : List Loc) (ls : Array Slot), gC D cA (gA g0 sz) s g H locs → lv_has ls 5 [] → W p l e r_X11_scoreOf s m args below meth c H locs 0 0 (MQ below (gQi D cA g0 sz (Q)) args s 0 0 (gA g0 sz)) (F0 m 104 ls [.int is0]) := by
    intro g is0 h H locs ls hc hl
    unfold b_X11_scoreOf_104 at h
    exact g_reti (r := is0) CF hr hlk hc rfl h dX11_scoreOf_104
  have hb_93 : ∀ (g : gS), b_X11_scoreOf_93 g Q → ∀ (H : Heap) (locs : List Loc) (ls : Array Slot), gC D cA (gA g0 sz) s g H locs → lv_has ls 5 [] → W p l e r_X11_scoreOf s m args below meth c H locs 0 0 (MQ below (gQi D cA g0 sz (Q)) args s 0 0 (gA g0 sz)) (F0 m 93 ls []) := by
    intro g h H locs ls hc hl
    unfold b_X11_scoreOf_93 at h
    refine lv_iconst (v := (-1)) hx hb dX11_scoreOf_93 (by decide) ?_
    refine lv_goto (tgt := 104) hx hb dX11_scoreOf_94 (by decide) ?_
    exact hb_104 g (-1) h _ _ _ hc (lv_sub hl [] rfl)
  unfold w_X11_scoreOf at h
  obtain ⟨H, hH0⟩ : ∃ z, z = s.heap := ⟨_, rfl⟩
  rw [← hH0] at hc ⊢
  obtain ⟨locs, hlc0⟩ : ∃ z : List Loc, z = [] := ⟨_, rfl⟩
  rw [← hlc0] at hc ⊢
  refine lv_aload_n hx hb dX11_scoreOf_0 rfl (lv_at hl 0 rfl) ?_
  obtain ⟨hk1, h⟩ := h
  obtain ⟨y2, e3, h⟩ := h
  refine g_getr CF hc hk1 rfl (by decide) (fun _ h9 => List.mem_cons_of_mem _ (List.mem_append_right _ (h9))) (k := 17) (by decide) (List.mem_cons_of_mem _ (List.mem_append_left _ (List.mem_append_left _ (List.mem_of_getElem? (i := 0) rfl)))) e3 rfl dX11_scoreOf_1 ?_
  refine lv_iload_n hx hb dX11_scoreOf_4 rfl (lv_at hl 1 rfl) ?_
  obtain ⟨hk4, h⟩ := h
  obtain ⟨hi5, h⟩ := h
  refine g_iald CF hc hk4 hi5 dX11_scoreOf_5 ?_
  by_cases hd6 : (gI g0 y2 (Int32.toNatClampNeg p1)).toInt < 0 ∨ 7 < (gI g0 y2 (Int32.toNatClampNeg p1)).toInt
  · replace h := h.1 hd6
    refine lv_tableOut (tgt := 322) hx hb dX11_scoreOf_6 hd6 (by decide) ?_
    refine lv_aload_n hx hb dX11_scoreOf_322 rfl (lv_at hl 0 rfl) ?_
    refine lv_iload_n hx hb dX11_scoreOf_323 rfl (lv_at hl 1 rfl) ?_
    refine g_calli (va_runV (As := [.int p1]) (rest := []) CF (c_X11_mostScore h) (cwV 1 hts gX11_scoreOf_X11_mostScore rfl rfl rfl (by decide +kernel) ⟨Nat.le_of_ble_eq_true rfl, Nat.le_of_ble_eq_true rfl⟩) (hc.preV hk1 rfl (by decide)) rfl rfl hl.1 rfl (lv_room (Nat.le_of_ble_eq_true rfl)) dX11_scoreOf_324 ⟨Nat.le_of_ble_eq_true rfl, Nat.le_of_ble_eq_true rfl⟩) hc (fun x7 gq8 H locs hq hc => ?_)
    obtain ⟨rfl, h⟩ := hq
    exact g_reti (r := x7) CF hr hlk hc rfl h dX11_scoreOf_327
  · replace h := h.2
    rcases (show (gI g0 y2 (Int32.toNatClampNeg p1)).toInt = 0 ∨ (gI g0 y2 (Int32.toNatClampNeg p1)).toInt = 1 ∨ (gI g0 y2 (Int32.toNatClampNeg p1)).toInt = 2 ∨ (gI g0 y2 (Int32.toNatClampNeg p1)).toInt = 3 ∨ (gI g0 y2 (Int32.toNatClampNeg p1)).toInt = 4 ∨ (gI g0 y2 (Int32.toNatClampNeg p1)).toInt = 5 ∨ (gI g0 y2 (Int32.toNatClampNeg p1)).toInt = 6 ∨ (gI g0 y2 (Int32.toNatClampNeg p1)).toInt = 7 by omega) with hs | hs | hs | hs | hs | hs | hs | hs
    · have h := h.1 hs
      refine lv_tableIn (off := 46) (tgt := 52) hx hb dX11_scoreOf_6 (by omega) (by omega) (by rw [hs]; rfl) (by decide) ?_
      refine lv_aload_n hx hb dX11_scoreOf_52 rfl (lv_at hl 0 rfl) ?_
      refine lv_iload_n hx hb dX11_scoreOf_53 rfl (lv_at hl 1 rfl) ?_
      refine lv_iload_n hx hb dX11_scoreOf_54 rfl (lv_at hl 2 rfl) ?_
      refine g_calli (va_runV (As := [.int p1, .int p2]) (rest := []) CF (c_X11_termScore h) (cwV 2 hts gX11_scoreOf_X11_termScore rfl rfl rfl (by decide +kernel) ⟨Nat.le_of_ble_eq_true rfl, Nat.le_of_ble_eq_true rfl⟩) (hc.preV hk1 rfl (by decide)) rfl rfl hl.1 rfl (lv_room (Nat.le_of_ble_eq_true rfl)) dX11_scoreOf_55 ⟨Nat.le_of_ble_eq_true rfl, Nat.le_of_ble_eq_true rfl⟩) hc (fun x9 g10 H locs hq hc => ?_)
      replace h := hq
      exact g_reti (r := x9) CF hr hlk hc rfl h dX11_scoreOf_58
    · have h := h.2.1 hs
      refine lv_tableIn (off := 53) (tgt := 59) hx hb dX11_scoreOf_6 (by omega) (by omega) (by rw [hs]; rfl) (by decide) ?_
      refine lv_aload_n hx hb dX11_scoreOf_59 rfl (lv_at hl 0 rfl) ?_
      obtain ⟨y12, e13, h⟩ := h
      refine g_getr CF hc hk1 rfl (by decide) (fun _ h9 => List.mem_cons_of_mem _ (List.mem_append_right _ (h9))) (k := 29) (by decide) (List.mem_cons_of_mem _ (List.mem_append_left _ (List.mem_append_left _ (List.mem_of_getElem? (i := 1) rfl)))) e13 rfl dX11_scoreOf_60 ?_
      refine lv_aload_n hx hb dX11_scoreOf_63 rfl (lv_at hl 0 rfl) ?_
      obtain ⟨y14, e15, h⟩ := h
      refine g_getr CF hc hk1 rfl (by decide) (fun _ h9 => List.mem_cons_of_mem _ (List.mem_append_right _ (h9))) (k := 18) (by decide) (List.mem_cons_of_mem _ (List.mem_append_left _ (List.mem_append_left _ (List.mem_of_getElem? (i := 2) rfl)))) e15 rfl dX11_scoreOf_64 ?_
      refine lv_iload_n hx hb dX11_scoreOf_67 rfl (lv_at hl 1 rfl) ?_
      obtain ⟨hk16, h⟩ := h
      obtain ⟨hi17, h⟩ := h
      refine g_iald CF hc hk16 hi17 dX11_scoreOf_68 ?_
      obtain ⟨hk18, h⟩ := h
      obtain ⟨hi19, h⟩ := h
      refine g_iald CF hc hk18 hi19 dX11_scoreOf_69 ?_
      refine lv_istore_n (lv' := [(3, .int (gI g0 y12 (Int32.toNatClampNeg (gI g0 y14 (Int32.toNatClampNeg p1))))), (0, .ref p0), (1, .int p1), (2, .int p2)]) hx hb dX11_scoreOf_70 rfl hl (by decide) rfl (fun ls hl => ?_)
      refine lv_aload_n hx hb dX11_scoreOf_71 rfl (lv_at hl 1 rfl) ?_
      obtain ⟨y20, e21, h⟩ := h
      refine g_getr CF hc hk1 rfl (by decide) (fun _ h9 => List.mem_cons_of_mem _ (List.mem_append_right _ (h9))) (k := 29) (by decide) (List.mem_cons_of_mem _ (List.mem_append_left _ (List.mem_append_left _ (List.mem_of_getElem? (i := 1) rfl)))) e21 rfl dX11_scoreOf_72 ?_
      refine lv_aload_n hx hb dX11_scoreOf_75 rfl (lv_at hl 1 rfl) ?_
      obtain ⟨y22, e23, h⟩ := h
      refine g_getr CF hc hk1 rfl (by decide) (fun _ h9 => List.mem_cons_of_mem _ (List.mem_append_right _ (h9))) (k := 19) (by decide) (List.mem_cons_of_mem _ (List.mem_append_left _ (List.mem_append_left _ (List.mem_of_getElem? (i := 3) rfl)))) e23 rfl dX11_scoreOf_76 ?_
      refine lv_iload_n hx hb dX11_scoreOf_79 rfl (lv_at hl 2 rfl) ?_
      obtain ⟨hk24, h⟩ := h
      obtain ⟨hi25, h⟩ := h
      refine g_iald CF hc hk24 hi25 dX11_scoreOf_80 ?_
      obtain ⟨hk26, h⟩ := h
      obtain ⟨hi27, h⟩ := h
      refine g_iald CF hc hk26 hi27 dX11_scoreOf_81 ?_
      refine lv_istore (lv' := [(4, .int (gI g0 y20 (Int32.toNatClampNeg (gI g0 y22 (Int32.toNatClampNeg p1))))), (3, .int (gI g0 y12 (Int32.toNatClampNeg (gI g0 y14 (Int32.toNatClampNeg p1))))), (0, .ref p0), (1, .int p1), (2, .int p2)]) hx hb dX11_scoreOf_82 hl (by decide) rfl (fun ls hl => ?_)
      refine lv_iload_n hx hb dX11_scoreOf_84 rfl (lv_at hl 1 rfl) ?_
      refine lv_if_lt (tgt := 93) hx hb dX11_scoreOf_85 (by decide) (fun c28 => ?_) (fun c28 => ?_)
      · have h := h.1 c28
        exact hb_93 g0 h _ _ _ hc (lv_sub hl [] rfl)
      · have h := h.2 c28
        refine lv_iload hx hb dX11_scoreOf_88 (lv_at hl 0 rfl) ?_
        refine lv_if_ge (tgt := 97) hx hb dX11_scoreOf_90 (by decide) (fun c29 => ?_) (fun c29 => ?_)
        · have h := h.1 c29
          refine lv_iload_n hx hb dX11_scoreOf_97 rfl (lv_at hl 1 rfl) ?_
          refine lv_iload hx hb dX11_scoreOf_98 (lv_at hl 0 rfl) ?_
          refine lv_iadd hx hb dX11_scoreOf_100 ?_
          refine g_calli (va_runS (As := [.int ((gI g0 y12 (Int32.toNatClampNeg (gI g0 y14 (Int32.toNatClampNeg p1)))) + (gI g0 y20 (Int32.toNatClampNeg (gI g0 y22 (Int32.toNatClampNeg p1)))))]) (rest := []) CF (c_X11_least h) (va_cwS 1 hts gX11_scoreOf_X11_least rfl rfl rfl (by decide +kernel) ⟨Nat.le_of_ble_eq_true rfl, Nat.le_of_ble_eq_true rfl⟩) hc.preS rfl rfl hl.1 rfl (lv_room (Nat.le_of_ble_eq_true rfl)) dX11_scoreOf_101 ⟨Nat.le_of_ble_eq_true rfl, Nat.le_of_ble_eq_true rfl⟩) hc (fun x30 gq31 H locs hq hc => ?_)
          obtain ⟨rfl, h⟩ := hq
          exact hb_104 g0 x30 h _ _ _ hc (lv_sub hl [] rfl)
        · have h := h.2 c29
          exact hb_93 g0 h _ _ _ hc (lv_sub hl [] rfl)
    · have h := h.2.2.1 hs
      refine lv_tableIn (off := 99) (tgt := 105) hx hb dX11_scoreOf_6 (by omega) (by omega) (by rw [hs]; rfl) (by decide) ?_
      refine lv_aload_n hx hb dX11_scoreOf_105 rfl (lv_at hl 0 rfl) ?_
      obtain ⟨y32, e33, h⟩ := h
      refine g_getr CF hc hk1 rfl (by decide) (fun _ h9 => List.mem_cons_of_mem _ (List.mem_append_right _ (h9))) (k := 29) (by decide) (List.mem_cons_of_mem _ (List.mem_append_left _ (List.mem_append_left _ (List.mem_of_getElem? (i := 1) rfl)))) e33 rfl dX11_scoreOf_106 ?_
      refine lv_aload_n hx hb dX11_scoreOf_109 rfl (lv_at hl 0 rfl) ?_
      obtain ⟨y34, e35, h⟩ := h
      refine g_getr CF hc hk1 rfl (by decide) (fun _ h9 => List.mem_cons_of_mem _ (List.mem_append_right _ (h9))) (k := 18) (by decide) (List.mem_cons_of_mem _ (List.mem_append_left _ (List.mem_append_left _ (List.mem_of_getElem? (i := 2) rfl)))) e35 rfl dX11_scoreOf_110 ?_
      refine lv_iload_n hx hb dX11_scoreOf_113 rfl (lv_at hl 1 rfl) ?_
      obtain ⟨hk36, h⟩ := h
      obtain ⟨hi37, h⟩ := h
      refine g_iald CF hc hk36 hi37 dX11_scoreOf_114 ?_
      obtain ⟨hk38, h⟩ := h
      obtain ⟨hi39, h⟩ := h
      refine g_iald CF hc hk38 hi39 dX11_scoreOf_115 ?_
      refine lv_istore_n (lv' := [(3, .int (gI g0 y32 (Int32.toNatClampNeg (gI g0 y34 (Int32.toNatClampNeg p1))))), (0, .ref p0), (1, .int p1), (2, .int p2)]) hx hb dX11_scoreOf_116 rfl hl (by decide) rfl (fun ls hl => ?_)
      refine lv_aload_n hx hb dX11_scoreOf_117 rfl (lv_at hl 1 rfl) ?_
      obtain ⟨y40, e41, h⟩ := h
      refine g_getr CF hc hk1 rfl (by decide) (fun _ h9 => List.mem_cons_of_mem _ (List.mem_append_right _ (h9))) (k := 29) (by decide) (List.mem_cons_of_mem _ (List.mem_append_left _ (List.mem_append_left _ (List.mem_of_getElem? (i := 1) rfl)))) e41 rfl dX11_scoreOf_118 ?_
      refine lv_aload_n hx hb dX11_scoreOf_121 rfl (lv_at hl 1 rfl) ?_
      obtain ⟨y42, e43, h⟩ := h
      refine g_getr CF hc hk1 rfl (by decide) (fun _ h9 => List.mem_cons_of_mem _ (List.mem_append_right _ (h9))) (k := 19) (by decide) (List.mem_cons_of_mem _ (List.mem_append_left _ (List.mem_append_left _ (List.mem_of_getElem? (i := 3) rfl)))) e43 rfl dX11_scoreOf_122 ?_
      refine lv_iload_n hx hb dX11_scoreOf_125 rfl (lv_at hl 2 rfl) ?_
      obtain ⟨hk44, h⟩ := h
      obtain ⟨hi45, h⟩ := h
      refine g_iald CF hc hk44 hi45 dX11_scoreOf_126 ?_
      obtain ⟨hk46, h⟩ := h
      obtain ⟨hi47, h⟩ := h
      refine g_iald CF hc hk46 hi47 dX11_scoreOf_127 ?_
      refine lv_istore (lv' := [(4, .int (gI g0 y40 (Int32.toNatClampNeg (gI g0 y42 (Int32.toNatClampNeg p1))))), (3, .int (gI g0 y32 (Int32.toNatClampNeg (gI g0 y34 (Int32.toNatClampNeg p1))))), (0, .ref p0), (1, .int p1), (2, .int p2)]) hx hb dX11_scoreOf_128 hl (by decide) rfl (fun ls hl => ?_)
      refine lv_iload_n hx hb dX11_scoreOf_130 rfl (lv_at hl 1 rfl) ?_
      refine lv_if_ge (tgt := 139) hx hb dX11_scoreOf_131 (by decide) (fun c48 => ?_) (fun c48 => ?_)
      · have h := h.1 c48
        refine lv_iload hx hb dX11_scoreOf_139 (lv_at hl 0 rfl) ?_
        refine lv_if_ge (tgt := 148) hx hb dX11_scoreOf_141 (by decide) (fun c49 => ?_) (fun c49 => ?_)
        · have h := h.1 c49
          refine lv_iload_n hx hb dX11_scoreOf_148 rfl (lv_at hl 1 rfl) ?_
          refine lv_iload hx hb dX11_scoreOf_149 (lv_at hl 0 rfl) ?_
          refine lv_iadd hx hb dX11_scoreOf_151 ?_
          refine g_calli (va_runS (As := [.int ((gI g0 y32 (Int32.toNatClampNeg (gI g0 y34 (Int32.toNatClampNeg p1)))) + (gI g0 y40 (Int32.toNatClampNeg (gI g0 y42 (Int32.toNatClampNeg p1)))))]) (rest := []) CF (c_X11_least h) (va_cwS 1 hts gX11_scoreOf_X11_least rfl rfl rfl (by decide +kernel) ⟨Nat.le_of_ble_eq_true rfl, Nat.le_of_ble_eq_true rfl⟩) hc.preS rfl rfl hl.1 rfl (lv_room (Nat.le_of_ble_eq_true rfl)) dX11_scoreOf_152 ⟨Nat.le_of_ble_eq_true rfl, Nat.le_of_ble_eq_true rfl⟩) hc (fun x50 gq51 H locs hq hc => ?_)
          obtain ⟨rfl, h⟩ := hq
          exact hb_155 g0 x50 h _ _ _ hc (lv_sub hl [] rfl)
        · have h := h.2 c49
          refine lv_iload_n hx hb dX11_scoreOf_144 rfl (lv_at hl 1 rfl) ?_
          refine lv_goto (tgt := 155) hx hb dX11_scoreOf_145 (by decide) ?_
          exact hb_155 g0 (gI g0 y32 (Int32.toNatClampNeg (gI g0 y34 (Int32.toNatClampNeg p1)))) h _ _ _ hc (lv_sub hl [] rfl)
      · have h := h.2 c48
        refine lv_iload hx hb dX11_scoreOf_134 (lv_at hl 0 rfl) ?_
        refine lv_goto (tgt := 155) hx hb dX11_scoreOf_136 (by decide) ?_
        exact hb_155 g0 (gI g0 y40 (Int32.toNatClampNeg (gI g0 y42 (Int32.toNatClampNeg p1)))) h _ _ _ hc (lv_sub hl [] rfl)
    · have h := h.2.2.2.1 hs
      refine lv_tableIn (off := 150) (tgt := 156) hx hb dX11_scoreOf_6 (by omega) (by omega) (by rw [hs]; rfl) (by decide) ?_
      refine lv_aload_n hx hb dX11_scoreOf_156 rfl (lv_at hl 0 rfl) ?_
      obtain ⟨y52, e53, h⟩ := h
      refine g_getr CF hc hk1 rfl (by decide) (fun _ h9 => List.mem_cons_of_mem _ (List.mem_append_right _ (h9))) (k := 29) (by decide) (List.mem_cons_of_mem _ (List.mem_append_left _ (List.mem_append_left _ (List.mem_of_getElem? (i := 1) rfl)))) e53 rfl dX11_scoreOf_157 ?_
      refine lv_aload_n hx hb dX11_scoreOf_160 rfl (lv_at hl 0 rfl) ?_
      obtain ⟨y54, e55, h⟩ := h
      refine g_getr CF hc hk1 rfl (by decide) (fun _ h9 => List.mem_cons_of_mem _ (List.mem_append_right _ (h9))) (k := 19) (by decide) (List.mem_cons_of_mem _ (List.mem_append_left _ (List.mem_append_left _ (List.mem_of_getElem? (i := 3) rfl)))) e55 rfl dX11_scoreOf_161 ?_
      refine lv_iload_n hx hb dX11_scoreOf_164 rfl (lv_at hl 1 rfl) ?_
      obtain ⟨hk56, h⟩ := h
      obtain ⟨hi57, h⟩ := h
      refine g_iald CF hc hk56 hi57 dX11_scoreOf_165 ?_
      obtain ⟨hk58, h⟩ := h
      obtain ⟨hi59, h⟩ := h
      refine g_iald CF hc hk58 hi59 dX11_scoreOf_166 ?_
      refine lv_if_ge (tgt := 184) hx hb dX11_scoreOf_167 (by decide) (fun c60 => ?_) (fun c60 => ?_)
      · have h := h.1 c60
        refine lv_iconst (v := (-1)) hx hb dX11_scoreOf_184 (by decide) ?_
        exact hb_185 g0 (-1) h _ _ _ hc (lv_sub hl [] rfl)
      · have h := h.2 c60
        refine lv_aload_n hx hb dX11_scoreOf_170 rfl (lv_at hl 0 rfl) ?_
        obtain ⟨y61, e62, h⟩ := h
        refine g_getr CF hc hk1 rfl (by decide) (fun _ h9 => List.mem_cons_of_mem _ (List.mem_append_right _ (h9))) (k := 29) (by decide) (List.mem_cons_of_mem _ (List.mem_append_left _ (List.mem_append_left _ (List.mem_of_getElem? (i := 1) rfl)))) e62 rfl dX11_scoreOf_171 ?_
        refine lv_aload_n hx hb dX11_scoreOf_174 rfl (lv_at hl 0 rfl) ?_
        obtain ⟨y63, e64, h⟩ := h
        refine g_getr CF hc hk1 rfl (by decide) (fun _ h9 => List.mem_cons_of_mem _ (List.mem_append_right _ (h9))) (k := 18) (by decide) (List.mem_cons_of_mem _ (List.mem_append_left _ (List.mem_append_left _ (List.mem_of_getElem? (i := 2) rfl)))) e64 rfl dX11_scoreOf_175 ?_
        refine lv_iload_n hx hb dX11_scoreOf_178 rfl (lv_at hl 1 rfl) ?_
        obtain ⟨hk65, h⟩ := h
        obtain ⟨hi66, h⟩ := h
        refine g_iald CF hc hk65 hi66 dX11_scoreOf_179 ?_
        obtain ⟨hk67, h⟩ := h
        obtain ⟨hi68, h⟩ := h
        refine g_iald CF hc hk67 hi68 dX11_scoreOf_180 ?_
        refine lv_goto (tgt := 185) hx hb dX11_scoreOf_181 (by decide) ?_
        exact hb_185 g0 (gI g0 y61 (Int32.toNatClampNeg (gI g0 y63 (Int32.toNatClampNeg p1)))) h _ _ _ hc (lv_sub hl [] rfl)
    · have h := h.2.2.2.2.1 hs
      refine lv_tableIn (off := 180) (tgt := 186) hx hb dX11_scoreOf_6 (by omega) (by omega) (by rw [hs]; rfl) (by decide) ?_
      refine lv_aload_n hx hb dX11_scoreOf_186 rfl (lv_at hl 0 rfl) ?_
      refine lv_iload_n hx hb dX11_scoreOf_187 rfl (lv_at hl 1 rfl) ?_
      refine lv_iload_n hx hb dX11_scoreOf_188 rfl (lv_at hl 2 rfl) ?_
      refine g_calli (va_runV (As := [.int p1, .int p2]) (rest := []) CF (c_X11_nearFields h) (cwV 2 hts gX11_scoreOf_X11_nearFields rfl rfl rfl (by decide +kernel) ⟨Nat.le_of_ble_eq_true rfl, Nat.le_of_ble_eq_true rfl⟩) (hc.preV hk1 rfl (by decide)) rfl rfl hl.1 rfl (lv_room (Nat.le_of_ble_eq_true rfl)) dX11_scoreOf_189 ⟨Nat.le_of_ble_eq_true rfl, Nat.le_of_ble_eq_true rfl⟩) hc (fun x69 gq70 H locs hq hc => ?_)
      obtain ⟨rfl, h⟩ := hq
      refine lv_istore_n (lv' := [(3, .int x69), (0, .ref p0), (1, .int p1), (2, .int p2)]) hx hb dX11_scoreOf_192 rfl hl (by decide) rfl (fun ls hl => ?_)
      refine lv_iload_n hx hb dX11_scoreOf_193 rfl (lv_at hl 0 rfl) ?_
      refine lv_if_ne (tgt := 201) hx hb dX11_scoreOf_194 (by decide) (fun c71 => ?_) (fun c71 => ?_)
      · have h := h.2 c71
        refine lv_aload_n hx hb dX11_scoreOf_201 rfl (lv_at hl 1 rfl) ?_
        obtain ⟨y72, e73, h⟩ := h
        refine g_getr CF hc hk1 rfl (by decide) (fun _ h9 => List.mem_cons_of_mem _ (List.mem_append_right _ (h9))) (k := 29) (by decide) (List.mem_cons_of_mem _ (List.mem_append_left _ (List.mem_append_left _ (List.mem_of_getElem? (i := 1) rfl)))) e73 rfl dX11_scoreOf_202 ?_
        refine lv_aload_n hx hb dX11_scoreOf_205 rfl (lv_at hl 1 rfl) ?_
        obtain ⟨y74, e75, h⟩ := h
        refine g_getr CF hc hk1 rfl (by decide) (fun _ h9 => List.mem_cons_of_mem _ (List.mem_append_right _ (h9))) (k := 18) (by decide) (List.mem_cons_of_mem _ (List.mem_append_left _ (List.mem_append_left _ (List.mem_of_getElem? (i := 2) rfl)))) e75 rfl dX11_scoreOf_206 ?_
        refine lv_iload_n hx hb dX11_scoreOf_209 rfl (lv_at hl 2 rfl) ?_
        obtain ⟨hk76, h⟩ := h
        obtain ⟨hi77, h⟩ := h
        refine g_iald CF hc hk76 hi77 dX11_scoreOf_210 ?_
        obtain ⟨hk78, h⟩ := h
        obtain ⟨hi79, h⟩ := h
        refine g_iald CF hc hk78 hi79 dX11_scoreOf_211 ?_
        refine lv_aload_n hx hb dX11_scoreOf_212 rfl (lv_at hl 1 rfl) ?_
        obtain ⟨y80, e81, h⟩ := h
        refine g_getr CF hc hk1 rfl (by decide) (fun _ h9 => List.mem_cons_of_mem _ (List.mem_append_right _ (h9))) (k := 29) (by decide) (List.mem_cons_of_mem _ (List.mem_append_left _ (List.mem_append_left _ (List.mem_of_getElem? (i := 1) rfl)))) e81 rfl dX11_scoreOf_213 ?_
        refine lv_aload_n hx hb dX11_scoreOf_216 rfl (lv_at hl 1 rfl) ?_
        obtain ⟨y82, e83, h⟩ := h
        refine g_getr CF hc hk1 rfl (by decide) (fun _ h9 => List.mem_cons_of_mem _ (List.mem_append_right _ (h9))) (k := 19) (by decide) (List.mem_cons_of_mem _ (List.mem_append_left _ (List.mem_append_left _ (List.mem_of_getElem? (i := 3) rfl)))) e83 rfl dX11_scoreOf_217 ?_
        refine lv_iload_n hx hb dX11_scoreOf_220 rfl (lv_at hl 2 rfl) ?_
        obtain ⟨hk84, h⟩ := h
        obtain ⟨hi85, h⟩ := h
        refine g_iald CF hc hk84 hi85 dX11_scoreOf_221 ?_
        obtain ⟨hk86, h⟩ := h
        obtain ⟨hi87, h⟩ := h
        refine g_iald CF hc hk86 hi87 dX11_scoreOf_222 ?_
        refine lv_iadd hx hb dX11_scoreOf_223 ?_
        refine lv_bipush (v := 100) hx hb dX11_scoreOf_224 (by decide) ?_
        refine lv_iload_n hx hb dX11_scoreOf_226 rfl (lv_at hl 0 rfl) ?_
        refine lv_imul hx hb dX11_scoreOf_227 ?_
        refine lv_iadd hx hb dX11_scoreOf_228 ?_
        refine g_calli (va_runS (As := [.int (((gI g0 y72 (Int32.toNatClampNeg (gI g0 y74 (Int32.toNatClampNeg p1)))) + (gI g0 y80 (Int32.toNatClampNeg (gI g0 y82 (Int32.toNatClampNeg p1))))) + (100 * x69))]) (rest := []) CF (c_X11_least h) (va_cwS 1 hts gX11_scoreOf_X11_least rfl rfl rfl (by decide +kernel) ⟨Nat.le_of_ble_eq_true rfl, Nat.le_of_ble_eq_true rfl⟩) hc.preS rfl rfl hl.1 rfl (lv_room (Nat.le_of_ble_eq_true rfl)) dX11_scoreOf_229 ⟨Nat.le_of_ble_eq_true rfl, Nat.le_of_ble_eq_true rfl⟩) hc (fun x88 gq89 H locs hq hc => ?_)
        obtain ⟨rfl, h⟩ := hq
        exact hb_232 g0 x88 h _ _ _ hc (lv_sub hl [] rfl)
      · have h := h.1 c71
        refine lv_iconst (v := (-1)) hx hb dX11_scoreOf_197 (by decide) ?_
        refine lv_goto (tgt := 232) hx hb dX11_scoreOf_198 (by decide) ?_
        exact hb_232 g0 (-1) h _ _ _ hc (lv_sub hl [] rfl)
    · have h := h.2.2.2.2.2.1 hs
      refine lv_tableIn (off := 227) (tgt := 233) hx hb dX11_scoreOf_6 (by omega) (by omega) (by rw [hs]; rfl) (by decide) ?_
      refine lv_aload_n hx hb dX11_scoreOf_233 rfl (lv_at hl 0 rfl) ?_
      obtain ⟨y90, e91, h⟩ := h
      refine g_getr CF hc hk1 rfl (by decide) (fun _ h9 => List.mem_cons_of_mem _ (List.mem_append_right _ (h9))) (k := 3) (by decide) (List.mem_cons_of_mem _ (List.mem_append_left _ (List.mem_append_left _ (List.mem_of_getElem? (i := 4) rfl)))) e91 rfl dX11_scoreOf_234 ?_
      refine lv_iload_n hx hb dX11_scoreOf_237 rfl (lv_at hl 2 rfl) ?_
      obtain ⟨hk92, h⟩ := h
      obtain ⟨hi93, h⟩ := h
      refine g_iald CF hc hk92 hi93 dX11_scoreOf_238 ?_
      refine lv_aload_n hx hb dX11_scoreOf_239 rfl (lv_at hl 0 rfl) ?_
      obtain ⟨y94, e95, h⟩ := h
      refine g_getr CF hc hk1 rfl (by decide) (fun _ h9 => List.mem_cons_of_mem _ (List.mem_append_right _ (h9))) (k := 18) (by decide) (List.mem_cons_of_mem _ (List.mem_append_left _ (List.mem_append_left _ (List.mem_of_getElem? (i := 2) rfl)))) e95 rfl dX11_scoreOf_240 ?_
      refine lv_iload_n hx hb dX11_scoreOf_243 rfl (lv_at hl 1 rfl) ?_
      obtain ⟨hk96, h⟩ := h
      obtain ⟨hi97, h⟩ := h
      refine g_iald CF hc hk96 hi97 dX11_scoreOf_244 ?_
      refine lv_aload_n hx hb dX11_scoreOf_245 rfl (lv_at hl 0 rfl) ?_
      obtain ⟨y98, e99, h⟩ := h
      refine g_getr CF hc hk1 rfl (by decide) (fun _ h9 => List.mem_cons_of_mem _ (List.mem_append_right _ (h9))) (k := 19) (by decide) (List.mem_cons_of_mem _ (List.mem_append_left _ (List.mem_append_left _ (List.mem_of_getElem? (i := 3) rfl)))) e99 rfl dX11_scoreOf_246 ?_
      refine lv_iload_n hx hb dX11_scoreOf_249 rfl (lv_at hl 1 rfl) ?_
      obtain ⟨hk100, h⟩ := h
      obtain ⟨hi101, h⟩ := h
      refine g_iald CF hc hk100 hi101 dX11_scoreOf_250 ?_
      refine g_calli (va_runS (As := [.int (gI g0 y90 (Int32.toNatClampNeg p2)), .int (gI g0 y94 (Int32.toNatClampNeg p1)), .int (gI g0 y98 (Int32.toNatClampNeg p1))]) (rest := []) CF (c_X11_isIn h) (va_cwS 3 hts gX11_scoreOf_X11_isIn rfl rfl rfl (by decide +kernel) ⟨Nat.le_of_ble_eq_true rfl, Nat.le_of_ble_eq_true rfl⟩) hc.preS rfl rfl hl.1 rfl (lv_room (Nat.le_of_ble_eq_true rfl)) dX11_scoreOf_251 ⟨Nat.le_of_ble_eq_true rfl, Nat.le_of_ble_eq_true rfl⟩) hc (fun x102 gq103 H locs hq hc => ?_)
      obtain ⟨rfl, h⟩ := hq
      refine lv_if_eq (tgt := 261) hx hb dX11_scoreOf_254 (by decide) (fun c104 => ?_) (fun c104 => ?_)
      · have h := h.1 c104
        refine lv_iconst (v := (-1)) hx hb dX11_scoreOf_261 (by decide) ?_
        exact hb_262 g0 (-1) h _ _ _ hc (lv_sub hl [] rfl)
      · have h := h.2 c104
        refine lv_iconst (v := 0) hx hb dX11_scoreOf_257 (by decide) ?_
        refine lv_goto (tgt := 262) hx hb dX11_scoreOf_258 (by decide) ?_
        exact hb_262 g0 0 h _ _ _ hc (lv_sub hl [] rfl)
    · have h := h.2.2.2.2.2.2.1 hs
      refine lv_tableIn (off := 257) (tgt := 263) hx hb dX11_scoreOf_6 (by omega) (by omega) (by rw [hs]; rfl) (by decide) ?_
      refine lv_aload_n hx hb dX11_scoreOf_263 rfl (lv_at hl 0 rfl) ?_
      obtain ⟨y105, e106, h⟩ := h
      refine g_getr CF hc hk1 rfl (by decide) (fun _ h9 => List.mem_cons_of_mem _ (List.mem_append_right _ (h9))) (k := 18) (by decide) (List.mem_cons_of_mem _ (List.mem_append_left _ (List.mem_append_left _ (List.mem_of_getElem? (i := 2) rfl)))) e106 rfl dX11_scoreOf_264 ?_
      refine lv_iload_n hx hb dX11_scoreOf_267 rfl (lv_at hl 1 rfl) ?_
      obtain ⟨hk107, h⟩ := h
      obtain ⟨hi108, h⟩ := h
      refine g_iald CF hc hk107 hi108 dX11_scoreOf_268 ?_
      refine lv_aload_n hx hb dX11_scoreOf_269 rfl (lv_at hl 0 rfl) ?_
      obtain ⟨y109, e110, h⟩ := h
      refine g_getr CF hc hk1 rfl (by decide) (fun _ h9 => List.mem_cons_of_mem _ (List.mem_append_right _ (h9))) (k := 4) (by decide) (List.mem_cons_of_mem _ (List.mem_append_left _ (List.mem_append_left _ (List.mem_of_getElem? (i := 5) rfl)))) e110 rfl dX11_scoreOf_270 ?_
      refine lv_iload_n hx hb dX11_scoreOf_273 rfl (lv_at hl 2 rfl) ?_
      obtain ⟨hk111, h⟩ := h
      obtain ⟨hi112, h⟩ := h
      refine g_iald CF hc hk111 hi112 dX11_scoreOf_274 ?_
      refine lv_ishr hx hb dX11_scoreOf_275 ?_
      refine lv_iconst (v := 1) hx hb dX11_scoreOf_276 (by decide) ?_
      refine lv_iand hx hb dX11_scoreOf_277 ?_
      refine lv_if_eq (tgt := 285) hx hb dX11_scoreOf_278 (by decide) (fun c113 => ?_) (fun c113 => ?_)
      · have h := h.1 c113
        refine lv_iconst (v := (-1)) hx hb dX11_scoreOf_285 (by decide) ?_
        exact hb_286 g0 (-1) h _ _ _ hc (lv_sub hl [] rfl)
      · have h := h.2 c113
        refine lv_iconst (v := 0) hx hb dX11_scoreOf_281 (by decide) ?_
        refine lv_goto (tgt := 286) hx hb dX11_scoreOf_282 (by decide) ?_
        exact hb_286 g0 0 h _ _ _ hc (lv_sub hl [] rfl)
    · have h := h.2.2.2.2.2.2.2 hs
      refine lv_tableIn (off := 281) (tgt := 287) hx hb dX11_scoreOf_6 (by omega) (by omega) (by rw [hs]; rfl) (by decide) ?_
      refine lv_aload_n hx hb dX11_scoreOf_287 rfl (lv_at hl 0 rfl) ?_
      obtain ⟨y114, e115, h⟩ := h
      refine g_getr CF hc hk1 rfl (by decide) (fun _ h9 => List.mem_cons_of_mem _ (List.mem_append_right _ (h9))) (k := 29) (by decide) (List.mem_cons_of_mem _ (List.mem_append_left _ (List.mem_append_left _ (List.mem_of_getElem? (i := 1) rfl)))) e115 rfl dX11_scoreOf_288 ?_
      refine lv_aload_n hx hb dX11_scoreOf_291 rfl (lv_at hl 0 rfl) ?_
      obtain ⟨y116, e117, h⟩ := h
      refine g_getr CF hc hk1 rfl (by decide) (fun _ h9 => List.mem_cons_of_mem _ (List.mem_append_right _ (h9))) (k := 18) (by decide) (List.mem_cons_of_mem _ (List.mem_append_left _ (List.mem_append_left _ (List.mem_of_getElem? (i := 2) rfl)))) e117 rfl dX11_scoreOf_292 ?_
      refine lv_iload_n hx hb dX11_scoreOf_295 rfl (lv_at hl 1 rfl) ?_
      obtain ⟨hk118, h⟩ := h
      obtain ⟨hi119, h⟩ := h
      refine g_iald CF hc hk118 hi119 dX11_scoreOf_296 ?_
      obtain ⟨hk120, h⟩ := h
      obtain ⟨hi121, h⟩ := h
      refine g_iald CF hc hk120 hi121 dX11_scoreOf_297 ?_
      refine lv_istore_n (lv' := [(3, .int (gI g0 y114 (Int32.toNatClampNeg (gI g0 y116 (Int32.toNatClampNeg p1))))), (0, .ref p0), (1, .int p1), (2, .int p2)]) hx hb dX11_scoreOf_298 rfl hl (by decide) rfl (fun ls hl => ?_)
      refine lv_iload_n hx hb dX11_scoreOf_299 rfl (lv_at hl 0 rfl) ?_
      refine lv_if_ge (tgt := 307) hx hb dX11_scoreOf_300 (by decide) (fun c122 => ?_) (fun c122 => ?_)
      · have h := h.1 c122
        refine lv_iload_n hx hb dX11_scoreOf_307 rfl (lv_at hl 0 rfl) ?_
        refine lv_aload_n hx hb dX11_scoreOf_308 rfl (lv_at hl 1 rfl) ?_
        obtain ⟨y123, e124, h⟩ := h
        refine g_getr CF hc hk1 rfl (by decide) (fun _ h9 => List.mem_cons_of_mem _ (List.mem_append_right _ (h9))) (k := 19) (by decide) (List.mem_cons_of_mem _ (List.mem_append_left _ (List.mem_append_left _ (List.mem_of_getElem? (i := 3) rfl)))) e124 rfl dX11_scoreOf_309 ?_
        refine lv_iload_n hx hb dX11_scoreOf_312 rfl (lv_at hl 2 rfl) ?_
        obtain ⟨hk125, h⟩ := h
        obtain ⟨hi126, h⟩ := h
        refine g_iald CF hc hk125 hi126 dX11_scoreOf_313 ?_
        refine lv_imul hx hb dX11_scoreOf_314 ?_
        refine lv_bipush (v := 100) hx hb dX11_scoreOf_315 (by decide) ?_
        refine lv_idiv hx hb dX11_scoreOf_317 (by decide) ?_
        refine g_calli (va_runS (As := [.int (((gI g0 y114 (Int32.toNatClampNeg (gI g0 y116 (Int32.toNatClampNeg p1)))) * (gI g0 y123 (Int32.toNatClampNeg p1))) / 100)]) (rest := []) CF (c_X11_least h) (va_cwS 1 hts gX11_scoreOf_X11_least rfl rfl rfl (by decide +kernel) ⟨Nat.le_of_ble_eq_true rfl, Nat.le_of_ble_eq_true rfl⟩) hc.preS rfl rfl hl.1 rfl (lv_room (Nat.le_of_ble_eq_true rfl)) dX11_scoreOf_318 ⟨Nat.le_of_ble_eq_true rfl, Nat.le_of_ble_eq_true rfl⟩) hc (fun x127 gq128 H locs hq hc => ?_)
        obtain ⟨rfl, h⟩ := hq
        exact hb_321 g0 x127 h _ _ _ hc (lv_sub hl [] rfl)
      · have h := h.2 c122
        refine lv_iconst (v := (-1)) hx hb dX11_scoreOf_303 (by decide) ?_
        refine lv_goto (tgt := 321) hx hb dX11_scoreOf_304 (by decide) ?_
        exact hb_321 g0 (-1) h _ _ _ hc (lv_sub hl [] rfl)
def l_X11_scoreNow_22 (r0 : Nat) (i1 : Int32) (i2 : Int32) (Q : Int32 → gS → Prop) (g : gS) (i3 : Int32) (k22 : gS → Int32 → Prop) : Prop :=
  (i1 < i3 → (gK g r0 = 12 ∧ (∃ y3, gR g r0 29 = some y3 ∧ (gK g y3 = 21 ∧ (vp_in i1 (gN g y3) ∧ (Q (gI g y3 (Int32.toNatClampNeg i1)) g)))))) ∧ (¬ i1 < i3 → (gK g r0 = 12 ∧ (∃ y8, gR g r0 29 = some y8 ∧ (w_X11_scoreOf g r0 i3 i2 (fun x10 g11 => (gK g11 y8 = 21 ∧ (vp_in i3 (gN g11 y8) ∧ (∀ g15, g15 = sU g11 y8 (Int32.toNatClampNeg i3) x10 → (k22 g15 (i3 + 1))))))))))
def b_X11_scoreNow_18 (g : gS) (Q : Int32 → gS → Prop) : Prop :=
  Q (-1) g
def w_X11_scoreNow (g0 : gS) (p0 : Nat) (p1 : Int32) (p2 : Int32) (Q : Int32 → gS → Prop) : Prop :=
  gK g0 p0 = 12 ∧ (∃ y18, gR g0 p0 6 = some y18 ∧ (gK g0 y18 = 22 ∧ (vp_in p2 (gN g0 y18) ∧ (((gI g0 y18 (Int32.toNatClampNeg p2)) = 0 → (b_X11_scoreNow_18 g0 Q)) ∧ (¬ (gI g0 y18 (Int32.toNatClampNeg p2)) = 0 → (∃ y23, gR g0 p0 5 = some y23 ∧ (gK g0 y23 = 22 ∧ (vp_in p2 (gN g0 y23) ∧ (((gI g0 y23 (Int32.toNatClampNeg p2)) = 0 → (lpx2 (l_X11_scoreNow_22 p0 p1 p2 Q) g0 0)) ∧ (¬ (gI g0 y23 (Int32.toNatClampNeg p2)) = 0 → (b_X11_scoreNow_18 g0 Q)))))))))))
abbrev r_X11_scoreNow : Room := { frames := 7, cells := 0, slots := 0, locals := 167 }
set_option maxHeartbeats 4000000 in
set_option maxRecDepth 100000 in
theorem c_X11_scoreNow {l : Launch} {D : va_G} {cA : Nat → ClassId} {sz : Nat} {g0 : gS} {p0 : Nat} {p1 : Int32} {p2 : Int32} {Q : Int32 → gS → Prop} (h : w_X11_scoreNow g0 p0 p1 p2 Q) : Met l yX11_scoreNow wsX11_scoreNow r_X11_scoreNow (va_Pc [.ref p0, .int p1, .int p2] (gPre D cA g0 sz)) (gQi D cA g0 sz (Q)) 0 0 (gA g0 sz) := by
  refine g_met (cc := cX11_scoreNow) (maxL := 4) (ret := (some .int)) (own := RX11) (by decide) rfl rfl (Nat.le_of_ble_eq_true rfl) ?_
  intro p e s m args below meth c ls CF hr hlk hnm hc hl
  obtain ⟨hx, hb, hml, hown, hts⟩ := id CF
  have hl : lv_has ls 4 [(0, .ref p0), (1, .int p1), (2, .int p2)] := hl
  show W p l e r_X11_scoreNow s m args below meth c s.heap [] 0 0 (MQ below (gQi D cA g0 sz (Q)) args s 0 0 (gA g0 sz)) (F0 m 0 ls [])
  have hb_22 : ∀ (r0 : Nat) (i1 : Int32) (i2 : Int32), ∀ (g : gS) (i3 : Int32), lpx2 (l_X11_scoreNow_22 r0 i1 i2 Q) g i3 → ∀ (H : Heap) (locs : List Loc) (ls : Array Slot), gC D cA (gA g0 sz) s g H locs → lv_has ls 4 [(0, .ref r0), (1, .int i1), (2, .int i2), (3, .int i3)] → W p l e r_X11_scoreNow s m args below meth c H locs 0 0 (MQ below (gQi D cA g0 sz (Q)) args s 0 0 (gA g0 sz)) (F0 m 22 ls []) := by
    intro r0 i1 i2
    refine lpx2_run (P := fun (g : gS) (i3 : Int32) => ∀ (H : Heap) (locs : List Loc) (ls : Array Slot), gC D cA (gA g0 sz) s g H locs → lv_has ls 4 [(0, .ref r0), (1, .int i1), (2, .int i2), (3, .int i3)] → W p l e r_X11_scoreNow s m args below meth c H locs 0 0 (MQ below (gQi D cA g0 sz (Q)) args s 0 0 (gA g0 sz)) (F0 m 22 ls [])) ?_
    intro k22 hk_22 g i3 h H locs ls hc hl
    unfold l_X11_scoreNow_22 at h
    refine lv_iload_n hx hb dX11_scoreNow_22 rfl (lv_at hl 3 rfl) ?_
    refine lv_iload_n hx hb dX11_scoreNow_23 rfl (lv_at hl 1 rfl) ?_
    refine lv_icmp_gt (tgt := 45) hx hb dX11_scoreNow_24 (by decide) (fun c1 => ?_) (fun c1 => ?_)
    · have h := h.1 c1
      refine lv_aload_n hx hb dX11_scoreNow_45 rfl (lv_at hl 0 rfl) ?_
      obtain ⟨hk2, h⟩ := h
      obtain ⟨y3, e4, h⟩ := h
      refine g_getr CF hc hk2 rfl (by decide) (fun _ h9 => List.mem_cons_of_mem _ (List.mem_append_right _ (h9))) (k := 29) (by decide) (List.mem_cons_of_mem _ (List.mem_append_left _ (List.mem_append_left _ (List.mem_of_getElem? (i := 2) rfl)))) e4 rfl dX11_scoreNow_46 ?_
      refine lv_iload_n hx hb dX11_scoreNow_49 rfl (lv_at hl 1 rfl) ?_
      obtain ⟨hk5, h⟩ := h
      obtain ⟨hi6, h⟩ := h
      refine g_iald CF hc hk5 hi6 dX11_scoreNow_50 ?_
      exact g_reti (r := (gI g y3 (Int32.toNatClampNeg i1))) CF hr hlk hc rfl h dX11_scoreNow_51
    · have h := h.2 c1
      refine lv_aload_n hx hb dX11_scoreNow_27 rfl (lv_at hl 0 rfl) ?_
      obtain ⟨hk7, h⟩ := h
      obtain ⟨y8, e9, h⟩ := h
      refine g_getr CF hc hk7 rfl (by decide) (fun _ h9 => List.mem_cons_of_mem _ (List.mem_append_right _ (h9))) (k := 29) (by decide) (List.mem_cons_of_mem _ (List.mem_append_left _ (List.mem_append_left _ (List.mem_of_getElem? (i := 2) rfl)))) e9 rfl dX11_scoreNow_28 ?_
      refine lv_iload_n hx hb dX11_scoreNow_31 rfl (lv_at hl 3 rfl) ?_
      refine lv_aload_n hx hb dX11_scoreNow_32 rfl (lv_at hl 0 rfl) ?_
      refine lv_iload_n hx hb dX11_scoreNow_33 rfl (lv_at hl 3 rfl) ?_
      refine lv_iload_n hx hb dX11_scoreNow_34 rfl (lv_at hl 2 rfl) ?_
      refine g_calli (va_runV (As := [.int i3, .int i2]) (rest := [.int i3, .ref y8]) CF (c_X11_scoreOf h) (cwV 2 hts gX11_scoreNow_X11_scoreOf rfl rfl rfl (by decide +kernel) ⟨Nat.le_of_ble_eq_true rfl, Nat.le_of_ble_eq_true rfl⟩) (hc.preV hk7 rfl (by decide)) rfl rfl hl.1 rfl (lv_room (Nat.le_of_ble_eq_true rfl)) dX11_scoreNow_35 ⟨Nat.le_of_ble_eq_true rfl, Nat.le_of_ble_eq_true rfl⟩) hc (fun x10 g11 H locs hq hc => ?_)
      replace h := hq
      obtain ⟨hk13, h⟩ := h
      obtain ⟨hi14, h⟩ := h
      refine g_iast CF hc hk13 (x := x10) hi14 dX11_scoreNow_38 (fun H locs hc => ?_)
      obtain ⟨g15, eg16⟩ : ∃ z, z = sU g11 y8 (Int32.toNatClampNeg i3) x10 := ⟨_, rfl⟩
      have hc : gC D cA (gA g0 sz) s g15 H locs := by rw [eg16]; exact hc
      replace h := h g15 eg16
      refine lv_iinc (v := (i3 + 1)) (lv' := [(3, .int (i3 + 1)), (0, .ref r0), (1, .int i1), (2, .int i2)]) hx hb dX11_scoreNow_39 hl (k := 3) rfl rfl (by decide) rfl (fun ls hl => ?_)
      refine lv_goto (tgt := 22) hx hb dX11_scoreNow_42 (by decide) ?_
      exact hk_22 g15 (i3 + 1) h _ _ _ hc (lv_sub hl [1, 2, 3, 0] rfl)
  have hb_18 : ∀ (g : gS), b_X11_scoreNow_18 g Q → ∀ (H : Heap) (locs : List Loc) (ls : Array Slot), gC D cA (gA g0 sz) s g H locs → lv_has ls 4 [] → W p l e r_X11_scoreNow s m args below meth c H locs 0 0 (MQ below (gQi D cA g0 sz (Q)) args s 0 0 (gA g0 sz)) (F0 m 18 ls []) := by
    intro g h H locs ls hc hl
    unfold b_X11_scoreNow_18 at h
    refine lv_iconst (v := (-1)) hx hb dX11_scoreNow_18 (by decide) ?_
    exact g_reti (r := (-1)) CF hr hlk hc rfl h dX11_scoreNow_19
  unfold w_X11_scoreNow at h
  obtain ⟨H, hH0⟩ : ∃ z, z = s.heap := ⟨_, rfl⟩
  rw [← hH0] at hc ⊢
  obtain ⟨locs, hlc0⟩ : ∃ z : List Loc, z = [] := ⟨_, rfl⟩
  rw [← hlc0] at hc ⊢
  refine lv_aload_n hx hb dX11_scoreNow_0 rfl (lv_at hl 0 rfl) ?_
  obtain ⟨hk17, h⟩ := h
  obtain ⟨y18, e19, h⟩ := h
  refine g_getr CF hc hk17 rfl (by decide) (fun _ h9 => List.mem_cons_of_mem _ (List.mem_append_right _ (h9))) (k := 6) (by decide) (List.mem_cons_of_mem _ (List.mem_append_left _ (List.mem_append_left _ (List.mem_of_getElem? (i := 0) rfl)))) e19 rfl dX11_scoreNow_1 ?_
  refine lv_iload_n hx hb dX11_scoreNow_4 rfl (lv_at hl 2 rfl) ?_
  obtain ⟨hk20, h⟩ := h
  obtain ⟨hi21, h⟩ := h
  refine g_zald CF hc hk20 hi21 dX11_scoreNow_5 ?_
  refine lv_if_eq (tgt := 18) hx hb dX11_scoreNow_6 (by decide) (fun c22 => ?_) (fun c22 => ?_)
  · have h := h.1 c22
    exact hb_18 g0 h _ _ _ hc (lv_sub hl [] rfl)
  · have h := h.2 c22
    refine lv_aload_n hx hb dX11_scoreNow_9 rfl (lv_at hl 0 rfl) ?_
    obtain ⟨y23, e24, h⟩ := h
    refine g_getr CF hc hk17 rfl (by decide) (fun _ h9 => List.mem_cons_of_mem _ (List.mem_append_right _ (h9))) (k := 5) (by decide) (List.mem_cons_of_mem _ (List.mem_append_left _ (List.mem_append_left _ (List.mem_of_getElem? (i := 1) rfl)))) e24 rfl dX11_scoreNow_10 ?_
    refine lv_iload_n hx hb dX11_scoreNow_13 rfl (lv_at hl 2 rfl) ?_
    obtain ⟨hk25, h⟩ := h
    obtain ⟨hi26, h⟩ := h
    refine g_zald CF hc hk25 hi26 dX11_scoreNow_14 ?_
    refine lv_if_eq (tgt := 20) hx hb dX11_scoreNow_15 (by decide) (fun c27 => ?_) (fun c27 => ?_)
    · have h := h.1 c27
      refine lv_iconst (v := 0) hx hb dX11_scoreNow_20 (by decide) ?_
      refine lv_istore_n (lv' := [(3, .int 0), (0, .ref p0), (1, .int p1), (2, .int p2)]) hx hb dX11_scoreNow_21 rfl hl (by decide) rfl (fun ls hl => ?_)
      exact hb_22 p0 p1 p2 g0 0 h _ _ _ hc (lv_sub hl [1, 2, 3, 0] rfl)
    · have h := h.2 c27
      exact hb_18 g0 h _ _ _ hc (lv_sub hl [] rfl)
def b_X11_score_35 (g : gS) (is0 : Int32) (Q : Int32 → gS → Prop) : Prop :=
  Q is0 g
def b_X11_score_30 (g : gS) (r0 : Nat) (Q : Int32 → gS → Prop) : Prop :=
  gK g r0 = 12 ∧ (w_X11_no g r0 1 (fun x2 g3 => (b_X11_score_35 g3 x2 Q)))
def w_X11_score (g0 : gS) (p0 : Nat) (p1 : Int32) (p2 : Int32) (Q : Int32 → gS → Prop) : Prop :=
  gK g0 p0 = 12 ∧ (∀ g6, g6 = sU g0 p0 0 0 → (gK g6 p0 = 12 ∧ (w_X11_isNode g6 p0 p1 (fun x9 => ((x9 = 0 → (b_X11_score_30 g6 p0 Q)) ∧ (¬ x9 = 0 → (w_X11_isDocument g6 p0 p2 (fun x12 => ((x12 = 0 → (b_X11_score_30 g6 p0 Q)) ∧ (¬ x12 = 0 → (w_X11_scoreNow g6 p0 p1 p2 (fun x15 g16 => (b_X11_score_35 g16 x15 Q)))))))))))))
abbrev r_X11_score : Room := { frames := 8, cells := 0, slots := 0, locals := 190 }
set_option maxHeartbeats 4000000 in
set_option maxRecDepth 100000 in
theorem c_X11_score {l : Launch} {D : va_G} {cA : Nat → ClassId} {sz : Nat} {g0 : gS} {p0 : Nat} {p1 : Int32} {p2 : Int32} {Q : Int32 → gS → Prop} (h : w_X11_score g0 p0 p1 p2 Q) : Met l yX11_score wsX11_score r_X11_score (va_Pc [.ref p0, .int p1, .int p2] (gPre D cA g0 sz)) (gQi D cA g0 sz (Q)) 0 0 (gA g0 sz) := by
  refine g_met (cc := cX11_score) (maxL := 3) (ret := (some .int)) (own := RX11) (by decide) rfl rfl (Nat.le_of_ble_eq_true rfl) ?_
  intro p e s m args below meth c ls CF hr hlk hnm hc hl
  obtain ⟨hx, hb, hml, hown, hts⟩ := id CF
  have hl : lv_has ls 3 [(0, .ref p0), (1, .int p1), (2, .int p2)] := hl
  show W p l e r_X11_score s m args below meth c s.heap [] 0 0 (MQ below (gQi D cA g0 sz (Q)) args s 0 0 (gA g0 sz)) (F0 m 0 ls [])
  have hb_35 : ∀ (g : gS) (is0 : Int32), b_X11_score_35 g is0 Q → ∀ (H : Heap) (locs : List Loc) (ls : Array Slot), gC D cA (gA g0 sz) s g H locs → lv_has ls 3 [] → W p l e r_X11_score s m args below meth c H locs 0 0 (MQ below (gQi D cA g0 sz (Q)) args s 0 0 (gA g0 sz)) (F0 m 35 ls [.int is0]) := by
    intro g is0 h H locs ls hc hl
    unfold b_X11_score_35 at h
    exact g_reti (r := is0) CF hr hlk hc rfl h dX11_score_35
  have hb_30 : ∀ (g : gS) (r0 : Nat), b_X11_score_30 g r0 Q → ∀ (H : Heap) (locs : List Loc) (ls : Array Slot), gC D cA (gA g0 sz) s g H locs → lv_has ls 3 [(0, .ref r0)] → W p l e r_X11_score s m args below meth c H locs 0 0 (MQ below (gQi D cA g0 sz (Q)) args s 0 0 (gA g0 sz)) (F0 m 30 ls []) := by
    intro g r0 h H locs ls hc hl
    unfold b_X11_score_30 at h
    refine lv_aload_n hx hb dX11_score_30 rfl (lv_at hl 0 rfl) ?_
    refine lv_iconst (v := 1) hx hb dX11_score_31 (by decide) ?_
    obtain ⟨hk1, h⟩ := h
    refine g_calli (va_runV (As := [.int 1]) (rest := []) CF (c_X11_no h) (cwV 1 hts gX11_score_X11_no rfl rfl rfl (by decide +kernel) ⟨Nat.le_of_ble_eq_true rfl, Nat.le_of_ble_eq_true rfl⟩) (hc.preV hk1 rfl (by decide)) rfl rfl hl.1 rfl (lv_room (Nat.le_of_ble_eq_true rfl)) dX11_score_32 ⟨Nat.le_of_ble_eq_true rfl, Nat.le_of_ble_eq_true rfl⟩) hc (fun x2 g3 H locs hq hc => ?_)
    replace h := hq
    exact hb_35 g3 x2 h _ _ _ hc (lv_sub hl [] rfl)
  unfold w_X11_score at h
  obtain ⟨H, hH0⟩ : ∃ z, z = s.heap := ⟨_, rfl⟩
  rw [← hH0] at hc ⊢
  obtain ⟨locs, hlc0⟩ : ∃ z : List Loc, z = [] := ⟨_, rfl⟩
  rw [← hlc0] at hc ⊢
  refine lv_aload_n hx hb dX11_score_0 rfl (lv_at hl 0 rfl) ?_
  refine lv_iconst (v := 0) hx hb dX11_score_1 (by decide) ?_
  obtain ⟨hk5, h⟩ := h
  refine g_puti CF hc hk5 rfl (by decide) (fun _ h9 => List.mem_cons_of_mem _ (List.mem_append_right _ (h9))) tyX11 tyX11_ok nmX11 (k := 0) (by decide) (List.mem_cons_of_mem _ (List.mem_append_left _ (List.mem_append_left _ (List.mem_of_getElem? (i := 0) rfl)))) rfl (v := 0) rfl rfl rfl dX11_score_2 (fun H locs hc => ?_)
  obtain ⟨g6, eg7⟩ : ∃ z, z = sU g0 p0 0 0 := ⟨_, rfl⟩
  have hc : gC D cA (gA g0 sz) s g6 H locs := by rw [eg7]; exact hc
  replace h := h g6 eg7
  refine lv_aload_n hx hb dX11_score_5 rfl (lv_at hl 0 rfl) ?_
  refine lv_iload_n hx hb dX11_score_6 rfl (lv_at hl 1 rfl) ?_
  obtain ⟨hk8, h⟩ := h
  refine g_calli (va_runV (As := [.int p1]) (rest := []) CF (c_X11_isNode h) (cwV 1 hts gX11_score_X11_isNode rfl rfl rfl (by decide +kernel) ⟨Nat.le_of_ble_eq_true rfl, Nat.le_of_ble_eq_true rfl⟩) (hc.preV hk8 rfl (by decide)) rfl rfl hl.1 rfl (lv_room (Nat.le_of_ble_eq_true rfl)) dX11_score_7 ⟨Nat.le_of_ble_eq_true rfl, Nat.le_of_ble_eq_true rfl⟩) hc (fun x9 gq10 H locs hq hc => ?_)
  obtain ⟨rfl, h⟩ := hq
  refine lv_if_eq (tgt := 30) hx hb dX11_score_10 (by decide) (fun c11 => ?_) (fun c11 => ?_)
  · have h := h.1 c11
    exact hb_30 g6 p0 h _ _ _ hc (lv_sub hl [0] rfl)
  · have h := h.2 c11
    refine lv_aload_n hx hb dX11_score_13 rfl (lv_at hl 0 rfl) ?_
    refine lv_iload_n hx hb dX11_score_14 rfl (lv_at hl 2 rfl) ?_
    refine g_calli (va_runV (As := [.int p2]) (rest := []) CF (c_X11_isDocument h) (cwV 1 hts gX11_score_X11_isDocument rfl rfl rfl (by decide +kernel) ⟨Nat.le_of_ble_eq_true rfl, Nat.le_of_ble_eq_true rfl⟩) (hc.preV hk8 rfl (by decide)) rfl rfl hl.1 rfl (lv_room (Nat.le_of_ble_eq_true rfl)) dX11_score_15 ⟨Nat.le_of_ble_eq_true rfl, Nat.le_of_ble_eq_true rfl⟩) hc (fun x12 gq13 H locs hq hc => ?_)
    obtain ⟨rfl, h⟩ := hq
    refine lv_if_eq (tgt := 30) hx hb dX11_score_18 (by decide) (fun c14 => ?_) (fun c14 => ?_)
    · have h := h.1 c14
      exact hb_30 g6 p0 h _ _ _ hc (lv_sub hl [0] rfl)
    · have h := h.2 c14
      refine lv_aload_n hx hb dX11_score_21 rfl (lv_at hl 0 rfl) ?_
      refine lv_iload_n hx hb dX11_score_22 rfl (lv_at hl 1 rfl) ?_
      refine lv_iload_n hx hb dX11_score_23 rfl (lv_at hl 2 rfl) ?_
      refine g_calli (va_runV (As := [.int p1, .int p2]) (rest := []) CF (c_X11_scoreNow h) (cwV 2 hts gX11_score_X11_scoreNow rfl rfl rfl (by decide +kernel) ⟨Nat.le_of_ble_eq_true rfl, Nat.le_of_ble_eq_true rfl⟩) (hc.preV hk8 rfl (by decide)) rfl rfl hl.1 rfl (lv_room (Nat.le_of_ble_eq_true rfl)) dX11_score_24 ⟨Nat.le_of_ble_eq_true rfl, Nat.le_of_ble_eq_true rfl⟩) hc (fun x15 g16 H locs hq hc => ?_)
      replace h := hq
      refine lv_goto (tgt := 35) hx hb dX11_score_27 (by decide) ?_
      exact hb_35 g16 x15 h _ _ _ hc (lv_sub hl [] rfl)
def b_X11_foundNow_27 (g : gS) (r0 : Nat) (i1 : Int32) (i3 : Int32) (is0 : Int32) (is1 : Int32) (Q : Int32 → gS → Prop) (k4 : gS → Int32 → Int32 → Prop) : Prop :=
  k4 g (is0 + is1) (i3 + 1)
def l_X11_foundNow_4 (r0 : Nat) (i1 : Int32) (Q : Int32 → gS → Prop) (g : gS) (i2 : Int32) (i3 : Int32) (k4 : gS → Int32 → Int32 → Prop) : Prop :=
  gK g r0 = 12 ∧ (((gI g r0 1) ≤ i3 → (Q i2 g)) ∧ (¬ (gI g r0 1) ≤ i3 → (w_X11_scoreNow g r0 i1 i3 (fun x3 g4 => ((0 ≤ x3 → (b_X11_foundNow_27 g4 r0 i1 i3 i2 1 Q k4)) ∧ (¬ 0 ≤ x3 → (b_X11_foundNow_27 g4 r0 i1 i3 i2 0 Q k4)))))))
def w_X11_foundNow (g0 : gS) (p0 : Nat) (p1 : Int32) (Q : Int32 → gS → Prop) : Prop :=
  lpx3 (l_X11_foundNow_4 p0 p1 Q) g0 0 0
abbrev r_X11_foundNow : Room := { frames := 8, cells := 0, slots := 0, locals := 190 }
set_option maxHeartbeats 4000000 in
set_option maxRecDepth 100000 in
theorem c_X11_foundNow {l : Launch} {D : va_G} {cA : Nat → ClassId} {sz : Nat} {g0 : gS} {p0 : Nat} {p1 : Int32} {Q : Int32 → gS → Prop} (h : w_X11_foundNow g0 p0 p1 Q) : Met l yX11_foundNow wsX11_foundNow r_X11_foundNow (va_Pc [.ref p0, .int p1] (gPre D cA g0 sz)) (gQi D cA g0 sz (Q)) 0 0 (gA g0 sz) := by
  refine g_met (cc := cX11_foundNow) (maxL := 4) (ret := (some .int)) (own := RX11) (by decide) rfl rfl (Nat.le_of_ble_eq_true rfl) ?_
  intro p e s m args below meth c ls CF hr hlk hnm hc hl
  obtain ⟨hx, hb, hml, hown, hts⟩ := id CF
  have hl : lv_has ls 4 [(0, .ref p0), (1, .int p1)] := hl
  show W p l e r_X11_foundNow s m args below meth c s.heap [] 0 0 (MQ below (gQi D cA g0 sz (Q)) args s 0 0 (gA g0 sz)) (F0 m 0 ls [])
  have hb_4 : ∀ (r0 : Nat) (i1 : Int32), ∀ (g : gS) (i2 : Int32) (i3 : Int32), lpx3 (l_X11_foundNow_4 r0 i1 Q) g i2 i3 → ∀ (H : Heap) (locs : List Loc) (ls : Array Slot), gC D cA (gA g0 sz) s g H locs → lv_has ls 4 [(0, .ref r0), (1, .int i1), (2, .int i2), (3, .int i3)] → W p l e r_X11_foundNow s m args below meth c H locs 0 0 (MQ below (gQi D cA g0 sz (Q)) args s 0 0 (gA g0 sz)) (F0 m 4 ls []) := by
    intro r0 i1
    refine lpx3_run (P := fun (g : gS) (i2 : Int32) (i3 : Int32) => ∀ (H : Heap) (locs : List Loc) (ls : Array Slot), gC D cA (gA g0 sz) s g H locs → lv_has ls 4 [(0, .ref r0), (1, .int i1), (2, .int i2), (3, .int i3)] → W p l e r_X11_foundNow s m args below meth c H locs 0 0 (MQ below (gQi D cA g0 sz (Q)) args s 0 0 (gA g0 sz)) (F0 m 4 ls [])) ?_
    intro k4 hk_4 g i2 i3 h H locs ls hc hl
    have hb_27 : ∀ (g : gS) (i3 : Int32) (is0 : Int32) (is1 : Int32), b_X11_foundNow_27 g r0 i1 i3 is0 is1 Q k4 → ∀ (H : Heap) (locs : List Loc) (ls : Array Slot), gC D cA (gA g0 sz) s g H locs → lv_has ls 4 [(0, .ref r0), (1, .int i1), (3, .int i3)] → W p l e r_X11_foundNow s m args below meth c H locs 0 0 (MQ below (gQi D cA g0 sz (Q)) args s 0 0 (gA g0 sz)) (F0 m 27 ls [.int is1, .int is0]) := by
      intro g i3 is0 is1 h H locs ls hc hl
      unfold b_X11_foundNow_27 at h
      refine lv_iadd hx hb dX11_foundNow_27 ?_
      refine lv_istore_n (lv' := [(2, .int (is0 + is1)), (0, .ref r0), (1, .int i1), (3, .int i3)]) hx hb dX11_foundNow_28 rfl hl (by decide) rfl (fun ls hl => ?_)
      refine lv_iinc (v := (i3 + 1)) (lv' := [(3, .int (i3 + 1)), (2, .int (is0 + is1)), (0, .ref r0), (1, .int i1)]) hx hb dX11_foundNow_29 hl (k := 3) rfl rfl (by decide) rfl (fun ls hl => ?_)
      refine lv_goto (tgt := 4) hx hb dX11_foundNow_32 (by decide) ?_
      exact hk_4 g (is0 + is1) (i3 + 1) h _ _ _ hc (lv_sub hl [2, 3, 1, 0] rfl)
    unfold l_X11_foundNow_4 at h
    refine lv_iload_n hx hb dX11_foundNow_4 rfl (lv_at hl 3 rfl) ?_
    refine lv_aload_n hx hb dX11_foundNow_5 rfl (lv_at hl 0 rfl) ?_
    obtain ⟨hk1, h⟩ := h
    refine g_get CF hc hk1 rfl (by decide) (fun _ h9 => List.mem_cons_of_mem _ (List.mem_append_right _ (h9))) (k := 1) (by decide) (List.mem_cons_of_mem _ (List.mem_append_left _ (List.mem_append_left _ (List.mem_of_getElem? (i := 0) rfl)))) rfl dX11_foundNow_6 ?_
    refine lv_icmp_ge (tgt := 35) hx hb dX11_foundNow_9 (by decide) (fun c2 => ?_) (fun c2 => ?_)
    · have h := h.1 c2
      refine lv_iload_n hx hb dX11_foundNow_35 rfl (lv_at hl 2 rfl) ?_
      exact g_reti (r := i2) CF hr hlk hc rfl h dX11_foundNow_36
    · have h := h.2 c2
      refine lv_iload_n hx hb dX11_foundNow_12 rfl (lv_at hl 2 rfl) ?_
      refine lv_aload_n hx hb dX11_foundNow_13 rfl (lv_at hl 0 rfl) ?_
      refine lv_iload_n hx hb dX11_foundNow_14 rfl (lv_at hl 1 rfl) ?_
      refine lv_iload_n hx hb dX11_foundNow_15 rfl (lv_at hl 3 rfl) ?_
      refine g_calli (va_runV (As := [.int i1, .int i3]) (rest := [.int i2]) CF (c_X11_scoreNow h) (cwV 2 hts gX11_foundNow_X11_scoreNow rfl rfl rfl (by decide +kernel) ⟨Nat.le_of_ble_eq_true rfl, Nat.le_of_ble_eq_true rfl⟩) (hc.preV hk1 rfl (by decide)) rfl rfl hl.1 rfl (lv_room (Nat.le_of_ble_eq_true rfl)) dX11_foundNow_16 ⟨Nat.le_of_ble_eq_true rfl, Nat.le_of_ble_eq_true rfl⟩) hc (fun x3 g4 H locs hq hc => ?_)
      replace h := hq
      refine lv_if_ge (tgt := 26) hx hb dX11_foundNow_19 (by decide) (fun c6 => ?_) (fun c6 => ?_)
      · have h := h.1 c6
        refine lv_iconst (v := 1) hx hb dX11_foundNow_26 (by decide) ?_
        exact hb_27 g4 i3 i2 1 h _ _ _ hc (lv_sub hl [0, 1, 3] rfl)
      · have h := h.2 c6
        refine lv_iconst (v := 0) hx hb dX11_foundNow_22 (by decide) ?_
        refine lv_goto (tgt := 27) hx hb dX11_foundNow_23 (by decide) ?_
        exact hb_27 g4 i3 i2 0 h _ _ _ hc (lv_sub hl [0, 1, 3] rfl)
  unfold w_X11_foundNow at h
  obtain ⟨H, hH0⟩ : ∃ z, z = s.heap := ⟨_, rfl⟩
  rw [← hH0] at hc ⊢
  obtain ⟨locs, hlc0⟩ : ∃ z : List Loc, z = [] := ⟨_, rfl⟩
  rw [← hlc0] at hc ⊢
  refine lv_iconst (v := 0) hx hb dX11_foundNow_0 (by decide) ?_
  refine lv_istore_n (lv' := [(2, .int 0), (0, .ref p0), (1, .int p1)]) hx hb dX11_foundNow_1 rfl hl (by decide) rfl (fun ls hl => ?_)
  refine lv_iconst (v := 0) hx hb dX11_foundNow_2 (by decide) ?_
  refine lv_istore_n (lv' := [(3, .int 0), (2, .int 0), (0, .ref p0), (1, .int p1)]) hx hb dX11_foundNow_3 rfl hl (by decide) rfl (fun ls hl => ?_)
  exact hb_4 p0 p1 g0 0 0 h _ _ _ hc (lv_sub hl [2, 3, 1, 0] rfl)
def b_X11_found_26 (g : gS) (is0 : Int32) (Q : Int32 → gS → Prop) : Prop :=
  Q is0 g
def w_X11_found (g0 : gS) (p0 : Nat) (p1 : Int32) (Q : Int32 → gS → Prop) : Prop :=
  gK g0 p0 = 12 ∧ (∀ g2, g2 = sU g0 p0 0 0 → (gK g2 p0 = 12 ∧ (w_X11_isNode g2 p0 p1 (fun x5 => ((x5 = 0 → (w_X11_no g2 p0 1 (fun x8 g9 => (b_X11_found_26 g9 x8 Q)))) ∧ (¬ x5 = 0 → (w_X11_foundNow g2 p0 p1 (fun x11 g12 => (b_X11_found_26 g12 x11 Q)))))))))
abbrev r_X11_found : Room := { frames := 9, cells := 0, slots := 0, locals := 213 }
set_option maxHeartbeats 4000000 in
set_option maxRecDepth 100000 in
theorem c_X11_found {l : Launch} {D : va_G} {cA : Nat → ClassId} {sz : Nat} {g0 : gS} {p0 : Nat} {p1 : Int32} {Q : Int32 → gS → Prop} (h : w_X11_found g0 p0 p1 Q) : Met l yX11_found wsX11_found r_X11_found (va_Pc [.ref p0, .int p1] (gPre D cA g0 sz)) (gQi D cA g0 sz (Q)) 0 0 (gA g0 sz) := by
  refine g_met (cc := cX11_found) (maxL := 2) (ret := (some .int)) (own := RX11) (by decide) rfl rfl (Nat.le_of_ble_eq_true rfl) ?_
  intro p e s m args below meth c ls CF hr hlk hnm hc hl
  obtain ⟨hx, hb, hml, hown, hts⟩ := id CF
  have hl : lv_has ls 2 [(0, .ref p0), (1, .int p1)] := hl
  show W p l e r_X11_found s m args below meth c s.heap [] 0 0 (MQ below (gQi D cA g0 sz (Q)) args s 0 0 (gA g0 sz)) (F0 m 0 ls [])
  have hb_26 : ∀ (g : gS) (is0 : Int32), b_X11_found_26 g is0 Q → ∀ (H : Heap) (locs : List Loc) (ls : Array Slot), gC D cA (gA g0 sz) s g H locs → lv_has ls 2 [] → W p l e r_X11_found s m args below meth c H locs 0 0 (MQ below (gQi D cA g0 sz (Q)) args s 0 0 (gA g0 sz)) (F0 m 26 ls [.int is0]) := by
    intro g is0 h H locs ls hc hl
    unfold b_X11_found_26 at h
    exact g_reti (r := is0) CF hr hlk hc rfl h dX11_found_26
  unfold w_X11_found at h
  obtain ⟨H, hH0⟩ : ∃ z, z = s.heap := ⟨_, rfl⟩
  rw [← hH0] at hc ⊢
  obtain ⟨locs, hlc0⟩ : ∃ z : List Loc, z = [] := ⟨_, rfl⟩
  rw [← hlc0] at hc ⊢
  refine lv_aload_n hx hb dX11_found_0 rfl (lv_at hl 0 rfl) ?_
  refine lv_iconst (v := 0) hx hb dX11_found_1 (by decide) ?_
  obtain ⟨hk1, h⟩ := h
  refine g_puti CF hc hk1 rfl (by decide) (fun _ h9 => List.mem_cons_of_mem _ (List.mem_append_right _ (h9))) tyX11 tyX11_ok nmX11 (k := 0) (by decide) (List.mem_cons_of_mem _ (List.mem_append_left _ (List.mem_append_left _ (List.mem_of_getElem? (i := 0) rfl)))) rfl (v := 0) rfl rfl rfl dX11_found_2 (fun H locs hc => ?_)
  obtain ⟨g2, eg3⟩ : ∃ z, z = sU g0 p0 0 0 := ⟨_, rfl⟩
  have hc : gC D cA (gA g0 sz) s g2 H locs := by rw [eg3]; exact hc
  replace h := h g2 eg3
  refine lv_aload_n hx hb dX11_found_5 rfl (lv_at hl 0 rfl) ?_
  refine lv_iload_n hx hb dX11_found_6 rfl (lv_at hl 1 rfl) ?_
  obtain ⟨hk4, h⟩ := h
  refine g_calli (va_runV (As := [.int p1]) (rest := []) CF (c_X11_isNode h) (cwV 1 hts gX11_found_X11_isNode rfl rfl rfl (by decide +kernel) ⟨Nat.le_of_ble_eq_true rfl, Nat.le_of_ble_eq_true rfl⟩) (hc.preV hk4 rfl (by decide)) rfl rfl hl.1 rfl (lv_room (Nat.le_of_ble_eq_true rfl)) dX11_found_7 ⟨Nat.le_of_ble_eq_true rfl, Nat.le_of_ble_eq_true rfl⟩) hc (fun x5 gq6 H locs hq hc => ?_)
  obtain ⟨rfl, h⟩ := hq
  refine lv_if_eq (tgt := 21) hx hb dX11_found_10 (by decide) (fun c7 => ?_) (fun c7 => ?_)
  · have h := h.1 c7
    refine lv_aload_n hx hb dX11_found_21 rfl (lv_at hl 0 rfl) ?_
    refine lv_iconst (v := 1) hx hb dX11_found_22 (by decide) ?_
    refine g_calli (va_runV (As := [.int 1]) (rest := []) CF (c_X11_no h) (cwV 1 hts gX11_found_X11_no rfl rfl rfl (by decide +kernel) ⟨Nat.le_of_ble_eq_true rfl, Nat.le_of_ble_eq_true rfl⟩) (hc.preV hk4 rfl (by decide)) rfl rfl hl.1 rfl (lv_room (Nat.le_of_ble_eq_true rfl)) dX11_found_23 ⟨Nat.le_of_ble_eq_true rfl, Nat.le_of_ble_eq_true rfl⟩) hc (fun x8 g9 H locs hq hc => ?_)
    replace h := hq
    exact hb_26 g9 x8 h _ _ _ hc (lv_sub hl [] rfl)
  · have h := h.2 c7
    refine lv_aload_n hx hb dX11_found_13 rfl (lv_at hl 0 rfl) ?_
    refine lv_iload_n hx hb dX11_found_14 rfl (lv_at hl 1 rfl) ?_
    refine g_calli (va_runV (As := [.int p1]) (rest := []) CF (c_X11_foundNow h) (cwV 1 hts gX11_found_X11_foundNow rfl rfl rfl (by decide +kernel) ⟨Nat.le_of_ble_eq_true rfl, Nat.le_of_ble_eq_true rfl⟩) (hc.preV hk4 rfl (by decide)) rfl rfl hl.1 rfl (lv_room (Nat.le_of_ble_eq_true rfl)) dX11_found_15 ⟨Nat.le_of_ble_eq_true rfl, Nat.le_of_ble_eq_true rfl⟩) hc (fun x11 g12 H locs hq hc => ?_)
    replace h := hq
    refine lv_goto (tgt := 26) hx hb dX11_found_18 (by decide) ?_
    exact hb_26 g12 x11 h _ _ _ hc (lv_sub hl [] rfl)
