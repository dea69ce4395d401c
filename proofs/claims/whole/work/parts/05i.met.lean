def b_X10_addNodes_138 (g : gS) (j3 : Int64) (Q : Int64 → gS → Prop) : Prop :=
  Q j3 g
def l_X10_addNodes_106 (g : gS) (r0 : Nat) (i5 : Int32) (r6 : Nat) (i7 : Int32) (Q : Int64 → gS → Prop) (k18 : gS → Int64 → Int32 → Prop) (j3 : Int64) (i8 : Int32) (k106 : Int64 → Int32 → Prop) : Prop :=
  (i7 ≤ i8 → (k18 g j3 (i5 + 1))) ∧ (¬ i7 ≤ i8 → (gK g r6 = 21 ∧ (vp_in i8 (gN g r6) ∧ (k106 ((j3 * 31) + (gI g r6 (Int32.toNatClampNeg i8)).toInt64) (i8 + 1)))))
def l_X10_addNodes_18 (r0 : Nat) (Q : Int64 → gS → Prop) (g : gS) (j3 : Int64) (i5 : Int32) (k18 : gS → Int64 → Int32 → Prop) : Prop :=
  gK g r0 = 11 ∧ (∃ y5, gR g r0 2 = some y5 ∧ (gK g y5 = 7 ∧ (((gI g y5 2) ≤ i5 → (b_X10_addNodes_138 g j3 Q)) ∧ (¬ (gI g y5 2) ≤ i5 → (∃ y9, gR g r0 9 = some y9 ∧ (gK g y9 = 24 ∧ (((nI (gN g y9)) ≤ i5 → (b_X10_addNodes_138 g j3 Q)) ∧ (¬ (nI (gN g y9)) ≤ i5 → (∃ y13, gR g r0 9 = some y13 ∧ (gK g y13 = 24 ∧ (vp_in i5 (gN g y13) ∧ (∃ y17, gR g y13 (Int32.toNatClampNeg i5) = some y17 ∧ (∃ y19, gR g r0 0 = some y19 ∧ (gK g y19 = 1 ∧ (gK g y17 = 21 ∧ (w_X10_countFound g y17 (if (nI (gN g y17)) < (gI g y19 1) then (nI (gN g y17)) else (gI g y19 1)) (fun x23 => (∃ y25, gR g r0 2 = some y25 ∧ (∃ y27, gR g r0 0 = some y27 ∧ (gK g y27 = 1 ∧ (∃ y30, gR g y27 5 = some y30 ∧ (gK g y25 = 7 ∧ (w_X6_entriesOf g y25 i5 y30 (fun x33 g34 => (lpx2 (l_X10_addNodes_106 g34 r0 i5 y17 (if (nI (gN g y17)) < (gI g y19 1) then (nI (gN g y17)) else (gI g y19 1)) Q k18) ((((j3 * 31) + x23.toInt64) * 31) + x33.toInt64) 0)))))))))))))))))))))))))
def w_X10_addNodes (g0 : gS) (p0 : Nat) (p1 : Int64) (Q : Int64 → gS → Prop) : Prop :=
  gK g0 p0 = 11 ∧ (∃ y37, gR g0 p0 2 = some y37 ∧ (gK g0 y37 = 7 ∧ (lpx3 (l_X10_addNodes_18 p0 Q) g0 ((p1 * 31) + (gI g0 y37 2).toInt64) 0)))
abbrev r_X10_addNodes : Room := { frames := 4, cells := 0, slots := 0, locals := 95 }
set_option maxHeartbeats 4000000 in
set_option maxRecDepth 100000 in
theorem c_X10_addNodes {l : Launch} {D : va_G} {cA : Nat → ClassId} {sz : Nat} {g0 : gS} {p0 : Nat} {p1 : Int64} {Q : Int64 → gS → Prop} (h : w_X10_addNodes g0 p0 p1 Q) : Met l yX10_addNodes wsX10_addNodes r_X10_addNodes (va_Pc [.ref p0, .long p1] (gPre D cA g0 sz)) (gQl D cA g0 sz (Q)) 0 0 (gA g0 sz) := by
  refine g_met (cc := cX10_addNodes) (maxL := 9) (ret := (some .long)) (own := RX10) (by decide) rfl rfl (Nat.le_of_ble_eq_true rfl) ?_
  intro p e s m args below meth c ls CF hr hlk hnm hc hl
  obtain ⟨hx, hb, hml, hown, hts⟩ := id CF
  have hl : lv_has ls 9 [(0, .ref p0), (1, .long p1)] := hl
  show W p l e r_X10_addNodes s m args below meth c s.heap [] 0 0 (MQ below (gQl D cA g0 sz (Q)) args s 0 0 (gA g0 sz)) (F0 m 0 ls [])
  have hb_138 : ∀ (g : gS) (j3 : Int64), b_X10_addNodes_138 g j3 Q → ∀ (H : Heap) (locs : List Loc) (ls : Array Slot), gC D cA (gA g0 sz) s g H locs → lv_has ls 9 [(3, .long j3)] → W p l e r_X10_addNodes s m args below meth c H locs 0 0 (MQ below (gQl D cA g0 sz (Q)) args s 0 0 (gA g0 sz)) (F0 m 138 ls []) := by
    intro g j3 h H locs ls hc hl
    unfold b_X10_addNodes_138 at h
    refine lv_lload_n hx hb dX10_addNodes_138 rfl (lv_at hl 0 rfl) ?_
    exact g_retl (r := j3) CF hr hlk hc h dX10_addNodes_139
  have hb_18 : ∀ (r0 : Nat), ∀ (g : gS) (j3 : Int64) (i5 : Int32), lpx3 (l_X10_addNodes_18 r0 Q) g j3 i5 → ∀ (H : Heap) (locs : List Loc) (ls : Array Slot), gC D cA (gA g0 sz) s g H locs → lv_has ls 9 [(0, .ref r0), (3, .long j3), (5, .int i5)] → W p l e r_X10_addNodes s m args below meth c H locs 0 0 (MQ below (gQl D cA g0 sz (Q)) args s 0 0 (gA g0 sz)) (F0 m 18 ls []) := by
    intro r0
    refine lpx3_run (P := fun (g : gS) (j3 : Int64) (i5 : Int32) => ∀ (H : Heap) (locs : List Loc) (ls : Array Slot), gC D cA (gA g0 sz) s g H locs → lv_has ls 9 [(0, .ref r0), (3, .long j3), (5, .int i5)] → W p l e r_X10_addNodes s m args below meth c H locs 0 0 (MQ below (gQl D cA g0 sz (Q)) args s 0 0 (gA g0 sz)) (F0 m 18 ls [])) ?_
    intro k18 hk_18 g j3 i5 h H locs ls hc hl
    have hb_106 : ∀ (g : gS) (i5 : Int32) (r6 : Nat) (i7 : Int32), ∀ (j3 : Int64) (i8 : Int32), lpx2 (l_X10_addNodes_106 g r0 i5 r6 i7 Q k18) j3 i8 → ∀ (H : Heap) (locs : List Loc) (ls : Array Slot), gC D cA (gA g0 sz) s g H locs → lv_has ls 9 [(0, .ref r0), (3, .long j3), (5, .int i5), (6, .ref r6), (7, .int i7), (8, .int i8)] → W p l e r_X10_addNodes s m args below meth c H locs 0 0 (MQ below (gQl D cA g0 sz (Q)) args s 0 0 (gA g0 sz)) (F0 m 106 ls []) := by
      intro g i5 r6 i7
      refine lpx2_run (P := fun (j3 : Int64) (i8 : Int32) => ∀ (H : Heap) (locs : List Loc) (ls : Array Slot), gC D cA (gA g0 sz) s g H locs → lv_has ls 9 [(0, .ref r0), (3, .long j3), (5, .int i5), (6, .ref r6), (7, .int i7), (8, .int i8)] → W p l e r_X10_addNodes s m args below meth c H locs 0 0 (MQ below (gQl D cA g0 sz (Q)) args s 0 0 (gA g0 sz)) (F0 m 106 ls [])) ?_
      intro k106 hk_106 j3 i8 h H locs ls hc hl
      unfold l_X10_addNodes_106 at h
      refine lv_iload hx hb dX10_addNodes_106 (lv_at hl 5 rfl) ?_
      refine lv_iload hx hb dX10_addNodes_108 (lv_at hl 4 rfl) ?_
      refine lv_icmp_ge (tgt := 132) hx hb dX10_addNodes_110 (by decide) (fun c1 => ?_) (fun c1 => ?_)
      · have h := h.1 c1
        refine lv_iinc (v := (i5 + 1)) (lv' := [(5, .int (i5 + 1)), (0, .ref r0), (3, .long j3), (6, .ref r6), (7, .int i7), (8, .int i8)]) hx hb dX10_addNodes_132 hl (k := 2) rfl rfl (by decide) rfl (fun ls hl => ?_)
        refine lv_goto (tgt := 18) hx hb dX10_addNodes_135 (by decide) ?_
        exact hk_18 g j3 (i5 + 1) h _ _ _ hc (lv_sub hl [1, 2, 0] rfl)
      · have h := h.2 c1
        refine lv_lload_n hx hb dX10_addNodes_113 rfl (lv_at hl 1 rfl) ?_
        refine lv_ldc2 (v := 31) hx hb hown (hts _ (List.mem_cons_of_mem _ (List.mem_append_left _ (List.mem_append_left _ (List.mem_append_left _ (List.mem_append_left _ (List.mem_append_left _ (List.mem_append_left _ (List.mem_append_left _ (List.mem_of_getElem? (i := 0) rfl)))))))))) dX10_addNodes_114 ?_
        refine lv_lmul hx hb dX10_addNodes_117 ?_
        refine lv_aload hx hb dX10_addNodes_118 (lv_at hl 3 rfl) ?_
        refine lv_iload hx hb dX10_addNodes_120 (lv_at hl 5 rfl) ?_
        obtain ⟨hk2, h⟩ := h
        obtain ⟨hi3, h⟩ := h
        refine g_iald CF hc hk2 hi3 dX10_addNodes_122 ?_
        refine lv_i2l hx hb dX10_addNodes_123 rfl ?_
        refine lv_ladd hx hb dX10_addNodes_124 ?_
        refine lv_lstore_n (lv' := [(3, .long ((j3 * 31) + (gI g r6 (Int32.toNatClampNeg i8)).toInt64)), (0, .ref r0), (5, .int i5), (6, .ref r6), (7, .int i7), (8, .int i8)]) hx hb dX10_addNodes_125 rfl hl (by decide) rfl (fun ls hl => ?_)
        refine lv_iinc (v := (i8 + 1)) (lv' := [(8, .int (i8 + 1)), (3, .long ((j3 * 31) + (gI g r6 (Int32.toNatClampNeg i8)).toInt64)), (0, .ref r0), (5, .int i5), (6, .ref r6), (7, .int i7)]) hx hb dX10_addNodes_126 hl (k := 5) rfl rfl (by decide) rfl (fun ls hl => ?_)
        refine lv_goto (tgt := 106) hx hb dX10_addNodes_129 (by decide) ?_
        exact hk_106 ((j3 * 31) + (gI g r6 (Int32.toNatClampNeg i8)).toInt64) (i8 + 1) h _ _ _ hc (lv_sub hl [2, 1, 3, 4, 5, 0] rfl)
    unfold l_X10_addNodes_18 at h
    refine lv_iload hx hb dX10_addNodes_18 (lv_at hl 2 rfl) ?_
    refine lv_aload_n hx hb dX10_addNodes_20 rfl (lv_at hl 0 rfl) ?_
    obtain ⟨hk4, h⟩ := h
    obtain ⟨y5, e6, h⟩ := h
    refine g_getr CF hc hk4 rfl (by decide) (fun _ h9 => List.mem_cons_of_mem _ (List.mem_append_left _ (List.mem_append_left _ (List.mem_append_left _ (List.mem_append_left _ (List.mem_append_left _ (List.mem_append_right _ (h9)))))))) (k := 2) (by decide) (List.mem_cons_of_mem _ (List.mem_append_left _ (List.mem_append_left _ (List.mem_append_left _ (List.mem_append_left _ (List.mem_append_left _ (List.mem_append_left _ (List.mem_append_left _ (List.mem_of_getElem? (i := 1) rfl))))))))) e6 rfl dX10_addNodes_21 ?_
    obtain ⟨hk7, h⟩ := h
    refine g_get CF hc hk7 rfl (by decide) (fun _ h9 => List.mem_cons_of_mem _ (List.mem_append_left _ (List.mem_append_left _ (List.mem_append_left _ (List.mem_append_left _ (List.mem_append_right _ (h9))))))) (k := 2) (by decide) (List.mem_cons_of_mem _ (List.mem_append_left _ (List.mem_append_left _ (List.mem_append_left _ (List.mem_append_left _ (List.mem_append_left _ (List.mem_append_left _ (List.mem_append_left _ (List.mem_of_getElem? (i := 2) rfl))))))))) rfl dX10_addNodes_24 ?_
    refine lv_icmp_ge (tgt := 138) hx hb dX10_addNodes_27 (by decide) (fun c8 => ?_) (fun c8 => ?_)
    · have h := h.1 c8
      exact hb_138 g j3 h _ _ _ hc (lv_sub hl [1] rfl)
    · have h := h.2 c8
      refine lv_iload hx hb dX10_addNodes_30 (lv_at hl 2 rfl) ?_
      refine lv_aload_n hx hb dX10_addNodes_32 rfl (lv_at hl 0 rfl) ?_
      obtain ⟨y9, e10, h⟩ := h
      refine g_getr CF hc hk4 rfl (by decide) (fun _ h9 => List.mem_cons_of_mem _ (List.mem_append_left _ (List.mem_append_left _ (List.mem_append_left _ (List.mem_append_left _ (List.mem_append_left _ (List.mem_append_right _ (h9)))))))) (k := 9) (by decide) (List.mem_cons_of_mem _ (List.mem_append_left _ (List.mem_append_left _ (List.mem_append_left _ (List.mem_append_left _ (List.mem_append_left _ (List.mem_append_left _ (List.mem_append_left _ (List.mem_of_getElem? (i := 3) rfl))))))))) e10 rfl dX10_addNodes_33 ?_
      obtain ⟨hk11, h⟩ := h
      refine g_alen CF hc (j := 3) hk11 (by decide) dX10_addNodes_36 ?_
      refine lv_icmp_ge (tgt := 138) hx hb dX10_addNodes_37 (by decide) (fun c12 => ?_) (fun c12 => ?_)
      · have h := h.1 c12
        exact hb_138 g j3 h _ _ _ hc (lv_sub hl [1] rfl)
      · have h := h.2 c12
        refine lv_aload_n hx hb dX10_addNodes_40 rfl (lv_at hl 0 rfl) ?_
        obtain ⟨y13, e14, h⟩ := h
        refine g_getr CF hc hk4 rfl (by decide) (fun _ h9 => List.mem_cons_of_mem _ (List.mem_append_left _ (List.mem_append_left _ (List.mem_append_left _ (List.mem_append_left _ (List.mem_append_left _ (List.mem_append_right _ (h9)))))))) (k := 9) (by decide) (List.mem_cons_of_mem _ (List.mem_append_left _ (List.mem_append_left _ (List.mem_append_left _ (List.mem_append_left _ (List.mem_append_left _ (List.mem_append_left _ (List.mem_append_left _ (List.mem_of_getElem? (i := 3) rfl))))))))) e14 rfl dX10_addNodes_41 ?_
        refine lv_iload hx hb dX10_addNodes_44 (lv_at hl 2 rfl) ?_
        obtain ⟨hk15, h⟩ := h
        obtain ⟨hi16, h⟩ := h
        obtain ⟨y17, e18, h⟩ := h
        refine g_aaldr CF hc hk15 hi16 e18 dX10_addNodes_46 ?_
        refine lv_astore (lv' := [(6, .ref y17), (0, .ref r0), (3, .long j3), (5, .int i5)]) hx hb dX10_addNodes_47 hl (by decide) rfl (fun ls hl => ?_)
        refine lv_aload_n hx hb dX10_addNodes_49 rfl (lv_at hl 1 rfl) ?_
        obtain ⟨y19, e20, h⟩ := h
        refine g_getr CF hc hk4 rfl (by decide) (fun _ h9 => List.mem_cons_of_mem _ (List.mem_append_left _ (List.mem_append_left _ (List.mem_append_left _ (List.mem_append_left _ (List.mem_append_left _ (List.mem_append_right _ (h9)))))))) (k := 0) (by decide) (List.mem_cons_of_mem _ (List.mem_append_left _ (List.mem_append_left _ (List.mem_append_left _ (List.mem_append_left _ (List.mem_append_left _ (List.mem_append_left _ (List.mem_append_left _ (List.mem_of_getElem? (i := 4) rfl))))))))) e20 rfl dX10_addNodes_50 ?_
        obtain ⟨hk21, h⟩ := h
        refine g_get CF hc hk21 rfl (by decide) (fun _ h9 => List.mem_cons_of_mem _ (List.mem_append_left _ (List.mem_append_left _ (List.mem_append_left _ (List.mem_append_right _ (h9)))))) (k := 1) (by decide) (List.mem_cons_of_mem _ (List.mem_append_left _ (List.mem_append_left _ (List.mem_append_left _ (List.mem_append_left _ (List.mem_append_left _ (List.mem_append_left _ (List.mem_append_left _ (List.mem_of_getElem? (i := 5) rfl))))))))) rfl dX10_addNodes_53 ?_
        refine lv_aload hx hb dX10_addNodes_56 (lv_at hl 0 rfl) ?_
        obtain ⟨hk22, h⟩ := h
        refine g_alen CF hc (j := 0) hk22 (by decide) dX10_addNodes_58 ?_
        refine va_mmin hx hb (hml.trans hl.1.symm) hown (hts _ (List.mem_cons_of_mem _ (List.mem_append_left _ (List.mem_append_left _ (List.mem_append_left _ (List.mem_append_left _ (List.mem_append_left _ (List.mem_append_left _ (List.mem_append_left _ (List.mem_of_getElem? (i := 6) rfl)))))))))) (hts _ (List.mem_cons_of_mem _ (List.mem_append_left _ (List.mem_append_left _ (List.mem_append_left _ (List.mem_append_left _ (List.mem_append_left _ (List.mem_append_left _ (List.mem_append_left _ (List.mem_of_getElem? (i := 7) rfl)))))))))) (hts _ (List.mem_cons_of_mem _ (List.mem_append_left _ (List.mem_append_left _ (List.mem_append_left _ (List.mem_append_left _ (List.mem_append_left _ (List.mem_append_left _ (List.mem_append_left _ (List.mem_of_getElem? (i := 8) rfl)))))))))) (hts _ (List.mem_cons_of_mem _ (List.mem_append_left _ (List.mem_append_left _ (List.mem_append_left _ (List.mem_append_left _ (List.mem_append_left _ (List.mem_append_left _ (List.mem_append_left _ (List.mem_of_getElem? (i := 9) rfl)))))))))) (Nat.le_of_ble_eq_true rfl) (Nat.le_of_ble_eq_true rfl) (Nat.le_of_ble_eq_true rfl) (Nat.le_of_ble_eq_true rfl) dX10_addNodes_59 ?_
        refine lv_istore (lv' := [(7, .int (if (nI (gN g y17)) < (gI g y19 1) then (nI (gN g y17)) else (gI g y19 1))), (6, .ref y17), (0, .ref r0), (3, .long j3), (5, .int i5)]) hx hb dX10_addNodes_62 hl (by decide) rfl (fun ls hl => ?_)
        refine lv_lload_n hx hb dX10_addNodes_64 rfl (lv_at hl 3 rfl) ?_
        refine lv_ldc2 (v := 31) hx hb hown (hts _ (List.mem_cons_of_mem _ (List.mem_append_left _ (List.mem_append_left _ (List.mem_append_left _ (List.mem_append_left _ (List.mem_append_left _ (List.mem_append_left _ (List.mem_append_left _ (List.mem_of_getElem? (i := 0) rfl)))))))))) dX10_addNodes_65 ?_
        refine lv_lmul hx hb dX10_addNodes_68 ?_
        refine lv_aload hx hb dX10_addNodes_69 (lv_at hl 1 rfl) ?_
        refine lv_iload hx hb dX10_addNodes_71 (lv_at hl 0 rfl) ?_
        refine g_calli (va_runS (As := [.ref y17, .int (if (nI (gN g y17)) < (gI g y19 1) then (nI (gN g y17)) else (gI g y19 1))]) (rest := [.long (j3 * 31)]) CF (c_X10_countFound h) (va_cwS 2 hts gX10_addNodes_X10_countFound rfl rfl rfl (by decide +kernel) ⟨Nat.le_of_ble_eq_true rfl, Nat.le_of_ble_eq_true rfl⟩) hc.preS rfl rfl hl.1 rfl (lv_room (Nat.le_of_ble_eq_true rfl)) dX10_addNodes_73 ⟨Nat.le_of_ble_eq_true rfl, Nat.le_of_ble_eq_true rfl⟩) hc (fun x23 gq24 H locs hq hc => ?_)
        obtain ⟨rfl, h⟩ := hq
        refine lv_i2l hx hb dX10_addNodes_76 rfl ?_
        refine lv_ladd hx hb dX10_addNodes_77 ?_
        refine lv_lstore_n (lv' := [(3, .long ((j3 * 31) + x23.toInt64)), (7, .int (if (nI (gN g y17)) < (gI g y19 1) then (nI (gN g y17)) else (gI g y19 1))), (6, .ref y17), (0, .ref r0), (5, .int i5)]) hx hb dX10_addNodes_78 rfl hl (by decide) rfl (fun ls hl => ?_)
        refine lv_lload_n hx hb dX10_addNodes_79 rfl (lv_at hl 0 rfl) ?_
        refine lv_ldc2 (v := 31) hx hb hown (hts _ (List.mem_cons_of_mem _ (List.mem_append_left _ (List.mem_append_left _ (List.mem_append_left _ (List.mem_append_left _ (List.mem_append_left _ (List.mem_append_left _ (List.mem_append_left _ (List.mem_of_getElem? (i := 0) rfl)))))))))) dX10_addNodes_80 ?_
        refine lv_lmul hx hb dX10_addNodes_83 ?_
        refine lv_aload_n hx hb dX10_addNodes_84 rfl (lv_at hl 3 rfl) ?_
        obtain ⟨y25, e26, h⟩ := h
        refine g_getr CF hc hk4 rfl (by decide) (fun _ h9 => List.mem_cons_of_mem _ (List.mem_append_left _ (List.mem_append_left _ (List.mem_append_left _ (List.mem_append_left _ (List.mem_append_left _ (List.mem_append_right _ (h9)))))))) (k := 2) (by decide) (List.mem_cons_of_mem _ (List.mem_append_left _ (List.mem_append_left _ (List.mem_append_left _ (List.mem_append_left _ (List.mem_append_left _ (List.mem_append_left _ (List.mem_append_left _ (List.mem_of_getElem? (i := 1) rfl))))))))) e26 rfl dX10_addNodes_85 ?_
        refine lv_iload hx hb dX10_addNodes_88 (lv_at hl 4 rfl) ?_
        refine lv_aload_n hx hb dX10_addNodes_90 rfl (lv_at hl 3 rfl) ?_
        obtain ⟨y27, e28, h⟩ := h
        refine g_getr CF hc hk4 rfl (by decide) (fun _ h9 => List.mem_cons_of_mem _ (List.mem_append_left _ (List.mem_append_left _ (List.mem_append_left _ (List.mem_append_left _ (List.mem_append_left _ (List.mem_append_right _ (h9)))))))) (k := 0) (by decide) (List.mem_cons_of_mem _ (List.mem_append_left _ (List.mem_append_left _ (List.mem_append_left _ (List.mem_append_left _ (List.mem_append_left _ (List.mem_append_left _ (List.mem_append_left _ (List.mem_of_getElem? (i := 4) rfl))))))))) e28 rfl dX10_addNodes_91 ?_
        obtain ⟨hk29, h⟩ := h
        obtain ⟨y30, e31, h⟩ := h
        refine g_getr CF hc hk29 rfl (by decide) (fun _ h9 => List.mem_cons_of_mem _ (List.mem_append_left _ (List.mem_append_left _ (List.mem_append_left _ (List.mem_append_right _ (h9)))))) (k := 5) (by decide) (List.mem_cons_of_mem _ (List.mem_append_left _ (List.mem_append_left _ (List.mem_append_left _ (List.mem_append_left _ (List.mem_append_left _ (List.mem_append_left _ (List.mem_append_left _ (List.mem_of_getElem? (i := 10) rfl))))))))) e31 rfl dX10_addNodes_94 ?_
        obtain ⟨hk32, h⟩ := h
        refine g_calli (va_runV (As := [.int i5, .ref y30]) (rest := [.long (((j3 * 31) + x23.toInt64) * 31)]) CF (c_X6_entriesOf h) (cwV 2 hts gX10_addNodes_X6_entriesOf rfl rfl rfl (by decide +kernel) ⟨Nat.le_of_ble_eq_true rfl, Nat.le_of_ble_eq_true rfl⟩) (hc.preV hk32 rfl (by decide)) rfl rfl hl.1 rfl (lv_room (Nat.le_of_ble_eq_true rfl)) dX10_addNodes_97 ⟨Nat.le_of_ble_eq_true rfl, Nat.le_of_ble_eq_true rfl⟩) hc (fun x33 g34 H locs hq hc => ?_)
        replace h := hq
        refine lv_i2l hx hb dX10_addNodes_100 rfl ?_
        refine lv_ladd hx hb dX10_addNodes_101 ?_
        refine lv_lstore_n (lv' := [(3, .long ((((j3 * 31) + x23.toInt64) * 31) + x33.toInt64)), (7, .int (if (nI (gN g y17)) < (gI g y19 1) then (nI (gN g y17)) else (gI g y19 1))), (6, .ref y17), (0, .ref r0), (5, .int i5)]) hx hb dX10_addNodes_102 rfl hl (by decide) rfl (fun ls hl => ?_)
        refine lv_iconst (v := 0) hx hb dX10_addNodes_103 (by decide) ?_
        refine lv_istore (lv' := [(8, .int 0), (3, .long ((((j3 * 31) + x23.toInt64) * 31) + x33.toInt64)), (7, .int (if (nI (gN g y17)) < (gI g y19 1) then (nI (gN g y17)) else (gI g y19 1))), (6, .ref y17), (0, .ref r0), (5, .int i5)]) hx hb dX10_addNodes_104 hl (by decide) rfl (fun ls hl => ?_)
        exact hb_106 g34 i5 y17 (if (nI (gN g y17)) < (gI g y19 1) then (nI (gN g y17)) else (gI g y19 1)) ((((j3 * 31) + x23.toInt64) * 31) + x33.toInt64) 0 h _ _ _ hc (lv_sub hl [4, 1, 5, 3, 2, 0] rfl)
  unfold w_X10_addNodes at h
  obtain ⟨H, hH0⟩ : ∃ z, z = s.heap := ⟨_, rfl⟩
  rw [← hH0] at hc ⊢
  obtain ⟨locs, hlc0⟩ : ∃ z : List Loc, z = [] := ⟨_, rfl⟩
  rw [← hlc0] at hc ⊢
  refine lv_lload_n hx hb dX10_addNodes_0 rfl (lv_at hl 1 rfl) ?_
  refine lv_ldc2 (v := 31) hx hb hown (hts _ (List.mem_cons_of_mem _ (List.mem_append_left _ (List.mem_append_left _ (List.mem_append_left _ (List.mem_append_left _ (List.mem_append_left _ (List.mem_append_left _ (List.mem_append_left _ (List.mem_of_getElem? (i := 0) rfl)))))))))) dX10_addNodes_1 ?_
  refine lv_lmul hx hb dX10_addNodes_4 ?_
  refine lv_aload_n hx hb dX10_addNodes_5 rfl (lv_at hl 0 rfl) ?_
  obtain ⟨hk36, h⟩ := h
  obtain ⟨y37, e38, h⟩ := h
  refine g_getr CF hc hk36 rfl (by decide) (fun _ h9 => List.mem_cons_of_mem _ (List.mem_append_left _ (List.mem_append_left _ (List.mem_append_left _ (List.mem_append_left _ (List.mem_append_left _ (List.mem_append_right _ (h9)))))))) (k := 2) (by decide) (List.mem_cons_of_mem _ (List.mem_append_left _ (List.mem_append_left _ (List.mem_append_left _ (List.mem_append_left _ (List.mem_append_left _ (List.mem_append_left _ (List.mem_append_left _ (List.mem_of_getElem? (i := 1) rfl))))))))) e38 rfl dX10_addNodes_6 ?_
  obtain ⟨hk39, h⟩ := h
  refine g_get CF hc hk39 rfl (by decide) (fun _ h9 => List.mem_cons_of_mem _ (List.mem_append_left _ (List.mem_append_left _ (List.mem_append_left _ (List.mem_append_left _ (List.mem_append_right _ (h9))))))) (k := 2) (by decide) (List.mem_cons_of_mem _ (List.mem_append_left _ (List.mem_append_left _ (List.mem_append_left _ (List.mem_append_left _ (List.mem_append_left _ (List.mem_append_left _ (List.mem_append_left _ (List.mem_of_getElem? (i := 2) rfl))))))))) rfl dX10_addNodes_9 ?_
  refine lv_i2l hx hb dX10_addNodes_12 rfl ?_
  refine lv_ladd hx hb dX10_addNodes_13 ?_
  refine lv_lstore_n (lv' := [(3, .long ((p1 * 31) + (gI g0 y37 2).toInt64)), (0, .ref p0), (1, .long p1)]) hx hb dX10_addNodes_14 rfl hl (by decide) rfl (fun ls hl => ?_)
  refine lv_iconst (v := 0) hx hb dX10_addNodes_15 (by decide) ?_
  refine lv_istore (lv' := [(5, .int 0), (3, .long ((p1 * 31) + (gI g0 y37 2).toInt64)), (0, .ref p0), (1, .long p1)]) hx hb dX10_addNodes_16 hl (by decide) rfl (fun ls hl => ?_)
  exact hb_18 p0 g0 ((p1 * 31) + (gI g0 y37 2).toInt64) 0 h _ _ _ hc (lv_sub hl [2, 1, 0] rfl)
def l_X10_addResults_73 (g : gS) (r0 : Nat) (Q : Int64 → Prop) (j3 : Int64) (i5 : Int32) (k73 : Int64 → Int32 → Prop) : Prop :=
  (8 ≤ i5 → (Q j3)) ∧ (¬ 8 ≤ i5 → (gK g r0 = 11 ∧ (∃ y3, gR g r0 3 = some y3 ∧ (gK g y3 = 8 ∧ (w_X7_countKind g y3 i5 (fun x6 => (k73 ((j3 * 31) + x6.toInt64) (i5 + 1))))))))
def l_X10_addResults_18 (g : gS) (r0 : Nat) (Q : Int64 → Prop) (j3 : Int64) (i5 : Int32) (k18 : Int64 → Int32 → Prop) : Prop :=
  gK g r0 = 11 ∧ (∃ y9, gR g r0 3 = some y9 ∧ (gK g y9 = 8 ∧ (((gI g y9 3) ≤ i5 → (lpx2 (l_X10_addResults_73 g r0 Q) j3 0)) ∧ (¬ (gI g y9 3) ≤ i5 → (∃ y13, gR g r0 3 = some y13 ∧ (gK g y13 = 8 ∧ (w_X7_numberAt g y13 i5 (fun x16 => (∃ y18, gR g r0 3 = some y18 ∧ (gK g y18 = 8 ∧ (w_X7_valueAt g y18 i5 (fun x21 => (k18 ((((j3 * 31) + x16.toInt64) * 31) + x21.toInt64) (i5 + 1))))))))))))))
def w_X10_addResults (g : gS) (p0 : Nat) (p1 : Int64) (Q : Int64 → Prop) : Prop :=
  gK g p0 = 11 ∧ (∃ y24, gR g p0 3 = some y24 ∧ (gK g y24 = 8 ∧ (lpx2 (l_X10_addResults_18 g p0 Q) ((p1 * 31) + (gI g y24 3).toInt64) 0)))
abbrev r_X10_addResults : Room := { frames := 3, cells := 0, slots := 0, locals := 66 }
set_option maxHeartbeats 4000000 in
set_option maxRecDepth 100000 in
theorem c_X10_addResults {l : Launch} {D : va_G} {cA : Nat → ClassId} {sz : Nat} {g : gS} {p0 : Nat} {p1 : Int64} {Q : Int64 → Prop} (h : w_X10_addResults g p0 p1 Q) : Met l yX10_addResults wsX10_addResults r_X10_addResults (va_Pc [.ref p0, .long p1] (gPre D cA g sz)) (gQl D cA g sz (fun r g2 => g = g2 ∧ Q r)) 0 0 (gA g sz) := by
  refine g_met (cc := cX10_addResults) (maxL := 6) (ret := (some .long)) (own := RX10) (by decide) rfl rfl (Nat.le_of_ble_eq_true rfl) ?_
  intro p e s m args below meth c ls CF hr hlk hnm hc hl
  obtain ⟨hx, hb, hml, hown, hts⟩ := id CF
  have hl : lv_has ls 6 [(0, .ref p0), (1, .long p1)] := hl
  show W p l e r_X10_addResults s m args below meth c s.heap [] 0 0 (MQ below (gQl D cA g sz (fun r g2 => g = g2 ∧ Q r)) args s 0 0 (gA g sz)) (F0 m 0 ls [])
  have hb_73 : ∀ (r0 : Nat), ∀ (j3 : Int64) (i5 : Int32), lpx2 (l_X10_addResults_73 g r0 Q) j3 i5 → ∀ (H : Heap) (locs : List Loc) (ls : Array Slot), gC D cA (gA g sz) s g H locs → lv_has ls 6 [(0, .ref r0), (3, .long j3), (5, .int i5)] → W p l e r_X10_addResults s m args below meth c H locs 0 0 (MQ below (gQl D cA g sz (fun r g2 => g = g2 ∧ Q r)) args s 0 0 (gA g sz)) (F0 m 73 ls []) := by
    intro r0
    refine lpx2_run (P := fun (j3 : Int64) (i5 : Int32) => ∀ (H : Heap) (locs : List Loc) (ls : Array Slot), gC D cA (gA g sz) s g H locs → lv_has ls 6 [(0, .ref r0), (3, .long j3), (5, .int i5)] → W p l e r_X10_addResults s m args below meth c H locs 0 0 (MQ below (gQl D cA g sz (fun r g2 => g = g2 ∧ Q r)) args s 0 0 (gA g sz)) (F0 m 73 ls [])) ?_
    intro k73 hk_73 j3 i5 h H locs ls hc hl
    unfold l_X10_addResults_73 at h
    refine lv_iload hx hb dX10_addResults_73 (lv_at hl 2 rfl) ?_
    refine lv_bipush (v := 8) hx hb dX10_addResults_75 (by decide) ?_
    refine lv_icmp_ge (tgt := 103) hx hb dX10_addResults_77 (by decide) (fun c1 => ?_) (fun c1 => ?_)
    · have h := h.1 c1
      refine lv_lload_n hx hb dX10_addResults_103 rfl (lv_at hl 1 rfl) ?_
      exact g_retl (r := j3) CF hr hlk hc ⟨rfl, h⟩ dX10_addResults_104
    · have h := h.2 c1
      refine lv_lload_n hx hb dX10_addResults_80 rfl (lv_at hl 1 rfl) ?_
      refine lv_ldc2 (v := 31) hx hb hown (hts _ (List.mem_cons_of_mem _ (List.mem_append_left _ (List.mem_append_left _ (List.mem_append_left _ (List.mem_append_left _ (List.mem_of_getElem? (i := 0) rfl))))))) dX10_addResults_81 ?_
      refine lv_lmul hx hb dX10_addResults_84 ?_
      refine lv_aload_n hx hb dX10_addResults_85 rfl (lv_at hl 0 rfl) ?_
      obtain ⟨hk2, h⟩ := h
      obtain ⟨y3, e4, h⟩ := h
      refine g_getr CF hc hk2 rfl (by decide) (fun _ h9 => List.mem_cons_of_mem _ (List.mem_append_left _ (List.mem_append_left _ (List.mem_append_right _ (h9))))) (k := 3) (by decide) (List.mem_cons_of_mem _ (List.mem_append_left _ (List.mem_append_left _ (List.mem_append_left _ (List.mem_append_left _ (List.mem_of_getElem? (i := 1) rfl)))))) e4 rfl dX10_addResults_86 ?_
      refine lv_iload hx hb dX10_addResults_89 (lv_at hl 2 rfl) ?_
      obtain ⟨hk5, h⟩ := h
      refine g_calli (va_runV (As := [.int i5]) (rest := [.long (j3 * 31)]) CF (c_X7_countKind h) (cwV 1 hts gX10_addResults_X7_countKind rfl rfl rfl (by decide +kernel) ⟨Nat.le_of_ble_eq_true rfl, Nat.le_of_ble_eq_true rfl⟩) (hc.preV hk5 rfl (by decide)) rfl rfl hl.1 rfl (lv_room (Nat.le_of_ble_eq_true rfl)) dX10_addResults_91 ⟨Nat.le_of_ble_eq_true rfl, Nat.le_of_ble_eq_true rfl⟩) hc (fun x6 gq7 H locs hq hc => ?_)
      obtain ⟨rfl, h⟩ := hq
      refine lv_i2l hx hb dX10_addResults_94 rfl ?_
      refine lv_ladd hx hb dX10_addResults_95 ?_
      refine lv_lstore_n (lv' := [(3, .long ((j3 * 31) + x6.toInt64)), (0, .ref r0), (5, .int i5)]) hx hb dX10_addResults_96 rfl hl (by decide) rfl (fun ls hl => ?_)
      refine lv_iinc (v := (i5 + 1)) (lv' := [(5, .int (i5 + 1)), (3, .long ((j3 * 31) + x6.toInt64)), (0, .ref r0)]) hx hb dX10_addResults_97 hl (k := 2) rfl rfl (by decide) rfl (fun ls hl => ?_)
      refine lv_goto (tgt := 73) hx hb dX10_addResults_100 (by decide) ?_
      exact hk_73 ((j3 * 31) + x6.toInt64) (i5 + 1) h _ _ _ hc (lv_sub hl [2, 1, 0] rfl)
  have hb_18 : ∀ (r0 : Nat), ∀ (j3 : Int64) (i5 : Int32), lpx2 (l_X10_addResults_18 g r0 Q) j3 i5 → ∀ (H : Heap) (locs : List Loc) (ls : Array Slot), gC D cA (gA g sz) s g H locs → lv_has ls 6 [(0, .ref r0), (3, .long j3), (5, .int i5)] → W p l e r_X10_addResults s m args below meth c H locs 0 0 (MQ below (gQl D cA g sz (fun r g2 => g = g2 ∧ Q r)) args s 0 0 (gA g sz)) (F0 m 18 ls []) := by
    intro r0
    refine lpx2_run (P := fun (j3 : Int64) (i5 : Int32) => ∀ (H : Heap) (locs : List Loc) (ls : Array Slot), gC D cA (gA g sz) s g H locs → lv_has ls 6 [(0, .ref r0), (3, .long j3), (5, .int i5)] → W p l e r_X10_addResults s m args below meth c H locs 0 0 (MQ below (gQl D cA g sz (fun r g2 => g = g2 ∧ Q r)) args s 0 0 (gA g sz)) (F0 m 18 ls [])) ?_
    intro k18 hk_18 j3 i5 h H locs ls hc hl
    unfold l_X10_addResults_18 at h
    refine lv_iload hx hb dX10_addResults_18 (lv_at hl 2 rfl) ?_
    refine lv_aload_n hx hb dX10_addResults_20 rfl (lv_at hl 0 rfl) ?_
    obtain ⟨hk8, h⟩ := h
    obtain ⟨y9, e10, h⟩ := h
    refine g_getr CF hc hk8 rfl (by decide) (fun _ h9 => List.mem_cons_of_mem _ (List.mem_append_left _ (List.mem_append_left _ (List.mem_append_right _ (h9))))) (k := 3) (by decide) (List.mem_cons_of_mem _ (List.mem_append_left _ (List.mem_append_left _ (List.mem_append_left _ (List.mem_append_left _ (List.mem_of_getElem? (i := 1) rfl)))))) e10 rfl dX10_addResults_21 ?_
    obtain ⟨hk11, h⟩ := h
    refine g_get CF hc hk11 rfl (by decide) (fun _ h9 => List.mem_cons_of_mem _ (List.mem_append_left _ (List.mem_append_right _ (h9)))) (k := 3) (by decide) (List.mem_cons_of_mem _ (List.mem_append_left _ (List.mem_append_left _ (List.mem_append_left _ (List.mem_append_left _ (List.mem_of_getElem? (i := 2) rfl)))))) rfl dX10_addResults_24 ?_
    refine lv_icmp_ge (tgt := 70) hx hb dX10_addResults_27 (by decide) (fun c12 => ?_) (fun c12 => ?_)
    · have h := h.1 c12
      refine lv_iconst (v := 0) hx hb dX10_addResults_70 (by decide) ?_
      refine lv_istore (lv' := [(5, .int 0), (0, .ref r0), (3, .long j3)]) hx hb dX10_addResults_71 hl (by decide) rfl (fun ls hl => ?_)
      exact hb_73 r0 j3 0 h _ _ _ hc (lv_sub hl [1, 2, 0] rfl)
    · have h := h.2 c12
      refine lv_lload_n hx hb dX10_addResults_30 rfl (lv_at hl 1 rfl) ?_
      refine lv_ldc2 (v := 31) hx hb hown (hts _ (List.mem_cons_of_mem _ (List.mem_append_left _ (List.mem_append_left _ (List.mem_append_left _ (List.mem_append_left _ (List.mem_of_getElem? (i := 0) rfl))))))) dX10_addResults_31 ?_
      refine lv_lmul hx hb dX10_addResults_34 ?_
      refine lv_aload_n hx hb dX10_addResults_35 rfl (lv_at hl 0 rfl) ?_
      obtain ⟨y13, e14, h⟩ := h
      refine g_getr CF hc hk8 rfl (by decide) (fun _ h9 => List.mem_cons_of_mem _ (List.mem_append_left _ (List.mem_append_left _ (List.mem_append_right _ (h9))))) (k := 3) (by decide) (List.mem_cons_of_mem _ (List.mem_append_left _ (List.mem_append_left _ (List.mem_append_left _ (List.mem_append_left _ (List.mem_of_getElem? (i := 1) rfl)))))) e14 rfl dX10_addResults_36 ?_
      refine lv_iload hx hb dX10_addResults_39 (lv_at hl 2 rfl) ?_
      obtain ⟨hk15, h⟩ := h
      refine g_calli (va_runV (As := [.int i5]) (rest := [.long (j3 * 31)]) CF (c_X7_numberAt h) (cwV 1 hts gX10_addResults_X7_numberAt rfl rfl rfl (by decide +kernel) ⟨Nat.le_of_ble_eq_true rfl, Nat.le_of_ble_eq_true rfl⟩) (hc.preV hk15 rfl (by decide)) rfl rfl hl.1 rfl (lv_room (Nat.le_of_ble_eq_true rfl)) dX10_addResults_41 ⟨Nat.le_of_ble_eq_true rfl, Nat.le_of_ble_eq_true rfl⟩) hc (fun x16 gq17 H locs hq hc => ?_)
      obtain ⟨rfl, h⟩ := hq
      refine lv_i2l hx hb dX10_addResults_44 rfl ?_
      refine lv_ladd hx hb dX10_addResults_45 ?_
      refine lv_lstore_n (lv' := [(3, .long ((j3 * 31) + x16.toInt64)), (0, .ref r0), (5, .int i5)]) hx hb dX10_addResults_46 rfl hl (by decide) rfl (fun ls hl => ?_)
      refine lv_lload_n hx hb dX10_addResults_47 rfl (lv_at hl 0 rfl) ?_
      refine lv_ldc2 (v := 31) hx hb hown (hts _ (List.mem_cons_of_mem _ (List.mem_append_left _ (List.mem_append_left _ (List.mem_append_left _ (List.mem_append_left _ (List.mem_of_getElem? (i := 0) rfl))))))) dX10_addResults_48 ?_
      refine lv_lmul hx hb dX10_addResults_51 ?_
      refine lv_aload_n hx hb dX10_addResults_52 rfl (lv_at hl 1 rfl) ?_
      obtain ⟨y18, e19, h⟩ := h
      refine g_getr CF hc hk8 rfl (by decide) (fun _ h9 => List.mem_cons_of_mem _ (List.mem_append_left _ (List.mem_append_left _ (List.mem_append_right _ (h9))))) (k := 3) (by decide) (List.mem_cons_of_mem _ (List.mem_append_left _ (List.mem_append_left _ (List.mem_append_left _ (List.mem_append_left _ (List.mem_of_getElem? (i := 1) rfl)))))) e19 rfl dX10_addResults_53 ?_
      refine lv_iload hx hb dX10_addResults_56 (lv_at hl 2 rfl) ?_
      obtain ⟨hk20, h⟩ := h
      refine g_calli (va_runV (As := [.int i5]) (rest := [.long (((j3 * 31) + x16.toInt64) * 31)]) CF (c_X7_valueAt h) (cwV 1 hts gX10_addResults_X7_valueAt rfl rfl rfl (by decide +kernel) ⟨Nat.le_of_ble_eq_true rfl, Nat.le_of_ble_eq_true rfl⟩) (hc.preV hk20 rfl (by decide)) rfl rfl hl.1 rfl (lv_room (Nat.le_of_ble_eq_true rfl)) dX10_addResults_58 ⟨Nat.le_of_ble_eq_true rfl, Nat.le_of_ble_eq_true rfl⟩) hc (fun x21 gq22 H locs hq hc => ?_)
      obtain ⟨rfl, h⟩ := hq
      refine lv_i2l hx hb dX10_addResults_61 rfl ?_
      refine lv_ladd hx hb dX10_addResults_62 ?_
      refine lv_lstore_n (lv' := [(3, .long ((((j3 * 31) + x16.toInt64) * 31) + x21.toInt64)), (0, .ref r0), (5, .int i5)]) hx hb dX10_addResults_63 rfl hl (by decide) rfl (fun ls hl => ?_)
      refine lv_iinc (v := (i5 + 1)) (lv' := [(5, .int (i5 + 1)), (3, .long ((((j3 * 31) + x16.toInt64) * 31) + x21.toInt64)), (0, .ref r0)]) hx hb dX10_addResults_64 hl (k := 2) rfl rfl (by decide) rfl (fun ls hl => ?_)
      refine lv_goto (tgt := 18) hx hb dX10_addResults_67 (by decide) ?_
      exact hk_18 ((((j3 * 31) + x16.toInt64) * 31) + x21.toInt64) (i5 + 1) h _ _ _ hc (lv_sub hl [2, 1, 0] rfl)
  unfold w_X10_addResults at h
  obtain ⟨H, hH0⟩ : ∃ z, z = s.heap := ⟨_, rfl⟩
  rw [← hH0] at hc ⊢
  obtain ⟨locs, hlc0⟩ : ∃ z : List Loc, z = [] := ⟨_, rfl⟩
  rw [← hlc0] at hc ⊢
  refine lv_lload_n hx hb dX10_addResults_0 rfl (lv_at hl 1 rfl) ?_
  refine lv_ldc2 (v := 31) hx hb hown (hts _ (List.mem_cons_of_mem _ (List.mem_append_left _ (List.mem_append_left _ (List.mem_append_left _ (List.mem_append_left _ (List.mem_of_getElem? (i := 0) rfl))))))) dX10_addResults_1 ?_
  refine lv_lmul hx hb dX10_addResults_4 ?_
  refine lv_aload_n hx hb dX10_addResults_5 rfl (lv_at hl 0 rfl) ?_
  obtain ⟨hk23, h⟩ := h
  obtain ⟨y24, e25, h⟩ := h
  refine g_getr CF hc hk23 rfl (by decide) (fun _ h9 => List.mem_cons_of_mem _ (List.mem_append_left _ (List.mem_append_left _ (List.mem_append_right _ (h9))))) (k := 3) (by decide) (List.mem_cons_of_mem _ (List.mem_append_left _ (List.mem_append_left _ (List.mem_append_left _ (List.mem_append_left _ (List.mem_of_getElem? (i := 1) rfl)))))) e25 rfl dX10_addResults_6 ?_
  obtain ⟨hk26, h⟩ := h
  refine g_get CF hc hk26 rfl (by decide) (fun _ h9 => List.mem_cons_of_mem _ (List.mem_append_left _ (List.mem_append_right _ (h9)))) (k := 3) (by decide) (List.mem_cons_of_mem _ (List.mem_append_left _ (List.mem_append_left _ (List.mem_append_left _ (List.mem_append_left _ (List.mem_of_getElem? (i := 2) rfl)))))) rfl dX10_addResults_9 ?_
  refine lv_i2l hx hb dX10_addResults_12 rfl ?_
  refine lv_ladd hx hb dX10_addResults_13 ?_
  refine lv_lstore_n (lv' := [(3, .long ((p1 * 31) + (gI g y24 3).toInt64)), (0, .ref p0), (1, .long p1)]) hx hb dX10_addResults_14 rfl hl (by decide) rfl (fun ls hl => ?_)
  refine lv_iconst (v := 0) hx hb dX10_addResults_15 (by decide) ?_
  refine lv_istore (lv' := [(5, .int 0), (3, .long ((p1 * 31) + (gI g y24 3).toInt64)), (0, .ref p0), (1, .long p1)]) hx hb dX10_addResults_16 hl (by decide) rfl (fun ls hl => ?_)
  exact hb_18 p0 ((p1 * 31) + (gI g y24 3).toInt64) 0 h _ _ _ hc (lv_sub hl [2, 1, 0] rfl)
def l_X10_digest_26 (r0 : Nat) (Q : Int64 → gS → Prop) (g : gS) (j1 : Int64) (i3 : Int32) (k26 : gS → Int64 → Int32 → Prop) : Prop :=
  gK g r0 = 11 ∧ (∃ y2, gR g r0 0 = some y2 ∧ (gK g y2 = 1 ∧ (((gI g y2 1) ≤ i3 → (Q j1 g)) ∧ (¬ (gI g y2 1) ≤ i3 → (∃ y6, gR g r0 4 = some y6 ∧ (gK g y6 = 4 ∧ (w_X3_mostLike g y6 i3 (fun x9 g10 => (k26 g10 ((j1 * 31) + x9.toInt64) (i3 + 1))))))))))
def w_X10_digest (g0 : gS) (p0 : Nat) (Q : Int64 → gS → Prop) : Prop :=
  gK g0 p0 = 11 ∧ (w_X10_addArchive g0 p0 2609 (fun z13 => (w_X10_fillScoresByNode g0 p0 (fun g16 => (gK g16 p0 = 11 ∧ (w_X10_addNodes g16 p0 z13 (fun z19 g20 => (gK g20 p0 = 11 ∧ (w_X10_addResults g20 p0 z19 (fun z23 => (lpx3 (l_X10_digest_26 p0 Q) g20 z23 0)))))))))))
abbrev r_X10_digest : Room := { frames := 6, cells := 0, slots := 0, locals := 151 }
set_option maxHeartbeats 4000000 in
set_option maxRecDepth 100000 in
theorem c_X10_digest {l : Launch} {D : va_G} {cA : Nat → ClassId} {sz : Nat} {g0 : gS} {p0 : Nat} {Q : Int64 → gS → Prop} (h : w_X10_digest g0 p0 Q) : Met l yX10_digest wsX10_digest r_X10_digest (va_Pc [.ref p0] (gPre D cA g0 sz)) (gQl D cA g0 sz (Q)) 0 0 (gA g0 sz) := by
  refine g_met (cc := cX10_digest) (maxL := 4) (ret := (some .long)) (own := RX10) (by decide) rfl rfl (Nat.le_of_ble_eq_true rfl) ?_
  intro p e s m args below meth c ls CF hr hlk hnm hc hl
  obtain ⟨hx, hb, hml, hown, hts⟩ := id CF
  have hl : lv_has ls 4 [(0, .ref p0)] := hl
  show W p l e r_X10_digest s m args below meth c s.heap [] 0 0 (MQ below (gQl D cA g0 sz (Q)) args s 0 0 (gA g0 sz)) (F0 m 0 ls [])
  have hb_26 : ∀ (r0 : Nat), ∀ (g : gS) (j1 : Int64) (i3 : Int32), lpx3 (l_X10_digest_26 r0 Q) g j1 i3 → ∀ (H : Heap) (locs : List Loc) (ls : Array Slot), gC D cA (gA g0 sz) s g H locs → lv_has ls 4 [(0, .ref r0), (1, .long j1), (3, .int i3)] → W p l e r_X10_digest s m args below meth c H locs 0 0 (MQ below (gQl D cA g0 sz (Q)) args s 0 0 (gA g0 sz)) (F0 m 26 ls []) := by
    intro r0
    refine lpx3_run (P := fun (g : gS) (j1 : Int64) (i3 : Int32) => ∀ (H : Heap) (locs : List Loc) (ls : Array Slot), gC D cA (gA g0 sz) s g H locs → lv_has ls 4 [(0, .ref r0), (1, .long j1), (3, .int i3)] → W p l e r_X10_digest s m args below meth c H locs 0 0 (MQ below (gQl D cA g0 sz (Q)) args s 0 0 (gA g0 sz)) (F0 m 26 ls [])) ?_
    intro k26 hk_26 g j1 i3 h H locs ls hc hl
    unfold l_X10_digest_26 at h
    refine lv_iload_n hx hb dX10_digest_26 rfl (lv_at hl 2 rfl) ?_
    refine lv_aload_n hx hb dX10_digest_27 rfl (lv_at hl 0 rfl) ?_
    obtain ⟨hk1, h⟩ := h
    obtain ⟨y2, e3, h⟩ := h
    refine g_getr CF hc hk1 rfl (by decide) (fun _ h9 => List.mem_cons_of_mem _ (List.mem_append_left _ (List.mem_append_left _ (List.mem_append_left _ (List.mem_append_left _ (List.mem_append_left _ (List.mem_append_left _ (List.mem_append_left _ (List.mem_append_left _ (List.mem_append_left _ (List.mem_append_left _ (List.mem_append_right _ (h9))))))))))))) (k := 0) (by decide) (List.mem_cons_of_mem _ (List.mem_append_left _ (List.mem_append_left _ (List.mem_append_left _ (List.mem_append_left _ (List.mem_append_left _ (List.mem_append_left _ (List.mem_append_left _ (List.mem_append_left _ (List.mem_append_left _ (List.mem_append_left _ (List.mem_append_left _ (List.mem_append_left _ (List.mem_of_getElem? (i := 1) rfl)))))))))))))) e3 rfl dX10_digest_28 ?_
    obtain ⟨hk4, h⟩ := h
    refine g_get CF hc hk4 rfl (by decide) (fun _ h9 => List.mem_cons_of_mem _ (List.mem_append_left _ (List.mem_append_left _ (List.mem_append_left _ (List.mem_append_left _ (List.mem_append_left _ (List.mem_append_left _ (List.mem_append_left _ (List.mem_append_left _ (List.mem_append_left _ (List.mem_append_right _ (h9)))))))))))) (k := 1) (by decide) (List.mem_cons_of_mem _ (List.mem_append_left _ (List.mem_append_left _ (List.mem_append_left _ (List.mem_append_left _ (List.mem_append_left _ (List.mem_append_left _ (List.mem_append_left _ (List.mem_append_left _ (List.mem_append_left _ (List.mem_append_left _ (List.mem_append_left _ (List.mem_append_left _ (List.mem_of_getElem? (i := 2) rfl)))))))))))))) rfl dX10_digest_31 ?_
    refine lv_icmp_ge (tgt := 59) hx hb dX10_digest_34 (by decide) (fun c5 => ?_) (fun c5 => ?_)
    · have h := h.1 c5
      refine lv_lload_n hx hb dX10_digest_59 rfl (lv_at hl 1 rfl) ?_
      exact g_retl (r := j1) CF hr hlk hc h dX10_digest_60
    · have h := h.2 c5
      refine lv_lload_n hx hb dX10_digest_37 rfl (lv_at hl 1 rfl) ?_
      refine lv_ldc2 (v := 31) hx hb hown (hts _ (List.mem_cons_of_mem _ (List.mem_append_left _ (List.mem_append_left _ (List.mem_append_left _ (List.mem_append_left _ (List.mem_append_left _ (List.mem_append_left _ (List.mem_append_left _ (List.mem_append_left _ (List.mem_append_left _ (List.mem_append_left _ (List.mem_append_left _ (List.mem_append_left _ (List.mem_of_getElem? (i := 3) rfl))))))))))))))) dX10_digest_38 ?_
      refine lv_lmul hx hb dX10_digest_41 ?_
      refine lv_aload_n hx hb dX10_digest_42 rfl (lv_at hl 0 rfl) ?_
      obtain ⟨y6, e7, h⟩ := h
      refine g_getr CF hc hk1 rfl (by decide) (fun _ h9 => List.mem_cons_of_mem _ (List.mem_append_left _ (List.mem_append_left _ (List.mem_append_left _ (List.mem_append_left _ (List.mem_append_left _ (List.mem_append_left _ (List.mem_append_left _ (List.mem_append_left _ (List.mem_append_left _ (List.mem_append_left _ (List.mem_append_right _ (h9))))))))))))) (k := 4) (by decide) (List.mem_cons_of_mem _ (List.mem_append_left _ (List.mem_append_left _ (List.mem_append_left _ (List.mem_append_left _ (List.mem_append_left _ (List.mem_append_left _ (List.mem_append_left _ (List.mem_append_left _ (List.mem_append_left _ (List.mem_append_left _ (List.mem_append_left _ (List.mem_append_left _ (List.mem_of_getElem? (i := 4) rfl)))))))))))))) e7 rfl dX10_digest_43 ?_
      refine lv_iload_n hx hb dX10_digest_46 rfl (lv_at hl 2 rfl) ?_
      obtain ⟨hk8, h⟩ := h
      refine g_calli (va_runV (As := [.int i3]) (rest := [.long (j1 * 31)]) CF (c_X3_mostLike h) (cwV 1 hts gX10_digest_X3_mostLike rfl rfl rfl (by decide +kernel) ⟨Nat.le_of_ble_eq_true rfl, Nat.le_of_ble_eq_true rfl⟩) (hc.preV hk8 rfl (by decide)) rfl rfl hl.1 rfl (lv_room (Nat.le_of_ble_eq_true rfl)) dX10_digest_47 ⟨Nat.le_of_ble_eq_true rfl, Nat.le_of_ble_eq_true rfl⟩) hc (fun x9 g10 H locs hq hc => ?_)
      replace h := hq
      refine lv_i2l hx hb dX10_digest_50 rfl ?_
      refine lv_ladd hx hb dX10_digest_51 ?_
      refine lv_lstore_n (lv' := [(1, .long ((j1 * 31) + x9.toInt64)), (0, .ref r0), (3, .int i3)]) hx hb dX10_digest_52 rfl hl (by decide) rfl (fun ls hl => ?_)
      refine lv_iinc (v := (i3 + 1)) (lv' := [(3, .int (i3 + 1)), (1, .long ((j1 * 31) + x9.toInt64)), (0, .ref r0)]) hx hb dX10_digest_53 hl (k := 2) rfl rfl (by decide) rfl (fun ls hl => ?_)
      refine lv_goto (tgt := 26) hx hb dX10_digest_56 (by decide) ?_
      exact hk_26 g10 ((j1 * 31) + x9.toInt64) (i3 + 1) h _ _ _ hc (lv_sub hl [2, 1, 0] rfl)
  unfold w_X10_digest at h
  obtain ⟨H, hH0⟩ : ∃ z, z = s.heap := ⟨_, rfl⟩
  rw [← hH0] at hc ⊢
  obtain ⟨locs, hlc0⟩ : ∃ z : List Loc, z = [] := ⟨_, rfl⟩
  rw [← hlc0] at hc ⊢
  refine lv_aload_n hx hb dX10_digest_0 rfl (lv_at hl 0 rfl) ?_
  refine lv_ldc2 (v := 2609) hx hb hown (hts _ (List.mem_cons_of_mem _ (List.mem_append_left _ (List.mem_append_left _ (List.mem_append_left _ (List.mem_append_left _ (List.mem_append_left _ (List.mem_append_left _ (List.mem_append_left _ (List.mem_append_left _ (List.mem_append_left _ (List.mem_append_left _ (List.mem_append_left _ (List.mem_append_left _ (List.mem_of_getElem? (i := 0) rfl))))))))))))))) dX10_digest_1 ?_
  obtain ⟨hk12, h⟩ := h
  refine g_calll (va_runV (As := [.long 2609]) (rest := []) CF (c_X10_addArchive h) (cwV 1 hts gX10_digest_X10_addArchive rfl rfl rfl (by decide +kernel) ⟨Nat.le_of_ble_eq_true rfl, Nat.le_of_ble_eq_true rfl⟩) (hc.preV hk12 rfl (by decide)) rfl rfl hl.1 rfl (lv_room (Nat.le_of_ble_eq_true rfl)) dX10_digest_4 ⟨Nat.le_of_ble_eq_true rfl, Nat.le_of_ble_eq_true rfl⟩) hc (fun z13 gq14 H locs hq hc => ?_)
  obtain ⟨rfl, h⟩ := hq
  refine lv_lstore_n (lv' := [(1, .long z13), (0, .ref p0)]) hx hb dX10_digest_7 rfl hl (by decide) rfl (fun ls hl => ?_)
  refine lv_aload_n hx hb dX10_digest_8 rfl (lv_at hl 1 rfl) ?_
  refine g_callv (va_runV (As := []) (rest := []) CF (c_X10_fillScoresByNode h) (cwV 0 hts gX10_digest_X10_fillScoresByNode rfl rfl rfl (by decide +kernel) ⟨Nat.le_of_ble_eq_true rfl, Nat.le_of_ble_eq_true rfl⟩) (hc.preV hk12 rfl (by decide)) rfl rfl hl.1 rfl (lv_room (Nat.le_of_ble_eq_true rfl)) dX10_digest_9 ⟨Nat.le_of_ble_eq_true rfl, Nat.le_of_ble_eq_true rfl⟩) hc (fun g16 H locs hq hc => ?_)
  replace h := hq
  refine lv_aload_n hx hb dX10_digest_12 rfl (lv_at hl 1 rfl) ?_
  refine lv_lload_n hx hb dX10_digest_13 rfl (lv_at hl 0 rfl) ?_
  obtain ⟨hk18, h⟩ := h
  refine g_calll (va_runV (As := [.long z13]) (rest := []) CF (c_X10_addNodes h) (cwV 1 hts gX10_digest_X10_addNodes rfl rfl rfl (by decide +kernel) ⟨Nat.le_of_ble_eq_true rfl, Nat.le_of_ble_eq_true rfl⟩) (hc.preV hk18 rfl (by decide)) rfl rfl hl.1 rfl (lv_room (Nat.le_of_ble_eq_true rfl)) dX10_digest_14 ⟨Nat.le_of_ble_eq_true rfl, Nat.le_of_ble_eq_true rfl⟩) hc (fun z19 g20 H locs hq hc => ?_)
  replace h := hq
  refine lv_lstore_n (lv' := [(1, .long z19), (0, .ref p0)]) hx hb dX10_digest_17 rfl hl (by decide) rfl (fun ls hl => ?_)
  refine lv_aload_n hx hb dX10_digest_18 rfl (lv_at hl 1 rfl) ?_
  refine lv_lload_n hx hb dX10_digest_19 rfl (lv_at hl 0 rfl) ?_
  obtain ⟨hk22, h⟩ := h
  refine g_calll (va_runV (As := [.long z19]) (rest := []) CF (c_X10_addResults h) (cwV 1 hts gX10_digest_X10_addResults rfl rfl rfl (by decide +kernel) ⟨Nat.le_of_ble_eq_true rfl, Nat.le_of_ble_eq_true rfl⟩) (hc.preV hk22 rfl (by decide)) rfl rfl hl.1 rfl (lv_room (Nat.le_of_ble_eq_true rfl)) dX10_digest_20 ⟨Nat.le_of_ble_eq_true rfl, Nat.le_of_ble_eq_true rfl⟩) hc (fun z23 gq24 H locs hq hc => ?_)
  obtain ⟨rfl, h⟩ := hq
  refine lv_lstore_n (lv' := [(1, .long z23), (0, .ref p0)]) hx hb dX10_digest_23 rfl hl (by decide) rfl (fun ls hl => ?_)
  refine lv_iconst (v := 0) hx hb dX10_digest_24 (by decide) ?_
  refine lv_istore_n (lv' := [(3, .int 0), (1, .long z23), (0, .ref p0)]) hx hb dX10_digest_25 rfl hl (by decide) rfl (fun ls hl => ?_)
  exact hb_26 p0 g20 z23 0 h _ _ _ hc (lv_sub hl [2, 1, 0] rfl)
def l_X11_init_211 (r0 : Nat) (Q : gS → Prop) (g : gS) (i1 : Int32) (k211 : gS → Int32 → Prop) : Prop :=
  (60 ≤ i1 → (Q g)) ∧ (¬ 60 ≤ i1 → (gK g r0 = 12 ∧ (∃ y3, gR g r0 15 = some y3 ∧ (gK g y3 = 21 ∧ (vp_in i1 (gN g y3) ∧ (∀ g7, g7 = sU g y3 (Int32.toNatClampNeg i1) (-1) → (k211 g7 (i1 + 1))))))))
def l_X11_init_189 (r0 : Nat) (Q : gS → Prop) (g : gS) (i1 : Int32) (k189 : gS → Int32 → Prop) : Prop :=
  (200 ≤ i1 → (lpx2 (l_X11_init_211 r0 Q) g 0)) ∧ (¬ 200 ≤ i1 → (gK g r0 = 12 ∧ (∃ y11, gR g r0 11 = some y11 ∧ (gK g y11 = 21 ∧ (vp_in i1 (gN g y11) ∧ (∀ g15, g15 = sU g y11 (Int32.toNatClampNeg i1) (-1) → (k189 g15 (i1 + 1))))))))
def w_X11_init (g0 : gS) (p0 : Nat) (Q : gS → Prop) : Prop :=
  ∀ q17, gK g0 q17 = 0 → (∀ g19, g19 = sNew g0 q17 21 60 → (gK g19 p0 = 12 ∧ (∀ g22, g22 = sV g19 p0 3 (some q17) → (∀ q24, gK g22 q24 = 0 → (∀ g26, g26 = sNew g22 q24 21 60 → (gK g26 p0 = 12 ∧ (∀ g29, g29 = sV g26 p0 4 (some q24) → (∀ q31, gK g29 q31 = 0 → (∀ g33, g33 = sNew g29 q31 22 60 → (gK g33 p0 = 12 ∧ (∀ g36, g36 = sV g33 p0 5 (some q31) → (∀ q38, gK g36 q38 = 0 → (∀ g40, g40 = sNew g36 q38 22 60 → (gK g40 p0 = 12 ∧ (∀ g43, g43 = sV g40 p0 6 (some q38) → (∀ q45, gK g43 q45 = 0 → (∀ g47, g47 = sNew g43 q45 21 180 → (gK g47 p0 = 12 ∧ (∀ g50, g50 = sV g47 p0 7 (some q45) → (∀ q52, gK g50 q52 = 0 → (∀ g54, g54 = sNew g50 q52 21 2160 → (gK g54 p0 = 12 ∧ (∀ g57, g57 = sV g54 p0 8 (some q52) → (∀ q59, gK g57 q59 = 0 → (∀ g61, g61 = sNew g57 q59 22 200 → (gK g61 p0 = 12 ∧ (∀ g64, g64 = sV g61 p0 10 (some q59) → (∀ q66, gK g64 q66 = 0 → (∀ g68, g68 = sNew g64 q66 21 200 → (gK g68 p0 = 12 ∧ (∀ g71, g71 = sV g68 p0 11 (some q66) → (∀ q73, gK g71 q73 = 0 → (∀ g75, g75 = sNew g71 q73 21 3 → (gK g75 q73 = 21 ∧ (vp_in 0 (gN g75 q73) ∧ (∀ g79, g79 = sU g75 q73 (Int32.toNatClampNeg 0) 1 → (gK g79 q73 = 21 ∧ (vp_in 1 (gN g79 q73) ∧ (∀ g83, g83 = sU g79 q73 (Int32.toNatClampNeg 1) 1 → (gK g83 q73 = 21 ∧ (vp_in 2 (gN g83 q73) ∧ (∀ g87, g87 = sU g83 q73 (Int32.toNatClampNeg 2) 1 → (gK g87 p0 = 12 ∧ (∀ g90, g90 = sV g87 p0 12 (some q73) → (∀ q92, gK g90 q92 = 0 → (∀ g94, g94 = sNew g90 q92 21 61 → (gK g94 p0 = 12 ∧ (∀ g97, g97 = sV g94 p0 14 (some q92) → (∀ q99, gK g97 q99 = 0 → (∀ g101, g101 = sNew g97 q99 21 60 → (gK g101 p0 = 12 ∧ (∀ g104, g104 = sV g101 p0 15 (some q99) → (∀ q106, gK g104 q106 = 0 → (∀ g108, g108 = sNew g104 q106 21 30 → (gK g108 p0 = 12 ∧ (∀ g111, g111 = sV g108 p0 17 (some q106) → (∀ q113, gK g111 q113 = 0 → (∀ g115, g115 = sNew g111 q113 21 30 → (gK g115 p0 = 12 ∧ (∀ g118, g118 = sV g115 p0 18 (some q113) → (∀ q120, gK g118 q120 = 0 → (∀ g122, g122 = sNew g118 q120 21 30 → (gK g122 p0 = 12 ∧ (∀ g125, g125 = sV g122 p0 19 (some q120) → (∀ q127, gK g125 q127 = 0 → (∀ g129, g129 = sNew g125 q127 21 30 → (gK g129 p0 = 12 ∧ (∀ g132, g132 = sV g129 p0 20 (some q127) → (∀ q134, gK g132 q134 = 0 → (∀ g136, g136 = sNew g132 q134 22 30 → (gK g136 p0 = 12 ∧ (∀ g139, g139 = sV g136 p0 21 (some q134) → (∀ q141, gK g139 q141 = 0 → (∀ g143, g143 = sNew g139 q141 21 60 → (gK g143 p0 = 12 ∧ (∀ g146, g146 = sV g143 p0 23 (some q141) → (∀ q148, gK g146 q148 = 0 → (∀ g150, g150 = sNew g146 q148 21 60 → (gK g150 p0 = 12 ∧ (∀ g153, g153 = sV g150 p0 24 (some q148) → (∀ q155, gK g153 q155 = 0 → (∀ g157, g157 = sNew g153 q155 21 3 → (gK g157 p0 = 12 ∧ (∀ g160, g160 = sV g157 p0 27 (some q155) → (∀ q162, gK g160 q162 = 0 → (∀ g164, g164 = sNew g160 q162 21 600 → (gK g164 p0 = 12 ∧ (∀ g167, g167 = sV g164 p0 28 (some q162) → (∀ q169, gK g167 q169 = 0 → (∀ g171, g171 = sNew g167 q169 21 30 → (gK g171 p0 = 12 ∧ (∀ g174, g174 = sV g171 p0 29 (some q169) → (lpx2 (l_X11_init_189 p0 Q) g174 0)))))))))))))))))))))))))))))))))))))))))))))))))))))))))))))))))))))))))))))))))))))))))))))
abbrev r_X11_init : Room := { frames := 1, cells := 21, slots := 4007, locals := 12 }
set_option maxHeartbeats 4000000 in
set_option maxRecDepth 100000 in
theorem c_X11_init {l : Launch} {D : va_G} {cA : Nat → ClassId} {sz : Nat} {g0 : gS} {p0 : Nat} {Q : gS → Prop} (h : w_X11_init g0 p0 Q) : Met l yX11_init wsX11_init r_X11_init (va_Pc [.ref p0] (gPre D cA g0 sz)) (gQv D cA g0 sz (Q)) 21 4007 (gA g0 sz) := by
  refine g_met (cc := cX11_init) (maxL := 2) (ret := none) (own := RX11) (by decide) rfl rfl (Nat.le_of_ble_eq_true rfl) ?_
  intro p e s m args below meth c ls CF hr hlk hnm hc hl
  obtain ⟨hx, hb, hml, hown, hts⟩ := id CF
  have hl : lv_has ls 2 [(0, .ref p0)] := hl
  show W p l e r_X11_init s m args below meth c s.heap [] 0 0 (MQ below (gQv D cA g0 sz (Q)) args s 21 4007 (gA g0 sz)) (F0 m 0 ls [])
  have hb_211 : ∀ (r0 : Nat), ∀ (g : gS) (i1 : Int32), lpx2 (l_X11_init_211 r0 Q) g i1 → ∀ (H : Heap) (locs : List Loc) (ls : Array Slot), gC D cA (gA g0 sz) s g H locs → lv_has ls 2 [(0, .ref r0), (1, .int i1)] → W p l e r_X11_init s m args below meth c H locs 21 4007 (MQ below (gQv D cA g0 sz (Q)) args s 21 4007 (gA g0 sz)) (F0 m 211 ls []) := by
    intro r0
    refine lpx2_run (P := fun (g : gS) (i1 : Int32) => ∀ (H : Heap) (locs : List Loc) (ls : Array Slot), gC D cA (gA g0 sz) s g H locs → lv_has ls 2 [(0, .ref r0), (1, .int i1)] → W p l e r_X11_init s m args below meth c H locs 21 4007 (MQ below (gQv D cA g0 sz (Q)) args s 21 4007 (gA g0 sz)) (F0 m 211 ls [])) ?_
    intro k211 hk_211 g i1 h H locs ls hc hl
    unfold l_X11_init_211 at h
    refine lv_iload_n hx hb dX11_init_211 rfl (lv_at hl 1 rfl) ?_
    refine lv_bipush (v := 60) hx hb dX11_init_212 (by decide) ?_
    refine lv_icmp_ge (tgt := 230) hx hb dX11_init_214 (by decide) (fun c1 => ?_) (fun c1 => ?_)
    · have h := h.1 c1
      exact g_retv CF hr hlk hc h dX11_init_230
    · have h := h.2 c1
      refine lv_aload_n hx hb dX11_init_217 rfl (lv_at hl 0 rfl) ?_
      obtain ⟨hk2, h⟩ := h
      obtain ⟨y3, e4, h⟩ := h
      refine g_getr CF hc hk2 rfl (by decide) (fun _ h9 => List.mem_cons_of_mem _ (List.mem_append_right _ (h9))) (k := 15) (by decide) (List.mem_cons_of_mem _ (List.mem_append_left _ (List.mem_append_left _ (List.mem_of_getElem? (i := 15) rfl)))) e4 rfl dX11_init_218 ?_
      refine lv_iload_n hx hb dX11_init_221 rfl (lv_at hl 1 rfl) ?_
      refine lv_iconst (v := (-1)) hx hb dX11_init_222 (by decide) ?_
      obtain ⟨hk5, h⟩ := h
      obtain ⟨hi6, h⟩ := h
      refine g_iast CF hc hk5 (x := (-1)) hi6 dX11_init_223 (fun H locs hc => ?_)
      obtain ⟨g7, eg8⟩ : ∃ z, z = sU g y3 (Int32.toNatClampNeg i1) (-1) := ⟨_, rfl⟩
      have hc : gC D cA (gA g0 sz) s g7 H locs := by rw [eg8]; exact hc
      replace h := h g7 eg8
      refine lv_iinc (v := (i1 + 1)) (lv' := [(1, .int (i1 + 1)), (0, .ref r0)]) hx hb dX11_init_224 hl (k := 1) rfl rfl (by decide) rfl (fun ls hl => ?_)
      refine lv_goto (tgt := 211) hx hb dX11_init_227 (by decide) ?_
      exact hk_211 g7 (i1 + 1) h _ _ _ hc (lv_sub hl [1, 0] rfl)
  have hb_189 : ∀ (r0 : Nat), ∀ (g : gS) (i1 : Int32), lpx2 (l_X11_init_189 r0 Q) g i1 → ∀ (H : Heap) (locs : List Loc) (ls : Array Slot), gC D cA (gA g0 sz) s g H locs → lv_has ls 2 [(0, .ref r0), (1, .int i1)] → W p l e r_X11_init s m args below meth c H locs 21 4007 (MQ below (gQv D cA g0 sz (Q)) args s 21 4007 (gA g0 sz)) (F0 m 189 ls []) := by
    intro r0
    refine lpx2_run (P := fun (g : gS) (i1 : Int32) => ∀ (H : Heap) (locs : List Loc) (ls : Array Slot), gC D cA (gA g0 sz) s g H locs → lv_has ls 2 [(0, .ref r0), (1, .int i1)] → W p l e r_X11_init s m args below meth c H locs 21 4007 (MQ below (gQv D cA g0 sz (Q)) args s 21 4007 (gA g0 sz)) (F0 m 189 ls [])) ?_
    intro k189 hk_189 g i1 h H locs ls hc hl
    unfold l_X11_init_189 at h
    refine lv_iload_n hx hb dX11_init_189 rfl (lv_at hl 1 rfl) ?_
    refine lv_sipush (v := 200) hx hb dX11_init_190 (by decide) ?_
    refine lv_icmp_ge (tgt := 209) hx hb dX11_init_193 (by decide) (fun c9 => ?_) (fun c9 => ?_)
    · have h := h.1 c9
      refine lv_iconst (v := 0) hx hb dX11_init_209 (by decide) ?_
      refine lv_istore_n (lv' := [(1, .int 0), (0, .ref r0)]) hx hb dX11_init_210 rfl hl (by decide) rfl (fun ls hl => ?_)
      exact hb_211 r0 g 0 h _ _ _ hc (lv_sub hl [1, 0] rfl)
    · have h := h.2 c9
      refine lv_aload_n hx hb dX11_init_196 rfl (lv_at hl 0 rfl) ?_
      obtain ⟨hk10, h⟩ := h
      obtain ⟨y11, e12, h⟩ := h
      refine g_getr CF hc hk10 rfl (by decide) (fun _ h9 => List.mem_cons_of_mem _ (List.mem_append_right _ (h9))) (k := 11) (by decide) (List.mem_cons_of_mem _ (List.mem_append_left _ (List.mem_append_left _ (List.mem_of_getElem? (i := 12) rfl)))) e12 rfl dX11_init_197 ?_
      refine lv_iload_n hx hb dX11_init_200 rfl (lv_at hl 1 rfl) ?_
      refine lv_iconst (v := (-1)) hx hb dX11_init_201 (by decide) ?_
      obtain ⟨hk13, h⟩ := h
      obtain ⟨hi14, h⟩ := h
      refine g_iast CF hc hk13 (x := (-1)) hi14 dX11_init_202 (fun H locs hc => ?_)
      obtain ⟨g15, eg16⟩ : ∃ z, z = sU g y11 (Int32.toNatClampNeg i1) (-1) := ⟨_, rfl⟩
      have hc : gC D cA (gA g0 sz) s g15 H locs := by rw [eg16]; exact hc
      replace h := h g15 eg16
      refine lv_iinc (v := (i1 + 1)) (lv' := [(1, .int (i1 + 1)), (0, .ref r0)]) hx hb dX11_init_203 hl (k := 1) rfl rfl (by decide) rfl (fun ls hl => ?_)
      refine lv_goto (tgt := 189) hx hb dX11_init_206 (by decide) ?_
      exact hk_189 g15 (i1 + 1) h _ _ _ hc (lv_sub hl [1, 0] rfl)
  unfold w_X11_init at h
  obtain ⟨H, hH0⟩ : ∃ z, z = s.heap := ⟨_, rfl⟩
  rw [← hH0] at hc ⊢
  obtain ⟨locs, hlc0⟩ : ∃ z : List Loc, z = [] := ⟨_, rfl⟩
  rw [← hlc0] at hc ⊢
  refine lv_aload_n hx hb dX11_init_0 rfl (lv_at hl 0 rfl) ?_
  refine W.objInit hx hb hown (hts _ (List.mem_cons_of_mem _ (List.mem_append_left _ (List.mem_append_left _ (List.mem_of_getElem? (i := 0) rfl))))) (hts _ (List.mem_cons_of_mem _ (List.mem_append_left _ (List.mem_append_left _ (List.mem_of_getElem? (i := 1) rfl))))) (hts _ (List.mem_cons_of_mem _ (List.mem_append_left _ (List.mem_append_left _ (List.mem_of_getElem? (i := 2) rfl))))) rfl (by rw [hml]; exact hl.1) rfl dX11_init_1 (Nat.le_of_ble_eq_true rfl) (Nat.le_of_ble_eq_true rfl) ?_
  refine W.eq (g2 := F0 m 4 ls []) rfl ?_
  refine lv_aload_n hx hb dX11_init_4 rfl (lv_at hl 0 rfl) ?_
  refine lv_bipush (v := 60) hx hb dX11_init_5 (by decide) ?_
  refine g_newi CF hc (List.mem_cons_of_mem _ (List.mem_append_left _ (List.mem_append_left _ (List.mem_of_getElem? (i := 3) rfl)))) (n := 60) (N := 60) (by decide) (by decide) (by decide) (Nat.le_of_ble_eq_true rfl) (Nat.le_of_ble_eq_true rfl) dX11_init_7 (fun q17 H locs hq18 hc => ?_)
  replace h := h q17 hq18
  obtain ⟨g19, eg20⟩ : ∃ z, z = sNew g0 q17 21 60 := ⟨_, rfl⟩
  have hc : gC D cA (gA g0 sz) s g19 H locs := by rw [eg20]; exact hc
  replace h := h g19 eg20
  refine W.widen (k := 1) (n := 60) (Nat.le_of_ble_eq_true rfl) (Nat.le_of_ble_eq_true rfl) ?_
  obtain ⟨hk21, h⟩ := h
  refine g_putrF CF hc hk21 rfl (by decide) (fun _ h9 => List.mem_cons_of_mem _ (List.mem_append_right _ (h9))) tyX11 tyX11_ok nmX11 (k := 3) (by decide) (List.mem_cons_of_mem _ (List.mem_append_left _ (List.mem_append_left _ (List.mem_of_getElem? (i := 4) rfl)))) rfl hnm rfl (some q17) narrow_ra fits_ra rfl dX11_init_9 (fun H locs hc => ?_)
  obtain ⟨g22, eg23⟩ : ∃ z, z = sV g19 p0 3 (some q17) := ⟨_, rfl⟩
  have hc : gC D cA (gA g0 sz) s g22 H locs := by rw [eg23]; exact hc
  replace h := h g22 eg23
  refine lv_aload_n hx hb dX11_init_12 rfl (lv_at hl 0 rfl) ?_
  refine lv_bipush (v := 60) hx hb dX11_init_13 (by decide) ?_
  refine g_newi CF hc (List.mem_cons_of_mem _ (List.mem_append_left _ (List.mem_append_left _ (List.mem_of_getElem? (i := 3) rfl)))) (n := 60) (N := 60) (by decide) (by decide) (by decide) (Nat.le_of_ble_eq_true rfl) (Nat.le_of_ble_eq_true rfl) dX11_init_15 (fun q24 H locs hq25 hc => ?_)
  replace h := h q24 hq25
  obtain ⟨g26, eg27⟩ : ∃ z, z = sNew g22 q24 21 60 := ⟨_, rfl⟩
  have hc : gC D cA (gA g0 sz) s g26 H locs := by rw [eg27]; exact hc
  replace h := h g26 eg27
  refine W.widen (k := 2) (n := 120) (Nat.le_of_ble_eq_true rfl) (Nat.le_of_ble_eq_true rfl) ?_
  obtain ⟨hk28, h⟩ := h
  refine g_putrF CF hc hk28 rfl (by decide) (fun _ h9 => List.mem_cons_of_mem _ (List.mem_append_right _ (h9))) tyX11 tyX11_ok nmX11 (k := 4) (by decide) (List.mem_cons_of_mem _ (List.mem_append_left _ (List.mem_append_left _ (List.mem_of_getElem? (i := 5) rfl)))) rfl hnm rfl (some q24) narrow_ra fits_ra rfl dX11_init_17 (fun H locs hc => ?_)
  obtain ⟨g29, eg30⟩ : ∃ z, z = sV g26 p0 4 (some q24) := ⟨_, rfl⟩
  have hc : gC D cA (gA g0 sz) s g29 H locs := by rw [eg30]; exact hc
  replace h := h g29 eg30
  refine lv_aload_n hx hb dX11_init_20 rfl (lv_at hl 0 rfl) ?_
  refine lv_bipush (v := 60) hx hb dX11_init_21 (by decide) ?_
  refine g_newz CF hc (List.mem_cons_of_mem _ (List.mem_append_left _ (List.mem_append_left _ (List.mem_of_getElem? (i := 6) rfl)))) (n := 60) (N := 60) (by decide) (by decide) (by decide) (Nat.le_of_ble_eq_true rfl) (Nat.le_of_ble_eq_true rfl) dX11_init_23 (fun q31 H locs hq32 hc => ?_)
  replace h := h q31 hq32
  obtain ⟨g33, eg34⟩ : ∃ z, z = sNew g29 q31 22 60 := ⟨_, rfl⟩
  have hc : gC D cA (gA g0 sz) s g33 H locs := by rw [eg34]; exact hc
  replace h := h g33 eg34
  refine W.widen (k := 3) (n := 180) (Nat.le_of_ble_eq_true rfl) (Nat.le_of_ble_eq_true rfl) ?_
  obtain ⟨hk35, h⟩ := h
  refine g_putrF CF hc hk35 rfl (by decide) (fun _ h9 => List.mem_cons_of_mem _ (List.mem_append_right _ (h9))) tyX11 tyX11_ok nmX11 (k := 5) (by decide) (List.mem_cons_of_mem _ (List.mem_append_left _ (List.mem_append_left _ (List.mem_of_getElem? (i := 7) rfl)))) rfl hnm rfl (some q31) narrow_ra fits_ra rfl dX11_init_25 (fun H locs hc => ?_)
  obtain ⟨g36, eg37⟩ : ∃ z, z = sV g33 p0 5 (some q31) := ⟨_, rfl⟩
  have hc : gC D cA (gA g0 sz) s g36 H locs := by rw [eg37]; exact hc
  replace h := h g36 eg37
  refine lv_aload_n hx hb dX11_init_28 rfl (lv_at hl 0 rfl) ?_
  refine lv_bipush (v := 60) hx hb dX11_init_29 (by decide) ?_
  refine g_newz CF hc (List.mem_cons_of_mem _ (List.mem_append_left _ (List.mem_append_left _ (List.mem_of_getElem? (i := 6) rfl)))) (n := 60) (N := 60) (by decide) (by decide) (by decide) (Nat.le_of_ble_eq_true rfl) (Nat.le_of_ble_eq_true rfl) dX11_init_31 (fun q38 H locs hq39 hc => ?_)
  replace h := h q38 hq39
  obtain ⟨g40, eg41⟩ : ∃ z, z = sNew g36 q38 22 60 := ⟨_, rfl⟩
  have hc : gC D cA (gA g0 sz) s g40 H locs := by rw [eg41]; exact hc
  replace h := h g40 eg41
  refine W.widen (k := 4) (n := 240) (Nat.le_of_ble_eq_true rfl) (Nat.le_of_ble_eq_true rfl) ?_
  obtain ⟨hk42, h⟩ := h
  refine g_putr CF hc hk42 rfl (by decide) (fun _ h9 => List.mem_cons_of_mem _ (List.mem_append_right _ (h9))) tyX11 tyX11_ok nmX11 (k := 6) (by decide) (List.mem_cons_of_mem _ (List.mem_append_left _ (List.mem_append_left _ (List.mem_of_getElem? (i := 8) rfl)))) rfl (some q38) narrow_ra fits_ra rfl dX11_init_33 (fun H locs hc => ?_)
  obtain ⟨g43, eg44⟩ : ∃ z, z = sV g40 p0 6 (some q38) := ⟨_, rfl⟩
  have hc : gC D cA (gA g0 sz) s g43 H locs := by rw [eg44]; exact hc
  replace h := h g43 eg44
  refine lv_aload_n hx hb dX11_init_36 rfl (lv_at hl 0 rfl) ?_
  refine lv_sipush (v := 180) hx hb dX11_init_37 (by decide) ?_
  refine g_newi CF hc (List.mem_cons_of_mem _ (List.mem_append_left _ (List.mem_append_left _ (List.mem_of_getElem? (i := 3) rfl)))) (n := 180) (N := 180) (by decide) (by decide) (by decide) (Nat.le_of_ble_eq_true rfl) (Nat.le_of_ble_eq_true rfl) dX11_init_40 (fun q45 H locs hq46 hc => ?_)
  replace h := h q45 hq46
  obtain ⟨g47, eg48⟩ : ∃ z, z = sNew g43 q45 21 180 := ⟨_, rfl⟩
  have hc : gC D cA (gA g0 sz) s g47 H locs := by rw [eg48]; exact hc
  replace h := h g47 eg48
  refine W.widen (k := 5) (n := 420) (Nat.le_of_ble_eq_true rfl) (Nat.le_of_ble_eq_true rfl) ?_
  obtain ⟨hk49, h⟩ := h
  refine g_putrF CF hc hk49 rfl (by decide) (fun _ h9 => List.mem_cons_of_mem _ (List.mem_append_right _ (h9))) tyX11 tyX11_ok nmX11 (k := 7) (by decide) (List.mem_cons_of_mem _ (List.mem_append_left _ (List.mem_append_left _ (List.mem_of_getElem? (i := 9) rfl)))) rfl hnm rfl (some q45) narrow_ra fits_ra rfl dX11_init_42 (fun H locs hc => ?_)
  obtain ⟨g50, eg51⟩ : ∃ z, z = sV g47 p0 7 (some q45) := ⟨_, rfl⟩
  have hc : gC D cA (gA g0 sz) s g50 H locs := by rw [eg51]; exact hc
  replace h := h g50 eg51
  refine lv_aload_n hx hb dX11_init_45 rfl (lv_at hl 0 rfl) ?_
  refine lv_sipush (v := 2160) hx hb dX11_init_46 (by decide) ?_
  refine g_newi CF hc (List.mem_cons_of_mem _ (List.mem_append_left _ (List.mem_append_left _ (List.mem_of_getElem? (i := 3) rfl)))) (n := 2160) (N := 2160) (by decide) (by decide) (by decide) (Nat.le_of_ble_eq_true rfl) (Nat.le_of_ble_eq_true rfl) dX11_init_49 (fun q52 H locs hq53 hc => ?_)
  replace h := h q52 hq53
  obtain ⟨g54, eg55⟩ : ∃ z, z = sNew g50 q52 21 2160 := ⟨_, rfl⟩
  have hc : gC D cA (gA g0 sz) s g54 H locs := by rw [eg55]; exact hc
  replace h := h g54 eg55
  refine W.widen (k := 6) (n := 2580) (Nat.le_of_ble_eq_true rfl) (Nat.le_of_ble_eq_true rfl) ?_
  obtain ⟨hk56, h⟩ := h
  refine g_putrF CF hc hk56 rfl (by decide) (fun _ h9 => List.mem_cons_of_mem _ (List.mem_append_right _ (h9))) tyX11 tyX11_ok nmX11 (k := 8) (by decide) (List.mem_cons_of_mem _ (List.mem_append_left _ (List.mem_append_left _ (List.mem_of_getElem? (i := 10) rfl)))) rfl hnm rfl (some q52) narrow_ra fits_ra rfl dX11_init_51 (fun H locs hc => ?_)
  obtain ⟨g57, eg58⟩ : ∃ z, z = sV g54 p0 8 (some q52) := ⟨_, rfl⟩
  have hc : gC D cA (gA g0 sz) s g57 H locs := by rw [eg58]; exact hc
  replace h := h g57 eg58
  refine lv_aload_n hx hb dX11_init_54 rfl (lv_at hl 0 rfl) ?_
  refine lv_sipush (v := 200) hx hb dX11_init_55 (by decide) ?_
  refine g_newz CF hc (List.mem_cons_of_mem _ (List.mem_append_left _ (List.mem_append_left _ (List.mem_of_getElem? (i := 6) rfl)))) (n := 200) (N := 200) (by decide) (by decide) (by decide) (Nat.le_of_ble_eq_true rfl) (Nat.le_of_ble_eq_true rfl) dX11_init_58 (fun q59 H locs hq60 hc => ?_)
  replace h := h q59 hq60
  obtain ⟨g61, eg62⟩ : ∃ z, z = sNew g57 q59 22 200 := ⟨_, rfl⟩
  have hc : gC D cA (gA g0 sz) s g61 H locs := by rw [eg62]; exact hc
  replace h := h g61 eg62
  refine W.widen (k := 7) (n := 2780) (Nat.le_of_ble_eq_true rfl) (Nat.le_of_ble_eq_true rfl) ?_
  obtain ⟨hk63, h⟩ := h
  refine g_putrF CF hc hk63 rfl (by decide) (fun _ h9 => List.mem_cons_of_mem _ (List.mem_append_right _ (h9))) tyX11 tyX11_ok nmX11 (k := 10) (by decide) (List.mem_cons_of_mem _ (List.mem_append_left _ (List.mem_append_left _ (List.mem_of_getElem? (i := 11) rfl)))) rfl hnm rfl (some q59) narrow_ra fits_ra rfl dX11_init_60 (fun H locs hc => ?_)
  obtain ⟨g64, eg65⟩ : ∃ z, z = sV g61 p0 10 (some q59) := ⟨_, rfl⟩
  have hc : gC D cA (gA g0 sz) s g64 H locs := by rw [eg65]; exact hc
  replace h := h g64 eg65
  refine lv_aload_n hx hb dX11_init_63 rfl (lv_at hl 0 rfl) ?_
  refine lv_sipush (v := 200) hx hb dX11_init_64 (by decide) ?_
  refine g_newi CF hc (List.mem_cons_of_mem _ (List.mem_append_left _ (List.mem_append_left _ (List.mem_of_getElem? (i := 3) rfl)))) (n := 200) (N := 200) (by decide) (by decide) (by decide) (Nat.le_of_ble_eq_true rfl) (Nat.le_of_ble_eq_true rfl) dX11_init_67 (fun q66 H locs hq67 hc => ?_)
  replace h := h q66 hq67
  obtain ⟨g68, eg69⟩ : ∃ z, z = sNew g64 q66 21 200 := ⟨_, rfl⟩
  have hc : gC D cA (gA g0 sz) s g68 H locs := by rw [eg69]; exact hc
  replace h := h g68 eg69
  refine W.widen (k := 8) (n := 2980) (Nat.le_of_ble_eq_true rfl) (Nat.le_of_ble_eq_true rfl) ?_
  obtain ⟨hk70, h⟩ := h
  refine g_putr CF hc hk70 rfl (by decide) (fun _ h9 => List.mem_cons_of_mem _ (List.mem_append_right _ (h9))) tyX11 tyX11_ok nmX11 (k := 11) (by decide) (List.mem_cons_of_mem _ (List.mem_append_left _ (List.mem_append_left _ (List.mem_of_getElem? (i := 12) rfl)))) rfl (some q66) narrow_ra fits_ra rfl dX11_init_69 (fun H locs hc => ?_)
  obtain ⟨g71, eg72⟩ : ∃ z, z = sV g68 p0 11 (some q66) := ⟨_, rfl⟩
  have hc : gC D cA (gA g0 sz) s g71 H locs := by rw [eg72]; exact hc
  replace h := h g71 eg72
  refine lv_aload_n hx hb dX11_init_72 rfl (lv_at hl 0 rfl) ?_
  refine lv_iconst (v := 3) hx hb dX11_init_73 (by decide) ?_
  refine g_newi CF hc (List.mem_cons_of_mem _ (List.mem_append_left _ (List.mem_append_left _ (List.mem_of_getElem? (i := 3) rfl)))) (n := 3) (N := 3) (by decide) (by decide) (by decide) (Nat.le_of_ble_eq_true rfl) (Nat.le_of_ble_eq_true rfl) dX11_init_74 (fun q73 H locs hq74 hc => ?_)
  replace h := h q73 hq74
  obtain ⟨g75, eg76⟩ : ∃ z, z = sNew g71 q73 21 3 := ⟨_, rfl⟩
  have hc : gC D cA (gA g0 sz) s g75 H locs := by rw [eg76]; exact hc
  replace h := h g75 eg76
  refine W.widen (k := 9) (n := 2983) (Nat.le_of_ble_eq_true rfl) (Nat.le_of_ble_eq_true rfl) ?_
  refine lv_dup hx hb dX11_init_76 rfl ?_
  refine lv_iconst (v := 0) hx hb dX11_init_77 (by decide) ?_
  refine lv_iconst (v := 1) hx hb dX11_init_78 (by decide) ?_
  obtain ⟨hk77, h⟩ := h
  obtain ⟨hi78, h⟩ := h
  refine g_iast CF hc hk77 (x := 1) hi78 dX11_init_79 (fun H locs hc => ?_)
  obtain ⟨g79, eg80⟩ : ∃ z, z = sU g75 q73 (Int32.toNatClampNeg 0) 1 := ⟨_, rfl⟩
  have hc : gC D cA (gA g0 sz) s g79 H locs := by rw [eg80]; exact hc
  replace h := h g79 eg80
  refine lv_dup hx hb dX11_init_80 rfl ?_
  refine lv_iconst (v := 1) hx hb dX11_init_81 (by decide) ?_
  refine lv_iconst (v := 1) hx hb dX11_init_82 (by decide) ?_
  obtain ⟨hk81, h⟩ := h
  obtain ⟨hi82, h⟩ := h
  refine g_iast CF hc hk81 (x := 1) hi82 dX11_init_83 (fun H locs hc => ?_)
  obtain ⟨g83, eg84⟩ : ∃ z, z = sU g79 q73 (Int32.toNatClampNeg 1) 1 := ⟨_, rfl⟩
  have hc : gC D cA (gA g0 sz) s g83 H locs := by rw [eg84]; exact hc
  replace h := h g83 eg84
  refine lv_dup hx hb dX11_init_84 rfl ?_
  refine lv_iconst (v := 2) hx hb dX11_init_85 (by decide) ?_
  refine lv_iconst (v := 1) hx hb dX11_init_86 (by decide) ?_
  obtain ⟨hk85, h⟩ := h
  obtain ⟨hi86, h⟩ := h
  refine g_iast CF hc hk85 (x := 1) hi86 dX11_init_87 (fun H locs hc => ?_)
  obtain ⟨g87, eg88⟩ : ∃ z, z = sU g83 q73 (Int32.toNatClampNeg 2) 1 := ⟨_, rfl⟩
  have hc : gC D cA (gA g0 sz) s g87 H locs := by rw [eg88]; exact hc
  replace h := h g87 eg88
  obtain ⟨hk89, h⟩ := h
  refine g_putrF CF hc hk89 rfl (by decide) (fun _ h9 => List.mem_cons_of_mem _ (List.mem_append_right _ (h9))) tyX11 tyX11_ok nmX11 (k := 12) (by decide) (List.mem_cons_of_mem _ (List.mem_append_left _ (List.mem_append_left _ (List.mem_of_getElem? (i := 13) rfl)))) rfl hnm rfl (some q73) narrow_ra fits_ra rfl dX11_init_88 (fun H locs hc => ?_)
  obtain ⟨g90, eg91⟩ : ∃ z, z = sV g87 p0 12 (some q73) := ⟨_, rfl⟩
  have hc : gC D cA (gA g0 sz) s g90 H locs := by rw [eg91]; exact hc
  replace h := h g90 eg91
  refine lv_aload_n hx hb dX11_init_91 rfl (lv_at hl 0 rfl) ?_
  refine lv_bipush (v := 61) hx hb dX11_init_92 (by decide) ?_
  refine g_newi CF hc (List.mem_cons_of_mem _ (List.mem_append_left _ (List.mem_append_left _ (List.mem_of_getElem? (i := 3) rfl)))) (n := 61) (N := 61) (by decide) (by decide) (by decide) (Nat.le_of_ble_eq_true rfl) (Nat.le_of_ble_eq_true rfl) dX11_init_94 (fun q92 H locs hq93 hc => ?_)
  replace h := h q92 hq93
  obtain ⟨g94, eg95⟩ : ∃ z, z = sNew g90 q92 21 61 := ⟨_, rfl⟩
  have hc : gC D cA (gA g0 sz) s g94 H locs := by rw [eg95]; exact hc
  replace h := h g94 eg95
  refine W.widen (k := 10) (n := 3044) (Nat.le_of_ble_eq_true rfl) (Nat.le_of_ble_eq_true rfl) ?_
  obtain ⟨hk96, h⟩ := h
  refine g_putrF CF hc hk96 rfl (by decide) (fun _ h9 => List.mem_cons_of_mem _ (List.mem_append_right _ (h9))) tyX11 tyX11_ok nmX11 (k := 14) (by decide) (List.mem_cons_of_mem _ (List.mem_append_left _ (List.mem_append_left _ (List.mem_of_getElem? (i := 14) rfl)))) rfl hnm rfl (some q92) narrow_ra fits_ra rfl dX11_init_96 (fun H locs hc => ?_)
  obtain ⟨g97, eg98⟩ : ∃ z, z = sV g94 p0 14 (some q92) := ⟨_, rfl⟩
  have hc : gC D cA (gA g0 sz) s g97 H locs := by rw [eg98]; exact hc
  replace h := h g97 eg98
  refine lv_aload_n hx hb dX11_init_99 rfl (lv_at hl 0 rfl) ?_
  refine lv_bipush (v := 60) hx hb dX11_init_100 (by decide) ?_
  refine g_newi CF hc (List.mem_cons_of_mem _ (List.mem_append_left _ (List.mem_append_left _ (List.mem_of_getElem? (i := 3) rfl)))) (n := 60) (N := 60) (by decide) (by decide) (by decide) (Nat.le_of_ble_eq_true rfl) (Nat.le_of_ble_eq_true rfl) dX11_init_102 (fun q99 H locs hq100 hc => ?_)
  replace h := h q99 hq100
  obtain ⟨g101, eg102⟩ : ∃ z, z = sNew g97 q99 21 60 := ⟨_, rfl⟩
  have hc : gC D cA (gA g0 sz) s g101 H locs := by rw [eg102]; exact hc
  replace h := h g101 eg102
  refine W.widen (k := 11) (n := 3104) (Nat.le_of_ble_eq_true rfl) (Nat.le_of_ble_eq_true rfl) ?_
  obtain ⟨hk103, h⟩ := h
  refine g_putrF CF hc hk103 rfl (by decide) (fun _ h9 => List.mem_cons_of_mem _ (List.mem_append_right _ (h9))) tyX11 tyX11_ok nmX11 (k := 15) (by decide) (List.mem_cons_of_mem _ (List.mem_append_left _ (List.mem_append_left _ (List.mem_of_getElem? (i := 15) rfl)))) rfl hnm rfl (some q99) narrow_ra fits_ra rfl dX11_init_104 (fun H locs hc => ?_)
  obtain ⟨g104, eg105⟩ : ∃ z, z = sV g101 p0 15 (some q99) := ⟨_, rfl⟩
  have hc : gC D cA (gA g0 sz) s g104 H locs := by rw [eg105]; exact hc
  replace h := h g104 eg105
  refine lv_aload_n hx hb dX11_init_107 rfl (lv_at hl 0 rfl) ?_
  refine lv_bipush (v := 30) hx hb dX11_init_108 (by decide) ?_
  refine g_newi CF hc (List.mem_cons_of_mem _ (List.mem_append_left _ (List.mem_append_left _ (List.mem_of_getElem? (i := 3) rfl)))) (n := 30) (N := 30) (by decide) (by decide) (by decide) (Nat.le_of_ble_eq_true rfl) (Nat.le_of_ble_eq_true rfl) dX11_init_110 (fun q106 H locs hq107 hc => ?_)
  replace h := h q106 hq107
  obtain ⟨g108, eg109⟩ : ∃ z, z = sNew g104 q106 21 30 := ⟨_, rfl⟩
  have hc : gC D cA (gA g0 sz) s g108 H locs := by rw [eg109]; exact hc
  replace h := h g108 eg109
  refine W.widen (k := 12) (n := 3134) (Nat.le_of_ble_eq_true rfl) (Nat.le_of_ble_eq_true rfl) ?_
  obtain ⟨hk110, h⟩ := h
  refine g_putrF CF hc hk110 rfl (by decide) (fun _ h9 => List.mem_cons_of_mem _ (List.mem_append_right _ (h9))) tyX11 tyX11_ok nmX11 (k := 17) (by decide) (List.mem_cons_of_mem _ (List.mem_append_left _ (List.mem_append_left _ (List.mem_of_getElem? (i := 16) rfl)))) rfl hnm rfl (some q106) narrow_ra fits_ra rfl dX11_init_112 (fun H locs hc => ?_)
  obtain ⟨g111, eg112⟩ : ∃ z, z = sV g108 p0 17 (some q106) := ⟨_, rfl⟩
  have hc : gC D cA (gA g0 sz) s g111 H locs := by rw [eg112]; exact hc
  replace h := h g111 eg112
  refine lv_aload_n hx hb dX11_init_115 rfl (lv_at hl 0 rfl) ?_
  refine lv_bipush (v := 30) hx hb dX11_init_116 (by decide) ?_
  refine g_newi CF hc (List.mem_cons_of_mem _ (List.mem_append_left _ (List.mem_append_left _ (List.mem_of_getElem? (i := 3) rfl)))) (n := 30) (N := 30) (by decide) (by decide) (by decide) (Nat.le_of_ble_eq_true rfl) (Nat.le_of_ble_eq_true rfl) dX11_init_118 (fun q113 H locs hq114 hc => ?_)
  replace h := h q113 hq114
  obtain ⟨g115, eg116⟩ : ∃ z, z = sNew g111 q113 21 30 := ⟨_, rfl⟩
  have hc : gC D cA (gA g0 sz) s g115 H locs := by rw [eg116]; exact hc
  replace h := h g115 eg116
  refine W.widen (k := 13) (n := 3164) (Nat.le_of_ble_eq_true rfl) (Nat.le_of_ble_eq_true rfl) ?_
  obtain ⟨hk117, h⟩ := h
  refine g_putrF CF hc hk117 rfl (by decide) (fun _ h9 => List.mem_cons_of_mem _ (List.mem_append_right _ (h9))) tyX11 tyX11_ok nmX11 (k := 18) (by decide) (List.mem_cons_of_mem _ (List.mem_append_left _ (List.mem_append_left _ (List.mem_of_getElem? (i := 17) rfl)))) rfl hnm rfl (some q113) narrow_ra fits_ra rfl dX11_init_120 (fun H locs hc => ?_)
  obtain ⟨g118, eg119⟩ : ∃ z, z = sV g115 p0 18 (some q113) := ⟨_, rfl⟩
  have hc : gC D cA (gA g0 sz) s g118 H locs := by rw [eg119]; exact hc
  replace h := h g118 eg119
  refine lv_aload_n hx hb dX11_init_123 rfl (lv_at hl 0 rfl) ?_
  refine lv_bipush (v := 30) hx hb dX11_init_124 (by decide) ?_
  refine g_newi CF hc (List.mem_cons_of_mem _ (List.mem_append_left _ (List.mem_append_left _ (List.mem_of_getElem? (i := 3) rfl)))) (n := 30) (N := 30) (by decide) (by decide) (by decide) (Nat.le_of_ble_eq_true rfl) (Nat.le_of_ble_eq_true rfl) dX11_init_126 (fun q120 H locs hq121 hc => ?_)
  replace h := h q120 hq121
  obtain ⟨g122, eg123⟩ : ∃ z, z = sNew g118 q120 21 30 := ⟨_, rfl⟩
  have hc : gC D cA (gA g0 sz) s g122 H locs := by rw [eg123]; exact hc
  replace h := h g122 eg123
  refine W.widen (k := 14) (n := 3194) (Nat.le_of_ble_eq_true rfl) (Nat.le_of_ble_eq_true rfl) ?_
  obtain ⟨hk124, h⟩ := h
  refine g_putrF CF hc hk124 rfl (by decide) (fun _ h9 => List.mem_cons_of_mem _ (List.mem_append_right _ (h9))) tyX11 tyX11_ok nmX11 (k := 19) (by decide) (List.mem_cons_of_mem _ (List.mem_append_left _ (List.mem_append_left _ (List.mem_of_getElem? (i := 18) rfl)))) rfl hnm rfl (some q120) narrow_ra fits_ra rfl dX11_init_128 (fun H locs hc => ?_)
  obtain ⟨g125, eg126⟩ : ∃ z, z = sV g122 p0 19 (some q120) := ⟨_, rfl⟩
  have hc : gC D cA (gA g0 sz) s g125 H locs := by rw [eg126]; exact hc
  replace h := h g125 eg126
  refine lv_aload_n hx hb dX11_init_131 rfl (lv_at hl 0 rfl) ?_
  refine lv_bipush (v := 30) hx hb dX11_init_132 (by decide) ?_
  refine g_newi CF hc (List.mem_cons_of_mem _ (List.mem_append_left _ (List.mem_append_left _ (List.mem_of_getElem? (i := 3) rfl)))) (n := 30) (N := 30) (by decide) (by decide) (by decide) (Nat.le_of_ble_eq_true rfl) (Nat.le_of_ble_eq_true rfl) dX11_init_134 (fun q127 H locs hq128 hc => ?_)
  replace h := h q127 hq128
  obtain ⟨g129, eg130⟩ : ∃ z, z = sNew g125 q127 21 30 := ⟨_, rfl⟩
  have hc : gC D cA (gA g0 sz) s g129 H locs := by rw [eg130]; exact hc
  replace h := h g129 eg130
  refine W.widen (k := 15) (n := 3224) (Nat.le_of_ble_eq_true rfl) (Nat.le_of_ble_eq_true rfl) ?_
  obtain ⟨hk131, h⟩ := h
  refine g_putrF CF hc hk131 rfl (by decide) (fun _ h9 => List.mem_cons_of_mem _ (List.mem_append_right _ (h9))) tyX11 tyX11_ok nmX11 (k := 20) (by decide) (List.mem_cons_of_mem _ (List.mem_append_left _ (List.mem_append_left _ (List.mem_of_getElem? (i := 19) rfl)))) rfl hnm rfl (some q127) narrow_ra fits_ra rfl dX11_init_136 (fun H locs hc => ?_)
  obtain ⟨g132, eg133⟩ : ∃ z, z = sV g129 p0 20 (some q127) := ⟨_, rfl⟩
  have hc : gC D cA (gA g0 sz) s g132 H locs := by rw [eg133]; exact hc
  replace h := h g132 eg133
  refine lv_aload_n hx hb dX11_init_139 rfl (lv_at hl 0 rfl) ?_
  refine lv_bipush (v := 30) hx hb dX11_init_140 (by decide) ?_
  refine g_newz CF hc (List.mem_cons_of_mem _ (List.mem_append_left _ (List.mem_append_left _ (List.mem_of_getElem? (i := 6) rfl)))) (n := 30) (N := 30) (by decide) (by decide) (by decide) (Nat.le_of_ble_eq_true rfl) (Nat.le_of_ble_eq_true rfl) dX11_init_142 (fun q134 H locs hq135 hc => ?_)
  replace h := h q134 hq135
  obtain ⟨g136, eg137⟩ : ∃ z, z = sNew g132 q134 22 30 := ⟨_, rfl⟩
  have hc : gC D cA (gA g0 sz) s g136 H locs := by rw [eg137]; exact hc
  replace h := h g136 eg137
  refine W.widen (k := 16) (n := 3254) (Nat.le_of_ble_eq_true rfl) (Nat.le_of_ble_eq_true rfl) ?_
  obtain ⟨hk138, h⟩ := h
  refine g_putrF CF hc hk138 rfl (by decide) (fun _ h9 => List.mem_cons_of_mem _ (List.mem_append_right _ (h9))) tyX11 tyX11_ok nmX11 (k := 21) (by decide) (List.mem_cons_of_mem _ (List.mem_append_left _ (List.mem_append_left _ (List.mem_of_getElem? (i := 20) rfl)))) rfl hnm rfl (some q134) narrow_ra fits_ra rfl dX11_init_144 (fun H locs hc => ?_)
  obtain ⟨g139, eg140⟩ : ∃ z, z = sV g136 p0 21 (some q134) := ⟨_, rfl⟩
  have hc : gC D cA (gA g0 sz) s g139 H locs := by rw [eg140]; exact hc
  replace h := h g139 eg140
  refine lv_aload_n hx hb dX11_init_147 rfl (lv_at hl 0 rfl) ?_
  refine lv_bipush (v := 60) hx hb dX11_init_148 (by decide) ?_
  refine g_newi CF hc (List.mem_cons_of_mem _ (List.mem_append_left _ (List.mem_append_left _ (List.mem_of_getElem? (i := 3) rfl)))) (n := 60) (N := 60) (by decide) (by decide) (by decide) (Nat.le_of_ble_eq_true rfl) (Nat.le_of_ble_eq_true rfl) dX11_init_150 (fun q141 H locs hq142 hc => ?_)
  replace h := h q141 hq142
  obtain ⟨g143, eg144⟩ : ∃ z, z = sNew g139 q141 21 60 := ⟨_, rfl⟩
  have hc : gC D cA (gA g0 sz) s g143 H locs := by rw [eg144]; exact hc
  replace h := h g143 eg144
  refine W.widen (k := 17) (n := 3314) (Nat.le_of_ble_eq_true rfl) (Nat.le_of_ble_eq_true rfl) ?_
  obtain ⟨hk145, h⟩ := h
  refine g_putrF CF hc hk145 rfl (by decide) (fun _ h9 => List.mem_cons_of_mem _ (List.mem_append_right _ (h9))) tyX11 tyX11_ok nmX11 (k := 23) (by decide) (List.mem_cons_of_mem _ (List.mem_append_left _ (List.mem_append_left _ (List.mem_of_getElem? (i := 21) rfl)))) rfl hnm rfl (some q141) narrow_ra fits_ra rfl dX11_init_152 (fun H locs hc => ?_)
  obtain ⟨g146, eg147⟩ : ∃ z, z = sV g143 p0 23 (some q141) := ⟨_, rfl⟩
  have hc : gC D cA (gA g0 sz) s g146 H locs := by rw [eg147]; exact hc
  replace h := h g146 eg147
  refine lv_aload_n hx hb dX11_init_155 rfl (lv_at hl 0 rfl) ?_
  refine lv_bipush (v := 60) hx hb dX11_init_156 (by decide) ?_
  refine g_newi CF hc (List.mem_cons_of_mem _ (List.mem_append_left _ (List.mem_append_left _ (List.mem_of_getElem? (i := 3) rfl)))) (n := 60) (N := 60) (by decide) (by decide) (by decide) (Nat.le_of_ble_eq_true rfl) (Nat.le_of_ble_eq_true rfl) dX11_init_158 (fun q148 H locs hq149 hc => ?_)
  replace h := h q148 hq149
  obtain ⟨g150, eg151⟩ : ∃ z, z = sNew g146 q148 21 60 := ⟨_, rfl⟩
  have hc : gC D cA (gA g0 sz) s g150 H locs := by rw [eg151]; exact hc
  replace h := h g150 eg151
  refine W.widen (k := 18) (n := 3374) (Nat.le_of_ble_eq_true rfl) (Nat.le_of_ble_eq_true rfl) ?_
  obtain ⟨hk152, h⟩ := h
  refine g_putrF CF hc hk152 rfl (by decide) (fun _ h9 => List.mem_cons_of_mem _ (List.mem_append_right _ (h9))) tyX11 tyX11_ok nmX11 (k := 24) (by decide) (List.mem_cons_of_mem _ (List.mem_append_left _ (List.mem_append_left _ (List.mem_of_getElem? (i := 22) rfl)))) rfl hnm rfl (some q148) narrow_ra fits_ra rfl dX11_init_160 (fun H locs hc => ?_)
  obtain ⟨g153, eg154⟩ : ∃ z, z = sV g150 p0 24 (some q148) := ⟨_, rfl⟩
  have hc : gC D cA (gA g0 sz) s g153 H locs := by rw [eg154]; exact hc
  replace h := h g153 eg154
  refine lv_aload_n hx hb dX11_init_163 rfl (lv_at hl 0 rfl) ?_
  refine lv_iconst (v := 3) hx hb dX11_init_164 (by decide) ?_
  refine g_newi CF hc (List.mem_cons_of_mem _ (List.mem_append_left _ (List.mem_append_left _ (List.mem_of_getElem? (i := 3) rfl)))) (n := 3) (N := 3) (by decide) (by decide) (by decide) (Nat.le_of_ble_eq_true rfl) (Nat.le_of_ble_eq_true rfl) dX11_init_165 (fun q155 H locs hq156 hc => ?_)
  replace h := h q155 hq156
  obtain ⟨g157, eg158⟩ : ∃ z, z = sNew g153 q155 21 3 := ⟨_, rfl⟩
  have hc : gC D cA (gA g0 sz) s g157 H locs := by rw [eg158]; exact hc
  replace h := h g157 eg158
  refine W.widen (k := 19) (n := 3377) (Nat.le_of_ble_eq_true rfl) (Nat.le_of_ble_eq_true rfl) ?_
  obtain ⟨hk159, h⟩ := h
  refine g_putrF CF hc hk159 rfl (by decide) (fun _ h9 => List.mem_cons_of_mem _ (List.mem_append_right _ (h9))) tyX11 tyX11_ok nmX11 (k := 27) (by decide) (List.mem_cons_of_mem _ (List.mem_append_left _ (List.mem_append_left _ (List.mem_of_getElem? (i := 23) rfl)))) rfl hnm rfl (some q155) narrow_ra fits_ra rfl dX11_init_167 (fun H locs hc => ?_)
  obtain ⟨g160, eg161⟩ : ∃ z, z = sV g157 p0 27 (some q155) := ⟨_, rfl⟩
  have hc : gC D cA (gA g0 sz) s g160 H locs := by rw [eg161]; exact hc
  replace h := h g160 eg161
  refine lv_aload_n hx hb dX11_init_170 rfl (lv_at hl 0 rfl) ?_
  refine lv_sipush (v := 600) hx hb dX11_init_171 (by decide) ?_
  refine g_newi CF hc (List.mem_cons_of_mem _ (List.mem_append_left _ (List.mem_append_left _ (List.mem_of_getElem? (i := 3) rfl)))) (n := 600) (N := 600) (by decide) (by decide) (by decide) (Nat.le_of_ble_eq_true rfl) (Nat.le_of_ble_eq_true rfl) dX11_init_174 (fun q162 H locs hq163 hc => ?_)
  replace h := h q162 hq163
  obtain ⟨g164, eg165⟩ : ∃ z, z = sNew g160 q162 21 600 := ⟨_, rfl⟩
  have hc : gC D cA (gA g0 sz) s g164 H locs := by rw [eg165]; exact hc
  replace h := h g164 eg165
  refine W.widen (k := 20) (n := 3977) (Nat.le_of_ble_eq_true rfl) (Nat.le_of_ble_eq_true rfl) ?_
  obtain ⟨hk166, h⟩ := h
  refine g_putrF CF hc hk166 rfl (by decide) (fun _ h9 => List.mem_cons_of_mem _ (List.mem_append_right _ (h9))) tyX11 tyX11_ok nmX11 (k := 28) (by decide) (List.mem_cons_of_mem _ (List.mem_append_left _ (List.mem_append_right _ (List.mem_of_getElem? (i := 0) rfl)))) rfl hnm rfl (some q162) narrow_ra fits_ra rfl dX11_init_176 (fun H locs hc => ?_)
  obtain ⟨g167, eg168⟩ : ∃ z, z = sV g164 p0 28 (some q162) := ⟨_, rfl⟩
  have hc : gC D cA (gA g0 sz) s g167 H locs := by rw [eg168]; exact hc
  replace h := h g167 eg168
  refine lv_aload_n hx hb dX11_init_179 rfl (lv_at hl 0 rfl) ?_
  refine lv_bipush (v := 30) hx hb dX11_init_180 (by decide) ?_
  refine g_newi CF hc (List.mem_cons_of_mem _ (List.mem_append_left _ (List.mem_append_left _ (List.mem_of_getElem? (i := 3) rfl)))) (n := 30) (N := 30) (by decide) (by decide) (by decide) (Nat.le_of_ble_eq_true rfl) (Nat.le_of_ble_eq_true rfl) dX11_init_182 (fun q169 H locs hq170 hc => ?_)
  replace h := h q169 hq170
  obtain ⟨g171, eg172⟩ : ∃ z, z = sNew g167 q169 21 30 := ⟨_, rfl⟩
  have hc : gC D cA (gA g0 sz) s g171 H locs := by rw [eg172]; exact hc
  replace h := h g171 eg172
  refine W.widen (k := 21) (n := 4007) (Nat.le_of_ble_eq_true rfl) (Nat.le_of_ble_eq_true rfl) ?_
  obtain ⟨hk173, h⟩ := h
  refine g_putrF CF hc hk173 rfl (by decide) (fun _ h9 => List.mem_cons_of_mem _ (List.mem_append_right _ (h9))) tyX11 tyX11_ok nmX11 (k := 29) (by decide) (List.mem_cons_of_mem _ (List.mem_append_left _ (List.mem_append_right _ (List.mem_of_getElem? (i := 1) rfl)))) rfl hnm rfl (some q169) narrow_ra fits_ra rfl dX11_init_184 (fun H locs hc => ?_)
  obtain ⟨g174, eg175⟩ : ∃ z, z = sV g171 p0 29 (some q169) := ⟨_, rfl⟩
  have hc : gC D cA (gA g0 sz) s g174 H locs := by rw [eg175]; exact hc
  replace h := h g174 eg175
  refine lv_iconst (v := 0) hx hb dX11_init_187 (by decide) ?_
  refine lv_istore_n (lv' := [(1, .int 0), (0, .ref p0)]) hx hb dX11_init_188 rfl hl (by decide) rfl (fun ls hl => ?_)
  exact hb_189 p0 g174 0 h _ _ _ hc (lv_sub hl [1, 0] rfl)
def w_X11_thrown (g : gS) (p0 : Nat) (Q : Int32 → Prop) : Prop :=
  gK g p0 = 12 ∧ (Q (gI g p0 0))
abbrev r_X11_thrown : Room := { frames := 0, cells := 0, slots := 0, locals := 0 }
set_option maxHeartbeats 4000000 in
set_option maxRecDepth 100000 in
theorem c_X11_thrown {l : Launch} {D : va_G} {cA : Nat → ClassId} {sz : Nat} {g : gS} {p0 : Nat} {Q : Int32 → Prop} (h : w_X11_thrown g p0 Q) : Met l yX11_thrown wsX11_thrown r_X11_thrown (va_Pc [.ref p0] (gPre D cA g sz)) (gQi D cA g sz (fun r g2 => g = g2 ∧ Q r)) 0 0 (gA g sz) := by
  refine g_met (cc := cX11_thrown) (maxL := 1) (ret := (some .int)) (own := RX11) (by decide) rfl rfl (Nat.le_of_ble_eq_true rfl) ?_
  intro p e s m args below meth c ls CF hr hlk hnm hc hl
  obtain ⟨hx, hb, hml, hown, hts⟩ := id CF
  have hl : lv_has ls 1 [(0, .ref p0)] := hl
  show W p l e r_X11_thrown s m args below meth c s.heap [] 0 0 (MQ below (gQi D cA g sz (fun r g2 => g = g2 ∧ Q r)) args s 0 0 (gA g sz)) (F0 m 0 ls [])
  unfold w_X11_thrown at h
  obtain ⟨H, hH0⟩ : ∃ z, z = s.heap := ⟨_, rfl⟩
  rw [← hH0] at hc ⊢
  obtain ⟨locs, hlc0⟩ : ∃ z : List Loc, z = [] := ⟨_, rfl⟩
  rw [← hlc0] at hc ⊢
  refine lv_aload_n hx hb dX11_thrown_0 rfl (lv_at hl 0 rfl) ?_
  obtain ⟨hk1, h⟩ := h
  refine g_get CF hc hk1 rfl (by decide) (fun _ h9 => List.mem_cons_of_mem _ (List.mem_append_right _ (h9))) (k := 0) (by decide) (List.mem_cons_of_mem _ (List.mem_append_left _ (List.mem_of_getElem? (i := 0) rfl))) rfl dX11_thrown_1 ?_
  exact g_reti (r := (gI g p0 0)) CF hr hlk hc rfl ⟨rfl, h⟩ dX11_thrown_4
def w_X11_no (g0 : gS) (p0 : Nat) (p1 : Int32) (Q : Int32 → gS → Prop) : Prop :=
  gK g0 p0 = 12 ∧ (∀ g2, g2 = sU g0 p0 0 p1 → (Q 0 g2))
abbrev r_X11_no : Room := { frames := 0, cells := 0, slots := 0, locals := 0 }
set_option maxHeartbeats 4000000 in
set_option maxRecDepth 100000 in
theorem c_X11_no {l : Launch} {D : va_G} {cA : Nat → ClassId} {sz : Nat} {g0 : gS} {p0 : Nat} {p1 : Int32} {Q : Int32 → gS → Prop} (h : w_X11_no g0 p0 p1 Q) : Met l yX11_no wsX11_no r_X11_no (va_Pc [.ref p0, .int p1] (gPre D cA g0 sz)) (gQi D cA g0 sz (Q)) 0 0 (gA g0 sz) := by
  refine g_met (cc := cX11_no) (maxL := 2) (ret := (some .int)) (own := RX11) (by decide) rfl rfl (Nat.le_of_ble_eq_true rfl) ?_
  intro p e s m args below meth c ls CF hr hlk hnm hc hl
  obtain ⟨hx, hb, hml, hown, hts⟩ := id CF
  have hl : lv_has ls 2 [(0, .ref p0), (1, .int p1)] := hl
  show W p l e r_X11_no s m args below meth c s.heap [] 0 0 (MQ below (gQi D cA g0 sz (Q)) args s 0 0 (gA g0 sz)) (F0 m 0 ls [])
  unfold w_X11_no at h
  obtain ⟨H, hH0⟩ : ∃ z, z = s.heap := ⟨_, rfl⟩
  rw [← hH0] at hc ⊢
  obtain ⟨locs, hlc0⟩ : ∃ z : List Loc, z = [] := ⟨_, rfl⟩
  rw [← hlc0] at hc ⊢
  refine lv_aload_n hx hb dX11_no_0 rfl (lv_at hl 0 rfl) ?_
  refine lv_iload_n hx hb dX11_no_1 rfl (lv_at hl 1 rfl) ?_
  obtain ⟨hk1, h⟩ := h
  refine g_puti CF hc hk1 rfl (by decide) (fun _ h9 => List.mem_cons_of_mem _ (List.mem_append_right _ (h9))) tyX11 tyX11_ok nmX11 (k := 0) (by decide) (List.mem_cons_of_mem _ (List.mem_append_left _ (List.mem_of_getElem? (i := 0) rfl))) rfl (v := p1) rfl rfl rfl dX11_no_2 (fun H locs hc => ?_)
  obtain ⟨g2, eg3⟩ : ∃ z, z = sU g0 p0 0 p1 := ⟨_, rfl⟩
  have hc : gC D cA (gA g0 sz) s g2 H locs := by rw [eg3]; exact hc
  replace h := h g2 eg3
  refine lv_iconst (v := 0) hx hb dX11_no_5 (by decide) ?_
  exact g_reti (r := 0) CF hr hlk hc rfl h dX11_no_6
def w_X11_ok (g0 : gS) (p0 : Nat) (p1 : Int32) (Q : Int32 → gS → Prop) : Prop :=
  gK g0 p0 = 12 ∧ (∀ g2, g2 = sU g0 p0 0 0 → (Q p1 g2))
abbrev r_X11_ok : Room := { frames := 0, cells := 0, slots := 0, locals := 0 }
set_option maxHeartbeats 4000000 in
set_option maxRecDepth 100000 in
theorem c_X11_ok {l : Launch} {D : va_G} {cA : Nat → ClassId} {sz : Nat} {g0 : gS} {p0 : Nat} {p1 : Int32} {Q : Int32 → gS → Prop} (h : w_X11_ok g0 p0 p1 Q) : Met l yX11_ok wsX11_ok r_X11_ok (va_Pc [.ref p0, .int p1] (gPre D cA g0 sz)) (gQi D cA g0 sz (Q)) 0 0 (gA g0 sz) := by
  refine g_met (cc := cX11_ok) (maxL := 2) (ret := (some .int)) (own := RX11) (by decide) rfl rfl (Nat.le_of_ble_eq_true rfl) ?_
  intro p e s m args below meth c ls CF hr hlk hnm hc hl
  obtain ⟨hx, hb, hml, hown, hts⟩ := id CF
  have hl : lv_has ls 2 [(0, .ref p0), (1, .int p1)] := hl
  show W p l e r_X11_ok s m args below meth c s.heap [] 0 0 (MQ below (gQi D cA g0 sz (Q)) args s 0 0 (gA g0 sz)) (F0 m 0 ls [])
  unfold w_X11_ok at h
  obtain ⟨H, hH0⟩ : ∃ z, z = s.heap := ⟨_, rfl⟩
  rw [← hH0] at hc ⊢
  obtain ⟨locs, hlc0⟩ : ∃ z : List Loc, z = [] := ⟨_, rfl⟩
  rw [← hlc0] at hc ⊢
  refine lv_aload_n hx hb dX11_ok_0 rfl (lv_at hl 0 rfl) ?_
  refine lv_iconst (v := 0) hx hb dX11_ok_1 (by decide) ?_
  obtain ⟨hk1, h⟩ := h
  refine g_puti CF hc hk1 rfl (by decide) (fun _ h9 => List.mem_cons_of_mem _ (List.mem_append_right _ (h9))) tyX11 tyX11_ok nmX11 (k := 0) (by decide) (List.mem_cons_of_mem _ (List.mem_append_left _ (List.mem_of_getElem? (i := 0) rfl))) rfl (v := 0) rfl rfl rfl dX11_ok_2 (fun H locs hc => ?_)
  obtain ⟨g2, eg3⟩ : ∃ z, z = sU g0 p0 0 0 := ⟨_, rfl⟩
  have hc : gC D cA (gA g0 sz) s g2 H locs := by rw [eg3]; exact hc
  replace h := h g2 eg3
  refine lv_iload_n hx hb dX11_ok_5 rfl (lv_at hl 1 rfl) ?_
  exact g_reti (r := p1) CF hr hlk hc rfl h dX11_ok_6
def b_X11_isIn_15 (g : gS) (is0 : Int32) (Q : Int32 → Prop) : Prop :=
  (is0 = 0 ∨ is0 = 1) ∧ (Q is0)
def b_X11_isIn_14 (g : gS) (Q : Int32 → Prop) : Prop :=
  b_X11_isIn_15 g 0 Q
def w_X11_isIn (g : gS) (p0 : Int32) (p1 : Int32) (p2 : Int32) (Q : Int32 → Prop) : Prop :=
  (p0 < p1 → (b_X11_isIn_14 g Q)) ∧ (¬ p0 < p1 → ((p2 < p0 → (b_X11_isIn_14 g Q)) ∧ (¬ p2 < p0 → (b_X11_isIn_15 g 1 Q))))
abbrev r_X11_isIn : Room := { frames := 0, cells := 0, slots := 0, locals := 0 }
set_option maxHeartbeats 4000000 in
set_option maxRecDepth 100000 in
theorem c_X11_isIn {l : Launch} {D : va_G} {cA : Nat → ClassId} {sz : Nat} {g : gS} {p0 : Int32} {p1 : Int32} {p2 : Int32} {Q : Int32 → Prop} (h : w_X11_isIn g p0 p1 p2 Q) : Met l yX11_isIn wsX11_isIn r_X11_isIn (va_Pc [.int p0, .int p1, .int p2] (gPre D cA g sz)) (gQi D cA g sz (fun r g2 => g = g2 ∧ Q r)) 0 0 (gA g sz) := by
  refine g_met (cc := cX11_isIn) (maxL := 3) (ret := (some .boolean)) (own := RX11) (by decide) rfl rfl (Nat.le_of_ble_eq_true rfl) ?_
  intro p e s m args below meth c ls CF hr hlk hnm hc hl
  obtain ⟨hx, hb, hml, hown, hts⟩ := id CF
  have hl : lv_has ls 3 [(0, .int p0), (1, .int p1), (2, .int p2)] := hl
  show W p l e r_X11_isIn s m args below meth c s.heap [] 0 0 (MQ below (gQi D cA g sz (fun r g2 => g = g2 ∧ Q r)) args s 0 0 (gA g sz)) (F0 m 0 ls [])
  have hb_15 : ∀ (is0 : Int32), b_X11_isIn_15 g is0 Q → ∀ (H : Heap) (locs : List Loc) (ls : Array Slot), gC D cA (gA g sz) s g H locs → lv_has ls 3 [] → W p l e r_X11_isIn s m args below meth c H locs 0 0 (MQ below (gQi D cA g sz (fun r g2 => g = g2 ∧ Q r)) args s 0 0 (gA g sz)) (F0 m 15 ls [.int is0]) := by
    intro is0 h H locs ls hc hl
    unfold b_X11_isIn_15 at h
    obtain ⟨hz1, h⟩ := h
    exact g_reti (r := is0) CF hr hlk hc (narrow_01 hz1) ⟨rfl, h⟩ dX11_isIn_15
  have hb_14 : b_X11_isIn_14 g Q → ∀ (H : Heap) (locs : List Loc) (ls : Array Slot), gC D cA (gA g sz) s g H locs → lv_has ls 3 [] → W p l e r_X11_isIn s m args below meth c H locs 0 0 (MQ below (gQi D cA g sz (fun r g2 => g = g2 ∧ Q r)) args s 0 0 (gA g sz)) (F0 m 14 ls []) := by
    intro h H locs ls hc hl
    unfold b_X11_isIn_14 at h
    refine lv_iconst (v := 0) hx hb dX11_isIn_14 (by decide) ?_
    exact hb_15 0 h _ _ _ hc (lv_sub hl [] rfl)
  unfold w_X11_isIn at h
  obtain ⟨H, hH0⟩ : ∃ z, z = s.heap := ⟨_, rfl⟩
  rw [← hH0] at hc ⊢
  obtain ⟨locs, hlc0⟩ : ∃ z : List Loc, z = [] := ⟨_, rfl⟩
  rw [← hlc0] at hc ⊢
  refine lv_iload_n hx hb dX11_isIn_0 rfl (lv_at hl 0 rfl) ?_
  refine lv_iload_n hx hb dX11_isIn_1 rfl (lv_at hl 1 rfl) ?_
  refine lv_icmp_lt (tgt := 14) hx hb dX11_isIn_2 (by decide) (fun c2 => ?_) (fun c2 => ?_)
  · have h := h.1 c2
    exact hb_14  h _ _ _ hc (lv_sub hl [] rfl)
  · have h := h.2 c2
    refine lv_iload_n hx hb dX11_isIn_5 rfl (lv_at hl 0 rfl) ?_
    refine lv_iload_n hx hb dX11_isIn_6 rfl (lv_at hl 2 rfl) ?_
    refine lv_icmp_gt (tgt := 14) hx hb dX11_isIn_7 (by decide) (fun c3 => ?_) (fun c3 => ?_)
    · have h := h.1 c3
      exact hb_14  h _ _ _ hc (lv_sub hl [] rfl)
    · have h := h.2 c3
      refine lv_iconst (v := 1) hx hb dX11_isIn_10 (by decide) ?_
      refine lv_goto (tgt := 15) hx hb dX11_isIn_11 (by decide) ?_
      exact hb_15 1 h _ _ _ hc (lv_sub hl [] rfl)
def w_X11_isTerm (g : gS) (p0 : Int32) (Q : Int32 → Prop) : Prop :=
  w_X11_isIn g p0 0 199 (fun x1 => ((x1 = 0 ∨ x1 = 1) ∧ (Q x1)))
abbrev r_X11_isTerm : Room := { frames := 1, cells := 0, slots := 0, locals := 22 }
set_option maxHeartbeats 4000000 in
set_option maxRecDepth 100000 in
theorem c_X11_isTerm {l : Launch} {D : va_G} {cA : Nat → ClassId} {sz : Nat} {g : gS} {p0 : Int32} {Q : Int32 → Prop} (h : w_X11_isTerm g p0 Q) : Met l yX11_isTerm wsX11_isTerm r_X11_isTerm (va_Pc [.int p0] (gPre D cA g sz)) (gQi D cA g sz (fun r g2 => g = g2 ∧ Q r)) 0 0 (gA g sz) := by
  refine g_met (cc := cX11_isTerm) (maxL := 1) (ret := (some .boolean)) (own := RX11) (by decide) rfl rfl (Nat.le_of_ble_eq_true rfl) ?_
  intro p e s m args below meth c ls CF hr hlk hnm hc hl
  obtain ⟨hx, hb, hml, hown, hts⟩ := id CF
  have hl : lv_has ls 1 [(0, .int p0)] := hl
  show W p l e r_X11_isTerm s m args below meth c s.heap [] 0 0 (MQ below (gQi D cA g sz (fun r g2 => g = g2 ∧ Q r)) args s 0 0 (gA g sz)) (F0 m 0 ls [])
  unfold w_X11_isTerm at h
  obtain ⟨H, hH0⟩ : ∃ z, z = s.heap := ⟨_, rfl⟩
  rw [← hH0] at hc ⊢
  obtain ⟨locs, hlc0⟩ : ∃ z : List Loc, z = [] := ⟨_, rfl⟩
  rw [← hlc0] at hc ⊢
  refine lv_iload_n hx hb dX11_isTerm_0 rfl (lv_at hl 0 rfl) ?_
  refine lv_iconst (v := 0) hx hb dX11_isTerm_1 (by decide) ?_
  refine lv_sipush (v := 199) hx hb dX11_isTerm_2 (by decide) ?_
  refine g_calli (va_runS (As := [.int p0, .int 0, .int 199]) (rest := []) CF (c_X11_isIn h) (va_cwS 3 hts gX11_isTerm_X11_isIn rfl rfl rfl (by decide +kernel) ⟨Nat.le_of_ble_eq_true rfl, Nat.le_of_ble_eq_true rfl⟩) hc.preS rfl rfl hl.1 rfl (lv_room (Nat.le_of_ble_eq_true rfl)) dX11_isTerm_5 ⟨Nat.le_of_ble_eq_true rfl, Nat.le_of_ble_eq_true rfl⟩) hc (fun x1 gq2 H locs hq hc => ?_)
  obtain ⟨rfl, h⟩ := hq
  obtain ⟨hz3, h⟩ := h
  exact g_reti (r := x1) CF hr hlk hc (narrow_01 hz3) ⟨rfl, h⟩ dX11_isTerm_8
def w_X11_isField (g : gS) (p0 : Int32) (Q : Int32 → Prop) : Prop :=
  w_X11_isIn g p0 0 2 (fun x1 => ((x1 = 0 ∨ x1 = 1) ∧ (Q x1)))
abbrev r_X11_isField : Room := { frames := 1, cells := 0, slots := 0, locals := 22 }
set_option maxHeartbeats 4000000 in
set_option maxRecDepth 100000 in
theorem c_X11_isField {l : Launch} {D : va_G} {cA : Nat → ClassId} {sz : Nat} {g : gS} {p0 : Int32} {Q : Int32 → Prop} (h : w_X11_isField g p0 Q) : Met l yX11_isField wsX11_isField r_X11_isField (va_Pc [.int p0] (gPre D cA g sz)) (gQi D cA g sz (fun r g2 => g = g2 ∧ Q r)) 0 0 (gA g sz) := by
  refine g_met (cc := cX11_isField) (maxL := 1) (ret := (some .boolean)) (own := RX11) (by decide) rfl rfl (Nat.le_of_ble_eq_true rfl) ?_
  intro p e s m args below meth c ls CF hr hlk hnm hc hl
  obtain ⟨hx, hb, hml, hown, hts⟩ := id CF
  have hl : lv_has ls 1 [(0, .int p0)] := hl
  show W p l e r_X11_isField s m args below meth c s.heap [] 0 0 (MQ below (gQi D cA g sz (fun r g2 => g = g2 ∧ Q r)) args s 0 0 (gA g sz)) (F0 m 0 ls [])
  unfold w_X11_isField at h
  obtain ⟨H, hH0⟩ : ∃ z, z = s.heap := ⟨_, rfl⟩
  rw [← hH0] at hc ⊢
  obtain ⟨locs, hlc0⟩ : ∃ z : List Loc, z = [] := ⟨_, rfl⟩
  rw [← hlc0] at hc ⊢
  refine lv_iload_n hx hb dX11_isField_0 rfl (lv_at hl 0 rfl) ?_
  refine lv_iconst (v := 0) hx hb dX11_isField_1 (by decide) ?_
  refine lv_iconst (v := 2) hx hb dX11_isField_2 (by decide) ?_
  refine g_calli (va_runS (As := [.int p0, .int 0, .int 2]) (rest := []) CF (c_X11_isIn h) (va_cwS 3 hts gX11_isField_X11_isIn rfl rfl rfl (by decide +kernel) ⟨Nat.le_of_ble_eq_true rfl, Nat.le_of_ble_eq_true rfl⟩) hc.preS rfl rfl hl.1 rfl (lv_room (Nat.le_of_ble_eq_true rfl)) dX11_isField_3 ⟨Nat.le_of_ble_eq_true rfl, Nat.le_of_ble_eq_true rfl⟩) hc (fun x1 gq2 H locs hq hc => ?_)
  obtain ⟨rfl, h⟩ := hq
  obtain ⟨hz3, h⟩ := h
  exact g_reti (r := x1) CF hr hlk hc (narrow_01 hz3) ⟨rfl, h⟩ dX11_isField_6
def w_X11_isDocument (g : gS) (p0 : Nat) (p1 : Int32) (Q : Int32 → Prop) : Prop :=
  gK g p0 = 12 ∧ (w_X11_isIn g p1 0 ((gI g p0 1) - 1) (fun x2 => ((x2 = 0 ∨ x2 = 1) ∧ (Q x2))))
abbrev r_X11_isDocument : Room := { frames := 1, cells := 0, slots := 0, locals := 22 }
set_option maxHeartbeats 4000000 in
set_option maxRecDepth 100000 in
theorem c_X11_isDocument {l : Launch} {D : va_G} {cA : Nat → ClassId} {sz : Nat} {g : gS} {p0 : Nat} {p1 : Int32} {Q : Int32 → Prop} (h : w_X11_isDocument g p0 p1 Q) : Met l yX11_isDocument wsX11_isDocument r_X11_isDocument (va_Pc [.ref p0, .int p1] (gPre D cA g sz)) (gQi D cA g sz (fun r g2 => g = g2 ∧ Q r)) 0 0 (gA g sz) := by
  refine g_met (cc := cX11_isDocument) (maxL := 2) (ret := (some .boolean)) (own := RX11) (by decide) rfl rfl (Nat.le_of_ble_eq_true rfl) ?_
  intro p e s m args below meth c ls CF hr hlk hnm hc hl
  obtain ⟨hx, hb, hml, hown, hts⟩ := id CF
  have hl : lv_has ls 2 [(0, .ref p0), (1, .int p1)] := hl
  show W p l e r_X11_isDocument s m args below meth c s.heap [] 0 0 (MQ below (gQi D cA g sz (fun r g2 => g = g2 ∧ Q r)) args s 0 0 (gA g sz)) (F0 m 0 ls [])
  unfold w_X11_isDocument at h
  obtain ⟨H, hH0⟩ : ∃ z, z = s.heap := ⟨_, rfl⟩
  rw [← hH0] at hc ⊢
  obtain ⟨locs, hlc0⟩ : ∃ z : List Loc, z = [] := ⟨_, rfl⟩
  rw [← hlc0] at hc ⊢
  refine lv_iload_n hx hb dX11_isDocument_0 rfl (lv_at hl 1 rfl) ?_
  refine lv_iconst (v := 0) hx hb dX11_isDocument_1 (by decide) ?_
  refine lv_aload_n hx hb dX11_isDocument_2 rfl (lv_at hl 0 rfl) ?_
  obtain ⟨hk1, h⟩ := h
  refine g_get CF hc hk1 rfl (by decide) (fun _ h9 => List.mem_cons_of_mem _ (List.mem_append_right _ (h9))) (k := 1) (by decide) (List.mem_cons_of_mem _ (List.mem_append_left _ (List.mem_of_getElem? (i := 0) rfl))) rfl dX11_isDocument_3 ?_
  refine lv_iconst (v := 1) hx hb dX11_isDocument_6 (by decide) ?_
  refine lv_isub hx hb dX11_isDocument_7 ?_
  refine g_calli (va_runS (As := [.int p1, .int 0, .int ((gI g p0 1) - 1)]) (rest := []) CF (c_X11_isIn h) (va_cwS 3 hts gX11_isDocument_X11_isIn rfl rfl rfl (by decide +kernel) ⟨Nat.le_of_ble_eq_true rfl, Nat.le_of_ble_eq_true rfl⟩) hc.preS rfl rfl hl.1 rfl (lv_room (Nat.le_of_ble_eq_true rfl)) dX11_isDocument_8 ⟨Nat.le_of_ble_eq_true rfl, Nat.le_of_ble_eq_true rfl⟩) hc (fun x2 gq3 H locs hq hc => ?_)
  obtain ⟨rfl, h⟩ := hq
  obtain ⟨hz4, h⟩ := h
  exact g_reti (r := x2) CF hr hlk hc (narrow_01 hz4) ⟨rfl, h⟩ dX11_isDocument_11
def w_X11_isNode (g : gS) (p0 : Nat) (p1 : Int32) (Q : Int32 → Prop) : Prop :=
  gK g p0 = 12 ∧ (w_X11_isIn g p1 0 ((gI g p0 16) - 1) (fun x2 => ((x2 = 0 ∨ x2 = 1) ∧ (Q x2))))
abbrev r_X11_isNode : Room := { frames := 1, cells := 0, slots := 0, locals := 22 }
set_option maxHeartbeats 4000000 in
set_option maxRecDepth 100000 in
theorem c_X11_isNode {l : Launch} {D : va_G} {cA : Nat → ClassId} {sz : Nat} {g : gS} {p0 : Nat} {p1 : Int32} {Q : Int32 → Prop} (h : w_X11_isNode g p0 p1 Q) : Met l yX11_isNode wsX11_isNode r_X11_isNode (va_Pc [.ref p0, .int p1] (gPre D cA g sz)) (gQi D cA g sz (fun r g2 => g = g2 ∧ Q r)) 0 0 (gA g sz) := by
  refine g_met (cc := cX11_isNode) (maxL := 2) (ret := (some .boolean)) (own := RX11) (by decide) rfl rfl (Nat.le_of_ble_eq_true rfl) ?_
  intro p e s m args below meth c ls CF hr hlk hnm hc hl
  obtain ⟨hx, hb, hml, hown, hts⟩ := id CF
  have hl : lv_has ls 2 [(0, .ref p0), (1, .int p1)] := hl
  show W p l e r_X11_isNode s m args below meth c s.heap [] 0 0 (MQ below (gQi D cA g sz (fun r g2 => g = g2 ∧ Q r)) args s 0 0 (gA g sz)) (F0 m 0 ls [])
  unfold w_X11_isNode at h
  obtain ⟨H, hH0⟩ : ∃ z, z = s.heap := ⟨_, rfl⟩
  rw [← hH0] at hc ⊢
  obtain ⟨locs, hlc0⟩ : ∃ z : List Loc, z = [] := ⟨_, rfl⟩
  rw [← hlc0] at hc ⊢
  refine lv_iload_n hx hb dX11_isNode_0 rfl (lv_at hl 1 rfl) ?_
  refine lv_iconst (v := 0) hx hb dX11_isNode_1 (by decide) ?_
  refine lv_aload_n hx hb dX11_isNode_2 rfl (lv_at hl 0 rfl) ?_
  obtain ⟨hk1, h⟩ := h
  refine g_get CF hc hk1 rfl (by decide) (fun _ h9 => List.mem_cons_of_mem _ (List.mem_append_right _ (h9))) (k := 16) (by decide) (List.mem_cons_of_mem _ (List.mem_append_left _ (List.mem_of_getElem? (i := 0) rfl))) rfl dX11_isNode_3 ?_
  refine lv_iconst (v := 1) hx hb dX11_isNode_6 (by decide) ?_
  refine lv_isub hx hb dX11_isNode_7 ?_
  refine g_calli (va_runS (As := [.int p1, .int 0, .int ((gI g p0 16) - 1)]) (rest := []) CF (c_X11_isIn h) (va_cwS 3 hts gX11_isNode_X11_isIn rfl rfl rfl (by decide +kernel) ⟨Nat.le_of_ble_eq_true rfl, Nat.le_of_ble_eq_true rfl⟩) hc.preS rfl rfl hl.1 rfl (lv_room (Nat.le_of_ble_eq_true rfl)) dX11_isNode_8 ⟨Nat.le_of_ble_eq_true rfl, Nat.le_of_ble_eq_true rfl⟩) hc (fun x2 gq3 H locs hq hc => ?_)
  obtain ⟨rfl, h⟩ := hq
  obtain ⟨hz4, h⟩ := h
  exact g_reti (r := x2) CF hr hlk hc (narrow_01 hz4) ⟨rfl, h⟩ dX11_isNode_11
def b_X11_open_48 (g : gS) (r0 : Nat) (Q : Int32 → gS → Prop) : Prop :=
  gK g r0 = 12 ∧ (w_X11_no g r0 2 (fun x2 g3 => (Q x2 g3)))
def b_X11_open_26 (g : gS) (r0 : Nat) (Q : Int32 → gS → Prop) : Prop :=
  gK g r0 = 12 ∧ (w_X11_no g r0 1 (fun x6 g7 => (Q x6 g7)))
def w_X11_open (g0 : gS) (p0 : Nat) (p1 : Int32) (p2 : Int32) (Q : Int32 → gS → Prop) : Prop :=
  gK g0 p0 = 12 ∧ (∀ g10, g10 = sU g0 p0 0 0 → (w_X11_isIn g10 p1 0 9999 (fun x12 => ((x12 = 0 → (b_X11_open_26 g10 p0 Q)) ∧ (¬ x12 = 0 → (w_X11_isIn g10 p2 0 7 (fun x15 => ((x15 = 0 → (b_X11_open_26 g10 p0 Q)) ∧ (¬ x15 = 0 → (gK g10 p0 = 12 ∧ (((gI g10 p0 2) = 0 → (((gI g10 p0 1) = 60 → (b_X11_open_48 g10 p0 Q)) ∧ (¬ (gI g10 p0 1) = 60 → (∀ g21, g21 = sU g10 p0 2 1 → (gK g21 p0 = 12 ∧ (∃ y24, gR g21 p0 3 = some y24 ∧ (gK g21 y24 = 21 ∧ (vp_in (gI g21 p0 1) (gN g21 y24) ∧ (∀ g28, g28 = sU g21 y24 (Int32.toNatClampNeg (gI g21 p0 1)) p1 → (gK g28 p0 = 12 ∧ (∃ y31, gR g28 p0 4 = some y31 ∧ (gK g28 y31 = 21 ∧ (vp_in (gI g28 p0 1) (gN g28 y31) ∧ (∀ g35, g35 = sU g28 y31 (Int32.toNatClampNeg (gI g28 p0 1)) p2 → (gK g35 p0 = 12 ∧ (Q (gI g35 p0 1) g35)))))))))))))))) ∧ (¬ (gI g10 p0 2) = 0 → (b_X11_open_48 g10 p0 Q)))))))))))))
abbrev r_X11_open : Room := { frames := 1, cells := 0, slots := 0, locals := 22 }
set_option maxHeartbeats 4000000 in
set_option maxRecDepth 100000 in
theorem c_X11_open {l : Launch} {D : va_G} {cA : Nat → ClassId} {sz : Nat} {g0 : gS} {p0 : Nat} {p1 : Int32} {p2 : Int32} {Q : Int32 → gS → Prop} (h : w_X11_open g0 p0 p1 p2 Q) : Met l yX11_open wsX11_open r_X11_open (va_Pc [.ref p0, .int p1, .int p2] (gPre D cA g0 sz)) (gQi D cA g0 sz (Q)) 0 0 (gA g0 sz) := by
  refine g_met (cc := cX11_open) (maxL := 3) (ret := (some .int)) (own := RX11) (by decide) rfl rfl (Nat.le_of_ble_eq_true rfl) ?_
  intro p e s m args below meth c ls CF hr hlk hnm hc hl
  obtain ⟨hx, hb, hml, hown, hts⟩ := id CF
  have hl : lv_has ls 3 [(0, .ref p0), (1, .int p1), (2, .int p2)] := hl
  show W p l e r_X11_open s m args below meth c s.heap [] 0 0 (MQ below (gQi D cA g0 sz (Q)) args s 0 0 (gA g0 sz)) (F0 m 0 ls [])
  have hb_48 : ∀ (g : gS) (r0 : Nat), b_X11_open_48 g r0 Q → ∀ (H : Heap) (locs : List Loc) (ls : Array Slot), gC D cA (gA g0 sz) s g H locs → lv_has ls 3 [(0, .ref r0)] → W p l e r_X11_open s m args below meth c H locs 0 0 (MQ below (gQi D cA g0 sz (Q)) args s 0 0 (gA g0 sz)) (F0 m 48 ls []) := by
    intro g r0 h H locs ls hc hl
    unfold b_X11_open_48 at h
    refine lv_aload_n hx hb dX11_open_48 rfl (lv_at hl 0 rfl) ?_
    refine lv_iconst (v := 2) hx hb dX11_open_49 (by decide) ?_
    obtain ⟨hk1, h⟩ := h
    refine g_calli (va_runV (As := [.int 2]) (rest := []) CF (c_X11_no h) (cwV 1 hts gX11_open_X11_no rfl rfl rfl (by decide +kernel) ⟨Nat.le_of_ble_eq_true rfl, Nat.le_of_ble_eq_true rfl⟩) (hc.preV hk1 rfl (by decide)) rfl rfl hl.1 rfl (lv_room (Nat.le_of_ble_eq_true rfl)) dX11_open_50 ⟨Nat.le_of_ble_eq_true rfl, Nat.le_of_ble_eq_true rfl⟩) hc (fun x2 g3 H locs hq hc => ?_)
    replace h := hq
    exact g_reti (r := x2) CF hr hlk hc rfl h dX11_open_53
  have hb_26 : ∀ (g : gS) (r0 : Nat), b_X11_open_26 g r0 Q → ∀ (H : Heap) (locs : List Loc) (ls : Array Slot), gC D cA (gA g0 sz) s g H locs → lv_has ls 3 [(0, .ref r0)] → W p l e r_X11_open s m args below meth c H locs 0 0 (MQ below (gQi D cA g0 sz (Q)) args s 0 0 (gA g0 sz)) (F0 m 26 ls []) := by
    intro g r0 h H locs ls hc hl
    unfold b_X11_open_26 at h
    refine lv_aload_n hx hb dX11_open_26 rfl (lv_at hl 0 rfl) ?_
    refine lv_iconst (v := 1) hx hb dX11_open_27 (by decide) ?_
    obtain ⟨hk5, h⟩ := h
    refine g_calli (va_runV (As := [.int 1]) (rest := []) CF (c_X11_no h) (cwV 1 hts gX11_open_X11_no rfl rfl rfl (by decide +kernel) ⟨Nat.le_of_ble_eq_true rfl, Nat.le_of_ble_eq_true rfl⟩) (hc.preV hk5 rfl (by decide)) rfl rfl hl.1 rfl (lv_room (Nat.le_of_ble_eq_true rfl)) dX11_open_28 ⟨Nat.le_of_ble_eq_true rfl, Nat.le_of_ble_eq_true rfl⟩) hc (fun x6 g7 H locs hq hc => ?_)
    replace h := hq
    exact g_reti (r := x6) CF hr hlk hc rfl h dX11_open_31
  unfold w_X11_open at h
  obtain ⟨H, hH0⟩ : ∃ z, z = s.heap := ⟨_, rfl⟩
  rw [← hH0] at hc ⊢
  obtain ⟨locs, hlc0⟩ : ∃ z : List Loc, z = [] := ⟨_, rfl⟩
  rw [← hlc0] at hc ⊢
  refine lv_aload_n hx hb dX11_open_0 rfl (lv_at hl 0 rfl) ?_
  refine lv_iconst (v := 0) hx hb dX11_open_1 (by decide) ?_
  obtain ⟨hk9, h⟩ := h
  refine g_puti CF hc hk9 rfl (by decide) (fun _ h9 => List.mem_cons_of_mem _ (List.mem_append_right _ (h9))) tyX11 tyX11_ok nmX11 (k := 0) (by decide) (List.mem_cons_of_mem _ (List.mem_append_left _ (List.mem_of_getElem? (i := 0) rfl))) rfl (v := 0) rfl rfl rfl dX11_open_2 (fun H locs hc => ?_)
  obtain ⟨g10, eg11⟩ : ∃ z, z = sU g0 p0 0 0 := ⟨_, rfl⟩
  have hc : gC D cA (gA g0 sz) s g10 H locs := by rw [eg11]; exact hc
  replace h := h g10 eg11
  refine lv_iload_n hx hb dX11_open_5 rfl (lv_at hl 1 rfl) ?_
  refine lv_iconst (v := 0) hx hb dX11_open_6 (by decide) ?_
  refine lv_sipush (v := 9999) hx hb dX11_open_7 (by decide) ?_
  refine g_calli (va_runS (As := [.int p1, .int 0, .int 9999]) (rest := []) CF (c_X11_isIn h) (va_cwS 3 hts gX11_open_X11_isIn rfl rfl rfl (by decide +kernel) ⟨Nat.le_of_ble_eq_true rfl, Nat.le_of_ble_eq_true rfl⟩) hc.preS rfl rfl hl.1 rfl (lv_room (Nat.le_of_ble_eq_true rfl)) dX11_open_10 ⟨Nat.le_of_ble_eq_true rfl, Nat.le_of_ble_eq_true rfl⟩) hc (fun x12 gq13 H locs hq hc => ?_)
  obtain ⟨rfl, h⟩ := hq
  refine lv_if_eq (tgt := 26) hx hb dX11_open_13 (by decide) (fun c14 => ?_) (fun c14 => ?_)
  · have h := h.1 c14
    exact hb_26 g10 p0 h _ _ _ hc (lv_sub hl [0] rfl)
  · have h := h.2 c14
    refine lv_iload_n hx hb dX11_open_16 rfl (lv_at hl 2 rfl) ?_
    refine lv_iconst (v := 0) hx hb dX11_open_17 (by decide) ?_
    refine lv_bipush (v := 7) hx hb dX11_open_18 (by decide) ?_
    refine g_calli (va_runS (As := [.int p2, .int 0, .int 7]) (rest := []) CF (c_X11_isIn h) (va_cwS 3 hts gX11_open_X11_isIn rfl rfl rfl (by decide +kernel) ⟨Nat.le_of_ble_eq_true rfl, Nat.le_of_ble_eq_true rfl⟩) hc.preS rfl rfl hl.1 rfl (lv_room (Nat.le_of_ble_eq_true rfl)) dX11_open_20 ⟨Nat.le_of_ble_eq_true rfl, Nat.le_of_ble_eq_true rfl⟩) hc (fun x15 gq16 H locs hq hc => ?_)
    obtain ⟨rfl, h⟩ := hq
    refine lv_if_ne (tgt := 32) hx hb dX11_open_23 (by decide) (fun c17 => ?_) (fun c17 => ?_)
    · have h := h.2 c17
      refine lv_aload_n hx hb dX11_open_32 rfl (lv_at hl 0 rfl) ?_
      obtain ⟨hk18, h⟩ := h
      refine g_get CF hc hk18 rfl (by decide) (fun _ h9 => List.mem_cons_of_mem _ (List.mem_append_right _ (h9))) (k := 2) (by decide) (List.mem_cons_of_mem _ (List.mem_append_left _ (List.mem_of_getElem? (i := 1) rfl))) rfl dX11_open_33 ?_
      refine lv_if_ne (tgt := 48) hx hb dX11_open_36 (by decide) (fun c19 => ?_) (fun c19 => ?_)
      · have h := h.2 c19
        exact hb_48 g10 p0 h _ _ _ hc (lv_sub hl [0] rfl)
      · have h := h.1 c19
        refine lv_aload_n hx hb dX11_open_39 rfl (lv_at hl 0 rfl) ?_
        refine g_get CF hc hk18 rfl (by decide) (fun _ h9 => List.mem_cons_of_mem _ (List.mem_append_right _ (h9))) (k := 1) (by decide) (List.mem_cons_of_mem _ (List.mem_append_left _ (List.mem_of_getElem? (i := 2) rfl))) rfl dX11_open_40 ?_
        refine lv_bipush (v := 60) hx hb dX11_open_43 (by decide) ?_
        refine lv_icmp_ne (tgt := 54) hx hb dX11_open_45 (by decide) (fun c20 => ?_) (fun c20 => ?_)
        · have h := h.2 c20
          refine lv_aload_n hx hb dX11_open_54 rfl (lv_at hl 0 rfl) ?_
          refine lv_iconst (v := 1) hx hb dX11_open_55 (by decide) ?_
          refine g_puti CF hc hk18 rfl (by decide) (fun _ h9 => List.mem_cons_of_mem _ (List.mem_append_right _ (h9))) tyX11 tyX11_ok nmX11 (k := 2) (by decide) (List.mem_cons_of_mem _ (List.mem_append_left _ (List.mem_of_getElem? (i := 1) rfl))) rfl (v := 1) (narrow_01 (by decide : (1 : Int32) = 0 ∨ (1 : Int32) = 1)) (fits_01 (by decide : (1 : Int32) = 0 ∨ (1 : Int32) = 1)) rfl dX11_open_56 (fun H locs hc => ?_)
          obtain ⟨g21, eg22⟩ : ∃ z, z = sU g10 p0 2 1 := ⟨_, rfl⟩
          have hc : gC D cA (gA g0 sz) s g21 H locs := by rw [eg22]; exact hc
          replace h := h g21 eg22
          refine lv_aload_n hx hb dX11_open_59 rfl (lv_at hl 0 rfl) ?_
          obtain ⟨hk23, h⟩ := h
          obtain ⟨y24, e25, h⟩ := h
          refine g_getr CF hc hk23 rfl (by decide) (fun _ h9 => List.mem_cons_of_mem _ (List.mem_append_right _ (h9))) (k := 3) (by decide) (List.mem_cons_of_mem _ (List.mem_append_left _ (List.mem_of_getElem? (i := 3) rfl))) e25 rfl dX11_open_60 ?_
          refine lv_aload_n hx hb dX11_open_63 rfl (lv_at hl 0 rfl) ?_
          refine g_get CF hc hk23 rfl (by decide) (fun _ h9 => List.mem_cons_of_mem _ (List.mem_append_right _ (h9))) (k := 1) (by decide) (List.mem_cons_of_mem _ (List.mem_append_left _ (List.mem_of_getElem? (i := 2) rfl))) rfl dX11_open_64 ?_
          refine lv_iload_n hx hb dX11_open_67 rfl (lv_at hl 1 rfl) ?_
          obtain ⟨hk26, h⟩ := h
          obtain ⟨hi27, h⟩ := h
          refine g_iast CF hc hk26 (x := p1) hi27 dX11_open_68 (fun H locs hc => ?_)
          obtain ⟨g28, eg29⟩ : ∃ z, z = sU g21 y24 (Int32.toNatClampNeg (gI g21 p0 1)) p1 := ⟨_, rfl⟩
          have hc : gC D cA (gA g0 sz) s g28 H locs := by rw [eg29]; exact hc
          replace h := h g28 eg29
          refine lv_aload_n hx hb dX11_open_69 rfl (lv_at hl 0 rfl) ?_
          obtain ⟨hk30, h⟩ := h
          obtain ⟨y31, e32, h⟩ := h
          refine g_getr CF hc hk30 rfl (by decide) (fun _ h9 => List.mem_cons_of_mem _ (List.mem_append_right _ (h9))) (k := 4) (by decide) (List.mem_cons_of_mem _ (List.mem_append_left _ (List.mem_of_getElem? (i := 4) rfl))) e32 rfl dX11_open_70 ?_
          refine lv_aload_n hx hb dX11_open_73 rfl (lv_at hl 0 rfl) ?_
          refine g_get CF hc hk30 rfl (by decide) (fun _ h9 => List.mem_cons_of_mem _ (List.mem_append_right _ (h9))) (k := 1) (by decide) (List.mem_cons_of_mem _ (List.mem_append_left _ (List.mem_of_getElem? (i := 2) rfl))) rfl dX11_open_74 ?_
          refine lv_iload_n hx hb dX11_open_77 rfl (lv_at hl 2 rfl) ?_
          obtain ⟨hk33, h⟩ := h
          obtain ⟨hi34, h⟩ := h
          refine g_iast CF hc hk33 (x := p2) hi34 dX11_open_78 (fun H locs hc => ?_)
          obtain ⟨g35, eg36⟩ : ∃ z, z = sU g28 y31 (Int32.toNatClampNeg (gI g28 p0 1)) p2 := ⟨_, rfl⟩
          have hc : gC D cA (gA g0 sz) s g35 H locs := by rw [eg36]; exact hc
          replace h := h g35 eg36
          refine lv_aload_n hx hb dX11_open_79 rfl (lv_at hl 0 rfl) ?_
          obtain ⟨hk37, h⟩ := h
          refine g_get CF hc hk37 rfl (by decide) (fun _ h9 => List.mem_cons_of_mem _ (List.mem_append_right _ (h9))) (k := 1) (by decide) (List.mem_cons_of_mem _ (List.mem_append_left _ (List.mem_of_getElem? (i := 2) rfl))) rfl dX11_open_80 ?_
          exact g_reti (r := (gI g35 p0 1)) CF hr hlk hc rfl h dX11_open_83
        · have h := h.1 c20
          exact hb_48 g10 p0 h _ _ _ hc (lv_sub hl [0] rfl)
    · have h := h.1 c17
      exact hb_26 g10 p0 h _ _ _ hc (lv_sub hl [0] rfl)
def b_X11_write_50 (g : gS) (r0 : Nat) (Q : Int32 → gS → Prop) : Prop :=
  gK g r0 = 12 ∧ (w_X11_no g r0 2 (fun x2 g3 => (Q x2 g3)))
def b_X11_write_19 (g : gS) (r0 : Nat) (Q : Int32 → gS → Prop) : Prop :=
  gK g r0 = 12 ∧ (w_X11_no g r0 1 (fun x6 g7 => (Q x6 g7)))
def w_X11_write (g0 : gS) (p0 : Nat) (p1 : Int32) (p2 : Int32) (Q : Int32 → gS → Prop) : Prop :=
  gK g0 p0 = 12 ∧ (∀ g10, g10 = sU g0 p0 0 0 → (w_X11_isField g10 p1 (fun x12 => ((x12 = 0 → (b_X11_write_19 g10 p0 Q)) ∧ (¬ x12 = 0 → (w_X11_isTerm g10 p2 (fun x15 => ((x15 = 0 → (b_X11_write_19 g10 p0 Q)) ∧ (¬ x15 = 0 → (gK g10 p0 = 12 ∧ (((gI g10 p0 2) = 0 → (b_X11_write_50 g10 p0 Q)) ∧ (¬ (gI g10 p0 2) = 0 → (∃ y20, gR g10 p0 7 = some y20 ∧ (gK g10 y20 = 21 ∧ (vp_in (((gI g10 p0 1) * 3) + p1) (gN g10 y20) ∧ (((gI g10 y20 (Int32.toNatClampNeg (((gI g10 p0 1) * 3) + p1))) = 12 → (b_X11_write_50 g10 p0 Q)) ∧ (¬ (gI g10 y20 (Int32.toNatClampNeg (((gI g10 p0 1) * 3) + p1))) = 12 → (∃ y25, gR g10 p0 8 = some y25 ∧ (∃ y27, gR g10 p0 7 = some y27 ∧ (gK g10 y27 = 21 ∧ (vp_in (((gI g10 p0 1) * 3) + p1) (gN g10 y27) ∧ (gK g10 y25 = 21 ∧ (vp_in (((((gI g10 p0 1) * 3) + p1) * 12) + (gI g10 y27 (Int32.toNatClampNeg (((gI g10 p0 1) * 3) + p1)))) (gN g10 y25) ∧ (∀ g33, g33 = sU g10 y25 (Int32.toNatClampNeg (((((gI g10 p0 1) * 3) + p1) * 12) + (gI g10 y27 (Int32.toNatClampNeg (((gI g10 p0 1) * 3) + p1))))) p2 → (gK g33 p0 = 12 ∧ (∃ y36, gR g33 p0 7 = some y36 ∧ (gK g33 y36 = 21 ∧ (vp_in (((gI g10 p0 1) * 3) + p1) (gN g33 y36) ∧ (vp_in (((gI g10 p0 1) * 3) + p1) (gN g33 y36) ∧ (∀ g41, g41 = sU g33 y36 (Int32.toNatClampNeg (((gI g10 p0 1) * 3) + p1)) ((gI g33 y36 (Int32.toNatClampNeg (((gI g10 p0 1) * 3) + p1))) + 1) → (Q ((gI g33 y36 (Int32.toNatClampNeg (((gI g10 p0 1) * 3) + p1))) + 1) g41)))))))))))))))))))))))))))))))
abbrev r_X11_write : Room := { frames := 2, cells := 0, slots := 0, locals := 42 }
set_option maxHeartbeats 4000000 in
set_option maxRecDepth 100000 in
theorem c_X11_write {l : Launch} {D : va_G} {cA : Nat → ClassId} {sz : Nat} {g0 : gS} {p0 : Nat} {p1 : Int32} {p2 : Int32} {Q : Int32 → gS → Prop} (h : w_X11_write g0 p0 p1 p2 Q) : Met l yX11_write wsX11_write r_X11_write (va_Pc [.ref p0, .int p1, .int p2] (gPre D cA g0 sz)) (gQi D cA g0 sz (Q)) 0 0 (gA g0 sz) := by
  refine g_met (cc := cX11_write) (maxL := 4) (ret := (some .int)) (own := RX11) (by decide) rfl rfl (Nat.le_of_ble_eq_true rfl) ?_
  intro p e s m args below meth c ls CF hr hlk hnm hc hl
  obtain ⟨hx, hb, hml, hown, hts⟩ := id CF
  have hl : lv_has ls 4 [(0, .ref p0), (1, .int p1), (2, .int p2)] := hl
  show W p l e r_X11_write s m args below meth c s.heap [] 0 0 (MQ below (gQi D cA g0 sz (Q)) args s 0 0 (gA g0 sz)) (F0 m 0 ls [])
  have hb_50 : ∀ (g : gS) (r0 : Nat), b_X11_write_50 g r0 Q → ∀ (H : Heap) (locs : List Loc) (ls : Array Slot), gC D cA (gA g0 sz) s g H locs → lv_has ls 4 [(0, .ref r0)] → W p l e r_X11_write s m args below meth c H locs 0 0 (MQ below (gQi D cA g0 sz (Q)) args s 0 0 (gA g0 sz)) (F0 m 50 ls []) := by
    intro g r0 h H locs ls hc hl
    unfold b_X11_write_50 at h
    refine lv_aload_n hx hb dX11_write_50 rfl (lv_at hl 0 rfl) ?_
    refine lv_iconst (v := 2) hx hb dX11_write_51 (by decide) ?_
    obtain ⟨hk1, h⟩ := h
    refine g_calli (va_runV (As := [.int 2]) (rest := []) CF (c_X11_no h) (cwV 1 hts gX11_write_X11_no rfl rfl rfl (by decide +kernel) ⟨Nat.le_of_ble_eq_true rfl, Nat.le_of_ble_eq_true rfl⟩) (hc.preV hk1 rfl (by decide)) rfl rfl hl.1 rfl (lv_room (Nat.le_of_ble_eq_true rfl)) dX11_write_52 ⟨Nat.le_of_ble_eq_true rfl, Nat.le_of_ble_eq_true rfl⟩) hc (fun x2 g3 H locs hq hc => ?_)
    replace h := hq
    exact g_reti (r := x2) CF hr hlk hc rfl h dX11_write_55
  have hb_19 : ∀ (g : gS) (r0 : Nat), b_X11_write_19 g r0 Q → ∀ (H : Heap) (locs : List Loc) (ls : Array Slot), gC D cA (gA g0 sz) s g H locs → lv_has ls 4 [(0, .ref r0)] → W p l e r_X11_write s m args below meth c H locs 0 0 (MQ below (gQi D cA g0 sz (Q)) args s 0 0 (gA g0 sz)) (F0 m 19 ls []) := by
    intro g r0 h H locs ls hc hl
    unfold b_X11_write_19 at h
    refine lv_aload_n hx hb dX11_write_19 rfl (lv_at hl 0 rfl) ?_
    refine lv_iconst (v := 1) hx hb dX11_write_20 (by decide) ?_
    obtain ⟨hk5, h⟩ := h
    refine g_calli (va_runV (As := [.int 1]) (rest := []) CF (c_X11_no h) (cwV 1 hts gX11_write_X11_no rfl rfl rfl (by decide +kernel) ⟨Nat.le_of_ble_eq_true rfl, Nat.le_of_ble_eq_true rfl⟩) (hc.preV hk5 rfl (by decide)) rfl rfl hl.1 rfl (lv_room (Nat.le_of_ble_eq_true rfl)) dX11_write_21 ⟨Nat.le_of_ble_eq_true rfl, Nat.le_of_ble_eq_true rfl⟩) hc (fun x6 g7 H locs hq hc => ?_)
    replace h := hq
    exact g_reti (r := x6) CF hr hlk hc rfl h dX11_write_24
  unfold w_X11_write at h
  obtain ⟨H, hH0⟩ : ∃ z, z = s.heap := ⟨_, rfl⟩
  rw [← hH0] at hc ⊢
  obtain ⟨locs, hlc0⟩ : ∃ z : List Loc, z = [] := ⟨_, rfl⟩
  rw [← hlc0] at hc ⊢
  refine lv_aload_n hx hb dX11_write_0 rfl (lv_at hl 0 rfl) ?_
  refine lv_iconst (v := 0) hx hb dX11_write_1 (by decide) ?_
  obtain ⟨hk9, h⟩ := h
  refine g_puti CF hc hk9 rfl (by decide) (fun _ h9 => List.mem_cons_of_mem _ (List.mem_append_right _ (h9))) tyX11 tyX11_ok nmX11 (k := 0) (by decide) (List.mem_cons_of_mem _ (List.mem_append_left _ (List.mem_of_getElem? (i := 0) rfl))) rfl (v := 0) rfl rfl rfl dX11_write_2 (fun H locs hc => ?_)
  obtain ⟨g10, eg11⟩ : ∃ z, z = sU g0 p0 0 0 := ⟨_, rfl⟩
  have hc : gC D cA (gA g0 sz) s g10 H locs := by rw [eg11]; exact hc
  replace h := h g10 eg11
  refine lv_iload_n hx hb dX11_write_5 rfl (lv_at hl 1 rfl) ?_
  refine g_calli (va_runS (As := [.int p1]) (rest := []) CF (c_X11_isField h) (va_cwS 1 hts gX11_write_X11_isField rfl rfl rfl (by decide +kernel) ⟨Nat.le_of_ble_eq_true rfl, Nat.le_of_ble_eq_true rfl⟩) hc.preS rfl rfl hl.1 rfl (lv_room (Nat.le_of_ble_eq_true rfl)) dX11_write_6 ⟨Nat.le_of_ble_eq_true rfl, Nat.le_of_ble_eq_true rfl⟩) hc (fun x12 gq13 H locs hq hc => ?_)
  obtain ⟨rfl, h⟩ := hq
  refine lv_if_eq (tgt := 19) hx hb dX11_write_9 (by decide) (fun c14 => ?_) (fun c14 => ?_)
  · have h := h.1 c14
    exact hb_19 g10 p0 h _ _ _ hc (lv_sub hl [0] rfl)
  · have h := h.2 c14
    refine lv_iload_n hx hb dX11_write_12 rfl (lv_at hl 2 rfl) ?_
    refine g_calli (va_runS (As := [.int p2]) (rest := []) CF (c_X11_isTerm h) (va_cwS 1 hts gX11_write_X11_isTerm rfl rfl rfl (by decide +kernel) ⟨Nat.le_of_ble_eq_true rfl, Nat.le_of_ble_eq_true rfl⟩) hc.preS rfl rfl hl.1 rfl (lv_room (Nat.le_of_ble_eq_true rfl)) dX11_write_13 ⟨Nat.le_of_ble_eq_true rfl, Nat.le_of_ble_eq_true rfl⟩) hc (fun x15 gq16 H locs hq hc => ?_)
    obtain ⟨rfl, h⟩ := hq
    refine lv_if_ne (tgt := 25) hx hb dX11_write_16 (by decide) (fun c17 => ?_) (fun c17 => ?_)
    · have h := h.2 c17
      refine lv_aload_n hx hb dX11_write_25 rfl (lv_at hl 0 rfl) ?_
      obtain ⟨hk18, h⟩ := h
      refine g_get CF hc hk18 rfl (by decide) (fun _ h9 => List.mem_cons_of_mem _ (List.mem_append_right _ (h9))) (k := 2) (by decide) (List.mem_cons_of_mem _ (List.mem_append_left _ (List.mem_of_getElem? (i := 1) rfl))) rfl dX11_write_26 ?_
      refine lv_if_eq (tgt := 50) hx hb dX11_write_29 (by decide) (fun c19 => ?_) (fun c19 => ?_)
      · have h := h.1 c19
        exact hb_50 g10 p0 h _ _ _ hc (lv_sub hl [0] rfl)
      · have h := h.2 c19
        refine lv_aload_n hx hb dX11_write_32 rfl (lv_at hl 0 rfl) ?_
        obtain ⟨y20, e21, h⟩ := h
        refine g_getr CF hc hk18 rfl (by decide) (fun _ h9 => List.mem_cons_of_mem _ (List.mem_append_right _ (h9))) (k := 7) (by decide) (List.mem_cons_of_mem _ (List.mem_append_left _ (List.mem_of_getElem? (i := 2) rfl))) e21 rfl dX11_write_33 ?_
        refine lv_aload_n hx hb dX11_write_36 rfl (lv_at hl 0 rfl) ?_
        refine g_get CF hc hk18 rfl (by decide) (fun _ h9 => List.mem_cons_of_mem _ (List.mem_append_right _ (h9))) (k := 1) (by decide) (List.mem_cons_of_mem _ (List.mem_append_left _ (List.mem_of_getElem? (i := 3) rfl))) rfl dX11_write_37 ?_
        refine lv_iconst (v := 3) hx hb dX11_write_40 (by decide) ?_
        refine lv_imul hx hb dX11_write_41 ?_
        refine lv_iload_n hx hb dX11_write_42 rfl (lv_at hl 1 rfl) ?_
        refine lv_iadd hx hb dX11_write_43 ?_
        obtain ⟨hk22, h⟩ := h
        obtain ⟨hi23, h⟩ := h
        refine g_iald CF hc hk22 hi23 dX11_write_44 ?_
        refine lv_bipush (v := 12) hx hb dX11_write_45 (by decide) ?_
        refine lv_icmp_ne (tgt := 56) hx hb dX11_write_47 (by decide) (fun c24 => ?_) (fun c24 => ?_)
        · have h := h.2 c24
          refine lv_aload_n hx hb dX11_write_56 rfl (lv_at hl 0 rfl) ?_
          refine g_get CF hc hk18 rfl (by decide) (fun _ h9 => List.mem_cons_of_mem _ (List.mem_append_right _ (h9))) (k := 1) (by decide) (List.mem_cons_of_mem _ (List.mem_append_left _ (List.mem_of_getElem? (i := 3) rfl))) rfl dX11_write_57 ?_
          refine lv_iconst (v := 3) hx hb dX11_write_60 (by decide) ?_
          refine lv_imul hx hb dX11_write_61 ?_
          refine lv_iload_n hx hb dX11_write_62 rfl (lv_at hl 1 rfl) ?_
          refine lv_iadd hx hb dX11_write_63 ?_
          refine lv_istore_n (lv' := [(3, .int (((gI g10 p0 1) * 3) + p1)), (0, .ref p0), (1, .int p1), (2, .int p2)]) hx hb dX11_write_64 rfl hl (by decide) rfl (fun ls hl => ?_)
          refine lv_aload_n hx hb dX11_write_65 rfl (lv_at hl 1 rfl) ?_
          obtain ⟨y25, e26, h⟩ := h
          refine g_getr CF hc hk18 rfl (by decide) (fun _ h9 => List.mem_cons_of_mem _ (List.mem_append_right _ (h9))) (k := 8) (by decide) (List.mem_cons_of_mem _ (List.mem_append_left _ (List.mem_of_getElem? (i := 4) rfl))) e26 rfl dX11_write_66 ?_
          refine lv_iload_n hx hb dX11_write_69 rfl (lv_at hl 0 rfl) ?_
          refine lv_bipush (v := 12) hx hb dX11_write_70 (by decide) ?_
          refine lv_imul hx hb dX11_write_72 ?_
          refine lv_aload_n hx hb dX11_write_73 rfl (lv_at hl 1 rfl) ?_
          obtain ⟨y27, e28, h⟩ := h
          refine g_getr CF hc hk18 rfl (by decide) (fun _ h9 => List.mem_cons_of_mem _ (List.mem_append_right _ (h9))) (k := 7) (by decide) (List.mem_cons_of_mem _ (List.mem_append_left _ (List.mem_of_getElem? (i := 2) rfl))) e28 rfl dX11_write_74 ?_
          refine lv_iload_n hx hb dX11_write_77 rfl (lv_at hl 0 rfl) ?_
          obtain ⟨hk29, h⟩ := h
          obtain ⟨hi30, h⟩ := h
          refine g_iald CF hc hk29 hi30 dX11_write_78 ?_
          refine lv_iadd hx hb dX11_write_79 ?_
          refine lv_iload_n hx hb dX11_write_80 rfl (lv_at hl 3 rfl) ?_
          obtain ⟨hk31, h⟩ := h
          obtain ⟨hi32, h⟩ := h
          refine g_iast CF hc hk31 (x := p2) hi32 dX11_write_81 (fun H locs hc => ?_)
          obtain ⟨g33, eg34⟩ : ∃ z, z = sU g10 y25 (Int32.toNatClampNeg (((((gI g10 p0 1) * 3) + p1) * 12) + (gI g10 y27 (Int32.toNatClampNeg (((gI g10 p0 1) * 3) + p1))))) p2 := ⟨_, rfl⟩
          have hc : gC D cA (gA g0 sz) s g33 H locs := by rw [eg34]; exact hc
          replace h := h g33 eg34
          refine lv_aload_n hx hb dX11_write_82 rfl (lv_at hl 1 rfl) ?_
          obtain ⟨hk35, h⟩ := h
          obtain ⟨y36, e37, h⟩ := h
          refine g_getr CF hc hk35 rfl (by decide) (fun _ h9 => List.mem_cons_of_mem _ (List.mem_append_right _ (h9))) (k := 7) (by decide) (List.mem_cons_of_mem _ (List.mem_append_left _ (List.mem_of_getElem? (i := 2) rfl))) e37 rfl dX11_write_83 ?_
          refine lv_iload_n hx hb dX11_write_86 rfl (lv_at hl 0 rfl) ?_
          refine lv_dup2_11 hx hb dX11_write_87 rfl rfl ?_
          obtain ⟨hk38, h⟩ := h
          obtain ⟨hi39, h⟩ := h
          refine g_iald CF hc hk38 hi39 dX11_write_88 ?_
          refine lv_iconst (v := 1) hx hb dX11_write_89 (by decide) ?_
          refine lv_iadd hx hb dX11_write_90 ?_
          refine lv_dup_x2 hx hb dX11_write_91 rfl rfl rfl ?_
          obtain ⟨hi40, h⟩ := h
          refine g_iast CF hc hk38 (x := ((gI g33 y36 (Int32.toNatClampNeg (((gI g10 p0 1) * 3) + p1))) + 1)) hi40 dX11_write_92 (fun H locs hc => ?_)
          obtain ⟨g41, eg42⟩ : ∃ z, z = sU g33 y36 (Int32.toNatClampNeg (((gI g10 p0 1) * 3) + p1)) ((gI g33 y36 (Int32.toNatClampNeg (((gI g10 p0 1) * 3) + p1))) + 1) := ⟨_, rfl⟩
          have hc : gC D cA (gA g0 sz) s g41 H locs := by rw [eg42]; exact hc
          replace h := h g41 eg42
          exact g_reti (r := ((gI g33 y36 (Int32.toNatClampNeg (((gI g10 p0 1) * 3) + p1))) + 1)) CF hr hlk hc rfl h dX11_write_93
        · have h := h.1 c24
          exact hb_50 g10 p0 h _ _ _ hc (lv_sub hl [0] rfl)
    · have h := h.1 c17
      exact hb_19 g10 p0 h _ _ _ hc (lv_sub hl [0] rfl)
def w_X11_close (g0 : gS) (p0 : Nat) (Q : Int32 → gS → Prop) : Prop :=
  gK g0 p0 = 12 ∧ (∀ g2, g2 = sU g0 p0 0 0 → (gK g2 p0 = 12 ∧ (((gI g2 p0 2) = 0 → (w_X11_no g2 p0 1 (fun x12 g13 => (Q x12 g13)))) ∧ (¬ (gI g2 p0 2) = 0 → (∀ g6, g6 = sU g2 p0 2 0 → (gK g6 p0 = 12 ∧ (∀ g9, g9 = sU g6 p0 1 ((gI g6 p0 1) + 1) → (gK g9 p0 = 12 ∧ (Q ((gI g9 p0 1) - (gI g9 p0 9)) g9)))))))))
abbrev r_X11_close : Room := { frames := 1, cells := 0, slots := 0, locals := 21 }
set_option maxHeartbeats 4000000 in
set_option maxRecDepth 100000 in
theorem c_X11_close {l : Launch} {D : va_G} {cA : Nat → ClassId} {sz : Nat} {g0 : gS} {p0 : Nat} {Q : Int32 → gS → Prop} (h : w_X11_close g0 p0 Q) : Met l yX11_close wsX11_close r_X11_close (va_Pc [.ref p0] (gPre D cA g0 sz)) (gQi D cA g0 sz (Q)) 0 0 (gA g0 sz) := by
  refine g_met (cc := cX11_close) (maxL := 1) (ret := (some .int)) (own := RX11) (by decide) rfl rfl (Nat.le_of_ble_eq_true rfl) ?_
  intro p e s m args below meth c ls CF hr hlk hnm hc hl
  obtain ⟨hx, hb, hml, hown, hts⟩ := id CF
  have hl : lv_has ls 1 [(0, .ref p0)] := hl
  show W p l e r_X11_close s m args below meth c s.heap [] 0 0 (MQ below (gQi D cA g0 sz (Q)) args s 0 0 (gA g0 sz)) (F0 m 0 ls [])
  unfold w_X11_close at h
  obtain ⟨H, hH0⟩ : ∃ z, z = s.heap := ⟨_, rfl⟩
  rw [← hH0] at hc ⊢
  obtain ⟨locs, hlc0⟩ : ∃ z : List Loc, z = [] := ⟨_, rfl⟩
  rw [← hlc0] at hc ⊢
  refine lv_aload_n hx hb dX11_close_0 rfl (lv_at hl 0 rfl) ?_
  refine lv_iconst (v := 0) hx hb dX11_close_1 (by decide) ?_
  obtain ⟨hk1, h⟩ := h
  refine g_puti CF hc hk1 rfl (by decide) (fun _ h9 => List.mem_cons_of_mem _ (List.mem_append_right _ (h9))) tyX11 tyX11_ok nmX11 (k := 0) (by decide) (List.mem_cons_of_mem _ (List.mem_append_left _ (List.mem_of_getElem? (i := 0) rfl))) rfl (v := 0) rfl rfl rfl dX11_close_2 (fun H locs hc => ?_)
  obtain ⟨g2, eg3⟩ : ∃ z, z = sU g0 p0 0 0 := ⟨_, rfl⟩
  have hc : gC D cA (gA g0 sz) s g2 H locs := by rw [eg3]; exact hc
  replace h := h g2 eg3
  refine lv_aload_n hx hb dX11_close_5 rfl (lv_at hl 0 rfl) ?_
  obtain ⟨hk4, h⟩ := h
  refine g_get CF hc hk4 rfl (by decide) (fun _ h9 => List.mem_cons_of_mem _ (List.mem_append_right _ (h9))) (k := 2) (by decide) (List.mem_cons_of_mem _ (List.mem_append_left _ (List.mem_of_getElem? (i := 1) rfl))) rfl dX11_close_6 ?_
  refine lv_if_ne (tgt := 18) hx hb dX11_close_9 (by decide) (fun c5 => ?_) (fun c5 => ?_)
  · have h := h.2 c5
    refine lv_aload_n hx hb dX11_close_18 rfl (lv_at hl 0 rfl) ?_
    refine lv_iconst (v := 0) hx hb dX11_close_19 (by decide) ?_
    refine g_puti CF hc hk4 rfl (by decide) (fun _ h9 => List.mem_cons_of_mem _ (List.mem_append_right _ (h9))) tyX11 tyX11_ok nmX11 (k := 2) (by decide) (List.mem_cons_of_mem _ (List.mem_append_left _ (List.mem_of_getElem? (i := 1) rfl))) rfl (v := 0) (narrow_01 (by decide : (0 : Int32) = 0 ∨ (0 : Int32) = 1)) (fits_01 (by decide : (0 : Int32) = 0 ∨ (0 : Int32) = 1)) rfl dX11_close_20 (fun H locs hc => ?_)
    obtain ⟨g6, eg7⟩ : ∃ z, z = sU g2 p0 2 0 := ⟨_, rfl⟩
    have hc : gC D cA (gA g0 sz) s g6 H locs := by rw [eg7]; exact hc
    replace h := h g6 eg7
    refine lv_aload_n hx hb dX11_close_23 rfl (lv_at hl 0 rfl) ?_
    refine lv_dup hx hb dX11_close_24 rfl ?_
    obtain ⟨hk8, h⟩ := h
    refine g_get CF hc hk8 rfl (by decide) (fun _ h9 => List.mem_cons_of_mem _ (List.mem_append_right _ (h9))) (k := 1) (by decide) (List.mem_cons_of_mem _ (List.mem_append_left _ (List.mem_of_getElem? (i := 2) rfl))) rfl dX11_close_25 ?_
    refine lv_iconst (v := 1) hx hb dX11_close_28 (by decide) ?_
    refine lv_iadd hx hb dX11_close_29 ?_
    refine g_puti CF hc hk8 rfl (by decide) (fun _ h9 => List.mem_cons_of_mem _ (List.mem_append_right _ (h9))) tyX11 tyX11_ok nmX11 (k := 1) (by decide) (List.mem_cons_of_mem _ (List.mem_append_left _ (List.mem_of_getElem? (i := 2) rfl))) rfl (v := ((gI g6 p0 1) + 1)) rfl rfl rfl dX11_close_30 (fun H locs hc => ?_)
    obtain ⟨g9, eg10⟩ : ∃ z, z = sU g6 p0 1 ((gI g6 p0 1) + 1) := ⟨_, rfl⟩
    have hc : gC D cA (gA g0 sz) s g9 H locs := by rw [eg10]; exact hc
    replace h := h g9 eg10
    refine lv_aload_n hx hb dX11_close_33 rfl (lv_at hl 0 rfl) ?_
    obtain ⟨hk11, h⟩ := h
    refine g_get CF hc hk11 rfl (by decide) (fun _ h9 => List.mem_cons_of_mem _ (List.mem_append_right _ (h9))) (k := 1) (by decide) (List.mem_cons_of_mem _ (List.mem_append_left _ (List.mem_of_getElem? (i := 2) rfl))) rfl dX11_close_34 ?_
    refine lv_aload_n hx hb dX11_close_37 rfl (lv_at hl 0 rfl) ?_
    refine g_get CF hc hk11 rfl (by decide) (fun _ h9 => List.mem_cons_of_mem _ (List.mem_append_right _ (h9))) (k := 9) (by decide) (List.mem_cons_of_mem _ (List.mem_append_left _ (List.mem_of_getElem? (i := 3) rfl))) rfl dX11_close_38 ?_
    refine lv_isub hx hb dX11_close_41 ?_
    exact g_reti (r := ((gI g9 p0 1) - (gI g9 p0 9))) CF hr hlk hc rfl h dX11_close_42
  · have h := h.1 c5
    refine lv_aload_n hx hb dX11_close_12 rfl (lv_at hl 0 rfl) ?_
    refine lv_iconst (v := 1) hx hb dX11_close_13 (by decide) ?_
    refine g_calli (va_runV (As := [.int 1]) (rest := []) CF (c_X11_no h) (cwV 1 hts gX11_close_X11_no rfl rfl rfl (by decide +kernel) ⟨Nat.le_of_ble_eq_true rfl, Nat.le_of_ble_eq_true rfl⟩) (hc.preV hk4 rfl (by decide)) rfl rfl hl.1 rfl (lv_room (Nat.le_of_ble_eq_true rfl)) dX11_close_14 ⟨Nat.le_of_ble_eq_true rfl, Nat.le_of_ble_eq_true rfl⟩) hc (fun x12 g13 H locs hq hc => ?_)
    replace h := hq
    exact g_reti (r := x12) CF hr hlk hc rfl h dX11_close_17
def b_X11_remove_49 (g : gS) (is0 : Int32) (Q : Int32 → gS → Prop) : Prop :=
  (is0 = 0 ∨ is0 = 1) ∧ (Q is0 g)
def b_X11_remove_14 (g : gS) (r0 : Nat) (i1 : Int32) (rs0 : Nat) (is1 : Int32) (Q : Int32 → gS → Prop) : Prop :=
  gK g rs0 = 12 ∧ (∀ g3, g3 = sU g rs0 0 is1 → (gK g3 r0 = 12 ∧ (((gI g3 r0 0) = 0 → (∃ y7, gR g3 r0 5 = some y7 ∧ (gK g3 y7 = 22 ∧ (vp_in i1 (gN g3 y7) ∧ (∃ y11, gR g3 r0 5 = some y11 ∧ (gK g3 y11 = 22 ∧ (vp_in i1 (gN g3 y11) ∧ (∀ g15, g15 = sU g3 y11 (Int32.toNatClampNeg i1) 1 → (((gI g3 y7 (Int32.toNatClampNeg i1)) = 0 → (b_X11_remove_49 g15 1 Q)) ∧ (¬ (gI g3 y7 (Int32.toNatClampNeg i1)) = 0 → (b_X11_remove_49 g15 0 Q))))))))))) ∧ (¬ (gI g3 r0 0) = 0 → (Q 0 g3)))))
def w_X11_remove (g0 : gS) (p0 : Nat) (p1 : Int32) (Q : Int32 → gS → Prop) : Prop :=
  gK g0 p0 = 12 ∧ (w_X11_isDocument g0 p0 p1 (fun x19 => ((x19 = 0 → (b_X11_remove_14 g0 p0 p1 p0 1 Q)) ∧ (¬ x19 = 0 → (b_X11_remove_14 g0 p0 p1 p0 0 Q)))))
abbrev r_X11_remove : Room := { frames := 2, cells := 0, slots := 0, locals := 43 }
set_option maxHeartbeats 4000000 in
set_option maxRecDepth 100000 in
theorem c_X11_remove {l : Launch} {D : va_G} {cA : Nat → ClassId} {sz : Nat} {g0 : gS} {p0 : Nat} {p1 : Int32} {Q : Int32 → gS → Prop} (h : w_X11_remove g0 p0 p1 Q) : Met l yX11_remove wsX11_remove r_X11_remove (va_Pc [.ref p0, .int p1] (gPre D cA g0 sz)) (gQi D cA g0 sz (Q)) 0 0 (gA g0 sz) := by
  refine g_met (cc := cX11_remove) (maxL := 3) (ret := (some .boolean)) (own := RX11) (by decide) rfl rfl (Nat.le_of_ble_eq_true rfl) ?_
  intro p e s m args below meth c ls CF hr hlk hnm hc hl
  obtain ⟨hx, hb, hml, hown, hts⟩ := id CF
  have hl : lv_has ls 3 [(0, .ref p0), (1, .int p1)] := hl
  show W p l e r_X11_remove s m args below meth c s.heap [] 0 0 (MQ below (gQi D cA g0 sz (Q)) args s 0 0 (gA g0 sz)) (F0 m 0 ls [])
  have hb_49 : ∀ (g : gS) (is0 : Int32), b_X11_remove_49 g is0 Q → ∀ (H : Heap) (locs : List Loc) (ls : Array Slot), gC D cA (gA g0 sz) s g H locs → lv_has ls 3 [] → W p l e r_X11_remove s m args below meth c H locs 0 0 (MQ below (gQi D cA g0 sz (Q)) args s 0 0 (gA g0 sz)) (F0 m 49 ls [.int is0]) := by
    intro g is0 h H locs ls hc hl
    unfold b_X11_remove_49 at h
    obtain ⟨hz1, h⟩ := h
    exact g_reti (r := is0) CF hr hlk hc (narrow_01 hz1) h dX11_remove_49
  have hb_14 : ∀ (g : gS) (r0 : Nat) (i1 : Int32) (rs0 : Nat) (is1 : Int32), b_X11_remove_14 g r0 i1 rs0 is1 Q → ∀ (H : Heap) (locs : List Loc) (ls : Array Slot), gC D cA (gA g0 sz) s g H locs → lv_has ls 3 [(0, .ref r0), (1, .int i1)] → W p l e r_X11_remove s m args below meth c H locs 0 0 (MQ below (gQi D cA g0 sz (Q)) args s 0 0 (gA g0 sz)) (F0 m 14 ls [.int is1, .ref rs0]) := by
    intro g r0 i1 rs0 is1 h H locs ls hc hl
    unfold b_X11_remove_14 at h
    obtain ⟨hk2, h⟩ := h
    refine g_puti CF hc hk2 rfl (by decide) (fun _ h9 => List.mem_cons_of_mem _ (List.mem_append_right _ (h9))) tyX11 tyX11_ok nmX11 (k := 0) (by decide) (List.mem_cons_of_mem _ (List.mem_append_left _ (List.mem_of_getElem? (i := 0) rfl))) rfl (v := is1) rfl rfl rfl dX11_remove_14 (fun H locs hc => ?_)
    obtain ⟨g3, eg4⟩ : ∃ z, z = sU g rs0 0 is1 := ⟨_, rfl⟩
    have hc : gC D cA (gA g0 sz) s g3 H locs := by rw [eg4]; exact hc
    replace h := h g3 eg4
    refine lv_aload_n hx hb dX11_remove_17 rfl (lv_at hl 0 rfl) ?_
    obtain ⟨hk5, h⟩ := h
    refine g_get CF hc hk5 rfl (by decide) (fun _ h9 => List.mem_cons_of_mem _ (List.mem_append_right _ (h9))) (k := 0) (by decide) (List.mem_cons_of_mem _ (List.mem_append_left _ (List.mem_of_getElem? (i := 0) rfl))) rfl dX11_remove_18 ?_
    refine lv_if_eq (tgt := 26) hx hb dX11_remove_21 (by decide) (fun c6 => ?_) (fun c6 => ?_)
    · have h := h.1 c6
      refine lv_aload_n hx hb dX11_remove_26 rfl (lv_at hl 0 rfl) ?_
      obtain ⟨y7, e8, h⟩ := h
      refine g_getr CF hc hk5 rfl (by decide) (fun _ h9 => List.mem_cons_of_mem _ (List.mem_append_right _ (h9))) (k := 5) (by decide) (List.mem_cons_of_mem _ (List.mem_append_left _ (List.mem_of_getElem? (i := 1) rfl))) e8 rfl dX11_remove_27 ?_
      refine lv_iload_n hx hb dX11_remove_30 rfl (lv_at hl 1 rfl) ?_
      obtain ⟨hk9, h⟩ := h
      obtain ⟨hi10, h⟩ := h
      refine g_zald CF hc hk9 hi10 dX11_remove_31 ?_
      refine lv_istore_n (lv' := [(2, .int (gI g3 y7 (Int32.toNatClampNeg i1))), (0, .ref r0), (1, .int i1)]) hx hb dX11_remove_32 rfl hl (by decide) rfl (fun ls hl => ?_)
      refine lv_aload_n hx hb dX11_remove_33 rfl (lv_at hl 1 rfl) ?_
      obtain ⟨y11, e12, h⟩ := h
      refine g_getr CF hc hk5 rfl (by decide) (fun _ h9 => List.mem_cons_of_mem _ (List.mem_append_right _ (h9))) (k := 5) (by decide) (List.mem_cons_of_mem _ (List.mem_append_left _ (List.mem_of_getElem? (i := 1) rfl))) e12 rfl dX11_remove_34 ?_
      refine lv_iload_n hx hb dX11_remove_37 rfl (lv_at hl 2 rfl) ?_
      refine lv_iconst (v := 1) hx hb dX11_remove_38 (by decide) ?_
      obtain ⟨hk13, h⟩ := h
      obtain ⟨hi14, h⟩ := h
      refine g_zast CF hc hk13 (x := 1) (by decide : (1 : Int32) = 0 ∨ (1 : Int32) = 1) hi14 dX11_remove_39 (fun H locs hc => ?_)
      obtain ⟨g15, eg16⟩ : ∃ z, z = sU g3 y11 (Int32.toNatClampNeg i1) 1 := ⟨_, rfl⟩
      have hc : gC D cA (gA g0 sz) s g15 H locs := by rw [eg16]; exact hc
      replace h := h g15 eg16
      refine lv_iload_n hx hb dX11_remove_40 rfl (lv_at hl 0 rfl) ?_
      refine lv_if_ne (tgt := 48) hx hb dX11_remove_41 (by decide) (fun c17 => ?_) (fun c17 => ?_)
      · have h := h.2 c17
        refine lv_iconst (v := 0) hx hb dX11_remove_48 (by decide) ?_
        exact hb_49 g15 0 h _ _ _ hc (lv_sub hl [] rfl)
      · have h := h.1 c17
        refine lv_iconst (v := 1) hx hb dX11_remove_44 (by decide) ?_
        refine lv_goto (tgt := 49) hx hb dX11_remove_45 (by decide) ?_
        exact hb_49 g15 1 h _ _ _ hc (lv_sub hl [] rfl)
    · have h := h.2 c6
      refine lv_iconst (v := 0) hx hb dX11_remove_24 (by decide) ?_
      exact g_reti (r := 0) CF hr hlk hc (narrow_01 (by decide : (0 : Int32) = 0 ∨ (0 : Int32) = 1)) h dX11_remove_25
  unfold w_X11_remove at h
  obtain ⟨H, hH0⟩ : ∃ z, z = s.heap := ⟨_, rfl⟩
  rw [← hH0] at hc ⊢
  obtain ⟨locs, hlc0⟩ : ∃ z : List Loc, z = [] := ⟨_, rfl⟩
  rw [← hlc0] at hc ⊢
  refine lv_aload_n hx hb dX11_remove_0 rfl (lv_at hl 0 rfl) ?_
  refine lv_aload_n hx hb dX11_remove_1 rfl (lv_at hl 0 rfl) ?_
  refine lv_iload_n hx hb dX11_remove_2 rfl (lv_at hl 1 rfl) ?_
  obtain ⟨hk18, h⟩ := h
  refine g_calli (va_runV (As := [.int p1]) (rest := [.ref p0]) CF (c_X11_isDocument h) (cwV 1 hts gX11_remove_X11_isDocument rfl rfl rfl (by decide +kernel) ⟨Nat.le_of_ble_eq_true rfl, Nat.le_of_ble_eq_true rfl⟩) (hc.preV hk18 rfl (by decide)) rfl rfl hl.1 rfl (lv_room (Nat.le_of_ble_eq_true rfl)) dX11_remove_3 ⟨Nat.le_of_ble_eq_true rfl, Nat.le_of_ble_eq_true rfl⟩) hc (fun x19 gq20 H locs hq hc => ?_)
  obtain ⟨rfl, h⟩ := hq
  refine lv_if_eq (tgt := 13) hx hb dX11_remove_6 (by decide) (fun c21 => ?_) (fun c21 => ?_)
  · have h := h.1 c21
    refine lv_iconst (v := 1) hx hb dX11_remove_13 (by decide) ?_
    exact hb_14 g0 p0 p1 p0 1 h _ _ _ hc (lv_sub hl [0, 1] rfl)
  · have h := h.2 c21
    refine lv_iconst (v := 0) hx hb dX11_remove_9 (by decide) ?_
    refine lv_goto (tgt := 14) hx hb dX11_remove_10 (by decide) ?_
    exact hb_14 g0 p0 p1 p0 0 h _ _ _ hc (lv_sub hl [0, 1] rfl)
def b_X11_setMute_13 (g : gS) (r0 : Nat) (i1 : Int32) (i2 : Int32) (rs0 : Nat) (is1 : Int32) (Q : Int32 → gS → Prop) : Prop :=
  gK g rs0 = 12 ∧ (∀ g2, g2 = sU g rs0 0 is1 → (gK g2 r0 = 12 ∧ (((gI g2 r0 0) = 0 → (∃ y6, gR g2 r0 10 = some y6 ∧ (gK g2 y6 = 22 ∧ (vp_in i1 (gN g2 y6) ∧ (∃ y10, gR g2 r0 10 = some y10 ∧ (gK g2 y10 = 22 ∧ (vp_in i1 (gN g2 y10) ∧ ((i2 = 0 ∨ i2 = 1) ∧ (∀ g15, g15 = sU g2 y10 (Int32.toNatClampNeg i1) i2 → (((gI g2 y6 (Int32.toNatClampNeg i1)) = 0 ∨ (gI g2 y6 (Int32.toNatClampNeg i1)) = 1) ∧ (Q (gI g2 y6 (Int32.toNatClampNeg i1)) g15))))))))))) ∧ (¬ (gI g2 r0 0) = 0 → (Q 0 g2)))))
def w_X11_setMute (g0 : gS) (p0 : Nat) (p1 : Int32) (p2 : Int32) (Q : Int32 → gS → Prop) : Prop :=
  w_X11_isTerm g0 p1 (fun x18 => ((x18 = 0 → (b_X11_setMute_13 g0 p0 p1 p2 p0 1 Q)) ∧ (¬ x18 = 0 → (b_X11_setMute_13 g0 p0 p1 p2 p0 0 Q))))
abbrev r_X11_setMute : Room := { frames := 2, cells := 0, slots := 0, locals := 42 }
set_option maxHeartbeats 4000000 in
set_option maxRecDepth 100000 in
theorem c_X11_setMute {l : Launch} {D : va_G} {cA : Nat → ClassId} {sz : Nat} {g0 : gS} {p0 : Nat} {p1 : Int32} {p2 : Int32} {Q : Int32 → gS → Prop} (h : w_X11_setMute g0 p0 p1 p2 Q) : Met l yX11_setMute wsX11_setMute r_X11_setMute (va_Pc [.ref p0, .int p1, .int p2] (gPre D cA g0 sz)) (gQi D cA g0 sz (Q)) 0 0 (gA g0 sz) := by
  refine g_met (cc := cX11_setMute) (maxL := 4) (ret := (some .boolean)) (own := RX11) (by decide) rfl rfl (Nat.le_of_ble_eq_true rfl) ?_
  intro p e s m args below meth c ls CF hr hlk hnm hc hl
  obtain ⟨hx, hb, hml, hown, hts⟩ := id CF
  have hl : lv_has ls 4 [(0, .ref p0), (1, .int p1), (2, .int p2)] := hl
  show W p l e r_X11_setMute s m args below meth c s.heap [] 0 0 (MQ below (gQi D cA g0 sz (Q)) args s 0 0 (gA g0 sz)) (F0 m 0 ls [])
  have hb_13 : ∀ (g : gS) (r0 : Nat) (i1 : Int32) (i2 : Int32) (rs0 : Nat) (is1 : Int32), b_X11_setMute_13 g r0 i1 i2 rs0 is1 Q → ∀ (H : Heap) (locs : List Loc) (ls : Array Slot), gC D cA (gA g0 sz) s g H locs → lv_has ls 4 [(0, .ref r0), (1, .int i1), (2, .int i2)] → W p l e r_X11_setMute s m args below meth c H locs 0 0 (MQ below (gQi D cA g0 sz (Q)) args s 0 0 (gA g0 sz)) (F0 m 13 ls [.int is1, .ref rs0]) := by
    intro g r0 i1 i2 rs0 is1 h H locs ls hc hl
    unfold b_X11_setMute_13 at h
    obtain ⟨hk1, h⟩ := h
    refine g_puti CF hc hk1 rfl (by decide) (fun _ h9 => List.mem_cons_of_mem _ (List.mem_append_right _ (h9))) tyX11 tyX11_ok nmX11 (k := 0) (by decide) (List.mem_cons_of_mem _ (List.mem_append_left _ (List.mem_of_getElem? (i := 0) rfl))) rfl (v := is1) rfl rfl rfl dX11_setMute_13 (fun H locs hc => ?_)
    obtain ⟨g2, eg3⟩ : ∃ z, z = sU g rs0 0 is1 := ⟨_, rfl⟩
    have hc : gC D cA (gA g0 sz) s g2 H locs := by rw [eg3]; exact hc
    replace h := h g2 eg3
    refine lv_aload_n hx hb dX11_setMute_16 rfl (lv_at hl 0 rfl) ?_
    obtain ⟨hk4, h⟩ := h
    refine g_get CF hc hk4 rfl (by decide) (fun _ h9 => List.mem_cons_of_mem _ (List.mem_append_right _ (h9))) (k := 0) (by decide) (List.mem_cons_of_mem _ (List.mem_append_left _ (List.mem_of_getElem? (i := 0) rfl))) rfl dX11_setMute_17 ?_
    refine lv_if_eq (tgt := 25) hx hb dX11_setMute_20 (by decide) (fun c5 => ?_) (fun c5 => ?_)
    · have h := h.1 c5
      refine lv_aload_n hx hb dX11_setMute_25 rfl (lv_at hl 0 rfl) ?_
      obtain ⟨y6, e7, h⟩ := h
      refine g_getr CF hc hk4 rfl (by decide) (fun _ h9 => List.mem_cons_of_mem _ (List.mem_append_right _ (h9))) (k := 10) (by decide) (List.mem_cons_of_mem _ (List.mem_append_left _ (List.mem_of_getElem? (i := 1) rfl))) e7 rfl dX11_setMute_26 ?_
      refine lv_iload_n hx hb dX11_setMute_29 rfl (lv_at hl 1 rfl) ?_
      obtain ⟨hk8, h⟩ := h
      obtain ⟨hi9, h⟩ := h
      refine g_zald CF hc hk8 hi9 dX11_setMute_30 ?_
      refine lv_istore_n (lv' := [(3, .int (gI g2 y6 (Int32.toNatClampNeg i1))), (0, .ref r0), (1, .int i1), (2, .int i2)]) hx hb dX11_setMute_31 rfl hl (by decide) rfl (fun ls hl => ?_)
      refine lv_aload_n hx hb dX11_setMute_32 rfl (lv_at hl 1 rfl) ?_
      obtain ⟨y10, e11, h⟩ := h
      refine g_getr CF hc hk4 rfl (by decide) (fun _ h9 => List.mem_cons_of_mem _ (List.mem_append_right _ (h9))) (k := 10) (by decide) (List.mem_cons_of_mem _ (List.mem_append_left _ (List.mem_of_getElem? (i := 1) rfl))) e11 rfl dX11_setMute_33 ?_
      refine lv_iload_n hx hb dX11_setMute_36 rfl (lv_at hl 2 rfl) ?_
      refine lv_iload_n hx hb dX11_setMute_37 rfl (lv_at hl 3 rfl) ?_
      obtain ⟨hk12, h⟩ := h
      obtain ⟨hi13, h⟩ := h
      obtain ⟨hz14, h⟩ := h
      refine g_zast CF hc hk12 (x := i2) hz14 hi13 dX11_setMute_38 (fun H locs hc => ?_)
      obtain ⟨g15, eg16⟩ : ∃ z, z = sU g2 y10 (Int32.toNatClampNeg i1) i2 := ⟨_, rfl⟩
      have hc : gC D cA (gA g0 sz) s g15 H locs := by rw [eg16]; exact hc
      replace h := h g15 eg16
      refine lv_iload_n hx hb dX11_setMute_39 rfl (lv_at hl 0 rfl) ?_
      obtain ⟨hz17, h⟩ := h
      exact g_reti (r := (gI g2 y6 (Int32.toNatClampNeg i1))) CF hr hlk hc (narrow_01 hz17) h dX11_setMute_40
    · have h := h.2 c5
      refine lv_iconst (v := 0) hx hb dX11_setMute_23 (by decide) ?_
      exact g_reti (r := 0) CF hr hlk hc (narrow_01 (by decide : (0 : Int32) = 0 ∨ (0 : Int32) = 1)) h dX11_setMute_24
  unfold w_X11_setMute at h
  obtain ⟨H, hH0⟩ : ∃ z, z = s.heap := ⟨_, rfl⟩
  rw [← hH0] at hc ⊢
  obtain ⟨locs, hlc0⟩ : ∃ z : List Loc, z = [] := ⟨_, rfl⟩
  rw [← hlc0] at hc ⊢
  refine lv_aload_n hx hb dX11_setMute_0 rfl (lv_at hl 0 rfl) ?_
  refine lv_iload_n hx hb dX11_setMute_1 rfl (lv_at hl 1 rfl) ?_
  refine g_calli (va_runS (As := [.int p1]) (rest := [.ref p0]) CF (c_X11_isTerm h) (va_cwS 1 hts gX11_setMute_X11_isTerm rfl rfl rfl (by decide +kernel) ⟨Nat.le_of_ble_eq_true rfl, Nat.le_of_ble_eq_true rfl⟩) hc.preS rfl rfl hl.1 rfl (lv_room (Nat.le_of_ble_eq_true rfl)) dX11_setMute_2 ⟨Nat.le_of_ble_eq_true rfl, Nat.le_of_ble_eq_true rfl⟩) hc (fun x18 gq19 H locs hq hc => ?_)
  obtain ⟨rfl, h⟩ := hq
  refine lv_if_eq (tgt := 12) hx hb dX11_setMute_5 (by decide) (fun c20 => ?_) (fun c20 => ?_)
  · have h := h.1 c20
    refine lv_iconst (v := 1) hx hb dX11_setMute_12 (by decide) ?_
    exact hb_13 g0 p0 p1 p2 p0 1 h _ _ _ hc (lv_sub hl [0, 1, 2] rfl)
  · have h := h.2 c20
    refine lv_iconst (v := 0) hx hb dX11_setMute_8 (by decide) ?_
    refine lv_goto (tgt := 13) hx hb dX11_setMute_9 (by decide) ?_
    exact hb_13 g0 p0 p1 p2 p0 0 h _ _ _ hc (lv_sub hl [0, 1, 2] rfl)
