def l_X10_digest_26 (r0 : Nat) (Q : Int64 → gS → Prop) (g : gS) (j1 : Int64) (i3 : Int32) (k26 : gS → Int64 → Int32 → Prop) : Prop :=
  gK g r0 = 11 ∧ (∃ y2, gR g r0 0 = some y2 ∧ (gK g y2 = 1 ∧ (((gI g y2 1) ≤ i3 → (Q j1 g)) ∧ (¬ (gI g y2 1) ≤ i3 → (∃ y6, gR g r0 4 = some y6 ∧ (gK g y6 = 4 ∧ (w_X3_mostLike g y6 i3 (fun x9 g10 => (k26 g10 ((j1 * 31) + x9.toInt64) (i3 + 1))))))))))
def w_X10_digest (g0 : gS) (p0 : Nat) (Q : Int64 → gS → Prop) : Prop :=
  gK g0 p0 = 11 ∧ (w_X10_addArchive g0 p0 2609 (fun z13 => (w_X10_fillScoresByNode g0 p0 (fun g16 => (gK g16 p0 = 11 ∧ (w_X10_addNodes g16 p0 z13 (fun z19 g20 => (gK g20 p0 = 11 ∧ (w_X10_addResults g20 p0 z19 (fun z23 => (lpx3 (l_X10_digest_26 p0 Q) g20 z23 0)))))))))))
abbrev r_X10_digest : Room := { frames := 6, cells := 0, slots := 0, locals := 151 }
set_option maxHeartbeats 4000000 in
set_option maxRecDepth 100000 in
theorem c_X10_digest {l : Launch} {D : va_G} {cA : Nat → ClassId} {sz : Nat} {g0 : gS} {p0 : Nat} {Q : Int64 → gS → Prop} (h : w_X10_digest g0 p0 Q) : Met l yX10_digest wsX10_digest r_X10_digest (va_Pc [.ref p0] (gPre D cA g0 sz)) (gQl D cA g0 sz (Q)) 0 0 (gA g0 sz) := by
  refine g_met (cc := cX10_digest) (maxL := 4) (ret := (some .long)) (own := RX10) (by decide) rfl rfl (Nat.le_of_ble_eq_true rfl) ?_
  intro p e s m args below meth c ls CF hr hlk hnm hc hl
  obtain ⟨hx, hb, hml, hown, hts⟩ := id CF
  have hl : lv_has ls 4 [(0, .ref p0)] := hl
  show W p l e r_X10_digest s m args below meth c s.heap [] 0 0 (MQ below (gQl D cA g0 sz (Q)) args s 0 0 (gA g0 sz)) (F0 m 0 ls [])
  have hb_26 : ∀ (r0 : Nat), ∀ (g : gS) (j1 : Int64) (i3 : Int32), lpx3 (l_X10_digest_26 r0 Q) g j1 i3 → ∀ (H : Heap) (locs : List Loc) (ls : Array Slot), gC D cA (gA g0 sz) s g H locs → lv_has ls 4 [(0, .ref r0), (1, .long j1), (3, .int i3)] → W p l e r_X10_digest s m args below meth c H locs 0 0 (MQ below (gQl D cA g0 sz (Q)) args s 0 0 (gA g0 sz)) (F0 m 26 ls []) := by
    intro r0
    refine lpx3_run (P := fun (g : gS) (j1 : Int64) (i3 : Int32) => ∀ (H : Heap) (locs : List Loc) (ls : Array Slot), gC D cA (gA g0 sz) s g H locs → lv_has ls 4 [(0, .ref r0), (1, .long j1), (3, .int i3)] → W p l e r_X10_digest s m args below meth c H locs 0 0 (MQ below (gQl D cA g0 sz (Q)) args s 0 0 (gA g0 sz)) (F0 m 26 ls [])) ?_
    intro k26 hk_26 g j1 i3 h H locs ls hc hl
    unfold l_X10_digest_26 at h
    refine lv_iload_n hx hb dX10_digest_26 rfl (lv_at hl 2 rfl) ?_
    refine lv_aload_n hx hb dX10_digest_27 rfl (lv_at hl 0 rfl) ?_
    obtain ⟨hk1, h⟩ := h
    obtain ⟨y2, e3, h⟩ := h
    refine g_getr CF hc hk1 rfl (by decide) (fun _ h9 => List.mem_cons_of_mem _ (List.mem_append_left _ (List.mem_append_left _ (List.mem_append_left _ (List.mem_append_left _ (List.mem_append_left _ (List.mem_append_left _ (List.mem_append_left _ (List.mem_append_left _ (List.mem_append_left _ (List.mem_append_left _ (List.mem_append_right _ (h9))))))))))))) (k := 0) (by decide) (List.mem_cons_of_mem _ (List.mem_append_left _ (List.mem_append_left _ (List.mem_append_left _ (List.mem_append_left _ (List.mem_append_left _ (List.mem_append_left _ (List.mem_append_left _ (List.mem_append_left _ (List.mem_append_left _ (List.mem_append_left _ (List.mem_append_left _ (List.mem_append_left _ (List.mem_of_getElem? (i := 1) rfl)))))))))))))) e3 rfl dX10_digest_28 ?_
    obtain ⟨hk4, h⟩ := h
    refine g_get CF hc hk4 rfl (by decide) (fun _ h9 => List.mem_cons_of_mem _ (List.mem_append_left _ (List.mem_append_left _ (List.mem_append_left _ (List.mem_append_left _ (List.mem_append_left _ (List.mem_append_left _ (List.mem_append_left _ (List.mem_append_left _ (List.mem_append_left _ (List.mem_append_right _ (h9)))))))))))) (k := 1) (by decide) (List.mem_cons_of_mem _ (List.mem_append_left _ (List.mem_append_left _ (List.mem_append_left _ (List.mem_append_left _ (List.mem_append_left _ (List.mem_append_left _ (List.mem_append_left _ (List.mem_append_left _ (List.mem_append_left _ (List.mem_append_left _ (List.mem_append_left _ (List.mem_append_left _ (List.mem_of_getElem? (i := 2) rfl)))))))))))))) rfl dX10_digest_31 ?_
    refine lv_icmp_ge (tgt := 59) hx hb dX10_digest_34 (by decide) (fun c5 => ?_) (fun c5 => ?_)
    · have h := h.1 c5
      refine lv_lload_n hx hb dX10_digest_59 rfl (lv_at hl 1 rfl) ?_
      exact g_retl (r := j1) CF hr hlk hc h dX10_digest_60
    · have h := h.2 c5
      refine lv_lload_n hx hb dX10_digest_37 rfl (lv_at hl 1 rfl) ?_
      refine lv_ldc2 (v := 31) hx hb hown (hts _ (List.mem_cons_of_mem _ (List.mem_append_left _ (List.mem_append_left _ (List.mem_append_left _ (List.mem_append_left _ (List.mem_append_left _ (List.mem_append_left _ (List.mem_append_left _ (List.mem_append_left _ (List.mem_append_left _ (List.mem_append_left _ (List.mem_append_left _ (List.mem_append_left _ (List.mem_of_getElem? (i := 3) rfl))))))))))))))) dX10_digest_38 ?_
      refine lv_lmul hx hb dX10_digest_41 ?_
      refine lv_aload_n hx hb dX10_digest_42 rfl (lv_at hl 0 rfl) ?_
      obtain ⟨y6, e7, h⟩ := h
      refine g_getr CF hc hk1 rfl (by decide) (fun _ h9 => List.mem_cons_of_mem _ (List.mem_append_left _ (List.mem_append_left _ (List.mem_append_left _ (List.mem_append_left _ (List.mem_append_left _ (List.mem_append_left _ (List.mem_append_left _ (List.mem_append_left _ (List.mem_append_left _ (List.mem_append_left _ (List.mem_append_right _ (h9))))))))))))) (k := 4) (by decide) (List.mem_cons_of_mem _ (List.mem_append_left _ (List.mem_append_left _ (List.mem_append_left _ (List.mem_append_left _ (List.mem_append_left _ (List.mem_append_left _ (List.mem_append_left _ (List.mem_append_left _ (List.mem_append_left _ (List.mem_append_left _ (List.mem_append_left _ (List.mem_append_left _ (List.mem_of_getElem? (i := 4) rfl)))))))))))))) e7 rfl dX10_digest_43 ?_
      refine lv_iload_n hx hb dX10_digest_46 rfl (lv_at hl 2 rfl) ?_
      obtain ⟨hk8, h⟩ := h
      refine g_calli (va_runV (As := [.int i3]) (rest := [.long (j1 * 31)]) CF (c_X3_mostLike h) (cwV 1 hts gX10_digest_X3_mostLike rfl rfl rfl (by decide +kernel) ⟨Nat.le_of_ble_eq_true rfl, Nat.le_of_ble_eq_true rfl⟩) (hc.preV hk8 rfl (by decide)) rfl rfl hl.1 rfl (lv_room (Nat.le_of_ble_eq_true rfl)) dX10_digest_47 ⟨Nat.le_of_ble_eq_true rfl, Nat.le_of_ble_eq_true rfl⟩) hc (fun x9 g10 H locs hq hc => ?_)
      replace h := hq
      refine lv_i2l hx hb dX10_digest_50 rfl ?_
      refine lv_ladd hx hb dX10_digest_51 ?_
      refine lv_lstore_n (lv' := [(1, .long ((j1 * 31) + x9.toInt64)), (0, .ref r0), (3, .int i3)]) hx hb dX10_digest_52 rfl hl (by decide) rfl (fun ls hl => ?_)
      refine lv_iinc (v := (i3 + 1)) (lv' := [(3, .int (i3 + 1)), (1, .long ((j1 * 31) + x9.toInt64)), (0, .ref r0)]) hx hb dX10_digest_53 hl (k := 2) rfl rfl (by decide) rfl (fun ls hl => ?_)
      refine lv_goto (tgt := 26) hx hb dX10_digest_56 (by decide) ?_
      exact hk_26 g10 ((j1 * 31) + x9.toInt64) (i3 + 1) h _ _ _ hc (lv_sub hl [2, 1, 0] rfl)
  unfold w_X10_digest at h
  obtain ⟨H, hH0⟩ : ∃ z, z = s.heap := ⟨_, rfl⟩
  rw [← hH0] at hc ⊢
  obtain ⟨locs, hlc0⟩ : ∃ z : List Loc, z = [] := ⟨_, rfl⟩
  rw [← hlc0] at hc ⊢
  refine lv_aload_n hx hb dX10_digest_0 rfl (lv_at hl 0 rfl) ?_
  refine lv_ldc2 (v := 2609) hx hb hown (hts _ (List.mem_cons_of_mem _ (List.mem_append_left _ (List.mem_append_left _ (List.mem_append_left _ (List.mem_append_left _ (List.mem_append_left _ (List.mem_append_left _ (List.mem_append_left _ (List.mem_append_left _ (List.mem_append_left _ (List.mem_append_left _ (List.mem_append_left _ (List.mem_append_left _ (List.mem_of_getElem? (i := 0) rfl))))))))))))))) dX10_digest_1 ?_
  obtain ⟨hk12, h⟩ := h
  refine g_calll (va_runV (As := [.long 2609]) (rest := []) CF (c_X10_addArchive h) (cwV 1 hts gX10_digest_X10_addArchive rfl rfl rfl (by decide +kernel) ⟨Nat.le_of_ble_eq_true rfl, Nat.le_of_ble_eq_true rfl⟩) (hc.preV hk12 rfl (by decide)) rfl rfl hl.1 rfl (lv_room (Nat.le_of_ble_eq_true rfl)) dX10_digest_4 ⟨Nat.le_of_ble_eq_true rfl, Nat.le_of_ble_eq_true rfl⟩) hc (fun z13 gq14 H locs hq hc => ?_)
  obtain ⟨rfl, h⟩ := hq
  refine lv_lstore_n (lv' := [(1, .long z13), (0, .ref p0)]) hx hb dX10_digest_7 rfl hl (by decide) rfl (fun ls hl => ?_)
  refine lv_aload_n hx hb dX10_digest_8 rfl (lv_at hl 1 rfl) ?_
  refine g_callv (va_runV (As := []) (rest := []) CF (c_X10_fillScoresByNode h) (cwV 0 hts gX10_digest_X10_fillScoresByNode rfl rfl rfl (by decide +kernel) ⟨Nat.le_of_ble_eq_true rfl, Nat.le_of_ble_eq_true rfl⟩) (hc.preV hk12 rfl (by decide)) rfl rfl hl.1 rfl (lv_room (Nat.le_of_ble_eq_true rfl)) dX10_digest_9 ⟨Nat.le_of_ble_eq_true rfl, Nat.le_of_ble_eq_true rfl⟩) hc (fun g16 H locs hq hc => ?_)
  replace h := hq
  refine lv_aload_n hx hb dX10_digest_12 rfl (lv_at hl 1 rfl) ?_
  refine lv_lload_n hx hb dX10_digest_13 rfl (lv_at hl 0 rfl) ?_
  obtain ⟨hk18, h⟩ := h
  refine g_calll (va_runV (As := [.long z13]) (rest := []) CF (c_X10_addNodes h) (cwV 1 hts gX10_digest_X10_addNodes rfl rfl rfl (by decide +kernel) ⟨Nat.le_of_ble_eq_true rfl, Nat.le_of_ble_eq_true rfl⟩) (hc.preV hk18 rfl (by decide)) rfl rfl hl.1 rfl (lv_room (Nat.le_of_ble_eq_true rfl)) dX10_digest_14 ⟨Nat.le_of_ble_eq_true rfl, Nat.le_of_ble_eq_true rfl⟩) hc (fun z19 g20 H locs hq hc => ?_)
  replace h := hq
  refine lv_lstore_n (lv' := [(1, .long z19), (0, .ref p0)]) hx hb dX10_digest_17 rfl hl (by decide) rfl (fun ls hl => ?_)
  refine lv_aload_n hx hb dX10_digest_18 rfl (lv_at hl 1 rfl) ?_
  refine lv_lload_n hx hb dX10_digest_19 rfl (lv_at hl 0 rfl) ?_
  obtain ⟨hk22, h⟩ := h
  refine g_calll (va_runV (As := [.long z19]) (rest := []) CF (c_X10_addResults h) (cwV 1 hts gX10_digest_X10_addResults rfl rfl rfl (by decide +kernel) ⟨Nat.le_of_ble_eq_true rfl, Nat.le_of_ble_eq_true rfl⟩) (hc.preV hk22 rfl (by decide)) rfl rfl hl.1 rfl (lv_room (Nat.le_of_ble_eq_true rfl)) dX10_digest_20 ⟨Nat.le_of_ble_eq_true rfl, Nat.le_of_ble_eq_true rfl⟩) hc (fun z23 gq24 H locs hq hc => ?_)
  obtain ⟨rfl, h⟩ := hq
  refine lv_lstore_n (lv' := [(1, .long z23), (0, .ref p0)]) hx hb dX10_digest_23 rfl hl (by decide) rfl (fun ls hl => ?_)
  refine lv_iconst (v := 0) hx hb dX10_digest_24 (by decide) ?_
  refine lv_istore_n (lv' := [(3, .int 0), (1, .long z23), (0, .ref p0)]) hx hb dX10_digest_25 rfl hl (by decide) rfl (fun ls hl => ?_)
  exact hb_26 p0 g20 z23 0 h _ _ _ hc (lv_sub hl [2, 1, 0] rfl)
