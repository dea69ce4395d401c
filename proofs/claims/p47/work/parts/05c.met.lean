def b_X4_finds_61 (g : gS) (is0 : Int32) (Q : Int32 → Prop) : Prop :=
  (is0 = 0 ∨ is0 = 1) ∧ (Q is0)
def b_X4_finds_60 (g : gS) (Q : Int32 → Prop) : Prop :=
  b_X4_finds_61 g 0 Q
def b_X4_finds_56 (g : gS) (Q : Int32 → Prop) : Prop :=
  b_X4_finds_61 g 1 Q
def b_X4_finds_35 (g : gS) (Q : Int32 → Prop) : Prop :=
  Q 0
def w_X4_finds (g : gS) (p0 : Nat) (p1 : Int32) (p2 : Int32) (p3 : Int32) (Q : Int32 → Prop) : Prop :=
  (p1 < 0 → (b_X4_finds_35 g Q)) ∧ (¬ p1 < 0 → (gK g p0 = 5 ∧ (∃ y4, gR g p0 1 = some y4 ∧ (gK g y4 = 21 ∧ (((nI (gN g y4)) ≤ p1 → (b_X4_finds_35 g Q)) ∧ (¬ (nI (gN g y4)) ≤ p1 → ((p2 < 0 → (b_X4_finds_35 g Q)) ∧ (¬ p2 < 0 → (∃ y9, gR g p0 0 = some y9 ∧ (gK g y9 = 22 ∧ (((nI (gN g y9)) ≤ p2 → (b_X4_finds_35 g Q)) ∧ (¬ (nI (gN g y9)) ≤ p2 → (∃ y13, gR g p0 0 = some y13 ∧ (gK g y13 = 22 ∧ (vp_in p2 (gN g y13) ∧ (((gI g y13 (Int32.toNatClampNeg p2)) = 0 → ((p2 = p1 → (b_X4_finds_56 g Q)) ∧ (¬ p2 = p1 → ((p3 = 0 → (b_X4_finds_60 g Q)) ∧ (¬ p3 = 0 → (∃ y20, gR g p0 1 = some y20 ∧ (gK g y20 = 21 ∧ (vp_in p1 (gN g y20) ∧ ((p2 = (gI g y20 (Int32.toNatClampNeg p1)) → (b_X4_finds_56 g Q)) ∧ (¬ p2 = (gI g y20 (Int32.toNatClampNeg p1)) → (b_X4_finds_60 g Q))))))))))) ∧ (¬ (gI g y13 (Int32.toNatClampNeg p2)) = 0 → (b_X4_finds_35 g Q))))))))))))))))))
abbrev r_X4_finds : Room := { frames := 0, cells := 0, slots := 0, locals := 0 }
set_option maxHeartbeats 4000000 in
set_option maxRecDepth 100000 in
theorem c_X4_finds {l : Launch} {D : va_G} {cA : Nat → ClassId} {sz : Nat} {g : gS} {p0 : Nat} {p1 : Int32} {p2 : Int32} {p3 : Int32} {Q : Int32 → Prop} (h : w_X4_finds g p0 p1 p2 p3 Q) : Met l yX4_finds wsX4_finds r_X4_finds (va_Pc [.ref p0, .int p1, .int p2, .int p3] (gPre D cA g sz)) (gQi D cA g sz (fun r g2 => g = g2 ∧ Q r)) 0 0 (gA g sz) := by
  refine g_met (cc := cX4_finds) (maxL := 4) (ret := (some .boolean)) (own := RX4) (by decide) rfl rfl (Nat.le_of_ble_eq_true rfl) ?_
  intro p e s m args below meth c ls CF hr hlk hnm hc hl
  obtain ⟨hx, hb, hml, hown, hts⟩ := id CF
  have hl : lv_has ls 4 [(0, .ref p0), (1, .int p1), (2, .int p2), (3, .int p3)] := hl
  show W p l e r_X4_finds s m args below meth c s.heap [] 0 0 (MQ below (gQi D cA g sz (fun r g2 => g = g2 ∧ Q r)) args s 0 0 (gA g sz)) (F0 m 0 ls [])
  have hb_61 : ∀ (is0 : Int32), b_X4_finds_61 g is0 Q → ∀ (H : Heap) (locs : List Loc) (ls : Array Slot), gC D cA (gA g sz) s g H locs → lv_has ls 4 [] → W p l e r_X4_finds s m args below meth c H locs 0 0 (MQ below (gQi D cA g sz (fun r g2 => g = g2 ∧ Q r)) args s 0 0 (gA g sz)) (F0 m 61 ls [.int is0]) := by
    intro is0 h H locs ls hc hl
    unfold b_X4_finds_61 at h
    obtain ⟨hz1, h⟩ := h
    exact g_reti (r := is0) CF hr hlk hc (narrow_01 hz1) ⟨rfl, h⟩ dX4_finds_61
  have hb_60 : b_X4_finds_60 g Q → ∀ (H : Heap) (locs : List Loc) (ls : Array Slot), gC D cA (gA g sz) s g H locs → lv_has ls 4 [] → W p l e r_X4_finds s m args below meth c H locs 0 0 (MQ below (gQi D cA g sz (fun r g2 => g = g2 ∧ Q r)) args s 0 0 (gA g sz)) (F0 m 60 ls []) := by
    intro h H locs ls hc hl
    unfold b_X4_finds_60 at h
    refine lv_iconst (v := 0) hx hb dX4_finds_60 (by decide) ?_
    exact hb_61 0 h _ _ _ hc (lv_sub hl [] rfl)
  have hb_56 : b_X4_finds_56 g Q → ∀ (H : Heap) (locs : List Loc) (ls : Array Slot), gC D cA (gA g sz) s g H locs → lv_has ls 4 [] → W p l e r_X4_finds s m args below meth c H locs 0 0 (MQ below (gQi D cA g sz (fun r g2 => g = g2 ∧ Q r)) args s 0 0 (gA g sz)) (F0 m 56 ls []) := by
    intro h H locs ls hc hl
    unfold b_X4_finds_56 at h
    refine lv_iconst (v := 1) hx hb dX4_finds_56 (by decide) ?_
    refine lv_goto (tgt := 61) hx hb dX4_finds_57 (by decide) ?_
    exact hb_61 1 h _ _ _ hc (lv_sub hl [] rfl)
  have hb_35 : b_X4_finds_35 g Q → ∀ (H : Heap) (locs : List Loc) (ls : Array Slot), gC D cA (gA g sz) s g H locs → lv_has ls 4 [] → W p l e r_X4_finds s m args below meth c H locs 0 0 (MQ below (gQi D cA g sz (fun r g2 => g = g2 ∧ Q r)) args s 0 0 (gA g sz)) (F0 m 35 ls []) := by
    intro h H locs ls hc hl
    unfold b_X4_finds_35 at h
    refine lv_iconst (v := 0) hx hb dX4_finds_35 (by decide) ?_
    exact g_reti (r := 0) CF hr hlk hc (narrow_01 (by decide : (0 : Int32) = 0 ∨ (0 : Int32) = 1)) ⟨rfl, h⟩ dX4_finds_36
  unfold w_X4_finds at h
  obtain ⟨H, hH0⟩ : ∃ z, z = s.heap := ⟨_, rfl⟩
  rw [← hH0] at hc ⊢
  obtain ⟨locs, hlc0⟩ : ∃ z : List Loc, z = [] := ⟨_, rfl⟩
  rw [← hlc0] at hc ⊢
  refine lv_iload_n hx hb dX4_finds_0 rfl (lv_at hl 1 rfl) ?_
  refine lv_if_lt (tgt := 35) hx hb dX4_finds_1 (by decide) (fun c2 => ?_) (fun c2 => ?_)
  · have h := h.1 c2
    exact hb_35  h _ _ _ hc (lv_sub hl [] rfl)
  · have h := h.2 c2
    refine lv_iload_n hx hb dX4_finds_4 rfl (lv_at hl 1 rfl) ?_
    refine lv_aload_n hx hb dX4_finds_5 rfl (lv_at hl 0 rfl) ?_
    obtain ⟨hk3, h⟩ := h
    obtain ⟨y4, e5, h⟩ := h
    refine g_getr CF hc hk3 rfl (by decide) (fun _ h9 => List.mem_cons_of_mem _ (List.mem_append_right _ (h9))) (k := 1) (by decide) (List.mem_cons_of_mem _ (List.mem_append_left _ (List.mem_of_getElem? (i := 0) rfl))) e5 rfl dX4_finds_6 ?_
    obtain ⟨hk6, h⟩ := h
    refine g_alen CF hc (j := 0) hk6 (by decide) dX4_finds_9 ?_
    refine lv_icmp_ge (tgt := 35) hx hb dX4_finds_10 (by decide) (fun c7 => ?_) (fun c7 => ?_)
    · have h := h.1 c7
      exact hb_35  h _ _ _ hc (lv_sub hl [] rfl)
    · have h := h.2 c7
      refine lv_iload_n hx hb dX4_finds_13 rfl (lv_at hl 2 rfl) ?_
      refine lv_if_lt (tgt := 35) hx hb dX4_finds_14 (by decide) (fun c8 => ?_) (fun c8 => ?_)
      · have h := h.1 c8
        exact hb_35  h _ _ _ hc (lv_sub hl [] rfl)
      · have h := h.2 c8
        refine lv_iload_n hx hb dX4_finds_17 rfl (lv_at hl 2 rfl) ?_
        refine lv_aload_n hx hb dX4_finds_18 rfl (lv_at hl 0 rfl) ?_
        obtain ⟨y9, e10, h⟩ := h
        refine g_getr CF hc hk3 rfl (by decide) (fun _ h9 => List.mem_cons_of_mem _ (List.mem_append_right _ (h9))) (k := 0) (by decide) (List.mem_cons_of_mem _ (List.mem_append_left _ (List.mem_of_getElem? (i := 1) rfl))) e10 rfl dX4_finds_19 ?_
        obtain ⟨hk11, h⟩ := h
        refine g_alen CF hc (j := 1) hk11 (by decide) dX4_finds_22 ?_
        refine lv_icmp_ge (tgt := 35) hx hb dX4_finds_23 (by decide) (fun c12 => ?_) (fun c12 => ?_)
        · have h := h.1 c12
          exact hb_35  h _ _ _ hc (lv_sub hl [] rfl)
        · have h := h.2 c12
          refine lv_aload_n hx hb dX4_finds_26 rfl (lv_at hl 0 rfl) ?_
          obtain ⟨y13, e14, h⟩ := h
          refine g_getr CF hc hk3 rfl (by decide) (fun _ h9 => List.mem_cons_of_mem _ (List.mem_append_right _ (h9))) (k := 0) (by decide) (List.mem_cons_of_mem _ (List.mem_append_left _ (List.mem_of_getElem? (i := 1) rfl))) e14 rfl dX4_finds_27 ?_
          refine lv_iload_n hx hb dX4_finds_30 rfl (lv_at hl 2 rfl) ?_
          obtain ⟨hk15, h⟩ := h
          obtain ⟨hi16, h⟩ := h
          refine g_zald CF hc hk15 hi16 dX4_finds_31 ?_
          refine lv_if_eq (tgt := 37) hx hb dX4_finds_32 (by decide) (fun c17 => ?_) (fun c17 => ?_)
          · have h := h.1 c17
            refine lv_iload_n hx hb dX4_finds_37 rfl (lv_at hl 2 rfl) ?_
            refine lv_iload_n hx hb dX4_finds_38 rfl (lv_at hl 1 rfl) ?_
            refine lv_icmp_eq (tgt := 56) hx hb dX4_finds_39 (by decide) (fun c18 => ?_) (fun c18 => ?_)
            · have h := h.1 c18
              exact hb_56  h _ _ _ hc (lv_sub hl [] rfl)
            · have h := h.2 c18
              refine lv_iload_n hx hb dX4_finds_42 rfl (lv_at hl 3 rfl) ?_
              refine lv_if_eq (tgt := 60) hx hb dX4_finds_43 (by decide) (fun c19 => ?_) (fun c19 => ?_)
              · have h := h.1 c19
                exact hb_60  h _ _ _ hc (lv_sub hl [] rfl)
              · have h := h.2 c19
                refine lv_iload_n hx hb dX4_finds_46 rfl (lv_at hl 2 rfl) ?_
                refine lv_aload_n hx hb dX4_finds_47 rfl (lv_at hl 0 rfl) ?_
                obtain ⟨y20, e21, h⟩ := h
                refine g_getr CF hc hk3 rfl (by decide) (fun _ h9 => List.mem_cons_of_mem _ (List.mem_append_right _ (h9))) (k := 1) (by decide) (List.mem_cons_of_mem _ (List.mem_append_left _ (List.mem_of_getElem? (i := 0) rfl))) e21 rfl dX4_finds_48 ?_
                refine lv_iload_n hx hb dX4_finds_51 rfl (lv_at hl 1 rfl) ?_
                obtain ⟨hk22, h⟩ := h
                obtain ⟨hi23, h⟩ := h
                refine g_iald CF hc hk22 hi23 dX4_finds_52 ?_
                refine lv_icmp_ne (tgt := 60) hx hb dX4_finds_53 (by decide) (fun c24 => ?_) (fun c24 => ?_)
                · have h := h.2 c24
                  exact hb_60  h _ _ _ hc (lv_sub hl [] rfl)
                · have h := h.1 c24
                  exact hb_56  h _ _ _ hc (lv_sub hl [] rfl)
          · have h := h.2 c17
            exact hb_35  h _ _ _ hc (lv_sub hl [] rfl)
def w_X5_init (g0 : gS) (p0 : Nat) (p1 : Int32) (Q : gS → Prop) : Prop :=
  gK g0 p0 = 6 ∧ (∀ g2, g2 = sU g0 p0 0 p1 → (Q g2))
abbrev r_X5_init : Room := { frames := 1, cells := 0, slots := 0, locals := 12 }
set_option maxHeartbeats 4000000 in
set_option maxRecDepth 100000 in
theorem c_X5_init {l : Launch} {D : va_G} {cA : Nat → ClassId} {sz : Nat} {g0 : gS} {p0 : Nat} {p1 : Int32} {Q : gS → Prop} (h : w_X5_init g0 p0 p1 Q) : Met l yX5_init wsX5_init r_X5_init (va_Pc [.ref p0, .int p1] (gPre D cA g0 sz)) (gQv D cA g0 sz (Q)) 0 0 (gA g0 sz) := by
  refine g_met (cc := cX5_init) (maxL := 2) (ret := none) (own := RX5) (by decide) rfl rfl (Nat.le_of_ble_eq_true rfl) ?_
  intro p e s m args below meth c ls CF hr hlk hnm hc hl
  obtain ⟨hx, hb, hml, hown, hts⟩ := id CF
  have hl : lv_has ls 2 [(0, .ref p0), (1, .int p1)] := hl
  show W p l e r_X5_init s m args below meth c s.heap [] 0 0 (MQ below (gQv D cA g0 sz (Q)) args s 0 0 (gA g0 sz)) (F0 m 0 ls [])
  unfold w_X5_init at h
  obtain ⟨H, hH0⟩ : ∃ z, z = s.heap := ⟨_, rfl⟩
  rw [← hH0] at hc ⊢
  obtain ⟨locs, hlc0⟩ : ∃ z : List Loc, z = [] := ⟨_, rfl⟩
  rw [← hlc0] at hc ⊢
  refine lv_aload_n hx hb dX5_init_0 rfl (lv_at hl 0 rfl) ?_
  refine W.objInit hx hb hown (hts _ (List.mem_cons_of_mem _ (List.mem_append_left _ (List.mem_of_getElem? (i := 0) rfl)))) (hts _ (List.mem_cons_of_mem _ (List.mem_append_left _ (List.mem_of_getElem? (i := 1) rfl)))) (hts _ (List.mem_cons_of_mem _ (List.mem_append_left _ (List.mem_of_getElem? (i := 2) rfl)))) rfl (by rw [hml]; exact hl.1) rfl dX5_init_1 (Nat.le_of_ble_eq_true rfl) (Nat.le_of_ble_eq_true rfl) ?_
  refine W.eq (g2 := F0 m 4 ls []) rfl ?_
  refine lv_aload_n hx hb dX5_init_4 rfl (lv_at hl 0 rfl) ?_
  refine lv_iload_n hx hb dX5_init_5 rfl (lv_at hl 1 rfl) ?_
  obtain ⟨hk1, h⟩ := h
  refine g_putiF CF hc hk1 rfl (by decide) (fun _ h9 => List.mem_cons_of_mem _ (List.mem_append_right _ (h9))) tyX5 tyX5_ok nmX5 (k := 0) (by decide) (List.mem_cons_of_mem _ (List.mem_append_left _ (List.mem_of_getElem? (i := 3) rfl))) rfl hnm rfl (v := p1) rfl rfl rfl dX5_init_6 (fun H locs hc => ?_)
  obtain ⟨g2, eg3⟩ : ∃ z, z = sU g0 p0 0 p1 := ⟨_, rfl⟩
  have hc : gC D cA (gA g0 sz) s g2 H locs := by rw [eg3]; exact hc
  replace h := h g2 eg3
  exact g_retv CF hr hlk hc h dX5_init_9
def w_X5_partCount (g : gS) (p0 : Nat) (Q : Int32 → Prop) : Prop :=
  gK g p0 = 6 ∧ (((gI g p0 0).toInt < 1 ∨ 8 < (gI g p0 0).toInt → (Q 0)) ∧ ((gI g p0 0).toInt = 1 → (Q 2)) ∧ ((gI g p0 0).toInt = 2 → (Q 2)) ∧ ((gI g p0 0).toInt = 3 → (Q 2)) ∧ ((gI g p0 0).toInt = 4 → (Q 2)) ∧ ((gI g p0 0).toInt = 5 → (Q 0)) ∧ ((gI g p0 0).toInt = 6 → (Q 0)) ∧ ((gI g p0 0).toInt = 7 → (Q 1)) ∧ ((gI g p0 0).toInt = 8 → (Q (gI g p0 11))))
abbrev r_X5_partCount : Room := { frames := 0, cells := 0, slots := 0, locals := 0 }
set_option maxHeartbeats 4000000 in
set_option maxRecDepth 100000 in
theorem c_X5_partCount {l : Launch} {D : va_G} {cA : Nat → ClassId} {sz : Nat} {g : gS} {p0 : Nat} {Q : Int32 → Prop} (h : w_X5_partCount g p0 Q) : Met l yX5_partCount wsX5_partCount r_X5_partCount (va_Pc [.ref p0] (gPre D cA g sz)) (gQi D cA g sz (fun r g2 => g = g2 ∧ Q r)) 0 0 (gA g sz) := by
  refine g_met (cc := cX5_partCount) (maxL := 1) (ret := (some .int)) (own := RX5) (by decide) rfl rfl (Nat.le_of_ble_eq_true rfl) ?_
  intro p e s m args below meth c ls CF hr hlk hnm hc hl
  obtain ⟨hx, hb, hml, hown, hts⟩ := id CF
  have hl : lv_has ls 1 [(0, .ref p0)] := hl
  show W p l e r_X5_partCount s m args below meth c s.heap [] 0 0 (MQ below (gQi D cA g sz (fun r g2 => g = g2 ∧ Q r)) args s 0 0 (gA g sz)) (F0 m 0 ls [])
  unfold w_X5_partCount at h
  obtain ⟨H, hH0⟩ : ∃ z, z = s.heap := ⟨_, rfl⟩
  rw [← hH0] at hc ⊢
  obtain ⟨locs, hlc0⟩ : ∃ z : List Loc, z = [] := ⟨_, rfl⟩
  rw [← hlc0] at hc ⊢
  refine lv_aload_n hx hb dX5_partCount_0 rfl (lv_at hl 0 rfl) ?_
  obtain ⟨hk1, h⟩ := h
  refine g_get CF hc hk1 rfl (by decide) (fun _ h9 => List.mem_cons_of_mem _ (List.mem_append_right _ (h9))) (k := 0) (by decide) (List.mem_cons_of_mem _ (List.mem_append_left _ (List.mem_of_getElem? (i := 0) rfl))) rfl dX5_partCount_1 ?_
  by_cases hd2 : (gI g p0 0).toInt < 1 ∨ 8 < (gI g p0 0).toInt
  · replace h := h.1 hd2
    refine lv_tableOut (tgt := 61) hx hb dX5_partCount_4 hd2 (by decide) ?_
    refine lv_iconst (v := 0) hx hb dX5_partCount_61 (by decide) ?_
    exact g_reti (r := 0) CF hr hlk hc rfl ⟨rfl, h⟩ dX5_partCount_62
  · replace h := h.2
    rcases (show (gI g p0 0).toInt = 1 ∨ (gI g p0 0).toInt = 2 ∨ (gI g p0 0).toInt = 3 ∨ (gI g p0 0).toInt = 4 ∨ (gI g p0 0).toInt = 5 ∨ (gI g p0 0).toInt = 6 ∨ (gI g p0 0).toInt = 7 ∨ (gI g p0 0).toInt = 8 by omega) with hs | hs | hs | hs | hs | hs | hs | hs
    · have h := h.1 hs
      refine lv_tableIn (off := 48) (tgt := 52) hx hb dX5_partCount_4 (by omega) (by omega) (by rw [hs]; rfl) (by decide) ?_
      refine lv_iconst (v := 2) hx hb dX5_partCount_52 (by decide) ?_
      exact g_reti (r := 2) CF hr hlk hc rfl ⟨rfl, h⟩ dX5_partCount_53
    · have h := h.2.1 hs
      refine lv_tableIn (off := 48) (tgt := 52) hx hb dX5_partCount_4 (by omega) (by omega) (by rw [hs]; rfl) (by decide) ?_
      refine lv_iconst (v := 2) hx hb dX5_partCount_52 (by decide) ?_
      exact g_reti (r := 2) CF hr hlk hc rfl ⟨rfl, h⟩ dX5_partCount_53
    · have h := h.2.2.1 hs
      refine lv_tableIn (off := 48) (tgt := 52) hx hb dX5_partCount_4 (by omega) (by omega) (by rw [hs]; rfl) (by decide) ?_
      refine lv_iconst (v := 2) hx hb dX5_partCount_52 (by decide) ?_
      exact g_reti (r := 2) CF hr hlk hc rfl ⟨rfl, h⟩ dX5_partCount_53
    · have h := h.2.2.2.1 hs
      refine lv_tableIn (off := 48) (tgt := 52) hx hb dX5_partCount_4 (by omega) (by omega) (by rw [hs]; rfl) (by decide) ?_
      refine lv_iconst (v := 2) hx hb dX5_partCount_52 (by decide) ?_
      exact g_reti (r := 2) CF hr hlk hc rfl ⟨rfl, h⟩ dX5_partCount_53
    · have h := h.2.2.2.2.1 hs
      refine lv_tableIn (off := 57) (tgt := 61) hx hb dX5_partCount_4 (by omega) (by omega) (by rw [hs]; rfl) (by decide) ?_
      refine lv_iconst (v := 0) hx hb dX5_partCount_61 (by decide) ?_
      exact g_reti (r := 0) CF hr hlk hc rfl ⟨rfl, h⟩ dX5_partCount_62
    · have h := h.2.2.2.2.2.1 hs
      refine lv_tableIn (off := 57) (tgt := 61) hx hb dX5_partCount_4 (by omega) (by omega) (by rw [hs]; rfl) (by decide) ?_
      refine lv_iconst (v := 0) hx hb dX5_partCount_61 (by decide) ?_
      exact g_reti (r := 0) CF hr hlk hc rfl ⟨rfl, h⟩ dX5_partCount_62
    · have h := h.2.2.2.2.2.2.1 hs
      refine lv_tableIn (off := 50) (tgt := 54) hx hb dX5_partCount_4 (by omega) (by omega) (by rw [hs]; rfl) (by decide) ?_
      refine lv_iconst (v := 1) hx hb dX5_partCount_54 (by decide) ?_
      exact g_reti (r := 1) CF hr hlk hc rfl ⟨rfl, h⟩ dX5_partCount_55
    · have h := h.2.2.2.2.2.2.2 hs
      refine lv_tableIn (off := 52) (tgt := 56) hx hb dX5_partCount_4 (by omega) (by omega) (by rw [hs]; rfl) (by decide) ?_
      refine lv_aload_n hx hb dX5_partCount_56 rfl (lv_at hl 0 rfl) ?_
      refine g_get CF hc hk1 rfl (by decide) (fun _ h9 => List.mem_cons_of_mem _ (List.mem_append_right _ (h9))) (k := 11) (by decide) (List.mem_cons_of_mem _ (List.mem_append_left _ (List.mem_of_getElem? (i := 1) rfl))) rfl dX5_partCount_57 ?_
      exact g_reti (r := (gI g p0 11)) CF hr hlk hc rfl ⟨rfl, h⟩ dX5_partCount_60
def b_X5_partAt_31 (g : gS) (is0 : Int32) (Q : Int32 → Prop) : Prop :=
  Q is0
def w_X5_partAt (g : gS) (p0 : Nat) (p1 : Int32) (Q : Int32 → Prop) : Prop :=
  gK g p0 = 6 ∧ (((gI g p0 0) = 8 → (Q ((gI g p0 3) + p1))) ∧ (¬ (gI g p0 0) = 8 → ((p1 = 0 → (b_X5_partAt_31 g (gI g p0 3) Q)) ∧ (¬ p1 = 0 → (b_X5_partAt_31 g (gI g p0 4) Q)))))
abbrev r_X5_partAt : Room := { frames := 0, cells := 0, slots := 0, locals := 0 }
set_option maxHeartbeats 4000000 in
set_option maxRecDepth 100000 in
theorem c_X5_partAt {l : Launch} {D : va_G} {cA : Nat → ClassId} {sz : Nat} {g : gS} {p0 : Nat} {p1 : Int32} {Q : Int32 → Prop} (h : w_X5_partAt g p0 p1 Q) : Met l yX5_partAt wsX5_partAt r_X5_partAt (va_Pc [.ref p0, .int p1] (gPre D cA g sz)) (gQi D cA g sz (fun r g2 => g = g2 ∧ Q r)) 0 0 (gA g sz) := by
  refine g_met (cc := cX5_partAt) (maxL := 2) (ret := (some .int)) (own := RX5) (by decide) rfl rfl (Nat.le_of_ble_eq_true rfl) ?_
  intro p e s m args below meth c ls CF hr hlk hnm hc hl
  obtain ⟨hx, hb, hml, hown, hts⟩ := id CF
  have hl : lv_has ls 2 [(0, .ref p0), (1, .int p1)] := hl
  show W p l e r_X5_partAt s m args below meth c s.heap [] 0 0 (MQ below (gQi D cA g sz (fun r g2 => g = g2 ∧ Q r)) args s 0 0 (gA g sz)) (F0 m 0 ls [])
  have hb_31 : ∀ (is0 : Int32), b_X5_partAt_31 g is0 Q → ∀ (H : Heap) (locs : List Loc) (ls : Array Slot), gC D cA (gA g sz) s g H locs → lv_has ls 2 [] → W p l e r_X5_partAt s m args below meth c H locs 0 0 (MQ below (gQi D cA g sz (fun r g2 => g = g2 ∧ Q r)) args s 0 0 (gA g sz)) (F0 m 31 ls [.int is0]) := by
    intro is0 h H locs ls hc hl
    unfold b_X5_partAt_31 at h
    exact g_reti (r := is0) CF hr hlk hc rfl ⟨rfl, h⟩ dX5_partAt_31
  unfold w_X5_partAt at h
  obtain ⟨H, hH0⟩ : ∃ z, z = s.heap := ⟨_, rfl⟩
  rw [← hH0] at hc ⊢
  obtain ⟨locs, hlc0⟩ : ∃ z : List Loc, z = [] := ⟨_, rfl⟩
  rw [← hlc0] at hc ⊢
  refine lv_aload_n hx hb dX5_partAt_0 rfl (lv_at hl 0 rfl) ?_
  obtain ⟨hk1, h⟩ := h
  refine g_get CF hc hk1 rfl (by decide) (fun _ h9 => List.mem_cons_of_mem _ (List.mem_append_right _ (h9))) (k := 0) (by decide) (List.mem_cons_of_mem _ (List.mem_append_left _ (List.mem_of_getElem? (i := 0) rfl))) rfl dX5_partAt_1 ?_
  refine lv_bipush (v := 8) hx hb dX5_partAt_4 (by decide) ?_
  refine lv_icmp_ne (tgt := 16) hx hb dX5_partAt_6 (by decide) (fun c2 => ?_) (fun c2 => ?_)
  · have h := h.2 c2
    refine lv_iload_n hx hb dX5_partAt_16 rfl (lv_at hl 1 rfl) ?_
    refine lv_if_ne (tgt := 27) hx hb dX5_partAt_17 (by decide) (fun c3 => ?_) (fun c3 => ?_)
    · have h := h.2 c3
      refine lv_aload_n hx hb dX5_partAt_27 rfl (lv_at hl 0 rfl) ?_
      refine g_get CF hc hk1 rfl (by decide) (fun _ h9 => List.mem_cons_of_mem _ (List.mem_append_right _ (h9))) (k := 4) (by decide) (List.mem_cons_of_mem _ (List.mem_append_left _ (List.mem_of_getElem? (i := 2) rfl))) rfl dX5_partAt_28 ?_
      exact hb_31 (gI g p0 4) h _ _ _ hc (lv_sub hl [] rfl)
    · have h := h.1 c3
      refine lv_aload_n hx hb dX5_partAt_20 rfl (lv_at hl 0 rfl) ?_
      refine g_get CF hc hk1 rfl (by decide) (fun _ h9 => List.mem_cons_of_mem _ (List.mem_append_right _ (h9))) (k := 3) (by decide) (List.mem_cons_of_mem _ (List.mem_append_left _ (List.mem_of_getElem? (i := 1) rfl))) rfl dX5_partAt_21 ?_
      refine lv_goto (tgt := 31) hx hb dX5_partAt_24 (by decide) ?_
      exact hb_31 (gI g p0 3) h _ _ _ hc (lv_sub hl [] rfl)
  · have h := h.1 c2
    refine lv_aload_n hx hb dX5_partAt_9 rfl (lv_at hl 0 rfl) ?_
    refine g_get CF hc hk1 rfl (by decide) (fun _ h9 => List.mem_cons_of_mem _ (List.mem_append_right _ (h9))) (k := 3) (by decide) (List.mem_cons_of_mem _ (List.mem_append_left _ (List.mem_of_getElem? (i := 1) rfl))) rfl dX5_partAt_10 ?_
    refine lv_iload_n hx hb dX5_partAt_13 rfl (lv_at hl 1 rfl) ?_
    refine lv_iadd hx hb dX5_partAt_14 ?_
    exact g_reti (r := ((gI g p0 3) + p1)) CF hr hlk hc rfl ⟨rfl, h⟩ dX5_partAt_15
def b_X5_isFor_17 (g : gS) (is0 : Int32) (Q : Int32 → Prop) : Prop :=
  (is0 = 0 ∨ is0 = 1) ∧ (Q is0)
def w_X5_isFor (g : gS) (p0 : Nat) (p1 : Int32) (Q : Int32 → Prop) : Prop :=
  gK g p0 = 6 ∧ (((((gI g p0 2) >>> (p1 &&& 31)) &&& 1) = 1 → (b_X5_isFor_17 g 1 Q)) ∧ (¬ (((gI g p0 2) >>> (p1 &&& 31)) &&& 1) = 1 → (b_X5_isFor_17 g 0 Q)))
abbrev r_X5_isFor : Room := { frames := 0, cells := 0, slots := 0, locals := 0 }
set_option maxHeartbeats 4000000 in
set_option maxRecDepth 100000 in
theorem c_X5_isFor {l : Launch} {D : va_G} {cA : Nat → ClassId} {sz : Nat} {g : gS} {p0 : Nat} {p1 : Int32} {Q : Int32 → Prop} (h : w_X5_isFor g p0 p1 Q) : Met l yX5_isFor wsX5_isFor r_X5_isFor (va_Pc [.ref p0, .int p1] (gPre D cA g sz)) (gQi D cA g sz (fun r g2 => g = g2 ∧ Q r)) 0 0 (gA g sz) := by
  refine g_met (cc := cX5_isFor) (maxL := 2) (ret := (some .boolean)) (own := RX5) (by decide) rfl rfl (Nat.le_of_ble_eq_true rfl) ?_
  intro p e s m args below meth c ls CF hr hlk hnm hc hl
  obtain ⟨hx, hb, hml, hown, hts⟩ := id CF
  have hl : lv_has ls 2 [(0, .ref p0), (1, .int p1)] := hl
  show W p l e r_X5_isFor s m args below meth c s.heap [] 0 0 (MQ below (gQi D cA g sz (fun r g2 => g = g2 ∧ Q r)) args s 0 0 (gA g sz)) (F0 m 0 ls [])
  have hb_17 : ∀ (is0 : Int32), b_X5_isFor_17 g is0 Q → ∀ (H : Heap) (locs : List Loc) (ls : Array Slot), gC D cA (gA g sz) s g H locs → lv_has ls 2 [] → W p l e r_X5_isFor s m args below meth c H locs 0 0 (MQ below (gQi D cA g sz (fun r g2 => g = g2 ∧ Q r)) args s 0 0 (gA g sz)) (F0 m 17 ls [.int is0]) := by
    intro is0 h H locs ls hc hl
    unfold b_X5_isFor_17 at h
    obtain ⟨hz1, h⟩ := h
    exact g_reti (r := is0) CF hr hlk hc (narrow_01 hz1) ⟨rfl, h⟩ dX5_isFor_17
  unfold w_X5_isFor at h
  obtain ⟨H, hH0⟩ : ∃ z, z = s.heap := ⟨_, rfl⟩
  rw [← hH0] at hc ⊢
  obtain ⟨locs, hlc0⟩ : ∃ z : List Loc, z = [] := ⟨_, rfl⟩
  rw [← hlc0] at hc ⊢
  refine lv_aload_n hx hb dX5_isFor_0 rfl (lv_at hl 0 rfl) ?_
  obtain ⟨hk2, h⟩ := h
  refine g_get CF hc hk2 rfl (by decide) (fun _ h9 => List.mem_cons_of_mem _ (List.mem_append_right _ (h9))) (k := 2) (by decide) (List.mem_cons_of_mem _ (List.mem_append_left _ (List.mem_of_getElem? (i := 0) rfl))) rfl dX5_isFor_1 ?_
  refine lv_iload_n hx hb dX5_isFor_4 rfl (lv_at hl 1 rfl) ?_
  refine lv_ishr hx hb dX5_isFor_5 ?_
  refine lv_iconst (v := 1) hx hb dX5_isFor_6 (by decide) ?_
  refine lv_iand hx hb dX5_isFor_7 ?_
  refine lv_iconst (v := 1) hx hb dX5_isFor_8 (by decide) ?_
  refine lv_icmp_ne (tgt := 16) hx hb dX5_isFor_9 (by decide) (fun c3 => ?_) (fun c3 => ?_)
  · have h := h.2 c3
    refine lv_iconst (v := 0) hx hb dX5_isFor_16 (by decide) ?_
    exact hb_17 0 h _ _ _ hc (lv_sub hl [] rfl)
  · have h := h.1 c3
    refine lv_iconst (v := 1) hx hb dX5_isFor_12 (by decide) ?_
    refine lv_goto (tgt := 17) hx hb dX5_isFor_13 (by decide) ?_
    exact hb_17 1 h _ _ _ hc (lv_sub hl [] rfl)
def b_X5_isApartAsAsked_37 (g : gS) (is0 : Int32) (Q : Int32 → Prop) : Prop :=
  (is0 = 0 ∨ is0 = 1) ∧ (Q is0)
def b_X5_isApartAsAsked_36 (g : gS) (Q : Int32 → Prop) : Prop :=
  b_X5_isApartAsAsked_37 g 0 Q
def b_X5_isApartAsAsked_29 (g : gS) (is0 : Int32) (is1 : Int32) (Q : Int32 → Prop) : Prop :=
  (is0 < is1 → (b_X5_isApartAsAsked_36 g Q)) ∧ (¬ is0 < is1 → (b_X5_isApartAsAsked_37 g 1 Q))
def w_X5_isApartAsAsked (g : gS) (p0 : Nat) (p1 : Int32) (Q : Int32 → Prop) : Prop :=
  (p1 = 0 → (b_X5_isApartAsAsked_36 g Q)) ∧ (¬ p1 = 0 → (gK g p0 = 6 ∧ (((gI g p0 5) < p1 → (b_X5_isApartAsAsked_36 g Q)) ∧ (¬ (gI g p0 5) < p1 → (((gI g p0 6) = 0 → (b_X5_isApartAsAsked_29 g p1 (-(gI g p0 5)) Q)) ∧ (¬ (gI g p0 6) = 0 → (b_X5_isApartAsAsked_29 g p1 1 Q)))))))
abbrev r_X5_isApartAsAsked : Room := { frames := 0, cells := 0, slots := 0, locals := 0 }
set_option maxHeartbeats 4000000 in
set_option maxRecDepth 100000 in
theorem c_X5_isApartAsAsked {l : Launch} {D : va_G} {cA : Nat → ClassId} {sz : Nat} {g : gS} {p0 : Nat} {p1 : Int32} {Q : Int32 → Prop} (h : w_X5_isApartAsAsked g p0 p1 Q) : Met l yX5_isApartAsAsked wsX5_isApartAsAsked r_X5_isApartAsAsked (va_Pc [.ref p0, .int p1] (gPre D cA g sz)) (gQi D cA g sz (fun r g2 => g = g2 ∧ Q r)) 0 0 (gA g sz) := by
  refine g_met (cc := cX5_isApartAsAsked) (maxL := 2) (ret := (some .boolean)) (own := RX5) (by decide) rfl rfl (Nat.le_of_ble_eq_true rfl) ?_
  intro p e s m args below meth c ls CF hr hlk hnm hc hl
  obtain ⟨hx, hb, hml, hown, hts⟩ := id CF
  have hl : lv_has ls 2 [(0, .ref p0), (1, .int p1)] := hl
  show W p l e r_X5_isApartAsAsked s m args below meth c s.heap [] 0 0 (MQ below (gQi D cA g sz (fun r g2 => g = g2 ∧ Q r)) args s 0 0 (gA g sz)) (F0 m 0 ls [])
  have hb_37 : ∀ (is0 : Int32), b_X5_isApartAsAsked_37 g is0 Q → ∀ (H : Heap) (locs : List Loc) (ls : Array Slot), gC D cA (gA g sz) s g H locs → lv_has ls 2 [] → W p l e r_X5_isApartAsAsked s m args below meth c H locs 0 0 (MQ below (gQi D cA g sz (fun r g2 => g = g2 ∧ Q r)) args s 0 0 (gA g sz)) (F0 m 37 ls [.int is0]) := by
    intro is0 h H locs ls hc hl
    unfold b_X5_isApartAsAsked_37 at h
    obtain ⟨hz1, h⟩ := h
    exact g_reti (r := is0) CF hr hlk hc (narrow_01 hz1) ⟨rfl, h⟩ dX5_isApartAsAsked_37
  have hb_36 : b_X5_isApartAsAsked_36 g Q → ∀ (H : Heap) (locs : List Loc) (ls : Array Slot), gC D cA (gA g sz) s g H locs → lv_has ls 2 [] → W p l e r_X5_isApartAsAsked s m args below meth c H locs 0 0 (MQ below (gQi D cA g sz (fun r g2 => g = g2 ∧ Q r)) args s 0 0 (gA g sz)) (F0 m 36 ls []) := by
    intro h H locs ls hc hl
    unfold b_X5_isApartAsAsked_36 at h
    refine lv_iconst (v := 0) hx hb dX5_isApartAsAsked_36 (by decide) ?_
    exact hb_37 0 h _ _ _ hc (lv_sub hl [] rfl)
  have hb_29 : ∀ (is0 : Int32) (is1 : Int32), b_X5_isApartAsAsked_29 g is0 is1 Q → ∀ (H : Heap) (locs : List Loc) (ls : Array Slot), gC D cA (gA g sz) s g H locs → lv_has ls 2 [] → W p l e r_X5_isApartAsAsked s m args below meth c H locs 0 0 (MQ below (gQi D cA g sz (fun r g2 => g = g2 ∧ Q r)) args s 0 0 (gA g sz)) (F0 m 29 ls [.int is1, .int is0]) := by
    intro is0 is1 h H locs ls hc hl
    unfold b_X5_isApartAsAsked_29 at h
    refine lv_icmp_lt (tgt := 36) hx hb dX5_isApartAsAsked_29 (by decide) (fun c2 => ?_) (fun c2 => ?_)
    · have h := h.1 c2
      exact hb_36  h _ _ _ hc (lv_sub hl [] rfl)
    · have h := h.2 c2
      refine lv_iconst (v := 1) hx hb dX5_isApartAsAsked_32 (by decide) ?_
      refine lv_goto (tgt := 37) hx hb dX5_isApartAsAsked_33 (by decide) ?_
      exact hb_37 1 h _ _ _ hc (lv_sub hl [] rfl)
  unfold w_X5_isApartAsAsked at h
  obtain ⟨H, hH0⟩ : ∃ z, z = s.heap := ⟨_, rfl⟩
  rw [← hH0] at hc ⊢
  obtain ⟨locs, hlc0⟩ : ∃ z : List Loc, z = [] := ⟨_, rfl⟩
  rw [← hlc0] at hc ⊢
  refine lv_iload_n hx hb dX5_isApartAsAsked_0 rfl (lv_at hl 1 rfl) ?_
  refine lv_if_eq (tgt := 36) hx hb dX5_isApartAsAsked_1 (by decide) (fun c3 => ?_) (fun c3 => ?_)
  · have h := h.1 c3
    exact hb_36  h _ _ _ hc (lv_sub hl [] rfl)
  · have h := h.2 c3
    refine lv_iload_n hx hb dX5_isApartAsAsked_4 rfl (lv_at hl 1 rfl) ?_
    refine lv_aload_n hx hb dX5_isApartAsAsked_5 rfl (lv_at hl 0 rfl) ?_
    obtain ⟨hk4, h⟩ := h
    refine g_get CF hc hk4 rfl (by decide) (fun _ h9 => List.mem_cons_of_mem _ (List.mem_append_right _ (h9))) (k := 5) (by decide) (List.mem_cons_of_mem _ (List.mem_append_left _ (List.mem_of_getElem? (i := 0) rfl))) rfl dX5_isApartAsAsked_6 ?_
    refine lv_icmp_gt (tgt := 36) hx hb dX5_isApartAsAsked_9 (by decide) (fun c5 => ?_) (fun c5 => ?_)
    · have h := h.1 c5
      exact hb_36  h _ _ _ hc (lv_sub hl [] rfl)
    · have h := h.2 c5
      refine lv_iload_n hx hb dX5_isApartAsAsked_12 rfl (lv_at hl 1 rfl) ?_
      refine lv_aload_n hx hb dX5_isApartAsAsked_13 rfl (lv_at hl 0 rfl) ?_
      refine g_get CF hc hk4 rfl (by decide) (fun _ h9 => List.mem_cons_of_mem _ (List.mem_append_right _ (h9))) (k := 6) (by decide) (List.mem_cons_of_mem _ (List.mem_append_left _ (List.mem_of_getElem? (i := 1) rfl))) rfl dX5_isApartAsAsked_14 ?_
      refine lv_if_eq (tgt := 24) hx hb dX5_isApartAsAsked_17 (by decide) (fun c6 => ?_) (fun c6 => ?_)
      · have h := h.1 c6
        refine lv_aload_n hx hb dX5_isApartAsAsked_24 rfl (lv_at hl 0 rfl) ?_
        refine g_get CF hc hk4 rfl (by decide) (fun _ h9 => List.mem_cons_of_mem _ (List.mem_append_right _ (h9))) (k := 5) (by decide) (List.mem_cons_of_mem _ (List.mem_append_left _ (List.mem_of_getElem? (i := 0) rfl))) rfl dX5_isApartAsAsked_25 ?_
        refine lv_ineg hx hb dX5_isApartAsAsked_28 ?_
        exact hb_29 p1 (-(gI g p0 5)) h _ _ _ hc (lv_sub hl [] rfl)
      · have h := h.2 c6
        refine lv_iconst (v := 1) hx hb dX5_isApartAsAsked_20 (by decide) ?_
        refine lv_goto (tgt := 29) hx hb dX5_isApartAsAsked_21 (by decide) ?_
        exact hb_29 p1 1 h _ _ _ hc (lv_sub hl [] rfl)
def w_X6_init (g0 : gS) (p0 : Nat) (p1 : Nat) (Q : gS → Prop) : Prop :=
  ∀ q1, gK g0 q1 = 0 → (∀ g3, g3 = sNew g0 q1 27 30 → (gK g3 p0 = 7 ∧ (∀ g6, g6 = sV g3 p0 1 (some q1) → (∀ q8, gK g6 q8 = 0 → (∀ g10, g10 = sNew g6 q8 22 30 → (gK g10 p0 = 7 ∧ (∀ g13, g13 = sV g10 p0 3 (some q8) → (∀ q15, gK g13 q15 = 0 → (∀ g17, g17 = sNew g13 q15 22 12 → (gK g17 p0 = 7 ∧ (∀ g20, g20 = sV g17 p0 4 (some q15) → (gK g20 p0 = 7 ∧ (∀ g23, g23 = sV g20 p0 0 (some p1) → (Q g23))))))))))))))
abbrev r_X6_init : Room := { frames := 1, cells := 3, slots := 72, locals := 12 }
set_option maxHeartbeats 4000000 in
set_option maxRecDepth 100000 in
theorem c_X6_init {l : Launch} {D : va_G} {cA : Nat → ClassId} {sz : Nat} {g0 : gS} {p0 : Nat} {p1 : Nat} {Q : gS → Prop} (h : w_X6_init g0 p0 p1 Q) : Met l yX6_init wsX6_init r_X6_init (va_Pc [.ref p0, .ref p1] (gPre D cA g0 sz)) (gQv D cA g0 sz (Q)) 3 72 (gA g0 sz) := by
  refine g_met (cc := cX6_init) (maxL := 2) (ret := none) (own := RX6) (by decide) rfl rfl (Nat.le_of_ble_eq_true rfl) ?_
  intro p e s m args below meth c ls CF hr hlk hnm hc hl
  obtain ⟨hx, hb, hml, hown, hts⟩ := id CF
  have hl : lv_has ls 2 [(0, .ref p0), (1, .ref p1)] := hl
  show W p l e r_X6_init s m args below meth c s.heap [] 0 0 (MQ below (gQv D cA g0 sz (Q)) args s 3 72 (gA g0 sz)) (F0 m 0 ls [])
  unfold w_X6_init at h
  obtain ⟨H, hH0⟩ : ∃ z, z = s.heap := ⟨_, rfl⟩
  rw [← hH0] at hc ⊢
  obtain ⟨locs, hlc0⟩ : ∃ z : List Loc, z = [] := ⟨_, rfl⟩
  rw [← hlc0] at hc ⊢
  refine lv_aload_n hx hb dX6_init_0 rfl (lv_at hl 0 rfl) ?_
  refine W.objInit hx hb hown (hts _ (List.mem_cons_of_mem _ (List.mem_append_left _ (List.mem_of_getElem? (i := 0) rfl)))) (hts _ (List.mem_cons_of_mem _ (List.mem_append_left _ (List.mem_of_getElem? (i := 1) rfl)))) (hts _ (List.mem_cons_of_mem _ (List.mem_append_left _ (List.mem_of_getElem? (i := 2) rfl)))) rfl (by rw [hml]; exact hl.1) rfl dX6_init_1 (Nat.le_of_ble_eq_true rfl) (Nat.le_of_ble_eq_true rfl) ?_
  refine W.eq (g2 := F0 m 4 ls []) rfl ?_
  refine lv_aload_n hx hb dX6_init_4 rfl (lv_at hl 0 rfl) ?_
  refine lv_bipush (v := 30) hx hb dX6_init_5 (by decide) ?_
  refine g_newq CF hc (j2 := 2) (by decide) hc.1.2.2.2.2.2.1 rfl (List.mem_cons_of_mem _ (List.mem_append_left _ (List.mem_of_getElem? (i := 3) rfl))) (n := 30) (N := 30) (by decide) (by decide) (by decide) (Nat.le_of_ble_eq_true rfl) (Nat.le_of_ble_eq_true rfl) dX6_init_7 (fun q1 H locs hq2 hc => ?_)
  replace h := h q1 hq2
  obtain ⟨g3, eg4⟩ : ∃ z, z = sNew g0 q1 27 30 := ⟨_, rfl⟩
  have hc : gC D cA (gA g0 sz) s g3 H locs := by rw [eg4]; exact hc
  replace h := h g3 eg4
  refine W.widen (k := 1) (n := 30) (Nat.le_of_ble_eq_true rfl) (Nat.le_of_ble_eq_true rfl) ?_
  obtain ⟨hk5, h⟩ := h
  refine g_putrF CF hc hk5 rfl (by decide) (fun _ h9 => List.mem_cons_of_mem _ (List.mem_append_right _ (h9))) tyX6 tyX6_ok nmX6 (k := 1) (by decide) (List.mem_cons_of_mem _ (List.mem_append_left _ (List.mem_of_getElem? (i := 4) rfl))) rfl hnm rfl (some q1) narrow_ra fits_ra rfl dX6_init_10 (fun H locs hc => ?_)
  obtain ⟨g6, eg7⟩ : ∃ z, z = sV g3 p0 1 (some q1) := ⟨_, rfl⟩
  have hc : gC D cA (gA g0 sz) s g6 H locs := by rw [eg7]; exact hc
  replace h := h g6 eg7
  refine lv_aload_n hx hb dX6_init_13 rfl (lv_at hl 0 rfl) ?_
  refine lv_bipush (v := 30) hx hb dX6_init_14 (by decide) ?_
  refine g_newz CF hc (List.mem_cons_of_mem _ (List.mem_append_left _ (List.mem_of_getElem? (i := 5) rfl))) (n := 30) (N := 30) (by decide) (by decide) (by decide) (Nat.le_of_ble_eq_true rfl) (Nat.le_of_ble_eq_true rfl) dX6_init_16 (fun q8 H locs hq9 hc => ?_)
  replace h := h q8 hq9
  obtain ⟨g10, eg11⟩ : ∃ z, z = sNew g6 q8 22 30 := ⟨_, rfl⟩
  have hc : gC D cA (gA g0 sz) s g10 H locs := by rw [eg11]; exact hc
  replace h := h g10 eg11
  refine W.widen (k := 2) (n := 60) (Nat.le_of_ble_eq_true rfl) (Nat.le_of_ble_eq_true rfl) ?_
  obtain ⟨hk12, h⟩ := h
  refine g_putrF CF hc hk12 rfl (by decide) (fun _ h9 => List.mem_cons_of_mem _ (List.mem_append_right _ (h9))) tyX6 tyX6_ok nmX6 (k := 3) (by decide) (List.mem_cons_of_mem _ (List.mem_append_left _ (List.mem_of_getElem? (i := 6) rfl))) rfl hnm rfl (some q8) narrow_ra fits_ra rfl dX6_init_18 (fun H locs hc => ?_)
  obtain ⟨g13, eg14⟩ : ∃ z, z = sV g10 p0 3 (some q8) := ⟨_, rfl⟩
  have hc : gC D cA (gA g0 sz) s g13 H locs := by rw [eg14]; exact hc
  replace h := h g13 eg14
  refine lv_aload_n hx hb dX6_init_21 rfl (lv_at hl 0 rfl) ?_
  refine lv_bipush (v := 12) hx hb dX6_init_22 (by decide) ?_
  refine g_newz CF hc (List.mem_cons_of_mem _ (List.mem_append_left _ (List.mem_of_getElem? (i := 5) rfl))) (n := 12) (N := 12) (by decide) (by decide) (by decide) (Nat.le_of_ble_eq_true rfl) (Nat.le_of_ble_eq_true rfl) dX6_init_24 (fun q15 H locs hq16 hc => ?_)
  replace h := h q15 hq16
  obtain ⟨g17, eg18⟩ : ∃ z, z = sNew g13 q15 22 12 := ⟨_, rfl⟩
  have hc : gC D cA (gA g0 sz) s g17 H locs := by rw [eg18]; exact hc
  replace h := h g17 eg18
  refine W.widen (k := 3) (n := 72) (Nat.le_of_ble_eq_true rfl) (Nat.le_of_ble_eq_true rfl) ?_
  obtain ⟨hk19, h⟩ := h
  refine g_putrF CF hc hk19 rfl (by decide) (fun _ h9 => List.mem_cons_of_mem _ (List.mem_append_right _ (h9))) tyX6 tyX6_ok nmX6 (k := 4) (by decide) (List.mem_cons_of_mem _ (List.mem_append_left _ (List.mem_of_getElem? (i := 7) rfl))) rfl hnm rfl (some q15) narrow_ra fits_ra rfl dX6_init_26 (fun H locs hc => ?_)
  obtain ⟨g20, eg21⟩ : ∃ z, z = sV g17 p0 4 (some q15) := ⟨_, rfl⟩
  have hc : gC D cA (gA g0 sz) s g20 H locs := by rw [eg21]; exact hc
  replace h := h g20 eg21
  refine lv_aload_n hx hb dX6_init_29 rfl (lv_at hl 0 rfl) ?_
  refine lv_aload_n hx hb dX6_init_30 rfl (lv_at hl 1 rfl) ?_
  obtain ⟨hk22, h⟩ := h
  refine g_putrF CF hc hk22 rfl (by decide) (fun _ h9 => List.mem_cons_of_mem _ (List.mem_append_right _ (h9))) tyX6 tyX6_ok nmX6 (k := 0) (by decide) (List.mem_cons_of_mem _ (List.mem_append_left _ (List.mem_of_getElem? (i := 8) rfl))) rfl hnm rfl (some p1) narrow_rf fits_rf rfl dX6_init_31 (fun H locs hc => ?_)
  obtain ⟨g23, eg24⟩ : ∃ z, z = sV g20 p0 0 (some p1) := ⟨_, rfl⟩
  have hc : gC D cA (gA g0 sz) s g23 H locs := by rw [eg24]; exact hc
  replace h := h g23 eg24
  exact g_retv CF hr hlk hc h dX6_init_34
def b_X6_isFull_17 (g : gS) (is0 : Int32) (Q : Int32 → Prop) : Prop :=
  (is0 = 0 ∨ is0 = 1) ∧ (Q is0)
def w_X6_isFull (g : gS) (p0 : Nat) (Q : Int32 → Prop) : Prop :=
  gK g p0 = 7 ∧ (∃ y3, gR g p0 1 = some y3 ∧ (gK g y3 = 27 ∧ (((gI g p0 2) < (nI (gN g y3)) → (b_X6_isFull_17 g 0 Q)) ∧ (¬ (gI g p0 2) < (nI (gN g y3)) → (b_X6_isFull_17 g 1 Q)))))
abbrev r_X6_isFull : Room := { frames := 0, cells := 0, slots := 0, locals := 0 }
set_option maxHeartbeats 4000000 in
set_option maxRecDepth 100000 in
theorem c_X6_isFull {l : Launch} {D : va_G} {cA : Nat → ClassId} {sz : Nat} {g : gS} {p0 : Nat} {Q : Int32 → Prop} (h : w_X6_isFull g p0 Q) : Met l yX6_isFull wsX6_isFull r_X6_isFull (va_Pc [.ref p0] (gPre D cA g sz)) (gQi D cA g sz (fun r g2 => g = g2 ∧ Q r)) 0 0 (gA g sz) := by
  refine g_met (cc := cX6_isFull) (maxL := 1) (ret := (some .boolean)) (own := RX6) (by decide) rfl rfl (Nat.le_of_ble_eq_true rfl) ?_
  intro p e s m args below meth c ls CF hr hlk hnm hc hl
  obtain ⟨hx, hb, hml, hown, hts⟩ := id CF
  have hl : lv_has ls 1 [(0, .ref p0)] := hl
  show W p l e r_X6_isFull s m args below meth c s.heap [] 0 0 (MQ below (gQi D cA g sz (fun r g2 => g = g2 ∧ Q r)) args s 0 0 (gA g sz)) (F0 m 0 ls [])
  have hb_17 : ∀ (is0 : Int32), b_X6_isFull_17 g is0 Q → ∀ (H : Heap) (locs : List Loc) (ls : Array Slot), gC D cA (gA g sz) s g H locs → lv_has ls 1 [] → W p l e r_X6_isFull s m args below meth c H locs 0 0 (MQ below (gQi D cA g sz (fun r g2 => g = g2 ∧ Q r)) args s 0 0 (gA g sz)) (F0 m 17 ls [.int is0]) := by
    intro is0 h H locs ls hc hl
    unfold b_X6_isFull_17 at h
    obtain ⟨hz1, h⟩ := h
    exact g_reti (r := is0) CF hr hlk hc (narrow_01 hz1) ⟨rfl, h⟩ dX6_isFull_17
  unfold w_X6_isFull at h
  obtain ⟨H, hH0⟩ : ∃ z, z = s.heap := ⟨_, rfl⟩
  rw [← hH0] at hc ⊢
  obtain ⟨locs, hlc0⟩ : ∃ z : List Loc, z = [] := ⟨_, rfl⟩
  rw [← hlc0] at hc ⊢
  refine lv_aload_n hx hb dX6_isFull_0 rfl (lv_at hl 0 rfl) ?_
  obtain ⟨hk2, h⟩ := h
  refine g_get CF hc hk2 rfl (by decide) (fun _ h9 => List.mem_cons_of_mem _ (List.mem_append_right _ (h9))) (k := 2) (by decide) (List.mem_cons_of_mem _ (List.mem_append_left _ (List.mem_of_getElem? (i := 0) rfl))) rfl dX6_isFull_1 ?_
  refine lv_aload_n hx hb dX6_isFull_4 rfl (lv_at hl 0 rfl) ?_
  obtain ⟨y3, e4, h⟩ := h
  refine g_getr CF hc hk2 rfl (by decide) (fun _ h9 => List.mem_cons_of_mem _ (List.mem_append_right _ (h9))) (k := 1) (by decide) (List.mem_cons_of_mem _ (List.mem_append_left _ (List.mem_of_getElem? (i := 1) rfl))) e4 rfl dX6_isFull_5 ?_
  obtain ⟨hk5, h⟩ := h
  refine g_alen CF hc (j := 6) hk5 (by decide) dX6_isFull_8 ?_
  refine lv_icmp_lt (tgt := 16) hx hb dX6_isFull_9 (by decide) (fun c6 => ?_) (fun c6 => ?_)
  · have h := h.1 c6
    refine lv_iconst (v := 0) hx hb dX6_isFull_16 (by decide) ?_
    exact hb_17 0 h _ _ _ hc (lv_sub hl [] rfl)
  · have h := h.2 c6
    refine lv_iconst (v := 1) hx hb dX6_isFull_12 (by decide) ?_
    refine lv_goto (tgt := 17) hx hb dX6_isFull_13 (by decide) ?_
    exact hb_17 1 h _ _ _ hc (lv_sub hl [] rfl)
def b_X6_nodeAt_31 (g : gS) (os0 : Option Nat) (Q : Option Nat → Prop) : Prop :=
  Q os0
def b_X6_nodeAt_21 (g : gS) (Q : Option Nat → Prop) : Prop :=
  b_X6_nodeAt_31 g none Q
def w_X6_nodeAt (g : gS) (p0 : Nat) (p1 : Int32) (Q : Option Nat → Prop) : Prop :=
  (p1 < 0 → (b_X6_nodeAt_21 g Q)) ∧ (¬ p1 < 0 → (gK g p0 = 7 ∧ (((gI g p0 2) ≤ p1 → (b_X6_nodeAt_21 g Q)) ∧ (¬ (gI g p0 2) ≤ p1 → (∃ y4, gR g p0 1 = some y4 ∧ (gK g y4 = 27 ∧ ((p1 < (nI (gN g y4)) → (∃ y8, gR g p0 1 = some y8 ∧ (gK g y8 = 27 ∧ (vp_in p1 (gN g y8) ∧ (∀ o12, o12 = gR g y8 (Int32.toNatClampNeg p1) → (b_X6_nodeAt_31 g o12 Q)))))) ∧ (¬ p1 < (nI (gN g y4)) → (b_X6_nodeAt_21 g Q)))))))))
abbrev r_X6_nodeAt : Room := { frames := 0, cells := 0, slots := 0, locals := 0 }
set_option maxHeartbeats 4000000 in
set_option maxRecDepth 100000 in
theorem c_X6_nodeAt {l : Launch} {D : va_G} {cA : Nat → ClassId} {sz : Nat} {g : gS} {p0 : Nat} {p1 : Int32} {Q : Option Nat → Prop} (h : w_X6_nodeAt g p0 p1 Q) : Met l yX6_nodeAt wsX6_nodeAt r_X6_nodeAt (va_Pc [.ref p0, .int p1] (gPre D cA g sz)) (gQq D cA g sz (fun r g2 => g = g2 ∧ Q r)) 0 0 (gA g sz) := by
  refine g_met (cc := cX6_nodeAt) (maxL := 2) (ret := (some (.object "QuarryIndex$Node"))) (own := RX6) (by decide) rfl rfl (Nat.le_of_ble_eq_true rfl) ?_
  intro p e s m args below meth c ls CF hr hlk hnm hc hl
  obtain ⟨hx, hb, hml, hown, hts⟩ := id CF
  have hl : lv_has ls 2 [(0, .ref p0), (1, .int p1)] := hl
  show W p l e r_X6_nodeAt s m args below meth c s.heap [] 0 0 (MQ below (gQq D cA g sz (fun r g2 => g = g2 ∧ Q r)) args s 0 0 (gA g sz)) (F0 m 0 ls [])
  have hb_31 : ∀ (os0 : Option Nat), b_X6_nodeAt_31 g os0 Q → ∀ (H : Heap) (locs : List Loc) (ls : Array Slot), gC D cA (gA g sz) s g H locs → lv_has ls 2 [] → W p l e r_X6_nodeAt s m args below meth c H locs 0 0 (MQ below (gQq D cA g sz (fun r g2 => g = g2 ∧ Q r)) args s 0 0 (gA g sz)) (F0 m 31 ls [va_rf os0]) := by
    intro os0 h H locs ls hc hl
    unfold b_X6_nodeAt_31 at h
    exact g_retq (r := os0) CF hr hlk hc ⟨rfl, h⟩ dX6_nodeAt_31
  have hb_21 : b_X6_nodeAt_21 g Q → ∀ (H : Heap) (locs : List Loc) (ls : Array Slot), gC D cA (gA g sz) s g H locs → lv_has ls 2 [] → W p l e r_X6_nodeAt s m args below meth c H locs 0 0 (MQ below (gQq D cA g sz (fun r g2 => g = g2 ∧ Q r)) args s 0 0 (gA g sz)) (F0 m 21 ls []) := by
    intro h H locs ls hc hl
    unfold b_X6_nodeAt_21 at h
    refine lv_null hx hb dX6_nodeAt_21 ?_
    refine lv_goto (tgt := 31) hx hb dX6_nodeAt_22 (by decide) ?_
    exact hb_31 none h _ _ _ hc (lv_sub hl [] rfl)
  unfold w_X6_nodeAt at h
  obtain ⟨H, hH0⟩ : ∃ z, z = s.heap := ⟨_, rfl⟩
  rw [← hH0] at hc ⊢
  obtain ⟨locs, hlc0⟩ : ∃ z : List Loc, z = [] := ⟨_, rfl⟩
  rw [← hlc0] at hc ⊢
  refine lv_iload_n hx hb dX6_nodeAt_0 rfl (lv_at hl 1 rfl) ?_
  refine lv_if_lt (tgt := 21) hx hb dX6_nodeAt_1 (by decide) (fun c1 => ?_) (fun c1 => ?_)
  · have h := h.1 c1
    exact hb_21  h _ _ _ hc (lv_sub hl [] rfl)
  · have h := h.2 c1
    refine lv_iload_n hx hb dX6_nodeAt_4 rfl (lv_at hl 1 rfl) ?_
    refine lv_aload_n hx hb dX6_nodeAt_5 rfl (lv_at hl 0 rfl) ?_
    obtain ⟨hk2, h⟩ := h
    refine g_get CF hc hk2 rfl (by decide) (fun _ h9 => List.mem_cons_of_mem _ (List.mem_append_right _ (h9))) (k := 2) (by decide) (List.mem_cons_of_mem _ (List.mem_append_left _ (List.mem_of_getElem? (i := 0) rfl))) rfl dX6_nodeAt_6 ?_
    refine lv_icmp_ge (tgt := 21) hx hb dX6_nodeAt_9 (by decide) (fun c3 => ?_) (fun c3 => ?_)
    · have h := h.1 c3
      exact hb_21  h _ _ _ hc (lv_sub hl [] rfl)
    · have h := h.2 c3
      refine lv_iload_n hx hb dX6_nodeAt_12 rfl (lv_at hl 1 rfl) ?_
      refine lv_aload_n hx hb dX6_nodeAt_13 rfl (lv_at hl 0 rfl) ?_
      obtain ⟨y4, e5, h⟩ := h
      refine g_getr CF hc hk2 rfl (by decide) (fun _ h9 => List.mem_cons_of_mem _ (List.mem_append_right _ (h9))) (k := 1) (by decide) (List.mem_cons_of_mem _ (List.mem_append_left _ (List.mem_of_getElem? (i := 1) rfl))) e5 rfl dX6_nodeAt_14 ?_
      obtain ⟨hk6, h⟩ := h
      refine g_alen CF hc (j := 6) hk6 (by decide) dX6_nodeAt_17 ?_
      refine lv_icmp_lt (tgt := 25) hx hb dX6_nodeAt_18 (by decide) (fun c7 => ?_) (fun c7 => ?_)
      · have h := h.1 c7
        refine lv_aload_n hx hb dX6_nodeAt_25 rfl (lv_at hl 0 rfl) ?_
        obtain ⟨y8, e9, h⟩ := h
        refine g_getr CF hc hk2 rfl (by decide) (fun _ h9 => List.mem_cons_of_mem _ (List.mem_append_right _ (h9))) (k := 1) (by decide) (List.mem_cons_of_mem _ (List.mem_append_left _ (List.mem_of_getElem? (i := 1) rfl))) e9 rfl dX6_nodeAt_26 ?_
        refine lv_iload_n hx hb dX6_nodeAt_29 rfl (lv_at hl 1 rfl) ?_
        obtain ⟨hk10, h⟩ := h
        obtain ⟨hi11, h⟩ := h
        refine g_aald CF hc (j := 3) hk10 (by decide) hi11 dX6_nodeAt_30 ?_
        obtain ⟨o12, eo13⟩ : ∃ z, z = gR g y8 (Int32.toNatClampNeg p1) := ⟨_, rfl⟩
        rw [← eo13]
        replace h := h o12 eo13
        exact hb_31 o12 h _ _ _ hc (lv_sub hl [] rfl)
      · have h := h.2 c7
        exact hb_21  h _ _ _ hc (lv_sub hl [] rfl)
def b_X6_hasNode_13 (g : gS) (is0 : Int32) (Q : Int32 → Prop) : Prop :=
  (is0 = 0 ∨ is0 = 1) ∧ (Q is0)
def w_X6_hasNode (g : gS) (p0 : Nat) (p1 : Int32) (Q : Int32 → Prop) : Prop :=
  gK g p0 = 7 ∧ (w_X6_nodeAt g p0 p1 (fun o3 => ((o3 = none → (b_X6_hasNode_13 g 0 Q)) ∧ (∀ y5, o3 = some y5 → (b_X6_hasNode_13 g 1 Q)))))
abbrev r_X6_hasNode : Room := { frames := 1, cells := 0, slots := 0, locals := 21 }
set_option maxHeartbeats 4000000 in
set_option maxRecDepth 100000 in
theorem c_X6_hasNode {l : Launch} {D : va_G} {cA : Nat → ClassId} {sz : Nat} {g : gS} {p0 : Nat} {p1 : Int32} {Q : Int32 → Prop} (h : w_X6_hasNode g p0 p1 Q) : Met l yX6_hasNode wsX6_hasNode r_X6_hasNode (va_Pc [.ref p0, .int p1] (gPre D cA g sz)) (gQi D cA g sz (fun r g2 => g = g2 ∧ Q r)) 0 0 (gA g sz) := by
  refine g_met (cc := cX6_hasNode) (maxL := 2) (ret := (some .boolean)) (own := RX6) (by decide) rfl rfl (Nat.le_of_ble_eq_true rfl) ?_
  intro p e s m args below meth c ls CF hr hlk hnm hc hl
  obtain ⟨hx, hb, hml, hown, hts⟩ := id CF
  have hl : lv_has ls 2 [(0, .ref p0), (1, .int p1)] := hl
  show W p l e r_X6_hasNode s m args below meth c s.heap [] 0 0 (MQ below (gQi D cA g sz (fun r g2 => g = g2 ∧ Q r)) args s 0 0 (gA g sz)) (F0 m 0 ls [])
  have hb_13 : ∀ (is0 : Int32), b_X6_hasNode_13 g is0 Q → ∀ (H : Heap) (locs : List Loc) (ls : Array Slot), gC D cA (gA g sz) s g H locs → lv_has ls 2 [] → W p l e r_X6_hasNode s m args below meth c H locs 0 0 (MQ below (gQi D cA g sz (fun r g2 => g = g2 ∧ Q r)) args s 0 0 (gA g sz)) (F0 m 13 ls [.int is0]) := by
    intro is0 h H locs ls hc hl
    unfold b_X6_hasNode_13 at h
    obtain ⟨hz1, h⟩ := h
    exact g_reti (r := is0) CF hr hlk hc (narrow_01 hz1) ⟨rfl, h⟩ dX6_hasNode_13
  unfold w_X6_hasNode at h
  obtain ⟨H, hH0⟩ : ∃ z, z = s.heap := ⟨_, rfl⟩
  rw [← hH0] at hc ⊢
  obtain ⟨locs, hlc0⟩ : ∃ z : List Loc, z = [] := ⟨_, rfl⟩
  rw [← hlc0] at hc ⊢
  refine lv_aload_n hx hb dX6_hasNode_0 rfl (lv_at hl 0 rfl) ?_
  refine lv_iload_n hx hb dX6_hasNode_1 rfl (lv_at hl 1 rfl) ?_
  obtain ⟨hk2, h⟩ := h
  refine g_callq (va_runV (As := [.int p1]) (rest := []) CF (c_X6_nodeAt h) (cwV 1 hts gX6_hasNode_X6_nodeAt rfl rfl rfl (by decide +kernel) ⟨Nat.le_of_ble_eq_true rfl, Nat.le_of_ble_eq_true rfl⟩) (hc.preV hk2 rfl (by decide)) rfl rfl hl.1 rfl (lv_room (Nat.le_of_ble_eq_true rfl)) dX6_hasNode_2 ⟨Nat.le_of_ble_eq_true rfl, Nat.le_of_ble_eq_true rfl⟩) hc (fun o3 gq4 H locs hq hc => ?_)
  obtain ⟨rfl, h⟩ := hq
  refine g_ifnull (tgt := 12) CF dX6_hasNode_5 (by decide) (fun e6 => ?_) (fun y5 e6 => ?_)
  · have hu7 := h.1 e6
    subst e6
    have h := hu7
    refine lv_iconst (v := 0) hx hb dX6_hasNode_12 (by decide) ?_
    exact hb_13 0 h _ _ _ hc (lv_sub hl [] rfl)
  · have hu7 := h.2 y5 e6
    subst e6
    have h := hu7
    refine lv_iconst (v := 1) hx hb dX6_hasNode_8 (by decide) ?_
    refine lv_goto (tgt := 13) hx hb dX6_hasNode_9 (by decide) ?_
    exact hb_13 1 h _ _ _ hc (lv_sub hl [] rfl)
def w_X6_append (g0 : gS) (p0 : Nat) (p1 : Nat) (Q : Int32 → gS → Prop) : Prop :=
  gK g0 p0 = 7 ∧ (w_X6_isFull g0 p0 (fun x2 => ((x2 = 0 → (∃ y5, gR g0 p0 1 = some y5 ∧ (gK g0 y5 = 27 ∧ (vp_in (gI g0 p0 2) (gN g0 y5) ∧ (gK g0 p1 = 6 ∧ (∀ g10, g10 = sV g0 y5 (Int32.toNatClampNeg (gI g0 p0 2)) (some p1) → (gK g10 p0 = 7 ∧ (∀ g13, g13 = sU g10 p0 2 ((gI g10 p0 2) + 1) → (Q (gI g0 p0 2) g13))))))))) ∧ (¬ x2 = 0 → (Q (-1) g0)))))
abbrev r_X6_append : Room := { frames := 1, cells := 0, slots := 0, locals := 20 }
set_option maxHeartbeats 4000000 in
set_option maxRecDepth 100000 in
theorem c_X6_append {l : Launch} {D : va_G} {cA : Nat → ClassId} {sz : Nat} {g0 : gS} {p0 : Nat} {p1 : Nat} {Q : Int32 → gS → Prop} (h : w_X6_append g0 p0 p1 Q) : Met l yX6_append wsX6_append r_X6_append (va_Pc [.ref p0, .ref p1] (gPre D cA g0 sz)) (gQi D cA g0 sz (Q)) 0 0 (gA g0 sz) := by
  refine g_met (cc := cX6_append) (maxL := 3) (ret := (some .int)) (own := RX6) (by decide) rfl rfl (Nat.le_of_ble_eq_true rfl) ?_
  intro p e s m args below meth c ls CF hr hlk hnm hc hl
  obtain ⟨hx, hb, hml, hown, hts⟩ := id CF
  have hl : lv_has ls 3 [(0, .ref p0), (1, .ref p1)] := hl
  show W p l e r_X6_append s m args below meth c s.heap [] 0 0 (MQ below (gQi D cA g0 sz (Q)) args s 0 0 (gA g0 sz)) (F0 m 0 ls [])
  unfold w_X6_append at h
  obtain ⟨H, hH0⟩ : ∃ z, z = s.heap := ⟨_, rfl⟩
  rw [← hH0] at hc ⊢
  obtain ⟨locs, hlc0⟩ : ∃ z : List Loc, z = [] := ⟨_, rfl⟩
  rw [← hlc0] at hc ⊢
  refine lv_aload_n hx hb dX6_append_0 rfl (lv_at hl 0 rfl) ?_
  obtain ⟨hk1, h⟩ := h
  refine g_calli (va_runV (As := []) (rest := []) CF (c_X6_isFull h) (cwV 0 hts gX6_append_X6_isFull rfl rfl rfl (by decide +kernel) ⟨Nat.le_of_ble_eq_true rfl, Nat.le_of_ble_eq_true rfl⟩) (hc.preV hk1 rfl (by decide)) rfl rfl hl.1 rfl (lv_room (Nat.le_of_ble_eq_true rfl)) dX6_append_1 ⟨Nat.le_of_ble_eq_true rfl, Nat.le_of_ble_eq_true rfl⟩) hc (fun x2 gq3 H locs hq hc => ?_)
  obtain ⟨rfl, h⟩ := hq
  refine lv_if_eq (tgt := 9) hx hb dX6_append_4 (by decide) (fun c4 => ?_) (fun c4 => ?_)
  · have h := h.1 c4
    refine lv_aload_n hx hb dX6_append_9 rfl (lv_at hl 0 rfl) ?_
    refine g_get CF hc hk1 rfl (by decide) (fun _ h9 => List.mem_cons_of_mem _ (List.mem_append_right _ (h9))) (k := 2) (by decide) (List.mem_cons_of_mem _ (List.mem_append_left _ (List.mem_of_getElem? (i := 0) rfl))) rfl dX6_append_10 ?_
    refine lv_istore_n (lv' := [(2, .int (gI g0 p0 2)), (0, .ref p0), (1, .ref p1)]) hx hb dX6_append_13 rfl hl (by decide) rfl (fun ls hl => ?_)
    refine lv_aload_n hx hb dX6_append_14 rfl (lv_at hl 1 rfl) ?_
    obtain ⟨y5, e6, h⟩ := h
    refine g_getr CF hc hk1 rfl (by decide) (fun _ h9 => List.mem_cons_of_mem _ (List.mem_append_right _ (h9))) (k := 1) (by decide) (List.mem_cons_of_mem _ (List.mem_append_left _ (List.mem_of_getElem? (i := 1) rfl))) e6 rfl dX6_append_15 ?_
    refine lv_iload_n hx hb dX6_append_18 rfl (lv_at hl 0 rfl) ?_
    refine lv_aload_n hx hb dX6_append_19 rfl (lv_at hl 2 rfl) ?_
    obtain ⟨hk7, h⟩ := h
    obtain ⟨hi8, h⟩ := h
    obtain ⟨hk9, h⟩ := h
    refine g_aast CF hc (j2 := 2) (ci := 5) (v := p1) hk7 (by decide) rfl (by decide) rfl hk9 hi8 dX6_append_20 (fun H locs hc => ?_)
    obtain ⟨g10, eg11⟩ : ∃ z, z = sV g0 y5 (Int32.toNatClampNeg (gI g0 p0 2)) (some p1) := ⟨_, rfl⟩
    have hc : gC D cA (gA g0 sz) s g10 H locs := by rw [eg11]; exact hc
    replace h := h g10 eg11
    refine lv_aload_n hx hb dX6_append_21 rfl (lv_at hl 1 rfl) ?_
    refine lv_dup hx hb dX6_append_22 rfl ?_
    obtain ⟨hk12, h⟩ := h
    refine g_get CF hc hk12 rfl (by decide) (fun _ h9 => List.mem_cons_of_mem _ (List.mem_append_right _ (h9))) (k := 2) (by decide) (List.mem_cons_of_mem _ (List.mem_append_left _ (List.mem_of_getElem? (i := 0) rfl))) rfl dX6_append_23 ?_
    refine lv_iconst (v := 1) hx hb dX6_append_26 (by decide) ?_
    refine lv_iadd hx hb dX6_append_27 ?_
    refine g_puti CF hc hk12 rfl (by decide) (fun _ h9 => List.mem_cons_of_mem _ (List.mem_append_right _ (h9))) tyX6 tyX6_ok nmX6 (k := 2) (by decide) (List.mem_cons_of_mem _ (List.mem_append_left _ (List.mem_of_getElem? (i := 0) rfl))) rfl (v := ((gI g10 p0 2) + 1)) rfl rfl rfl dX6_append_28 (fun H locs hc => ?_)
    obtain ⟨g13, eg14⟩ : ∃ z, z = sU g10 p0 2 ((gI g10 p0 2) + 1) := ⟨_, rfl⟩
    have hc : gC D cA (gA g0 sz) s g13 H locs := by rw [eg14]; exact hc
    replace h := h g13 eg14
    refine lv_iload_n hx hb dX6_append_31 rfl (lv_at hl 0 rfl) ?_
    exact g_reti (r := (gI g0 p0 2)) CF hr hlk hc rfl h dX6_append_32
  · have h := h.2 c4
    refine lv_iconst (v := (-1)) hx hb dX6_append_7 (by decide) ?_
    exact g_reti (r := (-1)) CF hr hlk hc rfl h dX6_append_8
def b_X6_markParts_61 (g : gS) (r0 : Nat) (r1 : Nat) (i3 : Int32) (i4 : Int32) (Q : gS → Prop) (k24 : gS → Int32 → Prop) : Prop :=
  k24 g (i4 + 1)
def l_X6_markParts_24 (r0 : Nat) (r1 : Nat) (i3 : Int32) (Q : gS → Prop) (g : gS) (i4 : Int32) (k24 : gS → Int32 → Prop) : Prop :=
  (i3 ≤ i4 → (Q g)) ∧ (¬ i3 ≤ i4 → (gK g r1 = 6 ∧ (w_X5_partAt g r1 i4 (fun x3 => ((x3 < 0 → (b_X6_markParts_61 g r0 r1 i3 i4 Q k24)) ∧ (¬ x3 < 0 → (gK g r0 = 7 ∧ (∃ y7, gR g r0 3 = some y7 ∧ (gK g y7 = 22 ∧ (((nI (gN g y7)) ≤ x3 → (b_X6_markParts_61 g r0 r1 i3 i4 Q k24)) ∧ (¬ (nI (gN g y7)) ≤ x3 → (∃ y11, gR g r0 3 = some y11 ∧ (gK g y11 = 22 ∧ (vp_in x3 (gN g y11) ∧ (∀ g15, g15 = sU g y11 (Int32.toNatClampNeg x3) 1 → (b_X6_markParts_61 g15 r0 r1 i3 i4 Q k24))))))))))))))))
def b_X6_markParts_20 (g : gS) (r0 : Nat) (r1 : Nat) (is0 : Int32) (Q : gS → Prop) : Prop :=
  lpx2 (l_X6_markParts_24 r0 r1 is0 Q) g 0
def b_X6_markParts_16 (g : gS) (r0 : Nat) (r1 : Nat) (Q : gS → Prop) : Prop :=
  gK g r1 = 6 ∧ (w_X5_partCount g r1 (fun x18 => (b_X6_markParts_20 g r0 r1 x18 Q)))
def w_X6_markParts (g0 : gS) (p0 : Nat) (p1 : Nat) (p2 : Int32) (Q : gS → Prop) : Prop :=
  (p2 = 0 → (b_X6_markParts_16 g0 p0 p1 Q)) ∧ (¬ p2 = 0 → (gK g0 p1 = 6 ∧ (((gI g0 p1 0) = 3 → (b_X6_markParts_20 g0 p0 p1 1 Q)) ∧ (¬ (gI g0 p1 0) = 3 → (b_X6_markParts_16 g0 p0 p1 Q)))))
abbrev r_X6_markParts : Room := { frames := 1, cells := 0, slots := 0, locals := 21 }
set_option maxHeartbeats 4000000 in
set_option maxRecDepth 100000 in
theorem c_X6_markParts {l : Launch} {D : va_G} {cA : Nat → ClassId} {sz : Nat} {g0 : gS} {p0 : Nat} {p1 : Nat} {p2 : Int32} {Q : gS → Prop} (h : w_X6_markParts g0 p0 p1 p2 Q) : Met l yX6_markParts wsX6_markParts r_X6_markParts (va_Pc [.ref p0, .ref p1, .int p2] (gPre D cA g0 sz)) (gQv D cA g0 sz (Q)) 0 0 (gA g0 sz) := by
  refine g_met (cc := cX6_markParts) (maxL := 6) (ret := none) (own := RX6) (by decide) rfl rfl (Nat.le_of_ble_eq_true rfl) ?_
  intro p e s m args below meth c ls CF hr hlk hnm hc hl
  obtain ⟨hx, hb, hml, hown, hts⟩ := id CF
  have hl : lv_has ls 6 [(0, .ref p0), (1, .ref p1), (2, .int p2)] := hl
  show W p l e r_X6_markParts s m args below meth c s.heap [] 0 0 (MQ below (gQv D cA g0 sz (Q)) args s 0 0 (gA g0 sz)) (F0 m 0 ls [])
  have hb_24 : ∀ (r0 : Nat) (r1 : Nat) (i3 : Int32), ∀ (g : gS) (i4 : Int32), lpx2 (l_X6_markParts_24 r0 r1 i3 Q) g i4 → ∀ (H : Heap) (locs : List Loc) (ls : Array Slot), gC D cA (gA g0 sz) s g H locs → lv_has ls 6 [(0, .ref r0), (1, .ref r1), (3, .int i3), (4, .int i4)] → W p l e r_X6_markParts s m args below meth c H locs 0 0 (MQ below (gQv D cA g0 sz (Q)) args s 0 0 (gA g0 sz)) (F0 m 24 ls []) := by
    intro r0 r1 i3
    refine lpx2_run (P := fun (g : gS) (i4 : Int32) => ∀ (H : Heap) (locs : List Loc) (ls : Array Slot), gC D cA (gA g0 sz) s g H locs → lv_has ls 6 [(0, .ref r0), (1, .ref r1), (3, .int i3), (4, .int i4)] → W p l e r_X6_markParts s m args below meth c H locs 0 0 (MQ below (gQv D cA g0 sz (Q)) args s 0 0 (gA g0 sz)) (F0 m 24 ls [])) ?_
    intro k24 hk_24 g i4 h H locs ls hc hl
    have hb_61 : ∀ (g : gS) (i4 : Int32), b_X6_markParts_61 g r0 r1 i3 i4 Q k24 → ∀ (H : Heap) (locs : List Loc) (ls : Array Slot), gC D cA (gA g0 sz) s g H locs → lv_has ls 6 [(0, .ref r0), (1, .ref r1), (3, .int i3), (4, .int i4)] → W p l e r_X6_markParts s m args below meth c H locs 0 0 (MQ below (gQv D cA g0 sz (Q)) args s 0 0 (gA g0 sz)) (F0 m 61 ls []) := by
      intro g i4 h H locs ls hc hl
      unfold b_X6_markParts_61 at h
      refine lv_iinc (v := (i4 + 1)) (lv' := [(4, .int (i4 + 1)), (0, .ref r0), (1, .ref r1), (3, .int i3)]) hx hb dX6_markParts_61 hl (k := 3) rfl rfl (by decide) rfl (fun ls hl => ?_)
      refine lv_goto (tgt := 24) hx hb dX6_markParts_64 (by decide) ?_
      exact hk_24 g (i4 + 1) h _ _ _ hc (lv_sub hl [1, 2, 3, 0] rfl)
    unfold l_X6_markParts_24 at h
    refine lv_iload hx hb dX6_markParts_24 (lv_at hl 3 rfl) ?_
    refine lv_iload_n hx hb dX6_markParts_26 rfl (lv_at hl 2 rfl) ?_
    refine lv_icmp_ge (tgt := 67) hx hb dX6_markParts_27 (by decide) (fun c1 => ?_) (fun c1 => ?_)
    · have h := h.1 c1
      exact g_retv CF hr hlk hc h dX6_markParts_67
    · have h := h.2 c1
      refine lv_aload_n hx hb dX6_markParts_30 rfl (lv_at hl 1 rfl) ?_
      refine lv_iload hx hb dX6_markParts_31 (lv_at hl 3 rfl) ?_
      obtain ⟨hk2, h⟩ := h
      refine g_calli (va_runV (As := [.int i4]) (rest := []) CF (c_X5_partAt h) (cwV 1 hts gX6_markParts_X5_partAt rfl rfl rfl (by decide +kernel) ⟨Nat.le_of_ble_eq_true rfl, Nat.le_of_ble_eq_true rfl⟩) (hc.preV hk2 rfl (by decide)) rfl rfl hl.1 rfl (lv_room (Nat.le_of_ble_eq_true rfl)) dX6_markParts_33 ⟨Nat.le_of_ble_eq_true rfl, Nat.le_of_ble_eq_true rfl⟩) hc (fun x3 gq4 H locs hq hc => ?_)
      obtain ⟨rfl, h⟩ := hq
      refine lv_istore (lv' := [(5, .int x3), (0, .ref r0), (1, .ref r1), (3, .int i3), (4, .int i4)]) hx hb dX6_markParts_36 hl (by decide) rfl (fun ls hl => ?_)
      refine lv_iload hx hb dX6_markParts_38 (lv_at hl 0 rfl) ?_
      refine lv_if_lt (tgt := 61) hx hb dX6_markParts_40 (by decide) (fun c5 => ?_) (fun c5 => ?_)
      · have h := h.1 c5
        exact hb_61 g i4 h _ _ _ hc (lv_sub hl [1, 2, 3, 4] rfl)
      · have h := h.2 c5
        refine lv_iload hx hb dX6_markParts_43 (lv_at hl 0 rfl) ?_
        refine lv_aload_n hx hb dX6_markParts_45 rfl (lv_at hl 1 rfl) ?_
        obtain ⟨hk6, h⟩ := h
        obtain ⟨y7, e8, h⟩ := h
        refine g_getr CF hc hk6 rfl (by decide) (fun _ h9 => List.mem_cons_of_mem _ (List.mem_append_right _ (h9))) (k := 3) (by decide) (List.mem_cons_of_mem _ (List.mem_append_left _ (List.mem_append_left _ (List.mem_of_getElem? (i := 1) rfl)))) e8 rfl dX6_markParts_46 ?_
        obtain ⟨hk9, h⟩ := h
        refine g_alen CF hc (j := 1) hk9 (by decide) dX6_markParts_49 ?_
        refine lv_icmp_ge (tgt := 61) hx hb dX6_markParts_50 (by decide) (fun c10 => ?_) (fun c10 => ?_)
        · have h := h.1 c10
          exact hb_61 g i4 h _ _ _ hc (lv_sub hl [1, 2, 3, 4] rfl)
        · have h := h.2 c10
          refine lv_aload_n hx hb dX6_markParts_53 rfl (lv_at hl 1 rfl) ?_
          obtain ⟨y11, e12, h⟩ := h
          refine g_getr CF hc hk6 rfl (by decide) (fun _ h9 => List.mem_cons_of_mem _ (List.mem_append_right _ (h9))) (k := 3) (by decide) (List.mem_cons_of_mem _ (List.mem_append_left _ (List.mem_append_left _ (List.mem_of_getElem? (i := 1) rfl)))) e12 rfl dX6_markParts_54 ?_
          refine lv_iload hx hb dX6_markParts_57 (lv_at hl 0 rfl) ?_
          refine lv_iconst (v := 1) hx hb dX6_markParts_59 (by decide) ?_
          obtain ⟨hk13, h⟩ := h
          obtain ⟨hi14, h⟩ := h
          refine g_zast CF hc hk13 (x := 1) (by decide : (1 : Int32) = 0 ∨ (1 : Int32) = 1) hi14 dX6_markParts_60 (fun H locs hc => ?_)
          obtain ⟨g15, eg16⟩ : ∃ z, z = sU g y11 (Int32.toNatClampNeg x3) 1 := ⟨_, rfl⟩
          have hc : gC D cA (gA g0 sz) s g15 H locs := by rw [eg16]; exact hc
          replace h := h g15 eg16
          exact hb_61 g15 i4 h _ _ _ hc (lv_sub hl [1, 2, 3, 4] rfl)
  have hb_20 : ∀ (g : gS) (r0 : Nat) (r1 : Nat) (is0 : Int32), b_X6_markParts_20 g r0 r1 is0 Q → ∀ (H : Heap) (locs : List Loc) (ls : Array Slot), gC D cA (gA g0 sz) s g H locs → lv_has ls 6 [(0, .ref r0), (1, .ref r1)] → W p l e r_X6_markParts s m args below meth c H locs 0 0 (MQ below (gQv D cA g0 sz (Q)) args s 0 0 (gA g0 sz)) (F0 m 20 ls [.int is0]) := by
    intro g r0 r1 is0 h H locs ls hc hl
    unfold b_X6_markParts_20 at h
    refine lv_istore_n (lv' := [(3, .int is0), (0, .ref r0), (1, .ref r1)]) hx hb dX6_markParts_20 rfl hl (by decide) rfl (fun ls hl => ?_)
    refine lv_iconst (v := 0) hx hb dX6_markParts_21 (by decide) ?_
    refine lv_istore (lv' := [(4, .int 0), (3, .int is0), (0, .ref r0), (1, .ref r1)]) hx hb dX6_markParts_22 hl (by decide) rfl (fun ls hl => ?_)
    exact hb_24 r0 r1 is0 g 0 h _ _ _ hc (lv_sub hl [2, 3, 1, 0] rfl)
  have hb_16 : ∀ (g : gS) (r0 : Nat) (r1 : Nat), b_X6_markParts_16 g r0 r1 Q → ∀ (H : Heap) (locs : List Loc) (ls : Array Slot), gC D cA (gA g0 sz) s g H locs → lv_has ls 6 [(0, .ref r0), (1, .ref r1)] → W p l e r_X6_markParts s m args below meth c H locs 0 0 (MQ below (gQv D cA g0 sz (Q)) args s 0 0 (gA g0 sz)) (F0 m 16 ls []) := by
    intro g r0 r1 h H locs ls hc hl
    unfold b_X6_markParts_16 at h
    refine lv_aload_n hx hb dX6_markParts_16 rfl (lv_at hl 1 rfl) ?_
    obtain ⟨hk17, h⟩ := h
    refine g_calli (va_runV (As := []) (rest := []) CF (c_X5_partCount h) (cwV 0 hts gX6_markParts_X5_partCount rfl rfl rfl (by decide +kernel) ⟨Nat.le_of_ble_eq_true rfl, Nat.le_of_ble_eq_true rfl⟩) (hc.preV hk17 rfl (by decide)) rfl rfl hl.1 rfl (lv_room (Nat.le_of_ble_eq_true rfl)) dX6_markParts_17 ⟨Nat.le_of_ble_eq_true rfl, Nat.le_of_ble_eq_true rfl⟩) hc (fun x18 gq19 H locs hq hc => ?_)
    obtain ⟨rfl, h⟩ := hq
    exact hb_20 g r0 r1 x18 h _ _ _ hc (lv_sub hl [0, 1] rfl)
  unfold w_X6_markParts at h
  obtain ⟨H, hH0⟩ : ∃ z, z = s.heap := ⟨_, rfl⟩
  rw [← hH0] at hc ⊢
  obtain ⟨locs, hlc0⟩ : ∃ z : List Loc, z = [] := ⟨_, rfl⟩
  rw [← hlc0] at hc ⊢
  refine lv_iload_n hx hb dX6_markParts_0 rfl (lv_at hl 2 rfl) ?_
  refine lv_if_eq (tgt := 16) hx hb dX6_markParts_1 (by decide) (fun c20 => ?_) (fun c20 => ?_)
  · have h := h.1 c20
    exact hb_16 g0 p0 p1 h _ _ _ hc (lv_sub hl [0, 1] rfl)
  · have h := h.2 c20
    refine lv_aload_n hx hb dX6_markParts_4 rfl (lv_at hl 1 rfl) ?_
    obtain ⟨hk21, h⟩ := h
    refine g_get CF hc hk21 rfl (by decide) (fun _ h9 => List.mem_cons_of_mem _ (List.mem_append_left _ (List.mem_append_right _ (h9)))) (k := 0) (by decide) (List.mem_cons_of_mem _ (List.mem_append_left _ (List.mem_append_left _ (List.mem_of_getElem? (i := 0) rfl)))) rfl dX6_markParts_5 ?_
    refine lv_iconst (v := 3) hx hb dX6_markParts_8 (by decide) ?_
    refine lv_icmp_ne (tgt := 16) hx hb dX6_markParts_9 (by decide) (fun c22 => ?_) (fun c22 => ?_)
    · have h := h.2 c22
      exact hb_16 g0 p0 p1 h _ _ _ hc (lv_sub hl [0, 1] rfl)
    · have h := h.1 c22
      refine lv_iconst (v := 1) hx hb dX6_markParts_12 (by decide) ?_
      refine lv_goto (tgt := 20) hx hb dX6_markParts_13 (by decide) ?_
      exact hb_20 g0 p0 p1 1 h _ _ _ hc (lv_sub hl [0, 1] rfl)
def b_X6_markInside_77 (g : gS) (r0 : Nat) (i2 : Int32) (i3 : Int32) (Q : gS → Prop) (k45 : gS → Int32 → Prop) : Prop :=
  k45 g (i3 + (-1))
def l_X6_markInside_45 (r0 : Nat) (i2 : Int32) (Q : gS → Prop) (g : gS) (i3 : Int32) (k45 : gS → Int32 → Prop) : Prop :=
  (i3 < 0 → (Q g)) ∧ (¬ i3 < 0 → (gK g r0 = 7 ∧ (w_X6_nodeAt g r0 i3 (fun o3 => ((o3 = none → (b_X6_markInside_77 g r0 i2 i3 Q k45)) ∧ (∀ y5, o3 = some y5 → (∃ y7, gR g r0 3 = some y7 ∧ (gK g y7 = 22 ∧ (vp_in i3 (gN g y7) ∧ (((gI g y7 (Int32.toNatClampNeg i3)) = 0 → (b_X6_markInside_77 g r0 i2 i3 Q k45)) ∧ (¬ (gI g y7 (Int32.toNatClampNeg i3)) = 0 → (w_X6_markParts g r0 y5 i2 (fun g13 => (b_X6_markInside_77 g13 r0 i2 i3 Q k45))))))))))))))
def b_X6_markInside_26 (g : gS) (r0 : Nat) (i1 : Int32) (i2 : Int32) (i3 : Int32) (rs0 : Nat) (is1 : Int32) (is2 : Int32) (Q : gS → Prop) (k2 : gS → Int32 → Prop) : Prop :=
  gK g rs0 = 22 ∧ (vp_in is1 (gN g rs0) ∧ ((is2 = 0 ∨ is2 = 1) ∧ (∀ g19, g19 = sU g rs0 (Int32.toNatClampNeg is1) is2 → (k2 g19 (i3 + 1)))))
def l_X6_markInside_2 (r0 : Nat) (i1 : Int32) (i2 : Int32) (Q : gS → Prop) (g : gS) (i3 : Int32) (k2 : gS → Int32 → Prop) : Prop :=
  gK g r0 = 7 ∧ (∃ y22, gR g r0 3 = some y22 ∧ (gK g y22 = 22 ∧ (((nI (gN g y22)) ≤ i3 → (∃ y26, gR g r0 3 = some y26 ∧ (gK g y26 = 22 ∧ (lpx2 (l_X6_markInside_45 r0 i2 Q) g (if ((nI (gN g y26)) - 1) < i1 then ((nI (gN g y26)) - 1) else i1))))) ∧ (¬ (nI (gN g y22)) ≤ i3 → (∃ y29, gR g r0 3 = some y29 ∧ ((i3 = i1 → (b_X6_markInside_26 g r0 i1 i2 i3 y29 i3 1 Q k2)) ∧ (¬ i3 = i1 → (b_X6_markInside_26 g r0 i1 i2 i3 y29 i3 0 Q k2))))))))
def w_X6_markInside (g0 : gS) (p0 : Nat) (p1 : Int32) (p2 : Int32) (Q : gS → Prop) : Prop :=
  lpx2 (l_X6_markInside_2 p0 p1 p2 Q) g0 0
abbrev r_X6_markInside : Room := { frames := 2, cells := 0, slots := 0, locals := 46 }
set_option maxHeartbeats 4000000 in
set_option maxRecDepth 100000 in
theorem c_X6_markInside {l : Launch} {D : va_G} {cA : Nat → ClassId} {sz : Nat} {g0 : gS} {p0 : Nat} {p1 : Int32} {p2 : Int32} {Q : gS → Prop} (h : w_X6_markInside g0 p0 p1 p2 Q) : Met l yX6_markInside wsX6_markInside r_X6_markInside (va_Pc [.ref p0, .int p1, .int p2] (gPre D cA g0 sz)) (gQv D cA g0 sz (Q)) 0 0 (gA g0 sz) := by
  refine g_met (cc := cX6_markInside) (maxL := 5) (ret := none) (own := RX6) (by decide) rfl rfl (Nat.le_of_ble_eq_true rfl) ?_
  intro p e s m args below meth c ls CF hr hlk hnm hc hl
  obtain ⟨hx, hb, hml, hown, hts⟩ := id CF
  have hl : lv_has ls 5 [(0, .ref p0), (1, .int p1), (2, .int p2)] := hl
  show W p l e r_X6_markInside s m args below meth c s.heap [] 0 0 (MQ below (gQv D cA g0 sz (Q)) args s 0 0 (gA g0 sz)) (F0 m 0 ls [])
  have hb_45 : ∀ (r0 : Nat) (i2 : Int32), ∀ (g : gS) (i3 : Int32), lpx2 (l_X6_markInside_45 r0 i2 Q) g i3 → ∀ (H : Heap) (locs : List Loc) (ls : Array Slot), gC D cA (gA g0 sz) s g H locs → lv_has ls 5 [(0, .ref r0), (2, .int i2), (3, .int i3)] → W p l e r_X6_markInside s m args below meth c H locs 0 0 (MQ below (gQv D cA g0 sz (Q)) args s 0 0 (gA g0 sz)) (F0 m 45 ls []) := by
    intro r0 i2
    refine lpx2_run (P := fun (g : gS) (i3 : Int32) => ∀ (H : Heap) (locs : List Loc) (ls : Array Slot), gC D cA (gA g0 sz) s g H locs → lv_has ls 5 [(0, .ref r0), (2, .int i2), (3, .int i3)] → W p l e r_X6_markInside s m args below meth c H locs 0 0 (MQ below (gQv D cA g0 sz (Q)) args s 0 0 (gA g0 sz)) (F0 m 45 ls [])) ?_
    intro k45 hk_45 g i3 h H locs ls hc hl
    have hb_77 : ∀ (g : gS) (i3 : Int32), b_X6_markInside_77 g r0 i2 i3 Q k45 → ∀ (H : Heap) (locs : List Loc) (ls : Array Slot), gC D cA (gA g0 sz) s g H locs → lv_has ls 5 [(0, .ref r0), (2, .int i2), (3, .int i3)] → W p l e r_X6_markInside s m args below meth c H locs 0 0 (MQ below (gQv D cA g0 sz (Q)) args s 0 0 (gA g0 sz)) (F0 m 77 ls []) := by
      intro g i3 h H locs ls hc hl
      unfold b_X6_markInside_77 at h
      refine lv_iinc (v := (i3 + (-1))) (lv' := [(3, .int (i3 + (-1))), (0, .ref r0), (2, .int i2)]) hx hb dX6_markInside_77 hl (k := 2) rfl rfl (by decide) rfl (fun ls hl => ?_)
      refine lv_goto (tgt := 45) hx hb dX6_markInside_80 (by decide) ?_
      exact hk_45 g (i3 + (-1)) h _ _ _ hc (lv_sub hl [1, 2, 0] rfl)
    unfold l_X6_markInside_45 at h
    refine lv_iload_n hx hb dX6_markInside_45 rfl (lv_at hl 2 rfl) ?_
    refine lv_if_lt (tgt := 83) hx hb dX6_markInside_46 (by decide) (fun c1 => ?_) (fun c1 => ?_)
    · have h := h.1 c1
      exact g_retv CF hr hlk hc h dX6_markInside_83
    · have h := h.2 c1
      refine lv_aload_n hx hb dX6_markInside_49 rfl (lv_at hl 0 rfl) ?_
      refine lv_iload_n hx hb dX6_markInside_50 rfl (lv_at hl 2 rfl) ?_
      obtain ⟨hk2, h⟩ := h
      refine g_callq (va_runV (As := [.int i3]) (rest := []) CF (c_X6_nodeAt h) (cwV 1 hts gX6_markInside_X6_nodeAt rfl rfl rfl (by decide +kernel) ⟨Nat.le_of_ble_eq_true rfl, Nat.le_of_ble_eq_true rfl⟩) (hc.preV hk2 rfl (by decide)) rfl rfl hl.1 rfl (lv_room (Nat.le_of_ble_eq_true rfl)) dX6_markInside_51 ⟨Nat.le_of_ble_eq_true rfl, Nat.le_of_ble_eq_true rfl⟩) hc (fun o3 gq4 H locs hq hc => ?_)
      obtain ⟨rfl, h⟩ := hq
      refine g_astoreq (lv' := [(4, va_rf o3), (0, .ref r0), (2, .int i2), (3, .int i3)]) CF dX6_markInside_54 hl (by decide) rfl (fun ls hl => ?_)
      refine g_aloadq CF dX6_markInside_56 (lv_at hl 0 rfl) ?_
      refine g_ifnull (tgt := 77) CF dX6_markInside_58 (by decide) (fun e6 => ?_) (fun y5 e6 => ?_)
      · have hu15 := h.1 e6
        subst e6
        have h := hu15
        exact hb_77 g i3 h _ _ _ hc (lv_sub hl [1, 2, 3] rfl)
      · have hu15 := h.2 y5 e6
        subst e6
        have h := hu15
        refine lv_aload_n hx hb dX6_markInside_61 rfl (lv_at hl 1 rfl) ?_
        obtain ⟨y7, e8, h⟩ := h
        refine g_getr CF hc hk2 rfl (by decide) (fun _ h9 => List.mem_cons_of_mem _ (List.mem_append_left _ (List.mem_append_right _ (h9)))) (k := 3) (by decide) (List.mem_cons_of_mem _ (List.mem_append_left _ (List.mem_append_left _ (List.mem_append_left _ (List.mem_of_getElem? (i := 0) rfl))))) e8 rfl dX6_markInside_62 ?_
        refine lv_iload_n hx hb dX6_markInside_65 rfl (lv_at hl 3 rfl) ?_
        obtain ⟨hk9, h⟩ := h
        obtain ⟨hi10, h⟩ := h
        refine g_zald CF hc hk9 hi10 dX6_markInside_66 ?_
        refine lv_if_eq (tgt := 77) hx hb dX6_markInside_67 (by decide) (fun c11 => ?_) (fun c11 => ?_)
        · have h := h.1 c11
          exact hb_77 g i3 h _ _ _ hc (lv_sub hl [1, 2, 3] rfl)
        · have h := h.2 c11
          refine lv_aload_n hx hb dX6_markInside_70 rfl (lv_at hl 1 rfl) ?_
          refine lv_aload hx hb dX6_markInside_71 (lv_at hl 0 rfl) ?_
          refine lv_iload_n hx hb dX6_markInside_73 rfl (lv_at hl 2 rfl) ?_
          refine g_callv (va_runV (As := [.ref y5, .int i2]) (rest := []) CF (c_X6_markParts h) (cwV 2 hts gX6_markInside_X6_markParts rfl rfl rfl (by decide +kernel) ⟨Nat.le_of_ble_eq_true rfl, Nat.le_of_ble_eq_true rfl⟩) (hc.preV hk2 rfl (by decide)) rfl rfl hl.1 rfl (lv_room (Nat.le_of_ble_eq_true rfl)) dX6_markInside_74 ⟨Nat.le_of_ble_eq_true rfl, Nat.le_of_ble_eq_true rfl⟩) hc (fun g13 H locs hq hc => ?_)
          replace h := hq
          exact hb_77 g13 i3 h _ _ _ hc (lv_sub hl [1, 2, 3] rfl)
  have hb_2 : ∀ (r0 : Nat) (i1 : Int32) (i2 : Int32), ∀ (g : gS) (i3 : Int32), lpx2 (l_X6_markInside_2 r0 i1 i2 Q) g i3 → ∀ (H : Heap) (locs : List Loc) (ls : Array Slot), gC D cA (gA g0 sz) s g H locs → lv_has ls 5 [(0, .ref r0), (1, .int i1), (2, .int i2), (3, .int i3)] → W p l e r_X6_markInside s m args below meth c H locs 0 0 (MQ below (gQv D cA g0 sz (Q)) args s 0 0 (gA g0 sz)) (F0 m 2 ls []) := by
    intro r0 i1 i2
    refine lpx2_run (P := fun (g : gS) (i3 : Int32) => ∀ (H : Heap) (locs : List Loc) (ls : Array Slot), gC D cA (gA g0 sz) s g H locs → lv_has ls 5 [(0, .ref r0), (1, .int i1), (2, .int i2), (3, .int i3)] → W p l e r_X6_markInside s m args below meth c H locs 0 0 (MQ below (gQv D cA g0 sz (Q)) args s 0 0 (gA g0 sz)) (F0 m 2 ls [])) ?_
    intro k2 hk_2 g i3 h H locs ls hc hl
    have hb_26 : ∀ (g : gS) (i3 : Int32) (rs0 : Nat) (is1 : Int32) (is2 : Int32), b_X6_markInside_26 g r0 i1 i2 i3 rs0 is1 is2 Q k2 → ∀ (H : Heap) (locs : List Loc) (ls : Array Slot), gC D cA (gA g0 sz) s g H locs → lv_has ls 5 [(0, .ref r0), (1, .int i1), (2, .int i2), (3, .int i3)] → W p l e r_X6_markInside s m args below meth c H locs 0 0 (MQ below (gQv D cA g0 sz (Q)) args s 0 0 (gA g0 sz)) (F0 m 26 ls [.int is2, .int is1, .ref rs0]) := by
      intro g i3 rs0 is1 is2 h H locs ls hc hl
      unfold b_X6_markInside_26 at h
      obtain ⟨hk16, h⟩ := h
      obtain ⟨hi17, h⟩ := h
      obtain ⟨hz18, h⟩ := h
      refine g_zast CF hc hk16 (x := is2) hz18 hi17 dX6_markInside_26 (fun H locs hc => ?_)
      obtain ⟨g19, eg20⟩ : ∃ z, z = sU g rs0 (Int32.toNatClampNeg is1) is2 := ⟨_, rfl⟩
      have hc : gC D cA (gA g0 sz) s g19 H locs := by rw [eg20]; exact hc
      replace h := h g19 eg20
      refine lv_iinc (v := (i3 + 1)) (lv' := [(3, .int (i3 + 1)), (0, .ref r0), (1, .int i1), (2, .int i2)]) hx hb dX6_markInside_27 hl (k := 3) rfl rfl (by decide) rfl (fun ls hl => ?_)
      refine lv_goto (tgt := 2) hx hb dX6_markInside_30 (by decide) ?_
      exact hk_2 g19 (i3 + 1) h _ _ _ hc (lv_sub hl [1, 2, 3, 0] rfl)
    unfold l_X6_markInside_2 at h
    refine lv_iload_n hx hb dX6_markInside_2 rfl (lv_at hl 3 rfl) ?_
    refine lv_aload_n hx hb dX6_markInside_3 rfl (lv_at hl 0 rfl) ?_
    obtain ⟨hk21, h⟩ := h
    obtain ⟨y22, e23, h⟩ := h
    refine g_getr CF hc hk21 rfl (by decide) (fun _ h9 => List.mem_cons_of_mem _ (List.mem_append_left _ (List.mem_append_right _ (h9)))) (k := 3) (by decide) (List.mem_cons_of_mem _ (List.mem_append_left _ (List.mem_append_left _ (List.mem_append_left _ (List.mem_of_getElem? (i := 0) rfl))))) e23 rfl dX6_markInside_4 ?_
    obtain ⟨hk24, h⟩ := h
    refine g_alen CF hc (j := 1) hk24 (by decide) dX6_markInside_7 ?_
    refine lv_icmp_ge (tgt := 33) hx hb dX6_markInside_8 (by decide) (fun c25 => ?_) (fun c25 => ?_)
    · have h := h.1 c25
      refine lv_iload_n hx hb dX6_markInside_33 rfl (lv_at hl 1 rfl) ?_
      refine lv_aload_n hx hb dX6_markInside_34 rfl (lv_at hl 0 rfl) ?_
      obtain ⟨y26, e27, h⟩ := h
      refine g_getr CF hc hk21 rfl (by decide) (fun _ h9 => List.mem_cons_of_mem _ (List.mem_append_left _ (List.mem_append_right _ (h9)))) (k := 3) (by decide) (List.mem_cons_of_mem _ (List.mem_append_left _ (List.mem_append_left _ (List.mem_append_left _ (List.mem_of_getElem? (i := 0) rfl))))) e27 rfl dX6_markInside_35 ?_
      obtain ⟨hk28, h⟩ := h
      refine g_alen CF hc (j := 1) hk28 (by decide) dX6_markInside_38 ?_
      refine lv_iconst (v := 1) hx hb dX6_markInside_39 (by decide) ?_
      refine lv_isub hx hb dX6_markInside_40 ?_
      refine va_mmin hx hb (hml.trans hl.1.symm) hown (hts _ (List.mem_cons_of_mem _ (List.mem_append_left _ (List.mem_append_left _ (List.mem_append_left _ (List.mem_of_getElem? (i := 1) rfl)))))) (hts _ (List.mem_cons_of_mem _ (List.mem_append_left _ (List.mem_append_left _ (List.mem_append_left _ (List.mem_of_getElem? (i := 2) rfl)))))) (hts _ (List.mem_cons_of_mem _ (List.mem_append_left _ (List.mem_append_left _ (List.mem_append_left _ (List.mem_of_getElem? (i := 3) rfl)))))) (hts _ (List.mem_cons_of_mem _ (List.mem_append_left _ (List.mem_append_left _ (List.mem_append_left _ (List.mem_of_getElem? (i := 4) rfl)))))) (Nat.le_of_ble_eq_true rfl) (Nat.le_of_ble_eq_true rfl) (Nat.le_of_ble_eq_true rfl) (Nat.le_of_ble_eq_true rfl) dX6_markInside_41 ?_
      refine lv_istore_n (lv' := [(3, .int (if ((nI (gN g y26)) - 1) < i1 then ((nI (gN g y26)) - 1) else i1)), (0, .ref r0), (1, .int i1), (2, .int i2)]) hx hb dX6_markInside_44 rfl hl (by decide) rfl (fun ls hl => ?_)
      exact hb_45 r0 i2 g (if ((nI (gN g y26)) - 1) < i1 then ((nI (gN g y26)) - 1) else i1) h _ _ _ hc (lv_sub hl [1, 3, 0] rfl)
    · have h := h.2 c25
      refine lv_aload_n hx hb dX6_markInside_11 rfl (lv_at hl 0 rfl) ?_
      obtain ⟨y29, e30, h⟩ := h
      refine g_getr CF hc hk21 rfl (by decide) (fun _ h9 => List.mem_cons_of_mem _ (List.mem_append_left _ (List.mem_append_right _ (h9)))) (k := 3) (by decide) (List.mem_cons_of_mem _ (List.mem_append_left _ (List.mem_append_left _ (List.mem_append_left _ (List.mem_of_getElem? (i := 0) rfl))))) e30 rfl dX6_markInside_12 ?_
      refine lv_iload_n hx hb dX6_markInside_15 rfl (lv_at hl 3 rfl) ?_
      refine lv_iload_n hx hb dX6_markInside_16 rfl (lv_at hl 3 rfl) ?_
      refine lv_iload_n hx hb dX6_markInside_17 rfl (lv_at hl 1 rfl) ?_
      refine lv_icmp_ne (tgt := 25) hx hb dX6_markInside_18 (by decide) (fun c31 => ?_) (fun c31 => ?_)
      · have h := h.2 c31
        refine lv_iconst (v := 0) hx hb dX6_markInside_25 (by decide) ?_
        exact hb_26 g i3 y29 i3 0 h _ _ _ hc (lv_sub hl [0, 1, 2, 3] rfl)
      · have h := h.1 c31
        refine lv_iconst (v := 1) hx hb dX6_markInside_21 (by decide) ?_
        refine lv_goto (tgt := 26) hx hb dX6_markInside_22 (by decide) ?_
        exact hb_26 g i3 y29 i3 1 h _ _ _ hc (lv_sub hl [0, 1, 2, 3] rfl)
  unfold w_X6_markInside at h
  obtain ⟨H, hH0⟩ : ∃ z, z = s.heap := ⟨_, rfl⟩
  rw [← hH0] at hc ⊢
  obtain ⟨locs, hlc0⟩ : ∃ z : List Loc, z = [] := ⟨_, rfl⟩
  rw [← hlc0] at hc ⊢
  refine lv_iconst (v := 0) hx hb dX6_markInside_0 (by decide) ?_
  refine lv_istore_n (lv' := [(3, .int 0), (0, .ref p0), (1, .int p1), (2, .int p2)]) hx hb dX6_markInside_1 rfl hl (by decide) rfl (fun ls hl => ?_)
  exact hb_2 p0 p1 p2 g0 0 h _ _ _ hc (lv_sub hl [1, 2, 3, 0] rfl)
def b_X6_termNodeInside_54 (g : gS) (os0 : Option Nat) (Q : Option Nat → Prop) : Prop :=
  Q os0
def b_X6_termNodeInside_44 (g : gS) (o2 : Option Nat) (is0 : Int32) (Q : Option Nat → Prop) : Prop :=
  (is0 = 0 → (b_X6_termNodeInside_54 g none Q)) ∧ (¬ is0 = 0 → (b_X6_termNodeInside_54 g o2 Q))
def b_X6_termNodeInside_43 (g : gS) (o2 : Option Nat) (Q : Option Nat → Prop) : Prop :=
  b_X6_termNodeInside_44 g o2 0 Q
def w_X6_termNodeInside (g : gS) (p0 : Nat) (p1 : Int32) (Q : Option Nat → Prop) : Prop :=
  gK g p0 = 7 ∧ (w_X6_nodeAt g p0 p1 (fun o3 => ((o3 = none → (b_X6_termNodeInside_43 g none Q)) ∧ (∀ y5, o3 = some y5 → (gK g y5 = 6 ∧ (((gI g y5 0) = 0 → ((p1 < 0 → (b_X6_termNodeInside_43 g (some y5) Q)) ∧ (¬ p1 < 0 → (∃ y10, gR g p0 3 = some y10 ∧ (gK g y10 = 22 ∧ (((nI (gN g y10)) ≤ p1 → (b_X6_termNodeInside_43 g (some y5) Q)) ∧ (¬ (nI (gN g y10)) ≤ p1 → (∃ y14, gR g p0 3 = some y14 ∧ (gK g y14 = 22 ∧ (vp_in p1 (gN g y14) ∧ (((gI g y14 (Int32.toNatClampNeg p1)) = 0 → (b_X6_termNodeInside_43 g (some y5) Q)) ∧ (¬ (gI g y14 (Int32.toNatClampNeg p1)) = 0 → (b_X6_termNodeInside_44 g (some y5) 1 Q))))))))))))) ∧ (¬ (gI g y5 0) = 0 → (b_X6_termNodeInside_43 g (some y5) Q))))))))
abbrev r_X6_termNodeInside : Room := { frames := 1, cells := 0, slots := 0, locals := 21 }
set_option maxHeartbeats 4000000 in
set_option maxRecDepth 100000 in
theorem c_X6_termNodeInside {l : Launch} {D : va_G} {cA : Nat → ClassId} {sz : Nat} {g : gS} {p0 : Nat} {p1 : Int32} {Q : Option Nat → Prop} (h : w_X6_termNodeInside g p0 p1 Q) : Met l yX6_termNodeInside wsX6_termNodeInside r_X6_termNodeInside (va_Pc [.ref p0, .int p1] (gPre D cA g sz)) (gQq D cA g sz (fun r g2 => g = g2 ∧ Q r)) 0 0 (gA g sz) := by
  refine g_met (cc := cX6_termNodeInside) (maxL := 4) (ret := (some (.object "QuarryIndex$Node"))) (own := RX6) (by decide) rfl rfl (Nat.le_of_ble_eq_true rfl) ?_
  intro p e s m args below meth c ls CF hr hlk hnm hc hl
  obtain ⟨hx, hb, hml, hown, hts⟩ := id CF
  have hl : lv_has ls 4 [(0, .ref p0), (1, .int p1)] := hl
  show W p l e r_X6_termNodeInside s m args below meth c s.heap [] 0 0 (MQ below (gQq D cA g sz (fun r g2 => g = g2 ∧ Q r)) args s 0 0 (gA g sz)) (F0 m 0 ls [])
  have hb_54 : ∀ (os0 : Option Nat), b_X6_termNodeInside_54 g os0 Q → ∀ (H : Heap) (locs : List Loc) (ls : Array Slot), gC D cA (gA g sz) s g H locs → lv_has ls 4 [] → W p l e r_X6_termNodeInside s m args below meth c H locs 0 0 (MQ below (gQq D cA g sz (fun r g2 => g = g2 ∧ Q r)) args s 0 0 (gA g sz)) (F0 m 54 ls [va_rf os0]) := by
    intro os0 h H locs ls hc hl
    unfold b_X6_termNodeInside_54 at h
    exact g_retq (r := os0) CF hr hlk hc ⟨rfl, h⟩ dX6_termNodeInside_54
  have hb_44 : ∀ (o2 : Option Nat) (is0 : Int32), b_X6_termNodeInside_44 g o2 is0 Q → ∀ (H : Heap) (locs : List Loc) (ls : Array Slot), gC D cA (gA g sz) s g H locs → lv_has ls 4 [(2, va_rf o2)] → W p l e r_X6_termNodeInside s m args below meth c H locs 0 0 (MQ below (gQq D cA g sz (fun r g2 => g = g2 ∧ Q r)) args s 0 0 (gA g sz)) (F0 m 44 ls [.int is0]) := by
    intro o2 is0 h H locs ls hc hl
    unfold b_X6_termNodeInside_44 at h
    refine lv_istore_n (lv' := [(3, .int is0), (2, va_rf o2)]) hx hb dX6_termNodeInside_44 rfl hl (by decide) (by cases o2 <;> rfl) (fun ls hl => ?_)
    refine lv_iload_n hx hb dX6_termNodeInside_45 rfl (lv_at hl 0 rfl) ?_
    refine lv_if_eq (tgt := 53) hx hb dX6_termNodeInside_46 (by decide) (fun c1 => ?_) (fun c1 => ?_)
    · have h := h.1 c1
      refine lv_null hx hb dX6_termNodeInside_53 ?_
      exact hb_54 none h _ _ _ hc (lv_sub hl [] rfl)
    · have h := h.2 c1
      refine g_aload_nq CF dX6_termNodeInside_49 rfl (lv_at hl 1 rfl) ?_
      refine lv_goto (tgt := 54) hx hb dX6_termNodeInside_50 (by decide) ?_
      exact hb_54 o2 h _ _ _ hc (lv_sub hl [] rfl)
  have hb_43 : ∀ (o2 : Option Nat), b_X6_termNodeInside_43 g o2 Q → ∀ (H : Heap) (locs : List Loc) (ls : Array Slot), gC D cA (gA g sz) s g H locs → lv_has ls 4 [(2, va_rf o2)] → W p l e r_X6_termNodeInside s m args below meth c H locs 0 0 (MQ below (gQq D cA g sz (fun r g2 => g = g2 ∧ Q r)) args s 0 0 (gA g sz)) (F0 m 43 ls []) := by
    intro o2 h H locs ls hc hl
    unfold b_X6_termNodeInside_43 at h
    refine lv_iconst (v := 0) hx hb dX6_termNodeInside_43 (by decide) ?_
    exact hb_44 o2 0 h _ _ _ hc (lv_sub hl [0] rfl)
  unfold w_X6_termNodeInside at h
  obtain ⟨H, hH0⟩ : ∃ z, z = s.heap := ⟨_, rfl⟩
  rw [← hH0] at hc ⊢
  obtain ⟨locs, hlc0⟩ : ∃ z : List Loc, z = [] := ⟨_, rfl⟩
  rw [← hlc0] at hc ⊢
  refine lv_aload_n hx hb dX6_termNodeInside_0 rfl (lv_at hl 0 rfl) ?_
  refine lv_iload_n hx hb dX6_termNodeInside_1 rfl (lv_at hl 1 rfl) ?_
  obtain ⟨hk2, h⟩ := h
  refine g_callq (va_runV (As := [.int p1]) (rest := []) CF (c_X6_nodeAt h) (cwV 1 hts gX6_termNodeInside_X6_nodeAt rfl rfl rfl (by decide +kernel) ⟨Nat.le_of_ble_eq_true rfl, Nat.le_of_ble_eq_true rfl⟩) (hc.preV hk2 rfl (by decide)) rfl rfl hl.1 rfl (lv_room (Nat.le_of_ble_eq_true rfl)) dX6_termNodeInside_2 ⟨Nat.le_of_ble_eq_true rfl, Nat.le_of_ble_eq_true rfl⟩) hc (fun o3 gq4 H locs hq hc => ?_)
  obtain ⟨rfl, h⟩ := hq
  refine g_astore_nq (lv' := [(2, va_rf o3), (0, .ref p0), (1, .int p1)]) CF dX6_termNodeInside_5 rfl hl (by decide) rfl (fun ls hl => ?_)
  refine g_aload_nq CF dX6_termNodeInside_6 rfl (lv_at hl 0 rfl) ?_
  refine g_ifnull (tgt := 43) CF dX6_termNodeInside_7 (by decide) (fun e6 => ?_) (fun y5 e6 => ?_)
  · have hu19 := h.1 e6
    subst e6
    have h := hu19
    exact hb_43 none h _ _ _ hc (lv_sub hl [0] rfl)
  · have hu19 := h.2 y5 e6
    subst e6
    have h := hu19
    refine lv_aload_n hx hb dX6_termNodeInside_10 rfl (lv_at hl 0 rfl) ?_
    obtain ⟨hk7, h⟩ := h
    refine g_get CF hc hk7 rfl (by decide) (fun _ h9 => List.mem_cons_of_mem _ (List.mem_append_left _ (List.mem_append_right _ (h9)))) (k := 0) (by decide) (List.mem_cons_of_mem _ (List.mem_append_left _ (List.mem_append_left _ (List.mem_of_getElem? (i := 0) rfl)))) rfl dX6_termNodeInside_11 ?_
    refine lv_if_ne (tgt := 43) hx hb dX6_termNodeInside_14 (by decide) (fun c8 => ?_) (fun c8 => ?_)
    · have h := h.2 c8
      exact hb_43 (some y5) h _ _ _ hc (lv_sub hl [0] rfl)
    · have h := h.1 c8
      refine lv_iload_n hx hb dX6_termNodeInside_17 rfl (lv_at hl 2 rfl) ?_
      refine lv_if_lt (tgt := 43) hx hb dX6_termNodeInside_18 (by decide) (fun c9 => ?_) (fun c9 => ?_)
      · have h := h.1 c9
        exact hb_43 (some y5) h _ _ _ hc (lv_sub hl [0] rfl)
      · have h := h.2 c9
        refine lv_iload_n hx hb dX6_termNodeInside_21 rfl (lv_at hl 2 rfl) ?_
        refine lv_aload_n hx hb dX6_termNodeInside_22 rfl (lv_at hl 1 rfl) ?_
        obtain ⟨y10, e11, h⟩ := h
        refine g_getr CF hc hk2 rfl (by decide) (fun _ h9 => List.mem_cons_of_mem _ (List.mem_append_right _ (h9))) (k := 3) (by decide) (List.mem_cons_of_mem _ (List.mem_append_left _ (List.mem_append_left _ (List.mem_of_getElem? (i := 1) rfl)))) e11 rfl dX6_termNodeInside_23 ?_
        obtain ⟨hk12, h⟩ := h
        refine g_alen CF hc (j := 1) hk12 (by decide) dX6_termNodeInside_26 ?_
        refine lv_icmp_ge (tgt := 43) hx hb dX6_termNodeInside_27 (by decide) (fun c13 => ?_) (fun c13 => ?_)
        · have h := h.1 c13
          exact hb_43 (some y5) h _ _ _ hc (lv_sub hl [0] rfl)
        · have h := h.2 c13
          refine lv_aload_n hx hb dX6_termNodeInside_30 rfl (lv_at hl 1 rfl) ?_
          obtain ⟨y14, e15, h⟩ := h
          refine g_getr CF hc hk2 rfl (by decide) (fun _ h9 => List.mem_cons_of_mem _ (List.mem_append_right _ (h9))) (k := 3) (by decide) (List.mem_cons_of_mem _ (List.mem_append_left _ (List.mem_append_left _ (List.mem_of_getElem? (i := 1) rfl)))) e15 rfl dX6_termNodeInside_31 ?_
          refine lv_iload_n hx hb dX6_termNodeInside_34 rfl (lv_at hl 2 rfl) ?_
          obtain ⟨hk16, h⟩ := h
          obtain ⟨hi17, h⟩ := h
          refine g_zald CF hc hk16 hi17 dX6_termNodeInside_35 ?_
          refine lv_if_eq (tgt := 43) hx hb dX6_termNodeInside_36 (by decide) (fun c18 => ?_) (fun c18 => ?_)
          · have h := h.1 c18
            exact hb_43 (some y5) h _ _ _ hc (lv_sub hl [0] rfl)
          · have h := h.2 c18
            refine lv_iconst (v := 1) hx hb dX6_termNodeInside_39 (by decide) ?_
            refine lv_goto (tgt := 44) hx hb dX6_termNodeInside_40 (by decide) ?_
            exact hb_44 (some y5) 1 h _ _ _ hc (lv_sub hl [0] rfl)
def b_X6_entriesOfTerm_74 (g : gS) (r1 : Nat) (r2 : Nat) (i3 : Int32) (i4 : Int32) (i5 : Int32) (i6 : Int32) (Q : Int32 → Prop) (k38 : Int32 → Int32 → Prop) : Prop :=
  k38 i5 (i6 + 1)
def l_X6_entriesOfTerm_38 (g : gS) (r1 : Nat) (r2 : Nat) (i3 : Int32) (i4 : Int32) (Q : Int32 → Prop) (i5 : Int32) (i6 : Int32) (k38 : Int32 → Int32 → Prop) : Prop :=
  (3 ≤ i6 → (Q i5)) ∧ (¬ 3 ≤ i6 → (gK g r1 = 6 ∧ (w_X5_isFor g r1 i6 (fun x3 => ((x3 = 0 → (b_X6_entriesOfTerm_74 g r1 r2 i3 i4 i5 i6 Q k38)) ∧ (¬ x3 = 0 → (gK g r2 = 2 ∧ (w_X1_spreadOf g r2 i3 i6 (fun x7 => (w_X1_spreadOf g r2 i4 i6 (fun x9 => (b_X6_entriesOfTerm_74 g r1 r2 i3 i4 (i5 + (x7 + x9)) i6 Q k38))))))))))))
def w_X6_entriesOfTerm (g : gS) (p0 : Nat) (p1 : Nat) (p2 : Nat) (Q : Int32 → Prop) : Prop :=
  gK g p0 = 7 ∧ (∃ y12, gR g p0 0 = some y12 ∧ (gK g p1 = 6 ∧ (gK g y12 = 5 ∧ (w_X4_unmuted g y12 (gI g p1 1) (fun x16 => (∃ y18, gR g p0 0 = some y18 ∧ (∃ y20, gR g p0 0 = some y20 ∧ (gK g y20 = 5 ∧ (w_X4_aliasOf g y20 (gI g p1 1) (fun x23 => (gK g y18 = 5 ∧ (w_X4_unmuted g y18 x23 (fun x26 => (lpx2 (l_X6_entriesOfTerm_38 g p1 p2 x16 x26 Q) 0 0))))))))))))))
abbrev r_X6_entriesOfTerm : Room := { frames := 2, cells := 0, slots := 0, locals := 42 }
set_option maxHeartbeats 4000000 in
set_option maxRecDepth 100000 in
theorem c_X6_entriesOfTerm {l : Launch} {D : va_G} {cA : Nat → ClassId} {sz : Nat} {g : gS} {p0 : Nat} {p1 : Nat} {p2 : Nat} {Q : Int32 → Prop} (h : w_X6_entriesOfTerm g p0 p1 p2 Q) : Met l yX6_entriesOfTerm wsX6_entriesOfTerm r_X6_entriesOfTerm (va_Pc [.ref p0, .ref p1, .ref p2] (gPre D cA g sz)) (gQi D cA g sz (fun r g2 => g = g2 ∧ Q r)) 0 0 (gA g sz) := by
  refine g_met (cc := cX6_entriesOfTerm) (maxL := 7) (ret := (some .int)) (own := RX6) (by decide) rfl rfl (Nat.le_of_ble_eq_true rfl) ?_
  intro p e s m args below meth c ls CF hr hlk hnm hc hl
  obtain ⟨hx, hb, hml, hown, hts⟩ := id CF
  have hl : lv_has ls 7 [(0, .ref p0), (1, .ref p1), (2, .ref p2)] := hl
  show W p l e r_X6_entriesOfTerm s m args below meth c s.heap [] 0 0 (MQ below (gQi D cA g sz (fun r g2 => g = g2 ∧ Q r)) args s 0 0 (gA g sz)) (F0 m 0 ls [])
  have hb_38 : ∀ (r1 : Nat) (r2 : Nat) (i3 : Int32) (i4 : Int32), ∀ (i5 : Int32) (i6 : Int32), lpx2 (l_X6_entriesOfTerm_38 g r1 r2 i3 i4 Q) i5 i6 → ∀ (H : Heap) (locs : List Loc) (ls : Array Slot), gC D cA (gA g sz) s g H locs → lv_has ls 7 [(1, .ref r1), (2, .ref r2), (3, .int i3), (4, .int i4), (5, .int i5), (6, .int i6)] → W p l e r_X6_entriesOfTerm s m args below meth c H locs 0 0 (MQ below (gQi D cA g sz (fun r g2 => g = g2 ∧ Q r)) args s 0 0 (gA g sz)) (F0 m 38 ls []) := by
    intro r1 r2 i3 i4
    refine lpx2_run (P := fun (i5 : Int32) (i6 : Int32) => ∀ (H : Heap) (locs : List Loc) (ls : Array Slot), gC D cA (gA g sz) s g H locs → lv_has ls 7 [(1, .ref r1), (2, .ref r2), (3, .int i3), (4, .int i4), (5, .int i5), (6, .int i6)] → W p l e r_X6_entriesOfTerm s m args below meth c H locs 0 0 (MQ below (gQi D cA g sz (fun r g2 => g = g2 ∧ Q r)) args s 0 0 (gA g sz)) (F0 m 38 ls [])) ?_
    intro k38 hk_38 i5 i6 h H locs ls hc hl
    have hb_74 : ∀ (i5 : Int32) (i6 : Int32), b_X6_entriesOfTerm_74 g r1 r2 i3 i4 i5 i6 Q k38 → ∀ (H : Heap) (locs : List Loc) (ls : Array Slot), gC D cA (gA g sz) s g H locs → lv_has ls 7 [(1, .ref r1), (2, .ref r2), (3, .int i3), (4, .int i4), (5, .int i5), (6, .int i6)] → W p l e r_X6_entriesOfTerm s m args below meth c H locs 0 0 (MQ below (gQi D cA g sz (fun r g2 => g = g2 ∧ Q r)) args s 0 0 (gA g sz)) (F0 m 74 ls []) := by
      intro i5 i6 h H locs ls hc hl
      unfold b_X6_entriesOfTerm_74 at h
      refine lv_iinc (v := (i6 + 1)) (lv' := [(6, .int (i6 + 1)), (1, .ref r1), (2, .ref r2), (3, .int i3), (4, .int i4), (5, .int i5)]) hx hb dX6_entriesOfTerm_74 hl (k := 5) rfl rfl (by decide) rfl (fun ls hl => ?_)
      refine lv_goto (tgt := 38) hx hb dX6_entriesOfTerm_77 (by decide) ?_
      exact hk_38 i5 (i6 + 1) h _ _ _ hc (lv_sub hl [1, 2, 3, 4, 5, 0] rfl)
    unfold l_X6_entriesOfTerm_38 at h
    refine lv_iload hx hb dX6_entriesOfTerm_38 (lv_at hl 5 rfl) ?_
    refine lv_iconst (v := 3) hx hb dX6_entriesOfTerm_40 (by decide) ?_
    refine lv_icmp_ge (tgt := 80) hx hb dX6_entriesOfTerm_41 (by decide) (fun c1 => ?_) (fun c1 => ?_)
    · have h := h.1 c1
      refine lv_iload hx hb dX6_entriesOfTerm_80 (lv_at hl 4 rfl) ?_
      exact g_reti (r := i5) CF hr hlk hc rfl ⟨rfl, h⟩ dX6_entriesOfTerm_82
    · have h := h.2 c1
      refine lv_aload_n hx hb dX6_entriesOfTerm_44 rfl (lv_at hl 0 rfl) ?_
      refine lv_iload hx hb dX6_entriesOfTerm_45 (lv_at hl 5 rfl) ?_
      obtain ⟨hk2, h⟩ := h
      refine g_calli (va_runV (As := [.int i6]) (rest := []) CF (c_X5_isFor h) (cwV 1 hts gX6_entriesOfTerm_X5_isFor rfl rfl rfl (by decide +kernel) ⟨Nat.le_of_ble_eq_true rfl, Nat.le_of_ble_eq_true rfl⟩) (hc.preV hk2 rfl (by decide)) rfl rfl hl.1 rfl (lv_room (Nat.le_of_ble_eq_true rfl)) dX6_entriesOfTerm_47 ⟨Nat.le_of_ble_eq_true rfl, Nat.le_of_ble_eq_true rfl⟩) hc (fun x3 gq4 H locs hq hc => ?_)
      obtain ⟨rfl, h⟩ := hq
      refine lv_if_eq (tgt := 74) hx hb dX6_entriesOfTerm_50 (by decide) (fun c5 => ?_) (fun c5 => ?_)
      · have h := h.1 c5
        exact hb_74 i5 i6 h _ _ _ hc (lv_sub hl [0, 1, 2, 3, 4, 5] rfl)
      · have h := h.2 c5
        refine lv_iload hx hb dX6_entriesOfTerm_53 (lv_at hl 4 rfl) ?_
        refine lv_aload_n hx hb dX6_entriesOfTerm_55 rfl (lv_at hl 1 rfl) ?_
        refine lv_iload_n hx hb dX6_entriesOfTerm_56 rfl (lv_at hl 2 rfl) ?_
        refine lv_iload hx hb dX6_entriesOfTerm_57 (lv_at hl 5 rfl) ?_
        obtain ⟨hk6, h⟩ := h
        refine g_calli (va_runV (As := [.int i3, .int i6]) (rest := [.int i5]) CF (c_X1_spreadOf h) (cwV 2 hts gX6_entriesOfTerm_X1_spreadOf rfl rfl rfl (by decide +kernel) ⟨Nat.le_of_ble_eq_true rfl, Nat.le_of_ble_eq_true rfl⟩) (hc.preV hk6 rfl (by decide)) rfl rfl hl.1 rfl (lv_room (Nat.le_of_ble_eq_true rfl)) dX6_entriesOfTerm_59 ⟨Nat.le_of_ble_eq_true rfl, Nat.le_of_ble_eq_true rfl⟩) hc (fun x7 gq8 H locs hq hc => ?_)
        obtain ⟨rfl, h⟩ := hq
        refine lv_aload_n hx hb dX6_entriesOfTerm_62 rfl (lv_at hl 1 rfl) ?_
        refine lv_iload hx hb dX6_entriesOfTerm_63 (lv_at hl 3 rfl) ?_
        refine lv_iload hx hb dX6_entriesOfTerm_65 (lv_at hl 5 rfl) ?_
        refine g_calli (va_runV (As := [.int i4, .int i6]) (rest := [.int x7, .int i5]) CF (c_X1_spreadOf h) (cwV 2 hts gX6_entriesOfTerm_X1_spreadOf rfl rfl rfl (by decide +kernel) ⟨Nat.le_of_ble_eq_true rfl, Nat.le_of_ble_eq_true rfl⟩) (hc.preV hk6 rfl (by decide)) rfl rfl hl.1 rfl (lv_room (Nat.le_of_ble_eq_true rfl)) dX6_entriesOfTerm_67 ⟨Nat.le_of_ble_eq_true rfl, Nat.le_of_ble_eq_true rfl⟩) hc (fun x9 gq10 H locs hq hc => ?_)
        obtain ⟨rfl, h⟩ := hq
        refine lv_iadd hx hb dX6_entriesOfTerm_70 ?_
        refine lv_iadd hx hb dX6_entriesOfTerm_71 ?_
        refine lv_istore (lv' := [(5, .int (i5 + (x7 + x9))), (1, .ref r1), (2, .ref r2), (3, .int i3), (4, .int i4), (6, .int i6)]) hx hb dX6_entriesOfTerm_72 hl (by decide) rfl (fun ls hl => ?_)
        exact hb_74 (i5 + (x7 + x9)) i6 h _ _ _ hc (lv_sub hl [1, 2, 3, 4, 0, 5] rfl)
  unfold w_X6_entriesOfTerm at h
  obtain ⟨H, hH0⟩ : ∃ z, z = s.heap := ⟨_, rfl⟩
  rw [← hH0] at hc ⊢
  obtain ⟨locs, hlc0⟩ : ∃ z : List Loc, z = [] := ⟨_, rfl⟩
  rw [← hlc0] at hc ⊢
  refine lv_aload_n hx hb dX6_entriesOfTerm_0 rfl (lv_at hl 0 rfl) ?_
  obtain ⟨hk11, h⟩ := h
  obtain ⟨y12, e13, h⟩ := h
  refine g_getr CF hc hk11 rfl (by decide) (fun _ h9 => List.mem_cons_of_mem _ (List.mem_append_left _ (List.mem_append_left _ (List.mem_append_left _ (List.mem_append_right _ (h9)))))) (k := 0) (by decide) (List.mem_cons_of_mem _ (List.mem_append_left _ (List.mem_append_left _ (List.mem_append_left _ (List.mem_append_left _ (List.mem_append_left _ (List.mem_of_getElem? (i := 0) rfl))))))) e13 rfl dX6_entriesOfTerm_1 ?_
  refine lv_aload_n hx hb dX6_entriesOfTerm_4 rfl (lv_at hl 1 rfl) ?_
  obtain ⟨hk14, h⟩ := h
  refine g_get CF hc hk14 rfl (by decide) (fun _ h9 => List.mem_cons_of_mem _ (List.mem_append_left _ (List.mem_append_left _ (List.mem_append_right _ (h9))))) (k := 1) (by decide) (List.mem_cons_of_mem _ (List.mem_append_left _ (List.mem_append_left _ (List.mem_append_left _ (List.mem_append_left _ (List.mem_append_left _ (List.mem_of_getElem? (i := 1) rfl))))))) rfl dX6_entriesOfTerm_5 ?_
  obtain ⟨hk15, h⟩ := h
  refine g_calli (va_runV (As := [.int (gI g p1 1)]) (rest := []) CF (c_X4_unmuted h) (cwV 1 hts gX6_entriesOfTerm_X4_unmuted rfl rfl rfl (by decide +kernel) ⟨Nat.le_of_ble_eq_true rfl, Nat.le_of_ble_eq_true rfl⟩) (hc.preV hk15 rfl (by decide)) rfl rfl hl.1 rfl (lv_room (Nat.le_of_ble_eq_true rfl)) dX6_entriesOfTerm_8 ⟨Nat.le_of_ble_eq_true rfl, Nat.le_of_ble_eq_true rfl⟩) hc (fun x16 gq17 H locs hq hc => ?_)
  obtain ⟨rfl, h⟩ := hq
  refine lv_istore_n (lv' := [(3, .int x16), (0, .ref p0), (1, .ref p1), (2, .ref p2)]) hx hb dX6_entriesOfTerm_11 rfl hl (by decide) rfl (fun ls hl => ?_)
  refine lv_aload_n hx hb dX6_entriesOfTerm_12 rfl (lv_at hl 1 rfl) ?_
  obtain ⟨y18, e19, h⟩ := h
  refine g_getr CF hc hk11 rfl (by decide) (fun _ h9 => List.mem_cons_of_mem _ (List.mem_append_left _ (List.mem_append_left _ (List.mem_append_left _ (List.mem_append_right _ (h9)))))) (k := 0) (by decide) (List.mem_cons_of_mem _ (List.mem_append_left _ (List.mem_append_left _ (List.mem_append_left _ (List.mem_append_left _ (List.mem_append_left _ (List.mem_of_getElem? (i := 0) rfl))))))) e19 rfl dX6_entriesOfTerm_13 ?_
  refine lv_aload_n hx hb dX6_entriesOfTerm_16 rfl (lv_at hl 1 rfl) ?_
  obtain ⟨y20, e21, h⟩ := h
  refine g_getr CF hc hk11 rfl (by decide) (fun _ h9 => List.mem_cons_of_mem _ (List.mem_append_left _ (List.mem_append_left _ (List.mem_append_left _ (List.mem_append_right _ (h9)))))) (k := 0) (by decide) (List.mem_cons_of_mem _ (List.mem_append_left _ (List.mem_append_left _ (List.mem_append_left _ (List.mem_append_left _ (List.mem_append_left _ (List.mem_of_getElem? (i := 0) rfl))))))) e21 rfl dX6_entriesOfTerm_17 ?_
  refine lv_aload_n hx hb dX6_entriesOfTerm_20 rfl (lv_at hl 2 rfl) ?_
  refine g_get CF hc hk14 rfl (by decide) (fun _ h9 => List.mem_cons_of_mem _ (List.mem_append_left _ (List.mem_append_left _ (List.mem_append_right _ (h9))))) (k := 1) (by decide) (List.mem_cons_of_mem _ (List.mem_append_left _ (List.mem_append_left _ (List.mem_append_left _ (List.mem_append_left _ (List.mem_append_left _ (List.mem_of_getElem? (i := 1) rfl))))))) rfl dX6_entriesOfTerm_21 ?_
  obtain ⟨hk22, h⟩ := h
  refine g_calli (va_runV (As := [.int (gI g p1 1)]) (rest := [.ref y18]) CF (c_X4_aliasOf h) (cwV 1 hts gX6_entriesOfTerm_X4_aliasOf rfl rfl rfl (by decide +kernel) ⟨Nat.le_of_ble_eq_true rfl, Nat.le_of_ble_eq_true rfl⟩) (hc.preV hk22 rfl (by decide)) rfl rfl hl.1 rfl (lv_room (Nat.le_of_ble_eq_true rfl)) dX6_entriesOfTerm_24 ⟨Nat.le_of_ble_eq_true rfl, Nat.le_of_ble_eq_true rfl⟩) hc (fun x23 gq24 H locs hq hc => ?_)
  obtain ⟨rfl, h⟩ := hq
  obtain ⟨hk25, h⟩ := h
  refine g_calli (va_runV (As := [.int x23]) (rest := []) CF (c_X4_unmuted h) (cwV 1 hts gX6_entriesOfTerm_X4_unmuted rfl rfl rfl (by decide +kernel) ⟨Nat.le_of_ble_eq_true rfl, Nat.le_of_ble_eq_true rfl⟩) (hc.preV hk25 rfl (by decide)) rfl rfl hl.1 rfl (lv_room (Nat.le_of_ble_eq_true rfl)) dX6_entriesOfTerm_27 ⟨Nat.le_of_ble_eq_true rfl, Nat.le_of_ble_eq_true rfl⟩) hc (fun x26 gq27 H locs hq hc => ?_)
  obtain ⟨rfl, h⟩ := hq
  refine lv_istore (lv' := [(4, .int x26), (3, .int x16), (0, .ref p0), (1, .ref p1), (2, .ref p2)]) hx hb dX6_entriesOfTerm_30 hl (by decide) rfl (fun ls hl => ?_)
  refine lv_iconst (v := 0) hx hb dX6_entriesOfTerm_32 (by decide) ?_
  refine lv_istore (lv' := [(5, .int 0), (4, .int x26), (3, .int x16), (0, .ref p0), (1, .ref p1), (2, .ref p2)]) hx hb dX6_entriesOfTerm_33 hl (by decide) rfl (fun ls hl => ?_)
  refine lv_iconst (v := 0) hx hb dX6_entriesOfTerm_35 (by decide) ?_
  refine lv_istore (lv' := [(6, .int 0), (5, .int 0), (4, .int x26), (3, .int x16), (0, .ref p0), (1, .ref p1), (2, .ref p2)]) hx hb dX6_entriesOfTerm_36 hl (by decide) rfl (fun ls hl => ?_)
  exact hb_38 p1 p2 x16 x26 0 0 h _ _ _ hc (lv_sub hl [5, 6, 3, 2, 1, 0] rfl)
def b_X6_entriesOf_43 (g : gS) (r0 : Nat) (r2 : Nat) (i3 : Int32) (i4 : Int32) (Q : Int32 → gS → Prop) (k11 : Int32 → Int32 → Prop) : Prop :=
  k11 i3 (i4 + 1)
def l_X6_entriesOf_11 (g : gS) (r0 : Nat) (r2 : Nat) (Q : Int32 → gS → Prop) (i3 : Int32) (i4 : Int32) (k11 : Int32 → Int32 → Prop) : Prop :=
  gK g r0 = 7 ∧ (((gI g r0 2) ≤ i4 → (Q i3 g)) ∧ (¬ (gI g r0 2) ≤ i4 → (w_X6_termNodeInside g r0 i4 (fun o3 => ((o3 = none → (b_X6_entriesOf_43 g r0 r2 i3 i4 Q k11)) ∧ (∀ y5, o3 = some y5 → (w_X6_entriesOfTerm g r0 y5 r2 (fun x7 => (b_X6_entriesOf_43 g r0 r2 (i3 + x7) i4 Q k11)))))))))
def w_X6_entriesOf (g0 : gS) (p0 : Nat) (p1 : Int32) (p2 : Nat) (Q : Int32 → gS → Prop) : Prop :=
  gK g0 p0 = 7 ∧ (w_X6_markInside g0 p0 p1 0 (fun g12 => (lpx2 (l_X6_entriesOf_11 g12 p0 p2 Q) 0 0)))
abbrev r_X6_entriesOf : Room := { frames := 3, cells := 0, slots := 0, locals := 70 }
set_option maxHeartbeats 4000000 in
set_option maxRecDepth 100000 in
theorem c_X6_entriesOf {l : Launch} {D : va_G} {cA : Nat → ClassId} {sz : Nat} {g0 : gS} {p0 : Nat} {p1 : Int32} {p2 : Nat} {Q : Int32 → gS → Prop} (h : w_X6_entriesOf g0 p0 p1 p2 Q) : Met l yX6_entriesOf wsX6_entriesOf r_X6_entriesOf (va_Pc [.ref p0, .int p1, .ref p2] (gPre D cA g0 sz)) (gQi D cA g0 sz (Q)) 0 0 (gA g0 sz) := by
  refine g_met (cc := cX6_entriesOf) (maxL := 6) (ret := (some .int)) (own := RX6) (by decide) rfl rfl (Nat.le_of_ble_eq_true rfl) ?_
  intro p e s m args below meth c ls CF hr hlk hnm hc hl
  obtain ⟨hx, hb, hml, hown, hts⟩ := id CF
  have hl : lv_has ls 6 [(0, .ref p0), (1, .int p1), (2, .ref p2)] := hl
  show W p l e r_X6_entriesOf s m args below meth c s.heap [] 0 0 (MQ below (gQi D cA g0 sz (Q)) args s 0 0 (gA g0 sz)) (F0 m 0 ls [])
  have hb_11 : ∀ (g : gS) (r0 : Nat) (r2 : Nat), ∀ (i3 : Int32) (i4 : Int32), lpx2 (l_X6_entriesOf_11 g r0 r2 Q) i3 i4 → ∀ (H : Heap) (locs : List Loc) (ls : Array Slot), gC D cA (gA g0 sz) s g H locs → lv_has ls 6 [(0, .ref r0), (2, .ref r2), (3, .int i3), (4, .int i4)] → W p l e r_X6_entriesOf s m args below meth c H locs 0 0 (MQ below (gQi D cA g0 sz (Q)) args s 0 0 (gA g0 sz)) (F0 m 11 ls []) := by
    intro g r0 r2
    refine lpx2_run (P := fun (i3 : Int32) (i4 : Int32) => ∀ (H : Heap) (locs : List Loc) (ls : Array Slot), gC D cA (gA g0 sz) s g H locs → lv_has ls 6 [(0, .ref r0), (2, .ref r2), (3, .int i3), (4, .int i4)] → W p l e r_X6_entriesOf s m args below meth c H locs 0 0 (MQ below (gQi D cA g0 sz (Q)) args s 0 0 (gA g0 sz)) (F0 m 11 ls [])) ?_
    intro k11 hk_11 i3 i4 h H locs ls hc hl
    have hb_43 : ∀ (i3 : Int32) (i4 : Int32), b_X6_entriesOf_43 g r0 r2 i3 i4 Q k11 → ∀ (H : Heap) (locs : List Loc) (ls : Array Slot), gC D cA (gA g0 sz) s g H locs → lv_has ls 6 [(0, .ref r0), (2, .ref r2), (3, .int i3), (4, .int i4)] → W p l e r_X6_entriesOf s m args below meth c H locs 0 0 (MQ below (gQi D cA g0 sz (Q)) args s 0 0 (gA g0 sz)) (F0 m 43 ls []) := by
      intro i3 i4 h H locs ls hc hl
      unfold b_X6_entriesOf_43 at h
      refine lv_iinc (v := (i4 + 1)) (lv' := [(4, .int (i4 + 1)), (0, .ref r0), (2, .ref r2), (3, .int i3)]) hx hb dX6_entriesOf_43 hl (k := 3) rfl rfl (by decide) rfl (fun ls hl => ?_)
      refine lv_goto (tgt := 11) hx hb dX6_entriesOf_46 (by decide) ?_
      exact hk_11 i3 (i4 + 1) h _ _ _ hc (lv_sub hl [1, 2, 3, 0] rfl)
    unfold l_X6_entriesOf_11 at h
    refine lv_iload hx hb dX6_entriesOf_11 (lv_at hl 3 rfl) ?_
    refine lv_aload_n hx hb dX6_entriesOf_13 rfl (lv_at hl 0 rfl) ?_
    obtain ⟨hk1, h⟩ := h
    refine g_get CF hc hk1 rfl (by decide) (fun _ h9 => List.mem_cons_of_mem _ (List.mem_append_left _ (List.mem_append_left _ (List.mem_append_left _ (List.mem_append_right _ (h9)))))) (k := 2) (by decide) (List.mem_cons_of_mem _ (List.mem_append_left _ (List.mem_append_left _ (List.mem_append_left _ (List.mem_append_left _ (List.mem_append_left _ (List.mem_of_getElem? (i := 0) rfl))))))) rfl dX6_entriesOf_14 ?_
    refine lv_icmp_ge (tgt := 49) hx hb dX6_entriesOf_17 (by decide) (fun c2 => ?_) (fun c2 => ?_)
    · have h := h.1 c2
      refine lv_iload_n hx hb dX6_entriesOf_49 rfl (lv_at hl 2 rfl) ?_
      exact g_reti (r := i3) CF hr hlk hc rfl h dX6_entriesOf_50
    · have h := h.2 c2
      refine lv_aload_n hx hb dX6_entriesOf_20 rfl (lv_at hl 0 rfl) ?_
      refine lv_iload hx hb dX6_entriesOf_21 (lv_at hl 3 rfl) ?_
      refine g_callq (va_runV (As := [.int i4]) (rest := []) CF (c_X6_termNodeInside h) (cwV 1 hts gX6_entriesOf_X6_termNodeInside rfl rfl rfl (by decide +kernel) ⟨Nat.le_of_ble_eq_true rfl, Nat.le_of_ble_eq_true rfl⟩) (hc.preV hk1 rfl (by decide)) rfl rfl hl.1 rfl (lv_room (Nat.le_of_ble_eq_true rfl)) dX6_entriesOf_23 ⟨Nat.le_of_ble_eq_true rfl, Nat.le_of_ble_eq_true rfl⟩) hc (fun o3 gq4 H locs hq hc => ?_)
      obtain ⟨rfl, h⟩ := hq
      refine g_astoreq (lv' := [(5, va_rf o3), (0, .ref r0), (2, .ref r2), (3, .int i3), (4, .int i4)]) CF dX6_entriesOf_26 hl (by decide) rfl (fun ls hl => ?_)
      refine g_aloadq CF dX6_entriesOf_28 (lv_at hl 0 rfl) ?_
      refine g_ifnull (tgt := 43) CF dX6_entriesOf_30 (by decide) (fun e6 => ?_) (fun y5 e6 => ?_)
      · have hu9 := h.1 e6
        subst e6
        have h := hu9
        exact hb_43 i3 i4 h _ _ _ hc (lv_sub hl [1, 2, 3, 4] rfl)
      · have hu9 := h.2 y5 e6
        subst e6
        have h := hu9
        refine lv_iload_n hx hb dX6_entriesOf_33 rfl (lv_at hl 3 rfl) ?_
        refine lv_aload_n hx hb dX6_entriesOf_34 rfl (lv_at hl 1 rfl) ?_
        refine lv_aload hx hb dX6_entriesOf_35 (lv_at hl 0 rfl) ?_
        refine lv_aload_n hx hb dX6_entriesOf_37 rfl (lv_at hl 2 rfl) ?_
        refine g_calli (va_runV (As := [.ref y5, .ref r2]) (rest := [.int i3]) CF (c_X6_entriesOfTerm h) (cwV 2 hts gX6_entriesOf_X6_entriesOfTerm rfl rfl rfl (by decide +kernel) ⟨Nat.le_of_ble_eq_true rfl, Nat.le_of_ble_eq_true rfl⟩) (hc.preV hk1 rfl (by decide)) rfl rfl hl.1 rfl (lv_room (Nat.le_of_ble_eq_true rfl)) dX6_entriesOf_38 ⟨Nat.le_of_ble_eq_true rfl, Nat.le_of_ble_eq_true rfl⟩) hc (fun x7 gq8 H locs hq hc => ?_)
        obtain ⟨rfl, h⟩ := hq
        refine lv_iadd hx hb dX6_entriesOf_41 ?_
        refine lv_istore_n (lv' := [(3, .int (i3 + x7)), (5, .ref y5), (0, .ref r0), (2, .ref r2), (4, .int i4)]) hx hb dX6_entriesOf_42 rfl hl (by decide) rfl (fun ls hl => ?_)
        exact hb_43 (i3 + x7) i4 h _ _ _ hc (lv_sub hl [2, 3, 0, 4] rfl)
  unfold w_X6_entriesOf at h
  obtain ⟨H, hH0⟩ : ∃ z, z = s.heap := ⟨_, rfl⟩
  rw [← hH0] at hc ⊢
  obtain ⟨locs, hlc0⟩ : ∃ z : List Loc, z = [] := ⟨_, rfl⟩
  rw [← hlc0] at hc ⊢
  refine lv_aload_n hx hb dX6_entriesOf_0 rfl (lv_at hl 0 rfl) ?_
  refine lv_iload_n hx hb dX6_entriesOf_1 rfl (lv_at hl 1 rfl) ?_
  refine lv_iconst (v := 0) hx hb dX6_entriesOf_2 (by decide) ?_
  obtain ⟨hk10, h⟩ := h
  refine g_callv (va_runV (As := [.int p1, .int 0]) (rest := []) CF (c_X6_markInside h) (cwV 2 hts gX6_entriesOf_X6_markInside rfl rfl rfl (by decide +kernel) ⟨Nat.le_of_ble_eq_true rfl, Nat.le_of_ble_eq_true rfl⟩) (hc.preV hk10 rfl (by decide)) rfl rfl hl.1 rfl (lv_room (Nat.le_of_ble_eq_true rfl)) dX6_entriesOf_3 ⟨Nat.le_of_ble_eq_true rfl, Nat.le_of_ble_eq_true rfl⟩) hc (fun g12 H locs hq hc => ?_)
  replace h := hq
  refine lv_iconst (v := 0) hx hb dX6_entriesOf_6 (by decide) ?_
  refine lv_istore_n (lv' := [(3, .int 0), (0, .ref p0), (1, .int p1), (2, .ref p2)]) hx hb dX6_entriesOf_7 rfl hl (by decide) rfl (fun ls hl => ?_)
  refine lv_iconst (v := 0) hx hb dX6_entriesOf_8 (by decide) ?_
  refine lv_istore (lv' := [(4, .int 0), (3, .int 0), (0, .ref p0), (1, .int p1), (2, .ref p2)]) hx hb dX6_entriesOf_9 hl (by decide) rfl (fun ls hl => ?_)
  exact hb_11 g12 p0 p2 0 0 h _ _ _ hc (lv_sub hl [2, 4, 1, 0] rfl)
def w_X7_init (g0 : gS) (p0 : Nat) (Q : gS → Prop) : Prop :=
  ∀ q1, gK g0 q1 = 0 → (∀ g3, g3 = sNew g0 q1 25 60 → (gK g3 p0 = 8 ∧ (∀ g6, g6 = sV g3 p0 0 (some q1) → (∀ q8, gK g6 q8 = 0 → (∀ g10, g10 = sNew g6 q8 21 60 → (gK g10 p0 = 8 ∧ (∀ g13, g13 = sV g10 p0 1 (some q8) → (∀ q15, gK g13 q15 = 0 → (∀ g17, g17 = sNew g13 q15 21 60 → (gK g17 p0 = 8 ∧ (∀ g20, g20 = sV g17 p0 2 (some q15) → (Q g20))))))))))))
abbrev r_X7_init : Room := { frames := 1, cells := 3, slots := 180, locals := 12 }
set_option maxHeartbeats 4000000 in
set_option maxRecDepth 100000 in
theorem c_X7_init {l : Launch} {D : va_G} {cA : Nat → ClassId} {sz : Nat} {g0 : gS} {p0 : Nat} {Q : gS → Prop} (h : w_X7_init g0 p0 Q) : Met l yX7_init wsX7_init r_X7_init (va_Pc [.ref p0] (gPre D cA g0 sz)) (gQv D cA g0 sz (Q)) 3 180 (gA g0 sz) := by
  refine g_met (cc := cX7_init) (maxL := 1) (ret := none) (own := RX7) (by decide) rfl rfl (Nat.le_of_ble_eq_true rfl) ?_
  intro p e s m args below meth c ls CF hr hlk hnm hc hl
  obtain ⟨hx, hb, hml, hown, hts⟩ := id CF
  have hl : lv_has ls 1 [(0, .ref p0)] := hl
  show W p l e r_X7_init s m args below meth c s.heap [] 0 0 (MQ below (gQv D cA g0 sz (Q)) args s 3 180 (gA g0 sz)) (F0 m 0 ls [])
  unfold w_X7_init at h
  obtain ⟨H, hH0⟩ : ∃ z, z = s.heap := ⟨_, rfl⟩
  rw [← hH0] at hc ⊢
  obtain ⟨locs, hlc0⟩ : ∃ z : List Loc, z = [] := ⟨_, rfl⟩
  rw [← hlc0] at hc ⊢
  refine lv_aload_n hx hb dX7_init_0 rfl (lv_at hl 0 rfl) ?_
  refine W.objInit hx hb hown (hts _ (List.mem_cons_of_mem _ (List.mem_append_left _ (List.mem_of_getElem? (i := 0) rfl)))) (hts _ (List.mem_cons_of_mem _ (List.mem_append_left _ (List.mem_of_getElem? (i := 1) rfl)))) (hts _ (List.mem_cons_of_mem _ (List.mem_append_left _ (List.mem_of_getElem? (i := 2) rfl)))) rfl (by rw [hml]; exact hl.1) rfl dX7_init_1 (Nat.le_of_ble_eq_true rfl) (Nat.le_of_ble_eq_true rfl) ?_
  refine W.eq (g2 := F0 m 4 ls []) rfl ?_
  refine lv_aload_n hx hb dX7_init_4 rfl (lv_at hl 0 rfl) ?_
  refine lv_bipush (v := 60) hx hb dX7_init_5 (by decide) ?_
  refine g_newq CF hc (j2 := 0) (by decide) hc.1.2.2.2.1 rfl (List.mem_cons_of_mem _ (List.mem_append_left _ (List.mem_of_getElem? (i := 3) rfl))) (n := 60) (N := 60) (by decide) (by decide) (by decide) (Nat.le_of_ble_eq_true rfl) (Nat.le_of_ble_eq_true rfl) dX7_init_7 (fun q1 H locs hq2 hc => ?_)
  replace h := h q1 hq2
  obtain ⟨g3, eg4⟩ : ∃ z, z = sNew g0 q1 25 60 := ⟨_, rfl⟩
  have hc : gC D cA (gA g0 sz) s g3 H locs := by rw [eg4]; exact hc
  replace h := h g3 eg4
  refine W.widen (k := 1) (n := 60) (Nat.le_of_ble_eq_true rfl) (Nat.le_of_ble_eq_true rfl) ?_
  obtain ⟨hk5, h⟩ := h
  refine g_putrF CF hc hk5 rfl (by decide) (fun _ h9 => List.mem_cons_of_mem _ (List.mem_append_right _ (h9))) tyX7 tyX7_ok nmX7 (k := 0) (by decide) (List.mem_cons_of_mem _ (List.mem_append_left _ (List.mem_of_getElem? (i := 4) rfl))) rfl hnm rfl (some q1) narrow_ra fits_ra rfl dX7_init_10 (fun H locs hc => ?_)
  obtain ⟨g6, eg7⟩ : ∃ z, z = sV g3 p0 0 (some q1) := ⟨_, rfl⟩
  have hc : gC D cA (gA g0 sz) s g6 H locs := by rw [eg7]; exact hc
  replace h := h g6 eg7
  refine lv_aload_n hx hb dX7_init_13 rfl (lv_at hl 0 rfl) ?_
  refine lv_bipush (v := 60) hx hb dX7_init_14 (by decide) ?_
  refine g_newi CF hc (List.mem_cons_of_mem _ (List.mem_append_left _ (List.mem_of_getElem? (i := 5) rfl))) (n := 60) (N := 60) (by decide) (by decide) (by decide) (Nat.le_of_ble_eq_true rfl) (Nat.le_of_ble_eq_true rfl) dX7_init_16 (fun q8 H locs hq9 hc => ?_)
  replace h := h q8 hq9
  obtain ⟨g10, eg11⟩ : ∃ z, z = sNew g6 q8 21 60 := ⟨_, rfl⟩
  have hc : gC D cA (gA g0 sz) s g10 H locs := by rw [eg11]; exact hc
  replace h := h g10 eg11
  refine W.widen (k := 2) (n := 120) (Nat.le_of_ble_eq_true rfl) (Nat.le_of_ble_eq_true rfl) ?_
  obtain ⟨hk12, h⟩ := h
  refine g_putrF CF hc hk12 rfl (by decide) (fun _ h9 => List.mem_cons_of_mem _ (List.mem_append_right _ (h9))) tyX7 tyX7_ok nmX7 (k := 1) (by decide) (List.mem_cons_of_mem _ (List.mem_append_left _ (List.mem_of_getElem? (i := 6) rfl))) rfl hnm rfl (some q8) narrow_ra fits_ra rfl dX7_init_18 (fun H locs hc => ?_)
  obtain ⟨g13, eg14⟩ : ∃ z, z = sV g10 p0 1 (some q8) := ⟨_, rfl⟩
  have hc : gC D cA (gA g0 sz) s g13 H locs := by rw [eg14]; exact hc
  replace h := h g13 eg14
  refine lv_aload_n hx hb dX7_init_21 rfl (lv_at hl 0 rfl) ?_
  refine lv_bipush (v := 60) hx hb dX7_init_22 (by decide) ?_
  refine g_newi CF hc (List.mem_cons_of_mem _ (List.mem_append_left _ (List.mem_of_getElem? (i := 5) rfl))) (n := 60) (N := 60) (by decide) (by decide) (by decide) (Nat.le_of_ble_eq_true rfl) (Nat.le_of_ble_eq_true rfl) dX7_init_24 (fun q15 H locs hq16 hc => ?_)
  replace h := h q15 hq16
  obtain ⟨g17, eg18⟩ : ∃ z, z = sNew g13 q15 21 60 := ⟨_, rfl⟩
  have hc : gC D cA (gA g0 sz) s g17 H locs := by rw [eg18]; exact hc
  replace h := h g17 eg18
  refine W.widen (k := 3) (n := 180) (Nat.le_of_ble_eq_true rfl) (Nat.le_of_ble_eq_true rfl) ?_
  obtain ⟨hk19, h⟩ := h
  refine g_putrF CF hc hk19 rfl (by decide) (fun _ h9 => List.mem_cons_of_mem _ (List.mem_append_right _ (h9))) tyX7 tyX7_ok nmX7 (k := 2) (by decide) (List.mem_cons_of_mem _ (List.mem_append_left _ (List.mem_of_getElem? (i := 7) rfl))) rfl hnm rfl (some q15) narrow_ra fits_ra rfl dX7_init_26 (fun H locs hc => ?_)
  obtain ⟨g20, eg21⟩ : ∃ z, z = sV g17 p0 2 (some q15) := ⟨_, rfl⟩
  have hc : gC D cA (gA g0 sz) s g20 H locs := by rw [eg21]; exact hc
  replace h := h g20 eg21
  exact g_retv CF hr hlk hc h dX7_init_29
def w_X7_dropAll (g0 : gS) (p0 : Nat) (Q : gS → Prop) : Prop :=
  gK g0 p0 = 8 ∧ (∀ g2, g2 = sU g0 p0 3 0 → (Q g2))
abbrev r_X7_dropAll : Room := { frames := 0, cells := 0, slots := 0, locals := 0 }
set_option maxHeartbeats 4000000 in
set_option maxRecDepth 100000 in
theorem c_X7_dropAll {l : Launch} {D : va_G} {cA : Nat → ClassId} {sz : Nat} {g0 : gS} {p0 : Nat} {Q : gS → Prop} (h : w_X7_dropAll g0 p0 Q) : Met l yX7_dropAll wsX7_dropAll r_X7_dropAll (va_Pc [.ref p0] (gPre D cA g0 sz)) (gQv D cA g0 sz (Q)) 0 0 (gA g0 sz) := by
  refine g_met (cc := cX7_dropAll) (maxL := 1) (ret := none) (own := RX7) (by decide) rfl rfl (Nat.le_of_ble_eq_true rfl) ?_
  intro p e s m args below meth c ls CF hr hlk hnm hc hl
  obtain ⟨hx, hb, hml, hown, hts⟩ := id CF
  have hl : lv_has ls 1 [(0, .ref p0)] := hl
  show W p l e r_X7_dropAll s m args below meth c s.heap [] 0 0 (MQ below (gQv D cA g0 sz (Q)) args s 0 0 (gA g0 sz)) (F0 m 0 ls [])
  unfold w_X7_dropAll at h
  obtain ⟨H, hH0⟩ : ∃ z, z = s.heap := ⟨_, rfl⟩
  rw [← hH0] at hc ⊢
  obtain ⟨locs, hlc0⟩ : ∃ z : List Loc, z = [] := ⟨_, rfl⟩
  rw [← hlc0] at hc ⊢
  refine lv_aload_n hx hb dX7_dropAll_0 rfl (lv_at hl 0 rfl) ?_
  refine lv_iconst (v := 0) hx hb dX7_dropAll_1 (by decide) ?_
  obtain ⟨hk1, h⟩ := h
  refine g_puti CF hc hk1 rfl (by decide) (fun _ h9 => List.mem_cons_of_mem _ (List.mem_append_right _ (h9))) tyX7 tyX7_ok nmX7 (k := 3) (by decide) (List.mem_cons_of_mem _ (List.mem_append_left _ (List.mem_of_getElem? (i := 0) rfl))) rfl (v := 0) rfl rfl rfl dX7_dropAll_2 (fun H locs hc => ?_)
  obtain ⟨g2, eg3⟩ : ∃ z, z = sU g0 p0 3 0 := ⟨_, rfl⟩
  have hc : gC D cA (gA g0 sz) s g2 H locs := by rw [eg3]; exact hc
  replace h := h g2 eg3
  exact g_retv CF hr hlk hc h dX7_dropAll_5
def b_X7_hasPlace_17 (g : gS) (is0 : Int32) (Q : Int32 → Prop) : Prop :=
  (is0 = 0 ∨ is0 = 1) ∧ (Q is0)
def b_X7_hasPlace_16 (g : gS) (Q : Int32 → Prop) : Prop :=
  b_X7_hasPlace_17 g 0 Q
def w_X7_hasPlace (g : gS) (p0 : Nat) (p1 : Int32) (Q : Int32 → Prop) : Prop :=
  (p1 < 0 → (b_X7_hasPlace_16 g Q)) ∧ (¬ p1 < 0 → (gK g p0 = 8 ∧ (((gI g p0 3) ≤ p1 → (b_X7_hasPlace_16 g Q)) ∧ (¬ (gI g p0 3) ≤ p1 → (b_X7_hasPlace_17 g 1 Q)))))
abbrev r_X7_hasPlace : Room := { frames := 0, cells := 0, slots := 0, locals := 0 }
set_option maxHeartbeats 4000000 in
set_option maxRecDepth 100000 in
theorem c_X7_hasPlace {l : Launch} {D : va_G} {cA : Nat → ClassId} {sz : Nat} {g : gS} {p0 : Nat} {p1 : Int32} {Q : Int32 → Prop} (h : w_X7_hasPlace g p0 p1 Q) : Met l yX7_hasPlace wsX7_hasPlace r_X7_hasPlace (va_Pc [.ref p0, .int p1] (gPre D cA g sz)) (gQi D cA g sz (fun r g2 => g = g2 ∧ Q r)) 0 0 (gA g sz) := by
  refine g_met (cc := cX7_hasPlace) (maxL := 2) (ret := (some .boolean)) (own := RX7) (by decide) rfl rfl (Nat.le_of_ble_eq_true rfl) ?_
  intro p e s m args below meth c ls CF hr hlk hnm hc hl
  obtain ⟨hx, hb, hml, hown, hts⟩ := id CF
  have hl : lv_has ls 2 [(0, .ref p0), (1, .int p1)] := hl
  show W p l e r_X7_hasPlace s m args below meth c s.heap [] 0 0 (MQ below (gQi D cA g sz (fun r g2 => g = g2 ∧ Q r)) args s 0 0 (gA g sz)) (F0 m 0 ls [])
  have hb_17 : ∀ (is0 : Int32), b_X7_hasPlace_17 g is0 Q → ∀ (H : Heap) (locs : List Loc) (ls : Array Slot), gC D cA (gA g sz) s g H locs → lv_has ls 2 [] → W p l e r_X7_hasPlace s m args below meth c H locs 0 0 (MQ below (gQi D cA g sz (fun r g2 => g = g2 ∧ Q r)) args s 0 0 (gA g sz)) (F0 m 17 ls [.int is0]) := by
    intro is0 h H locs ls hc hl
    unfold b_X7_hasPlace_17 at h
    obtain ⟨hz1, h⟩ := h
    exact g_reti (r := is0) CF hr hlk hc (narrow_01 hz1) ⟨rfl, h⟩ dX7_hasPlace_17
  have hb_16 : b_X7_hasPlace_16 g Q → ∀ (H : Heap) (locs : List Loc) (ls : Array Slot), gC D cA (gA g sz) s g H locs → lv_has ls 2 [] → W p l e r_X7_hasPlace s m args below meth c H locs 0 0 (MQ below (gQi D cA g sz (fun r g2 => g = g2 ∧ Q r)) args s 0 0 (gA g sz)) (F0 m 16 ls []) := by
    intro h H locs ls hc hl
    unfold b_X7_hasPlace_16 at h
    refine lv_iconst (v := 0) hx hb dX7_hasPlace_16 (by decide) ?_
    exact hb_17 0 h _ _ _ hc (lv_sub hl [] rfl)
  unfold w_X7_hasPlace at h
  obtain ⟨H, hH0⟩ : ∃ z, z = s.heap := ⟨_, rfl⟩
  rw [← hH0] at hc ⊢
  obtain ⟨locs, hlc0⟩ : ∃ z : List Loc, z = [] := ⟨_, rfl⟩
  rw [← hlc0] at hc ⊢
  refine lv_iload_n hx hb dX7_hasPlace_0 rfl (lv_at hl 1 rfl) ?_
  refine lv_if_lt (tgt := 16) hx hb dX7_hasPlace_1 (by decide) (fun c2 => ?_) (fun c2 => ?_)
  · have h := h.1 c2
    exact hb_16  h _ _ _ hc (lv_sub hl [] rfl)
  · have h := h.2 c2
    refine lv_iload_n hx hb dX7_hasPlace_4 rfl (lv_at hl 1 rfl) ?_
    refine lv_aload_n hx hb dX7_hasPlace_5 rfl (lv_at hl 0 rfl) ?_
    obtain ⟨hk3, h⟩ := h
    refine g_get CF hc hk3 rfl (by decide) (fun _ h9 => List.mem_cons_of_mem _ (List.mem_append_right _ (h9))) (k := 3) (by decide) (List.mem_cons_of_mem _ (List.mem_append_left _ (List.mem_of_getElem? (i := 0) rfl))) rfl dX7_hasPlace_6 ?_
    refine lv_icmp_ge (tgt := 16) hx hb dX7_hasPlace_9 (by decide) (fun c4 => ?_) (fun c4 => ?_)
    · have h := h.1 c4
      exact hb_16  h _ _ _ hc (lv_sub hl [] rfl)
    · have h := h.2 c4
      refine lv_iconst (v := 1) hx hb dX7_hasPlace_12 (by decide) ?_
      refine lv_goto (tgt := 17) hx hb dX7_hasPlace_13 (by decide) ?_
      exact hb_17 1 h _ _ _ hc (lv_sub hl [] rfl)
def b_X7_documentAt_27 (g : gS) (os0 : Option Nat) (Q : Option Nat → Prop) : Prop :=
  Q os0
def b_X7_documentAt_17 (g : gS) (Q : Option Nat → Prop) : Prop :=
  b_X7_documentAt_27 g none Q
def w_X7_documentAt (g : gS) (p0 : Nat) (p1 : Int32) (Q : Option Nat → Prop) : Prop :=
  gK g p0 = 8 ∧ (w_X7_hasPlace g p0 p1 (fun x2 => ((x2 = 0 → (b_X7_documentAt_17 g Q)) ∧ (¬ x2 = 0 → (∃ y5, gR g p0 0 = some y5 ∧ (gK g y5 = 25 ∧ ((p1 < (nI (gN g y5)) → (∃ y9, gR g p0 0 = some y9 ∧ (gK g y9 = 25 ∧ (vp_in p1 (gN g y9) ∧ (∀ o13, o13 = gR g y9 (Int32.toNatClampNeg p1) → (b_X7_documentAt_27 g o13 Q)))))) ∧ (¬ p1 < (nI (gN g y5)) → (b_X7_documentAt_17 g Q)))))))))
abbrev r_X7_documentAt : Room := { frames := 1, cells := 0, slots := 0, locals := 21 }
set_option maxHeartbeats 4000000 in
set_option maxRecDepth 100000 in
theorem c_X7_documentAt {l : Launch} {D : va_G} {cA : Nat → ClassId} {sz : Nat} {g : gS} {p0 : Nat} {p1 : Int32} {Q : Option Nat → Prop} (h : w_X7_documentAt g p0 p1 Q) : Met l yX7_documentAt wsX7_documentAt r_X7_documentAt (va_Pc [.ref p0, .int p1] (gPre D cA g sz)) (gQq D cA g sz (fun r g2 => g = g2 ∧ Q r)) 0 0 (gA g sz) := by
  refine g_met (cc := cX7_documentAt) (maxL := 2) (ret := (some (.object "QuarryIndex$Document"))) (own := RX7) (by decide) rfl rfl (Nat.le_of_ble_eq_true rfl) ?_
  intro p e s m args below meth c ls CF hr hlk hnm hc hl
  obtain ⟨hx, hb, hml, hown, hts⟩ := id CF
  have hl : lv_has ls 2 [(0, .ref p0), (1, .int p1)] := hl
  show W p l e r_X7_documentAt s m args below meth c s.heap [] 0 0 (MQ below (gQq D cA g sz (fun r g2 => g = g2 ∧ Q r)) args s 0 0 (gA g sz)) (F0 m 0 ls [])
  have hb_27 : ∀ (os0 : Option Nat), b_X7_documentAt_27 g os0 Q → ∀ (H : Heap) (locs : List Loc) (ls : Array Slot), gC D cA (gA g sz) s g H locs → lv_has ls 2 [] → W p l e r_X7_documentAt s m args below meth c H locs 0 0 (MQ below (gQq D cA g sz (fun r g2 => g = g2 ∧ Q r)) args s 0 0 (gA g sz)) (F0 m 27 ls [va_rf os0]) := by
    intro os0 h H locs ls hc hl
    unfold b_X7_documentAt_27 at h
    exact g_retq (r := os0) CF hr hlk hc ⟨rfl, h⟩ dX7_documentAt_27
  have hb_17 : b_X7_documentAt_17 g Q → ∀ (H : Heap) (locs : List Loc) (ls : Array Slot), gC D cA (gA g sz) s g H locs → lv_has ls 2 [] → W p l e r_X7_documentAt s m args below meth c H locs 0 0 (MQ below (gQq D cA g sz (fun r g2 => g = g2 ∧ Q r)) args s 0 0 (gA g sz)) (F0 m 17 ls []) := by
    intro h H locs ls hc hl
    unfold b_X7_documentAt_17 at h
    refine lv_null hx hb dX7_documentAt_17 ?_
    refine lv_goto (tgt := 27) hx hb dX7_documentAt_18 (by decide) ?_
    exact hb_27 none h _ _ _ hc (lv_sub hl [] rfl)
  unfold w_X7_documentAt at h
  obtain ⟨H, hH0⟩ : ∃ z, z = s.heap := ⟨_, rfl⟩
  rw [← hH0] at hc ⊢
  obtain ⟨locs, hlc0⟩ : ∃ z : List Loc, z = [] := ⟨_, rfl⟩
  rw [← hlc0] at hc ⊢
  refine lv_aload_n hx hb dX7_documentAt_0 rfl (lv_at hl 0 rfl) ?_
  refine lv_iload_n hx hb dX7_documentAt_1 rfl (lv_at hl 1 rfl) ?_
  obtain ⟨hk1, h⟩ := h
  refine g_calli (va_runV (As := [.int p1]) (rest := []) CF (c_X7_hasPlace h) (cwV 1 hts gX7_documentAt_X7_hasPlace rfl rfl rfl (by decide +kernel) ⟨Nat.le_of_ble_eq_true rfl, Nat.le_of_ble_eq_true rfl⟩) (hc.preV hk1 rfl (by decide)) rfl rfl hl.1 rfl (lv_room (Nat.le_of_ble_eq_true rfl)) dX7_documentAt_2 ⟨Nat.le_of_ble_eq_true rfl, Nat.le_of_ble_eq_true rfl⟩) hc (fun x2 gq3 H locs hq hc => ?_)
  obtain ⟨rfl, h⟩ := hq
  refine lv_if_eq (tgt := 17) hx hb dX7_documentAt_5 (by decide) (fun c4 => ?_) (fun c4 => ?_)
  · have h := h.1 c4
    exact hb_17  h _ _ _ hc (lv_sub hl [] rfl)
  · have h := h.2 c4
    refine lv_iload_n hx hb dX7_documentAt_8 rfl (lv_at hl 1 rfl) ?_
    refine lv_aload_n hx hb dX7_documentAt_9 rfl (lv_at hl 0 rfl) ?_
    obtain ⟨y5, e6, h⟩ := h
    refine g_getr CF hc hk1 rfl (by decide) (fun _ h9 => List.mem_cons_of_mem _ (List.mem_append_right _ (h9))) (k := 0) (by decide) (List.mem_cons_of_mem _ (List.mem_append_left _ (List.mem_of_getElem? (i := 0) rfl))) e6 rfl dX7_documentAt_10 ?_
    obtain ⟨hk7, h⟩ := h
    refine g_alen CF hc (j := 4) hk7 (by decide) dX7_documentAt_13 ?_
    refine lv_icmp_lt (tgt := 21) hx hb dX7_documentAt_14 (by decide) (fun c8 => ?_) (fun c8 => ?_)
    · have h := h.1 c8
      refine lv_aload_n hx hb dX7_documentAt_21 rfl (lv_at hl 0 rfl) ?_
      obtain ⟨y9, e10, h⟩ := h
      refine g_getr CF hc hk1 rfl (by decide) (fun _ h9 => List.mem_cons_of_mem _ (List.mem_append_right _ (h9))) (k := 0) (by decide) (List.mem_cons_of_mem _ (List.mem_append_left _ (List.mem_of_getElem? (i := 0) rfl))) e10 rfl dX7_documentAt_22 ?_
      refine lv_iload_n hx hb dX7_documentAt_25 rfl (lv_at hl 1 rfl) ?_
      obtain ⟨hk11, h⟩ := h
      obtain ⟨hi12, h⟩ := h
      refine g_aald CF hc (j := 1) hk11 (by decide) hi12 dX7_documentAt_26 ?_
      obtain ⟨o13, eo14⟩ : ∃ z, z = gR g y9 (Int32.toNatClampNeg p1) := ⟨_, rfl⟩
      rw [← eo14]
      replace h := h o13 eo14
      exact hb_27 o13 h _ _ _ hc (lv_sub hl [] rfl)
    · have h := h.2 c8
      exact hb_17  h _ _ _ hc (lv_sub hl [] rfl)
def b_X7_valueAt_27 (g : gS) (is0 : Int32) (Q : Int32 → Prop) : Prop :=
  Q is0
def b_X7_valueAt_17 (g : gS) (Q : Int32 → Prop) : Prop :=
  b_X7_valueAt_27 g (-1) Q
def w_X7_valueAt (g : gS) (p0 : Nat) (p1 : Int32) (Q : Int32 → Prop) : Prop :=
  gK g p0 = 8 ∧ (w_X7_hasPlace g p0 p1 (fun x2 => ((x2 = 0 → (b_X7_valueAt_17 g Q)) ∧ (¬ x2 = 0 → (∃ y5, gR g p0 2 = some y5 ∧ (gK g y5 = 21 ∧ ((p1 < (nI (gN g y5)) → (∃ y9, gR g p0 2 = some y9 ∧ (gK g y9 = 21 ∧ (vp_in p1 (gN g y9) ∧ (b_X7_valueAt_27 g (gI g y9 (Int32.toNatClampNeg p1)) Q))))) ∧ (¬ p1 < (nI (gN g y5)) → (b_X7_valueAt_17 g Q)))))))))
abbrev r_X7_valueAt : Room := { frames := 1, cells := 0, slots := 0, locals := 21 }
set_option maxHeartbeats 4000000 in
set_option maxRecDepth 100000 in
theorem c_X7_valueAt {l : Launch} {D : va_G} {cA : Nat → ClassId} {sz : Nat} {g : gS} {p0 : Nat} {p1 : Int32} {Q : Int32 → Prop} (h : w_X7_valueAt g p0 p1 Q) : Met l yX7_valueAt wsX7_valueAt r_X7_valueAt (va_Pc [.ref p0, .int p1] (gPre D cA g sz)) (gQi D cA g sz (fun r g2 => g = g2 ∧ Q r)) 0 0 (gA g sz) := by
  refine g_met (cc := cX7_valueAt) (maxL := 2) (ret := (some .int)) (own := RX7) (by decide) rfl rfl (Nat.le_of_ble_eq_true rfl) ?_
  intro p e s m args below meth c ls CF hr hlk hnm hc hl
  obtain ⟨hx, hb, hml, hown, hts⟩ := id CF
  have hl : lv_has ls 2 [(0, .ref p0), (1, .int p1)] := hl
  show W p l e r_X7_valueAt s m args below meth c s.heap [] 0 0 (MQ below (gQi D cA g sz (fun r g2 => g = g2 ∧ Q r)) args s 0 0 (gA g sz)) (F0 m 0 ls [])
  have hb_27 : ∀ (is0 : Int32), b_X7_valueAt_27 g is0 Q → ∀ (H : Heap) (locs : List Loc) (ls : Array Slot), gC D cA (gA g sz) s g H locs → lv_has ls 2 [] → W p l e r_X7_valueAt s m args below meth c H locs 0 0 (MQ below (gQi D cA g sz (fun r g2 => g = g2 ∧ Q r)) args s 0 0 (gA g sz)) (F0 m 27 ls [.int is0]) := by
    intro is0 h H locs ls hc hl
    unfold b_X7_valueAt_27 at h
    exact g_reti (r := is0) CF hr hlk hc rfl ⟨rfl, h⟩ dX7_valueAt_27
  have hb_17 : b_X7_valueAt_17 g Q → ∀ (H : Heap) (locs : List Loc) (ls : Array Slot), gC D cA (gA g sz) s g H locs → lv_has ls 2 [] → W p l e r_X7_valueAt s m args below meth c H locs 0 0 (MQ below (gQi D cA g sz (fun r g2 => g = g2 ∧ Q r)) args s 0 0 (gA g sz)) (F0 m 17 ls []) := by
    intro h H locs ls hc hl
    unfold b_X7_valueAt_17 at h
    refine lv_iconst (v := (-1)) hx hb dX7_valueAt_17 (by decide) ?_
    refine lv_goto (tgt := 27) hx hb dX7_valueAt_18 (by decide) ?_
    exact hb_27 (-1) h _ _ _ hc (lv_sub hl [] rfl)
  unfold w_X7_valueAt at h
  obtain ⟨H, hH0⟩ : ∃ z, z = s.heap := ⟨_, rfl⟩
  rw [← hH0] at hc ⊢
  obtain ⟨locs, hlc0⟩ : ∃ z : List Loc, z = [] := ⟨_, rfl⟩
  rw [← hlc0] at hc ⊢
  refine lv_aload_n hx hb dX7_valueAt_0 rfl (lv_at hl 0 rfl) ?_
  refine lv_iload_n hx hb dX7_valueAt_1 rfl (lv_at hl 1 rfl) ?_
  obtain ⟨hk1, h⟩ := h
  refine g_calli (va_runV (As := [.int p1]) (rest := []) CF (c_X7_hasPlace h) (cwV 1 hts gX7_valueAt_X7_hasPlace rfl rfl rfl (by decide +kernel) ⟨Nat.le_of_ble_eq_true rfl, Nat.le_of_ble_eq_true rfl⟩) (hc.preV hk1 rfl (by decide)) rfl rfl hl.1 rfl (lv_room (Nat.le_of_ble_eq_true rfl)) dX7_valueAt_2 ⟨Nat.le_of_ble_eq_true rfl, Nat.le_of_ble_eq_true rfl⟩) hc (fun x2 gq3 H locs hq hc => ?_)
  obtain ⟨rfl, h⟩ := hq
  refine lv_if_eq (tgt := 17) hx hb dX7_valueAt_5 (by decide) (fun c4 => ?_) (fun c4 => ?_)
  · have h := h.1 c4
    exact hb_17  h _ _ _ hc (lv_sub hl [] rfl)
  · have h := h.2 c4
    refine lv_iload_n hx hb dX7_valueAt_8 rfl (lv_at hl 1 rfl) ?_
    refine lv_aload_n hx hb dX7_valueAt_9 rfl (lv_at hl 0 rfl) ?_
    obtain ⟨y5, e6, h⟩ := h
    refine g_getr CF hc hk1 rfl (by decide) (fun _ h9 => List.mem_cons_of_mem _ (List.mem_append_right _ (h9))) (k := 2) (by decide) (List.mem_cons_of_mem _ (List.mem_append_left _ (List.mem_of_getElem? (i := 0) rfl))) e6 rfl dX7_valueAt_10 ?_
    obtain ⟨hk7, h⟩ := h
    refine g_alen CF hc (j := 0) hk7 (by decide) dX7_valueAt_13 ?_
    refine lv_icmp_lt (tgt := 21) hx hb dX7_valueAt_14 (by decide) (fun c8 => ?_) (fun c8 => ?_)
    · have h := h.1 c8
      refine lv_aload_n hx hb dX7_valueAt_21 rfl (lv_at hl 0 rfl) ?_
      obtain ⟨y9, e10, h⟩ := h
      refine g_getr CF hc hk1 rfl (by decide) (fun _ h9 => List.mem_cons_of_mem _ (List.mem_append_right _ (h9))) (k := 2) (by decide) (List.mem_cons_of_mem _ (List.mem_append_left _ (List.mem_of_getElem? (i := 0) rfl))) e10 rfl dX7_valueAt_22 ?_
      refine lv_iload_n hx hb dX7_valueAt_25 rfl (lv_at hl 1 rfl) ?_
      obtain ⟨hk11, h⟩ := h
      obtain ⟨hi12, h⟩ := h
      refine g_iald CF hc hk11 hi12 dX7_valueAt_26 ?_
      exact hb_27 (gI g y9 (Int32.toNatClampNeg p1)) h _ _ _ hc (lv_sub hl [] rfl)
    · have h := h.2 c8
      exact hb_17  h _ _ _ hc (lv_sub hl [] rfl)
