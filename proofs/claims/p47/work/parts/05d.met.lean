def b_X7_isBetter_49 (g : gS) (is0 : Int32) (Q : Int32 → Prop) : Prop :=
  (is0 = 0 ∨ is0 = 1) ∧ (Q is0)
def b_X7_isBetter_44 (g : gS) (Q : Int32 → Prop) : Prop :=
  b_X7_isBetter_49 g 1 Q
def b_X7_isBetter_21 (g : gS) (Q : Int32 → Prop) : Prop :=
  Q 0
def w_X7_isBetter (g : gS) (p0 : Nat) (p1 : Nat) (p2 : Int32) (p3 : Int32) (Q : Int32 → Prop) : Prop :=
  gK g p0 = 8 ∧ (w_X7_documentAt g p0 p3 (fun o3 => ((o3 = none → (b_X7_isBetter_21 g Q)) ∧ (∀ y5, o3 = some y5 → (w_X7_valueAt g p0 p3 (fun x7 => ((x7 ≤ p2 → (w_X7_valueAt g p0 p3 (fun x10 => ((x10 < p2 → (b_X7_isBetter_44 g Q)) ∧ (¬ x10 < p2 → (gK g p1 = 3 ∧ (gK g y5 = 3 ∧ (((gI g p1 0) ≤ (gI g y5 0) → (b_X7_isBetter_49 g 0 Q)) ∧ (¬ (gI g p1 0) ≤ (gI g y5 0) → (b_X7_isBetter_44 g Q)))))))))) ∧ (¬ x7 ≤ p2 → (b_X7_isBetter_21 g Q)))))))))
abbrev r_X7_isBetter : Room := { frames := 2, cells := 0, slots := 0, locals := 42 }
set_option maxHeartbeats 4000000 in
set_option maxRecDepth 100000 in
theorem c_X7_isBetter {l : Launch} {D : va_G} {cA : Nat → ClassId} {sz : Nat} {g : gS} {p0 : Nat} {p1 : Nat} {p2 : Int32} {p3 : Int32} {Q : Int32 → Prop} (h : w_X7_isBetter g p0 p1 p2 p3 Q) : Met l yX7_isBetter wsX7_isBetter r_X7_isBetter (va_Pc [.ref p0, .ref p1, .int p2, .int p3] (gPre D cA g sz)) (gQi D cA g sz (fun r g2 => g = g2 ∧ Q r)) 0 0 (gA g sz) := by
  refine g_met (cc := cX7_isBetter) (maxL := 5) (ret := (some .boolean)) (own := RX7) (by decide) rfl rfl (Nat.le_of_ble_eq_true rfl) ?_
  intro p e s m args below meth c ls CF hr hlk hnm hc hl
  obtain ⟨hx, hb, hml, hown, hts⟩ := id CF
  have hl : lv_has ls 5 [(0, .ref p0), (1, .ref p1), (2, .int p2), (3, .int p3)] := hl
  show W p l e r_X7_isBetter s m args below meth c s.heap [] 0 0 (MQ below (gQi D cA g sz (fun r g2 => g = g2 ∧ Q r)) args s 0 0 (gA g sz)) (F0 m 0 ls [])
  have hb_49 : ∀ (is0 : Int32), b_X7_isBetter_49 g is0 Q → ∀ (H : Heap) (locs : List Loc) (ls : Array Slot), gC D cA (gA g sz) s g H locs → lv_has ls 5 [] → W p l e r_X7_isBetter s m args below meth c H locs 0 0 (MQ below (gQi D cA g sz (fun r g2 => g = g2 ∧ Q r)) args s 0 0 (gA g sz)) (F0 m 49 ls [.int is0]) := by
    intro is0 h H locs ls hc hl
    unfold b_X7_isBetter_49 at h
    obtain ⟨hz1, h⟩ := h
    exact g_reti (r := is0) CF hr hlk hc (narrow_01 hz1) ⟨rfl, h⟩ dX7_isBetter_49
  have hb_44 : b_X7_isBetter_44 g Q → ∀ (H : Heap) (locs : List Loc) (ls : Array Slot), gC D cA (gA g sz) s g H locs → lv_has ls 5 [] → W p l e r_X7_isBetter s m args below meth c H locs 0 0 (MQ below (gQi D cA g sz (fun r g2 => g = g2 ∧ Q r)) args s 0 0 (gA g sz)) (F0 m 44 ls []) := by
    intro h H locs ls hc hl
    unfold b_X7_isBetter_44 at h
    refine lv_iconst (v := 1) hx hb dX7_isBetter_44 (by decide) ?_
    refine lv_goto (tgt := 49) hx hb dX7_isBetter_45 (by decide) ?_
    exact hb_49 1 h _ _ _ hc (lv_sub hl [] rfl)
  have hb_21 : b_X7_isBetter_21 g Q → ∀ (H : Heap) (locs : List Loc) (ls : Array Slot), gC D cA (gA g sz) s g H locs → lv_has ls 5 [] → W p l e r_X7_isBetter s m args below meth c H locs 0 0 (MQ below (gQi D cA g sz (fun r g2 => g = g2 ∧ Q r)) args s 0 0 (gA g sz)) (F0 m 21 ls []) := by
    intro h H locs ls hc hl
    unfold b_X7_isBetter_21 at h
    refine lv_iconst (v := 0) hx hb dX7_isBetter_21 (by decide) ?_
    exact g_reti (r := 0) CF hr hlk hc (narrow_01 (by decide : (0 : Int32) = 0 ∨ (0 : Int32) = 1)) ⟨rfl, h⟩ dX7_isBetter_22
  unfold w_X7_isBetter at h
  obtain ⟨H, hH0⟩ : ∃ z, z = s.heap := ⟨_, rfl⟩
  rw [← hH0] at hc ⊢
  obtain ⟨locs, hlc0⟩ : ∃ z : List Loc, z = [] := ⟨_, rfl⟩
  rw [← hlc0] at hc ⊢
  refine lv_aload_n hx hb dX7_isBetter_0 rfl (lv_at hl 0 rfl) ?_
  refine lv_iload_n hx hb dX7_isBetter_1 rfl (lv_at hl 3 rfl) ?_
  obtain ⟨hk2, h⟩ := h
  refine g_callq (va_runV (As := [.int p3]) (rest := []) CF (c_X7_documentAt h) (cwV 1 hts gX7_isBetter_X7_documentAt rfl rfl rfl (by decide +kernel) ⟨Nat.le_of_ble_eq_true rfl, Nat.le_of_ble_eq_true rfl⟩) (hc.preV hk2 rfl (by decide)) rfl rfl hl.1 rfl (lv_room (Nat.le_of_ble_eq_true rfl)) dX7_isBetter_2 ⟨Nat.le_of_ble_eq_true rfl, Nat.le_of_ble_eq_true rfl⟩) hc (fun o3 gq4 H locs hq hc => ?_)
  obtain ⟨rfl, h⟩ := hq
  refine g_astoreq (lv' := [(4, va_rf o3), (0, .ref p0), (1, .ref p1), (2, .int p2), (3, .int p3)]) CF dX7_isBetter_5 hl (by decide) rfl (fun ls hl => ?_)
  refine g_aloadq CF dX7_isBetter_7 (lv_at hl 0 rfl) ?_
  refine g_ifnull (tgt := 21) CF dX7_isBetter_9 (by decide) (fun e6 => ?_) (fun y5 e6 => ?_)
  · have hu16 := h.1 e6
    subst e6
    have h := hu16
    exact hb_21  h _ _ _ hc (lv_sub hl [] rfl)
  · have hu16 := h.2 y5 e6
    subst e6
    have h := hu16
    refine lv_iload_n hx hb dX7_isBetter_12 rfl (lv_at hl 3 rfl) ?_
    refine lv_aload_n hx hb dX7_isBetter_13 rfl (lv_at hl 1 rfl) ?_
    refine lv_iload_n hx hb dX7_isBetter_14 rfl (lv_at hl 4 rfl) ?_
    refine g_calli (va_runV (As := [.int p3]) (rest := [.int p2]) CF (c_X7_valueAt h) (cwV 1 hts gX7_isBetter_X7_valueAt rfl rfl rfl (by decide +kernel) ⟨Nat.le_of_ble_eq_true rfl, Nat.le_of_ble_eq_true rfl⟩) (hc.preV hk2 rfl (by decide)) rfl rfl hl.1 rfl (lv_room (Nat.le_of_ble_eq_true rfl)) dX7_isBetter_15 ⟨Nat.le_of_ble_eq_true rfl, Nat.le_of_ble_eq_true rfl⟩) hc (fun x7 gq8 H locs hq hc => ?_)
    obtain ⟨rfl, h⟩ := hq
    refine lv_icmp_ge (tgt := 23) hx hb dX7_isBetter_18 (by decide) (fun c9 => ?_) (fun c9 => ?_)
    · have h := h.1 c9
      refine lv_iload_n hx hb dX7_isBetter_23 rfl (lv_at hl 3 rfl) ?_
      refine lv_aload_n hx hb dX7_isBetter_24 rfl (lv_at hl 1 rfl) ?_
      refine lv_iload_n hx hb dX7_isBetter_25 rfl (lv_at hl 4 rfl) ?_
      refine g_calli (va_runV (As := [.int p3]) (rest := [.int p2]) CF (c_X7_valueAt h) (cwV 1 hts gX7_isBetter_X7_valueAt rfl rfl rfl (by decide +kernel) ⟨Nat.le_of_ble_eq_true rfl, Nat.le_of_ble_eq_true rfl⟩) (hc.preV hk2 rfl (by decide)) rfl rfl hl.1 rfl (lv_room (Nat.le_of_ble_eq_true rfl)) dX7_isBetter_26 ⟨Nat.le_of_ble_eq_true rfl, Nat.le_of_ble_eq_true rfl⟩) hc (fun x10 gq11 H locs hq hc => ?_)
      obtain ⟨rfl, h⟩ := hq
      refine lv_icmp_gt (tgt := 44) hx hb dX7_isBetter_29 (by decide) (fun c12 => ?_) (fun c12 => ?_)
      · have h := h.1 c12
        exact hb_44  h _ _ _ hc (lv_sub hl [] rfl)
      · have h := h.2 c12
        refine lv_aload_n hx hb dX7_isBetter_32 rfl (lv_at hl 2 rfl) ?_
        obtain ⟨hk13, h⟩ := h
        refine g_get CF hc hk13 rfl (by decide) (fun _ h9 => List.mem_cons_of_mem _ (List.mem_append_left _ (List.mem_append_right _ (h9)))) (k := 0) (by decide) (List.mem_cons_of_mem _ (List.mem_append_left _ (List.mem_append_left _ (List.mem_of_getElem? (i := 0) rfl)))) rfl dX7_isBetter_33 ?_
        refine lv_aload hx hb dX7_isBetter_36 (lv_at hl 0 rfl) ?_
        obtain ⟨hk14, h⟩ := h
        refine g_get CF hc hk14 rfl (by decide) (fun _ h9 => List.mem_cons_of_mem _ (List.mem_append_left _ (List.mem_append_right _ (h9)))) (k := 0) (by decide) (List.mem_cons_of_mem _ (List.mem_append_left _ (List.mem_append_left _ (List.mem_of_getElem? (i := 0) rfl)))) rfl dX7_isBetter_38 ?_
        refine lv_icmp_le (tgt := 48) hx hb dX7_isBetter_41 (by decide) (fun c15 => ?_) (fun c15 => ?_)
        · have h := h.1 c15
          refine lv_iconst (v := 0) hx hb dX7_isBetter_48 (by decide) ?_
          exact hb_49 0 h _ _ _ hc (lv_sub hl [] rfl)
        · have h := h.2 c15
          exact hb_44  h _ _ _ hc (lv_sub hl [] rfl)
    · have h := h.2 c9
      exact hb_21  h _ _ _ hc (lv_sub hl [] rfl)
def b_X7_insert_95 (g : gS) (r0 : Nat) (r1 : Nat) (i2 : Int32) (i3 : Int32) (i4 : Int32) (Q : gS → Prop) : Prop :=
  gK g r0 = 8 ∧ (∃ y2, gR g r0 0 = some y2 ∧ (gK g y2 = 25 ∧ (vp_in i4 (gN g y2) ∧ (gK g r1 = 3 ∧ (∀ g7, g7 = sV g y2 (Int32.toNatClampNeg i4) (some r1) → (gK g7 r0 = 8 ∧ (∃ y10, gR g7 r0 1 = some y10 ∧ (gK g7 y10 = 21 ∧ (vp_in i4 (gN g7 y10) ∧ (∀ g14, g14 = sU g7 y10 (Int32.toNatClampNeg i4) i2 → (gK g14 r0 = 8 ∧ (∃ y17, gR g14 r0 2 = some y17 ∧ (gK g14 y17 = 21 ∧ (vp_in i4 (gN g14 y17) ∧ (∀ g21, g21 = sU g14 y17 (Int32.toNatClampNeg i4) i3 → (gK g21 r0 = 8 ∧ (∀ g24, g24 = sU g21 r0 3 ((gI g21 r0 3) + 1) → (Q g24))))))))))))))))))
def l_X7_insert_23 (r0 : Nat) (r1 : Nat) (i2 : Int32) (i3 : Int32) (Q : gS → Prop) (g : gS) (i4 : Int32) (k23 : gS → Int32 → Prop) : Prop :=
  (i4 ≤ 0 → (b_X7_insert_95 g r0 r1 i2 i3 i4 Q)) ∧ (¬ i4 ≤ 0 → (gK g r0 = 8 ∧ (w_X7_isBetter g r0 r1 i3 (i4 - 1) (fun x28 => ((x28 = 0 → (b_X7_insert_95 g r0 r1 i2 i3 i4 Q)) ∧ (¬ x28 = 0 → (∃ y31, gR g r0 0 = some y31 ∧ (∃ y33, gR g r0 0 = some y33 ∧ (gK g y33 = 25 ∧ (vp_in (i4 - 1) (gN g y33) ∧ (∀ o37, o37 = gR g y33 (Int32.toNatClampNeg (i4 - 1)) → (gK g y31 = 25 ∧ (vp_in i4 (gN g y31) ∧ (∃ y41, o37 = some y41 ∧ (gK g y41 = 3 ∧ (∀ g45, g45 = sV g y31 (Int32.toNatClampNeg i4) (some y41) → (gK g45 r0 = 8 ∧ (∃ y48, gR g45 r0 1 = some y48 ∧ (∃ y50, gR g45 r0 1 = some y50 ∧ (gK g45 y50 = 21 ∧ (vp_in (i4 - 1) (gN g45 y50) ∧ (gK g45 y48 = 21 ∧ (vp_in i4 (gN g45 y48) ∧ (∀ g56, g56 = sU g45 y48 (Int32.toNatClampNeg i4) (gI g45 y50 (Int32.toNatClampNeg (i4 - 1))) → (gK g56 r0 = 8 ∧ (∃ y59, gR g56 r0 2 = some y59 ∧ (∃ y61, gR g56 r0 2 = some y61 ∧ (gK g56 y61 = 21 ∧ (vp_in (i4 - 1) (gN g56 y61) ∧ (gK g56 y59 = 21 ∧ (vp_in i4 (gN g56 y59) ∧ (∀ g67, g67 = sU g56 y59 (Int32.toNatClampNeg i4) (gI g56 y61 (Int32.toNatClampNeg (i4 - 1))) → (k23 g67 (i4 + (-1)))))))))))))))))))))))))))))))))))
def b_X7_insert_16 (g : gS) (Q : gS → Prop) : Prop :=
  Q g
def w_X7_insert (g0 : gS) (p0 : Nat) (p1 : Option Nat) (p2 : Int32) (p3 : Int32) (Q : gS → Prop) : Prop :=
  (p1 = none → (b_X7_insert_16 g0 Q)) ∧ (∀ y69, p1 = some y69 → (gK g0 p0 = 8 ∧ (∃ y72, gR g0 p0 0 = some y72 ∧ (gK g0 y72 = 25 ∧ (((gI g0 p0 3) < (nI (gN g0 y72)) → (lpx2 (l_X7_insert_23 p0 y69 p2 p3 Q) g0 (gI g0 p0 3))) ∧ (¬ (gI g0 p0 3) < (nI (gN g0 y72)) → (b_X7_insert_16 g0 Q)))))))
abbrev r_X7_insert : Room := { frames := 3, cells := 0, slots := 0, locals := 66 }
set_option maxHeartbeats 4000000 in
set_option maxRecDepth 100000 in
theorem c_X7_insert {l : Launch} {D : va_G} {cA : Nat → ClassId} {sz : Nat} {g0 : gS} {p0 : Nat} {p1 : Option Nat} {p2 : Int32} {p3 : Int32} {Q : gS → Prop} (h : w_X7_insert g0 p0 p1 p2 p3 Q) : Met l yX7_insert wsX7_insert r_X7_insert (va_Pc [.ref p0, va_rf p1, .int p2, .int p3] (gPre D cA g0 sz)) (gQv D cA g0 sz (Q)) 0 0 (gA g0 sz) := by
  refine g_met (cc := cX7_insert) (maxL := 5) (ret := none) (own := RX7) (by decide) rfl rfl (by cases p1 <;> exact Nat.le_of_ble_eq_true rfl) ?_
  intro p e s m args below meth c ls CF hr hlk hnm hc hl
  obtain ⟨hx, hb, hml, hown, hts⟩ := id CF
  have hl : lv_has ls 5 [(0, .ref p0), (1, va_rf p1), (2, .int p2), (3, .int p3)] := (by cases p1 <;> exact hl)
  show W p l e r_X7_insert s m args below meth c s.heap [] 0 0 (MQ below (gQv D cA g0 sz (Q)) args s 0 0 (gA g0 sz)) (F0 m 0 ls [])
  have hb_95 : ∀ (g : gS) (r0 : Nat) (r1 : Nat) (i2 : Int32) (i3 : Int32) (i4 : Int32), b_X7_insert_95 g r0 r1 i2 i3 i4 Q → ∀ (H : Heap) (locs : List Loc) (ls : Array Slot), gC D cA (gA g0 sz) s g H locs → lv_has ls 5 [(0, .ref r0), (1, .ref r1), (2, .int i2), (3, .int i3), (4, .int i4)] → W p l e r_X7_insert s m args below meth c H locs 0 0 (MQ below (gQv D cA g0 sz (Q)) args s 0 0 (gA g0 sz)) (F0 m 95 ls []) := by
    intro g r0 r1 i2 i3 i4 h H locs ls hc hl
    unfold b_X7_insert_95 at h
    refine lv_aload_n hx hb dX7_insert_95 rfl (lv_at hl 0 rfl) ?_
    obtain ⟨hk1, h⟩ := h
    obtain ⟨y2, e3, h⟩ := h
    refine g_getr CF hc hk1 rfl (by decide) (fun _ h9 => List.mem_cons_of_mem _ (List.mem_append_left _ (List.mem_append_right _ (h9)))) (k := 0) (by decide) (List.mem_cons_of_mem _ (List.mem_append_left _ (List.mem_append_left _ (List.mem_of_getElem? (i := 1) rfl)))) e3 rfl dX7_insert_96 ?_
    refine lv_iload hx hb dX7_insert_99 (lv_at hl 4 rfl) ?_
    refine lv_aload_n hx hb dX7_insert_101 rfl (lv_at hl 1 rfl) ?_
    obtain ⟨hk4, h⟩ := h
    obtain ⟨hi5, h⟩ := h
    obtain ⟨hk6, h⟩ := h
    refine g_aast CF hc (j2 := 0) (ci := 2) (v := r1) hk4 (by decide) rfl (by decide) rfl hk6 hi5 dX7_insert_102 (fun H locs hc => ?_)
    obtain ⟨g7, eg8⟩ : ∃ z, z = sV g y2 (Int32.toNatClampNeg i4) (some r1) := ⟨_, rfl⟩
    have hc : gC D cA (gA g0 sz) s g7 H locs := by rw [eg8]; exact hc
    replace h := h g7 eg8
    refine lv_aload_n hx hb dX7_insert_103 rfl (lv_at hl 0 rfl) ?_
    obtain ⟨hk9, h⟩ := h
    obtain ⟨y10, e11, h⟩ := h
    refine g_getr CF hc hk9 rfl (by decide) (fun _ h9 => List.mem_cons_of_mem _ (List.mem_append_left _ (List.mem_append_right _ (h9)))) (k := 1) (by decide) (List.mem_cons_of_mem _ (List.mem_append_left _ (List.mem_append_left _ (List.mem_of_getElem? (i := 2) rfl)))) e11 rfl dX7_insert_104 ?_
    refine lv_iload hx hb dX7_insert_107 (lv_at hl 4 rfl) ?_
    refine lv_iload_n hx hb dX7_insert_109 rfl (lv_at hl 2 rfl) ?_
    obtain ⟨hk12, h⟩ := h
    obtain ⟨hi13, h⟩ := h
    refine g_iast CF hc hk12 (x := i2) hi13 dX7_insert_110 (fun H locs hc => ?_)
    obtain ⟨g14, eg15⟩ : ∃ z, z = sU g7 y10 (Int32.toNatClampNeg i4) i2 := ⟨_, rfl⟩
    have hc : gC D cA (gA g0 sz) s g14 H locs := by rw [eg15]; exact hc
    replace h := h g14 eg15
    refine lv_aload_n hx hb dX7_insert_111 rfl (lv_at hl 0 rfl) ?_
    obtain ⟨hk16, h⟩ := h
    obtain ⟨y17, e18, h⟩ := h
    refine g_getr CF hc hk16 rfl (by decide) (fun _ h9 => List.mem_cons_of_mem _ (List.mem_append_left _ (List.mem_append_right _ (h9)))) (k := 2) (by decide) (List.mem_cons_of_mem _ (List.mem_append_left _ (List.mem_append_left _ (List.mem_of_getElem? (i := 3) rfl)))) e18 rfl dX7_insert_112 ?_
    refine lv_iload hx hb dX7_insert_115 (lv_at hl 4 rfl) ?_
    refine lv_iload_n hx hb dX7_insert_117 rfl (lv_at hl 3 rfl) ?_
    obtain ⟨hk19, h⟩ := h
    obtain ⟨hi20, h⟩ := h
    refine g_iast CF hc hk19 (x := i3) hi20 dX7_insert_118 (fun H locs hc => ?_)
    obtain ⟨g21, eg22⟩ : ∃ z, z = sU g14 y17 (Int32.toNatClampNeg i4) i3 := ⟨_, rfl⟩
    have hc : gC D cA (gA g0 sz) s g21 H locs := by rw [eg22]; exact hc
    replace h := h g21 eg22
    refine lv_aload_n hx hb dX7_insert_119 rfl (lv_at hl 0 rfl) ?_
    refine lv_dup hx hb dX7_insert_120 rfl ?_
    obtain ⟨hk23, h⟩ := h
    refine g_get CF hc hk23 rfl (by decide) (fun _ h9 => List.mem_cons_of_mem _ (List.mem_append_left _ (List.mem_append_right _ (h9)))) (k := 3) (by decide) (List.mem_cons_of_mem _ (List.mem_append_left _ (List.mem_append_left _ (List.mem_of_getElem? (i := 0) rfl)))) rfl dX7_insert_121 ?_
    refine lv_iconst (v := 1) hx hb dX7_insert_124 (by decide) ?_
    refine lv_iadd hx hb dX7_insert_125 ?_
    refine g_puti CF hc hk23 rfl (by decide) (fun _ h9 => List.mem_cons_of_mem _ (List.mem_append_left _ (List.mem_append_right _ (h9)))) tyX7 tyX7_ok nmX7 (k := 3) (by decide) (List.mem_cons_of_mem _ (List.mem_append_left _ (List.mem_append_left _ (List.mem_of_getElem? (i := 0) rfl)))) rfl (v := ((gI g21 r0 3) + 1)) rfl rfl rfl dX7_insert_126 (fun H locs hc => ?_)
    obtain ⟨g24, eg25⟩ : ∃ z, z = sU g21 r0 3 ((gI g21 r0 3) + 1) := ⟨_, rfl⟩
    have hc : gC D cA (gA g0 sz) s g24 H locs := by rw [eg25]; exact hc
    replace h := h g24 eg25
    exact g_retv CF hr hlk hc h dX7_insert_129
  have hb_23 : ∀ (r0 : Nat) (r1 : Nat) (i2 : Int32) (i3 : Int32), ∀ (g : gS) (i4 : Int32), lpx2 (l_X7_insert_23 r0 r1 i2 i3 Q) g i4 → ∀ (H : Heap) (locs : List Loc) (ls : Array Slot), gC D cA (gA g0 sz) s g H locs → lv_has ls 5 [(0, .ref r0), (1, .ref r1), (2, .int i2), (3, .int i3), (4, .int i4)] → W p l e r_X7_insert s m args below meth c H locs 0 0 (MQ below (gQv D cA g0 sz (Q)) args s 0 0 (gA g0 sz)) (F0 m 23 ls []) := by
    intro r0 r1 i2 i3
    refine lpx2_run (P := fun (g : gS) (i4 : Int32) => ∀ (H : Heap) (locs : List Loc) (ls : Array Slot), gC D cA (gA g0 sz) s g H locs → lv_has ls 5 [(0, .ref r0), (1, .ref r1), (2, .int i2), (3, .int i3), (4, .int i4)] → W p l e r_X7_insert s m args below meth c H locs 0 0 (MQ below (gQv D cA g0 sz (Q)) args s 0 0 (gA g0 sz)) (F0 m 23 ls [])) ?_
    intro k23 hk_23 g i4 h H locs ls hc hl
    unfold l_X7_insert_23 at h
    refine lv_iload hx hb dX7_insert_23 (lv_at hl 4 rfl) ?_
    refine lv_if_le (tgt := 95) hx hb dX7_insert_25 (by decide) (fun c26 => ?_) (fun c26 => ?_)
    · have h := h.1 c26
      exact hb_95 g r0 r1 i2 i3 i4 h _ _ _ hc (lv_sub hl [0, 1, 2, 3, 4] rfl)
    · have h := h.2 c26
      refine lv_aload_n hx hb dX7_insert_28 rfl (lv_at hl 0 rfl) ?_
      refine lv_aload_n hx hb dX7_insert_29 rfl (lv_at hl 1 rfl) ?_
      refine lv_iload_n hx hb dX7_insert_30 rfl (lv_at hl 3 rfl) ?_
      refine lv_iload hx hb dX7_insert_31 (lv_at hl 4 rfl) ?_
      refine lv_iconst (v := 1) hx hb dX7_insert_33 (by decide) ?_
      refine lv_isub hx hb dX7_insert_34 ?_
      obtain ⟨hk27, h⟩ := h
      refine g_calli (va_runV (As := [.ref r1, .int i3, .int (i4 - 1)]) (rest := []) CF (c_X7_isBetter h) (cwV 3 hts gX7_insert_X7_isBetter rfl rfl rfl (by decide +kernel) ⟨Nat.le_of_ble_eq_true rfl, Nat.le_of_ble_eq_true rfl⟩) (hc.preV hk27 rfl (by decide)) rfl rfl hl.1 rfl (lv_room (Nat.le_of_ble_eq_true rfl)) dX7_insert_35 ⟨Nat.le_of_ble_eq_true rfl, Nat.le_of_ble_eq_true rfl⟩) hc (fun x28 gq29 H locs hq hc => ?_)
      obtain ⟨rfl, h⟩ := hq
      refine lv_if_eq (tgt := 95) hx hb dX7_insert_38 (by decide) (fun c30 => ?_) (fun c30 => ?_)
      · have h := h.1 c30
        exact hb_95 g r0 r1 i2 i3 i4 h _ _ _ hc (lv_sub hl [0, 1, 2, 3, 4] rfl)
      · have h := h.2 c30
        refine lv_aload_n hx hb dX7_insert_41 rfl (lv_at hl 0 rfl) ?_
        obtain ⟨y31, e32, h⟩ := h
        refine g_getr CF hc hk27 rfl (by decide) (fun _ h9 => List.mem_cons_of_mem _ (List.mem_append_left _ (List.mem_append_right _ (h9)))) (k := 0) (by decide) (List.mem_cons_of_mem _ (List.mem_append_left _ (List.mem_append_left _ (List.mem_of_getElem? (i := 1) rfl)))) e32 rfl dX7_insert_42 ?_
        refine lv_iload hx hb dX7_insert_45 (lv_at hl 4 rfl) ?_
        refine lv_aload_n hx hb dX7_insert_47 rfl (lv_at hl 0 rfl) ?_
        obtain ⟨y33, e34, h⟩ := h
        refine g_getr CF hc hk27 rfl (by decide) (fun _ h9 => List.mem_cons_of_mem _ (List.mem_append_left _ (List.mem_append_right _ (h9)))) (k := 0) (by decide) (List.mem_cons_of_mem _ (List.mem_append_left _ (List.mem_append_left _ (List.mem_of_getElem? (i := 1) rfl)))) e34 rfl dX7_insert_48 ?_
        refine lv_iload hx hb dX7_insert_51 (lv_at hl 4 rfl) ?_
        refine lv_iconst (v := 1) hx hb dX7_insert_53 (by decide) ?_
        refine lv_isub hx hb dX7_insert_54 ?_
        obtain ⟨hk35, h⟩ := h
        obtain ⟨hi36, h⟩ := h
        refine g_aald CF hc (j := 1) hk35 (by decide) hi36 dX7_insert_55 ?_
        obtain ⟨o37, eo38⟩ : ∃ z, z = gR g y33 (Int32.toNatClampNeg (i4 - 1)) := ⟨_, rfl⟩
        rw [← eo38]
        replace h := h o37 eo38
        obtain ⟨hk39, h⟩ := h
        obtain ⟨hi40, h⟩ := h
        obtain ⟨y41, e42, hu43⟩ := h
        subst e42
        have h := hu43
        obtain ⟨hk44, h⟩ := h
        refine g_aast CF hc (j2 := 0) (ci := 2) (v := y41) hk39 (by decide) rfl (by decide) rfl hk44 hi40 dX7_insert_56 (fun H locs hc => ?_)
        obtain ⟨g45, eg46⟩ : ∃ z, z = sV g y31 (Int32.toNatClampNeg i4) (some y41) := ⟨_, rfl⟩
        have hc : gC D cA (gA g0 sz) s g45 H locs := by rw [eg46]; exact hc
        replace h := h g45 eg46
        refine lv_aload_n hx hb dX7_insert_57 rfl (lv_at hl 0 rfl) ?_
        obtain ⟨hk47, h⟩ := h
        obtain ⟨y48, e49, h⟩ := h
        refine g_getr CF hc hk47 rfl (by decide) (fun _ h9 => List.mem_cons_of_mem _ (List.mem_append_left _ (List.mem_append_right _ (h9)))) (k := 1) (by decide) (List.mem_cons_of_mem _ (List.mem_append_left _ (List.mem_append_left _ (List.mem_of_getElem? (i := 2) rfl)))) e49 rfl dX7_insert_58 ?_
        refine lv_iload hx hb dX7_insert_61 (lv_at hl 4 rfl) ?_
        refine lv_aload_n hx hb dX7_insert_63 rfl (lv_at hl 0 rfl) ?_
        obtain ⟨y50, e51, h⟩ := h
        refine g_getr CF hc hk47 rfl (by decide) (fun _ h9 => List.mem_cons_of_mem _ (List.mem_append_left _ (List.mem_append_right _ (h9)))) (k := 1) (by decide) (List.mem_cons_of_mem _ (List.mem_append_left _ (List.mem_append_left _ (List.mem_of_getElem? (i := 2) rfl)))) e51 rfl dX7_insert_64 ?_
        refine lv_iload hx hb dX7_insert_67 (lv_at hl 4 rfl) ?_
        refine lv_iconst (v := 1) hx hb dX7_insert_69 (by decide) ?_
        refine lv_isub hx hb dX7_insert_70 ?_
        obtain ⟨hk52, h⟩ := h
        obtain ⟨hi53, h⟩ := h
        refine g_iald CF hc hk52 hi53 dX7_insert_71 ?_
        obtain ⟨hk54, h⟩ := h
        obtain ⟨hi55, h⟩ := h
        refine g_iast CF hc hk54 (x := (gI g45 y50 (Int32.toNatClampNeg (i4 - 1)))) hi55 dX7_insert_72 (fun H locs hc => ?_)
        obtain ⟨g56, eg57⟩ : ∃ z, z = sU g45 y48 (Int32.toNatClampNeg i4) (gI g45 y50 (Int32.toNatClampNeg (i4 - 1))) := ⟨_, rfl⟩
        have hc : gC D cA (gA g0 sz) s g56 H locs := by rw [eg57]; exact hc
        replace h := h g56 eg57
        refine lv_aload_n hx hb dX7_insert_73 rfl (lv_at hl 0 rfl) ?_
        obtain ⟨hk58, h⟩ := h
        obtain ⟨y59, e60, h⟩ := h
        refine g_getr CF hc hk58 rfl (by decide) (fun _ h9 => List.mem_cons_of_mem _ (List.mem_append_left _ (List.mem_append_right _ (h9)))) (k := 2) (by decide) (List.mem_cons_of_mem _ (List.mem_append_left _ (List.mem_append_left _ (List.mem_of_getElem? (i := 3) rfl)))) e60 rfl dX7_insert_74 ?_
        refine lv_iload hx hb dX7_insert_77 (lv_at hl 4 rfl) ?_
        refine lv_aload_n hx hb dX7_insert_79 rfl (lv_at hl 0 rfl) ?_
        obtain ⟨y61, e62, h⟩ := h
        refine g_getr CF hc hk58 rfl (by decide) (fun _ h9 => List.mem_cons_of_mem _ (List.mem_append_left _ (List.mem_append_right _ (h9)))) (k := 2) (by decide) (List.mem_cons_of_mem _ (List.mem_append_left _ (List.mem_append_left _ (List.mem_of_getElem? (i := 3) rfl)))) e62 rfl dX7_insert_80 ?_
        refine lv_iload hx hb dX7_insert_83 (lv_at hl 4 rfl) ?_
        refine lv_iconst (v := 1) hx hb dX7_insert_85 (by decide) ?_
        refine lv_isub hx hb dX7_insert_86 ?_
        obtain ⟨hk63, h⟩ := h
        obtain ⟨hi64, h⟩ := h
        refine g_iald CF hc hk63 hi64 dX7_insert_87 ?_
        obtain ⟨hk65, h⟩ := h
        obtain ⟨hi66, h⟩ := h
        refine g_iast CF hc hk65 (x := (gI g56 y61 (Int32.toNatClampNeg (i4 - 1)))) hi66 dX7_insert_88 (fun H locs hc => ?_)
        obtain ⟨g67, eg68⟩ : ∃ z, z = sU g56 y59 (Int32.toNatClampNeg i4) (gI g56 y61 (Int32.toNatClampNeg (i4 - 1))) := ⟨_, rfl⟩
        have hc : gC D cA (gA g0 sz) s g67 H locs := by rw [eg68]; exact hc
        replace h := h g67 eg68
        refine lv_iinc (v := (i4 + (-1))) (lv' := [(4, .int (i4 + (-1))), (0, .ref r0), (1, .ref r1), (2, .int i2), (3, .int i3)]) hx hb dX7_insert_89 hl (k := 4) rfl rfl (by decide) rfl (fun ls hl => ?_)
        refine lv_goto (tgt := 23) hx hb dX7_insert_92 (by decide) ?_
        exact hk_23 g67 (i4 + (-1)) h _ _ _ hc (lv_sub hl [1, 2, 3, 4, 0] rfl)
  have hb_16 : ∀ (g : gS), b_X7_insert_16 g Q → ∀ (H : Heap) (locs : List Loc) (ls : Array Slot), gC D cA (gA g0 sz) s g H locs → lv_has ls 5 [] → W p l e r_X7_insert s m args below meth c H locs 0 0 (MQ below (gQv D cA g0 sz (Q)) args s 0 0 (gA g0 sz)) (F0 m 16 ls []) := by
    intro g h H locs ls hc hl
    unfold b_X7_insert_16 at h
    exact g_retv CF hr hlk hc h dX7_insert_16
  unfold w_X7_insert at h
  obtain ⟨H, hH0⟩ : ∃ z, z = s.heap := ⟨_, rfl⟩
  rw [← hH0] at hc ⊢
  obtain ⟨locs, hlc0⟩ : ∃ z : List Loc, z = [] := ⟨_, rfl⟩
  rw [← hlc0] at hc ⊢
  refine g_aload_nq CF dX7_insert_0 rfl (lv_at hl 1 rfl) ?_
  refine g_ifnull (tgt := 16) CF dX7_insert_1 (by decide) (fun e70 => ?_) (fun y69 e70 => ?_)
  · have hu76 := h.1 e70
    subst e70
    have h := hu76
    exact hb_16 g0 h _ _ _ hc (lv_sub hl [] rfl)
  · have hu76 := h.2 y69 e70
    subst e70
    have h := hu76
    refine lv_aload_n hx hb dX7_insert_4 rfl (lv_at hl 0 rfl) ?_
    obtain ⟨hk71, h⟩ := h
    refine g_get CF hc hk71 rfl (by decide) (fun _ h9 => List.mem_cons_of_mem _ (List.mem_append_left _ (List.mem_append_right _ (h9)))) (k := 3) (by decide) (List.mem_cons_of_mem _ (List.mem_append_left _ (List.mem_append_left _ (List.mem_of_getElem? (i := 0) rfl)))) rfl dX7_insert_5 ?_
    refine lv_aload_n hx hb dX7_insert_8 rfl (lv_at hl 0 rfl) ?_
    obtain ⟨y72, e73, h⟩ := h
    refine g_getr CF hc hk71 rfl (by decide) (fun _ h9 => List.mem_cons_of_mem _ (List.mem_append_left _ (List.mem_append_right _ (h9)))) (k := 0) (by decide) (List.mem_cons_of_mem _ (List.mem_append_left _ (List.mem_append_left _ (List.mem_of_getElem? (i := 1) rfl)))) e73 rfl dX7_insert_9 ?_
    obtain ⟨hk74, h⟩ := h
    refine g_alen CF hc (j := 4) hk74 (by decide) dX7_insert_12 ?_
    refine lv_icmp_lt (tgt := 17) hx hb dX7_insert_13 (by decide) (fun c75 => ?_) (fun c75 => ?_)
    · have h := h.1 c75
      refine lv_aload_n hx hb dX7_insert_17 rfl (lv_at hl 0 rfl) ?_
      refine g_get CF hc hk71 rfl (by decide) (fun _ h9 => List.mem_cons_of_mem _ (List.mem_append_left _ (List.mem_append_right _ (h9)))) (k := 3) (by decide) (List.mem_cons_of_mem _ (List.mem_append_left _ (List.mem_append_left _ (List.mem_of_getElem? (i := 0) rfl)))) rfl dX7_insert_18 ?_
      refine lv_istore (lv' := [(4, .int (gI g0 p0 3)), (0, .ref p0), (1, .ref y69), (2, .int p2), (3, .int p3)]) hx hb dX7_insert_21 hl (by decide) rfl (fun ls hl => ?_)
      exact hb_23 p0 y69 p2 p3 g0 (gI g0 p0 3) h _ _ _ hc (lv_sub hl [1, 2, 3, 4, 0] rfl)
    · have h := h.2 c75
      exact hb_16 g0 h _ _ _ hc (lv_sub hl [] rfl)
def b_X7_numberAt_27 (g : gS) (is0 : Int32) (Q : Int32 → Prop) : Prop :=
  Q is0
def b_X7_numberAt_17 (g : gS) (Q : Int32 → Prop) : Prop :=
  b_X7_numberAt_27 g (-1) Q
def w_X7_numberAt (g : gS) (p0 : Nat) (p1 : Int32) (Q : Int32 → Prop) : Prop :=
  gK g p0 = 8 ∧ (w_X7_hasPlace g p0 p1 (fun x2 => ((x2 = 0 → (b_X7_numberAt_17 g Q)) ∧ (¬ x2 = 0 → (∃ y5, gR g p0 1 = some y5 ∧ (gK g y5 = 21 ∧ ((p1 < (nI (gN g y5)) → (∃ y9, gR g p0 1 = some y9 ∧ (gK g y9 = 21 ∧ (vp_in p1 (gN g y9) ∧ (b_X7_numberAt_27 g (gI g y9 (Int32.toNatClampNeg p1)) Q))))) ∧ (¬ p1 < (nI (gN g y5)) → (b_X7_numberAt_17 g Q)))))))))
abbrev r_X7_numberAt : Room := { frames := 1, cells := 0, slots := 0, locals := 21 }
set_option maxHeartbeats 4000000 in
set_option maxRecDepth 100000 in
theorem c_X7_numberAt {l : Launch} {D : va_G} {cA : Nat → ClassId} {sz : Nat} {g : gS} {p0 : Nat} {p1 : Int32} {Q : Int32 → Prop} (h : w_X7_numberAt g p0 p1 Q) : Met l yX7_numberAt wsX7_numberAt r_X7_numberAt (va_Pc [.ref p0, .int p1] (gPre D cA g sz)) (gQi D cA g sz (fun r g2 => g = g2 ∧ Q r)) 0 0 (gA g sz) := by
  refine g_met (cc := cX7_numberAt) (maxL := 2) (ret := (some .int)) (own := RX7) (by decide) rfl rfl (Nat.le_of_ble_eq_true rfl) ?_
  intro p e s m args below meth c ls CF hr hlk hnm hc hl
  obtain ⟨hx, hb, hml, hown, hts⟩ := id CF
  have hl : lv_has ls 2 [(0, .ref p0), (1, .int p1)] := hl
  show W p l e r_X7_numberAt s m args below meth c s.heap [] 0 0 (MQ below (gQi D cA g sz (fun r g2 => g = g2 ∧ Q r)) args s 0 0 (gA g sz)) (F0 m 0 ls [])
  have hb_27 : ∀ (is0 : Int32), b_X7_numberAt_27 g is0 Q → ∀ (H : Heap) (locs : List Loc) (ls : Array Slot), gC D cA (gA g sz) s g H locs → lv_has ls 2 [] → W p l e r_X7_numberAt s m args below meth c H locs 0 0 (MQ below (gQi D cA g sz (fun r g2 => g = g2 ∧ Q r)) args s 0 0 (gA g sz)) (F0 m 27 ls [.int is0]) := by
    intro is0 h H locs ls hc hl
    unfold b_X7_numberAt_27 at h
    exact g_reti (r := is0) CF hr hlk hc rfl ⟨rfl, h⟩ dX7_numberAt_27
  have hb_17 : b_X7_numberAt_17 g Q → ∀ (H : Heap) (locs : List Loc) (ls : Array Slot), gC D cA (gA g sz) s g H locs → lv_has ls 2 [] → W p l e r_X7_numberAt s m args below meth c H locs 0 0 (MQ below (gQi D cA g sz (fun r g2 => g = g2 ∧ Q r)) args s 0 0 (gA g sz)) (F0 m 17 ls []) := by
    intro h H locs ls hc hl
    unfold b_X7_numberAt_17 at h
    refine lv_iconst (v := (-1)) hx hb dX7_numberAt_17 (by decide) ?_
    refine lv_goto (tgt := 27) hx hb dX7_numberAt_18 (by decide) ?_
    exact hb_27 (-1) h _ _ _ hc (lv_sub hl [] rfl)
  unfold w_X7_numberAt at h
  obtain ⟨H, hH0⟩ : ∃ z, z = s.heap := ⟨_, rfl⟩
  rw [← hH0] at hc ⊢
  obtain ⟨locs, hlc0⟩ : ∃ z : List Loc, z = [] := ⟨_, rfl⟩
  rw [← hlc0] at hc ⊢
  refine lv_aload_n hx hb dX7_numberAt_0 rfl (lv_at hl 0 rfl) ?_
  refine lv_iload_n hx hb dX7_numberAt_1 rfl (lv_at hl 1 rfl) ?_
  obtain ⟨hk1, h⟩ := h
  refine g_calli (va_runV (As := [.int p1]) (rest := []) CF (c_X7_hasPlace h) (cwV 1 hts gX7_numberAt_X7_hasPlace rfl rfl rfl (by decide +kernel) ⟨Nat.le_of_ble_eq_true rfl, Nat.le_of_ble_eq_true rfl⟩) (hc.preV hk1 rfl (by decide)) rfl rfl hl.1 rfl (lv_room (Nat.le_of_ble_eq_true rfl)) dX7_numberAt_2 ⟨Nat.le_of_ble_eq_true rfl, Nat.le_of_ble_eq_true rfl⟩) hc (fun x2 gq3 H locs hq hc => ?_)
  obtain ⟨rfl, h⟩ := hq
  refine lv_if_eq (tgt := 17) hx hb dX7_numberAt_5 (by decide) (fun c4 => ?_) (fun c4 => ?_)
  · have h := h.1 c4
    exact hb_17  h _ _ _ hc (lv_sub hl [] rfl)
  · have h := h.2 c4
    refine lv_iload_n hx hb dX7_numberAt_8 rfl (lv_at hl 1 rfl) ?_
    refine lv_aload_n hx hb dX7_numberAt_9 rfl (lv_at hl 0 rfl) ?_
    obtain ⟨y5, e6, h⟩ := h
    refine g_getr CF hc hk1 rfl (by decide) (fun _ h9 => List.mem_cons_of_mem _ (List.mem_append_right _ (h9))) (k := 1) (by decide) (List.mem_cons_of_mem _ (List.mem_append_left _ (List.mem_of_getElem? (i := 0) rfl))) e6 rfl dX7_numberAt_10 ?_
    obtain ⟨hk7, h⟩ := h
    refine g_alen CF hc (j := 0) hk7 (by decide) dX7_numberAt_13 ?_
    refine lv_icmp_lt (tgt := 21) hx hb dX7_numberAt_14 (by decide) (fun c8 => ?_) (fun c8 => ?_)
    · have h := h.1 c8
      refine lv_aload_n hx hb dX7_numberAt_21 rfl (lv_at hl 0 rfl) ?_
      obtain ⟨y9, e10, h⟩ := h
      refine g_getr CF hc hk1 rfl (by decide) (fun _ h9 => List.mem_cons_of_mem _ (List.mem_append_right _ (h9))) (k := 1) (by decide) (List.mem_cons_of_mem _ (List.mem_append_left _ (List.mem_of_getElem? (i := 0) rfl))) e10 rfl dX7_numberAt_22 ?_
      refine lv_iload_n hx hb dX7_numberAt_25 rfl (lv_at hl 1 rfl) ?_
      obtain ⟨hk11, h⟩ := h
      obtain ⟨hi12, h⟩ := h
      refine g_iald CF hc hk11 hi12 dX7_numberAt_26 ?_
      exact hb_27 (gI g y9 (Int32.toNatClampNeg p1)) h _ _ _ hc (lv_sub hl [] rfl)
    · have h := h.2 c8
      exact hb_17  h _ _ _ hc (lv_sub hl [] rfl)
def b_X7_countKind_36 (g : gS) (r0 : Nat) (i1 : Int32) (i2 : Int32) (i3 : Int32) (Q : Int32 → Prop) (k4 : Int32 → Int32 → Prop) : Prop :=
  k4 i2 (i3 + 1)
def l_X7_countKind_4 (g : gS) (r0 : Nat) (i1 : Int32) (Q : Int32 → Prop) (i2 : Int32) (i3 : Int32) (k4 : Int32 → Int32 → Prop) : Prop :=
  gK g r0 = 8 ∧ (((gI g r0 3) ≤ i3 → (Q i2)) ∧ (¬ (gI g r0 3) ≤ i3 → (w_X7_documentAt g r0 i3 (fun o3 => ((o3 = none → (b_X7_countKind_36 g r0 i1 i2 i3 Q k4)) ∧ (∀ y5, o3 = some y5 → (gK g y5 = 3 ∧ (((gI g y5 1) = i1 → (b_X7_countKind_36 g r0 i1 (i2 + 1) i3 Q k4)) ∧ (¬ (gI g y5 1) = i1 → (b_X7_countKind_36 g r0 i1 i2 i3 Q k4))))))))))
def w_X7_countKind (g : gS) (p0 : Nat) (p1 : Int32) (Q : Int32 → Prop) : Prop :=
  lpx2 (l_X7_countKind_4 g p0 p1 Q) 0 0
abbrev r_X7_countKind : Room := { frames := 2, cells := 0, slots := 0, locals := 42 }
set_option maxHeartbeats 4000000 in
set_option maxRecDepth 100000 in
theorem c_X7_countKind {l : Launch} {D : va_G} {cA : Nat → ClassId} {sz : Nat} {g : gS} {p0 : Nat} {p1 : Int32} {Q : Int32 → Prop} (h : w_X7_countKind g p0 p1 Q) : Met l yX7_countKind wsX7_countKind r_X7_countKind (va_Pc [.ref p0, .int p1] (gPre D cA g sz)) (gQi D cA g sz (fun r g2 => g = g2 ∧ Q r)) 0 0 (gA g sz) := by
  refine g_met (cc := cX7_countKind) (maxL := 5) (ret := (some .int)) (own := RX7) (by decide) rfl rfl (Nat.le_of_ble_eq_true rfl) ?_
  intro p e s m args below meth c ls CF hr hlk hnm hc hl
  obtain ⟨hx, hb, hml, hown, hts⟩ := id CF
  have hl : lv_has ls 5 [(0, .ref p0), (1, .int p1)] := hl
  show W p l e r_X7_countKind s m args below meth c s.heap [] 0 0 (MQ below (gQi D cA g sz (fun r g2 => g = g2 ∧ Q r)) args s 0 0 (gA g sz)) (F0 m 0 ls [])
  have hb_4 : ∀ (r0 : Nat) (i1 : Int32), ∀ (i2 : Int32) (i3 : Int32), lpx2 (l_X7_countKind_4 g r0 i1 Q) i2 i3 → ∀ (H : Heap) (locs : List Loc) (ls : Array Slot), gC D cA (gA g sz) s g H locs → lv_has ls 5 [(0, .ref r0), (1, .int i1), (2, .int i2), (3, .int i3)] → W p l e r_X7_countKind s m args below meth c H locs 0 0 (MQ below (gQi D cA g sz (fun r g2 => g = g2 ∧ Q r)) args s 0 0 (gA g sz)) (F0 m 4 ls []) := by
    intro r0 i1
    refine lpx2_run (P := fun (i2 : Int32) (i3 : Int32) => ∀ (H : Heap) (locs : List Loc) (ls : Array Slot), gC D cA (gA g sz) s g H locs → lv_has ls 5 [(0, .ref r0), (1, .int i1), (2, .int i2), (3, .int i3)] → W p l e r_X7_countKind s m args below meth c H locs 0 0 (MQ below (gQi D cA g sz (fun r g2 => g = g2 ∧ Q r)) args s 0 0 (gA g sz)) (F0 m 4 ls [])) ?_
    intro k4 hk_4 i2 i3 h H locs ls hc hl
    have hb_36 : ∀ (i2 : Int32) (i3 : Int32), b_X7_countKind_36 g r0 i1 i2 i3 Q k4 → ∀ (H : Heap) (locs : List Loc) (ls : Array Slot), gC D cA (gA g sz) s g H locs → lv_has ls 5 [(0, .ref r0), (1, .int i1), (2, .int i2), (3, .int i3)] → W p l e r_X7_countKind s m args below meth c H locs 0 0 (MQ below (gQi D cA g sz (fun r g2 => g = g2 ∧ Q r)) args s 0 0 (gA g sz)) (F0 m 36 ls []) := by
      intro i2 i3 h H locs ls hc hl
      unfold b_X7_countKind_36 at h
      refine lv_iinc (v := (i3 + 1)) (lv' := [(3, .int (i3 + 1)), (0, .ref r0), (1, .int i1), (2, .int i2)]) hx hb dX7_countKind_36 hl (k := 3) rfl rfl (by decide) rfl (fun ls hl => ?_)
      refine lv_goto (tgt := 4) hx hb dX7_countKind_39 (by decide) ?_
      exact hk_4 i2 (i3 + 1) h _ _ _ hc (lv_sub hl [1, 2, 3, 0] rfl)
    unfold l_X7_countKind_4 at h
    refine lv_iload_n hx hb dX7_countKind_4 rfl (lv_at hl 3 rfl) ?_
    refine lv_aload_n hx hb dX7_countKind_5 rfl (lv_at hl 0 rfl) ?_
    obtain ⟨hk1, h⟩ := h
    refine g_get CF hc hk1 rfl (by decide) (fun _ h9 => List.mem_cons_of_mem _ (List.mem_append_left _ (List.mem_append_right _ (h9)))) (k := 3) (by decide) (List.mem_cons_of_mem _ (List.mem_append_left _ (List.mem_append_left _ (List.mem_of_getElem? (i := 0) rfl)))) rfl dX7_countKind_6 ?_
    refine lv_icmp_ge (tgt := 42) hx hb dX7_countKind_9 (by decide) (fun c2 => ?_) (fun c2 => ?_)
    · have h := h.1 c2
      refine lv_iload_n hx hb dX7_countKind_42 rfl (lv_at hl 2 rfl) ?_
      exact g_reti (r := i2) CF hr hlk hc rfl ⟨rfl, h⟩ dX7_countKind_43
    · have h := h.2 c2
      refine lv_aload_n hx hb dX7_countKind_12 rfl (lv_at hl 0 rfl) ?_
      refine lv_iload_n hx hb dX7_countKind_13 rfl (lv_at hl 3 rfl) ?_
      refine g_callq (va_runV (As := [.int i3]) (rest := []) CF (c_X7_documentAt h) (cwV 1 hts gX7_countKind_X7_documentAt rfl rfl rfl (by decide +kernel) ⟨Nat.le_of_ble_eq_true rfl, Nat.le_of_ble_eq_true rfl⟩) (hc.preV hk1 rfl (by decide)) rfl rfl hl.1 rfl (lv_room (Nat.le_of_ble_eq_true rfl)) dX7_countKind_14 ⟨Nat.le_of_ble_eq_true rfl, Nat.le_of_ble_eq_true rfl⟩) hc (fun o3 gq4 H locs hq hc => ?_)
      obtain ⟨rfl, h⟩ := hq
      refine g_astoreq (lv' := [(4, va_rf o3), (0, .ref r0), (1, .int i1), (2, .int i2), (3, .int i3)]) CF dX7_countKind_17 hl (by decide) rfl (fun ls hl => ?_)
      refine g_aloadq CF dX7_countKind_19 (lv_at hl 0 rfl) ?_
      refine g_ifnull (tgt := 36) CF dX7_countKind_21 (by decide) (fun e6 => ?_) (fun y5 e6 => ?_)
      · have hu9 := h.1 e6
        subst e6
        have h := hu9
        exact hb_36 i2 i3 h _ _ _ hc (lv_sub hl [1, 2, 3, 4] rfl)
      · have hu9 := h.2 y5 e6
        subst e6
        have h := hu9
        refine lv_aload hx hb dX7_countKind_24 (lv_at hl 0 rfl) ?_
        obtain ⟨hk7, h⟩ := h
        refine g_get CF hc hk7 rfl (by decide) (fun _ h9 => List.mem_cons_of_mem _ (List.mem_append_right _ (h9))) (k := 1) (by decide) (List.mem_cons_of_mem _ (List.mem_append_left _ (List.mem_append_left _ (List.mem_of_getElem? (i := 1) rfl)))) rfl dX7_countKind_26 ?_
        refine lv_iload_n hx hb dX7_countKind_29 rfl (lv_at hl 2 rfl) ?_
        refine lv_icmp_ne (tgt := 36) hx hb dX7_countKind_30 (by decide) (fun c8 => ?_) (fun c8 => ?_)
        · have h := h.2 c8
          exact hb_36 i2 i3 h _ _ _ hc (lv_sub hl [1, 2, 3, 4] rfl)
        · have h := h.1 c8
          refine lv_iinc (v := (i2 + 1)) (lv' := [(2, .int (i2 + 1)), (4, .ref y5), (0, .ref r0), (1, .int i1), (3, .int i3)]) hx hb dX7_countKind_33 hl (k := 3) rfl rfl (by decide) rfl (fun ls hl => ?_)
          exact hb_36 (i2 + 1) i3 h _ _ _ hc (lv_sub hl [2, 3, 0, 4] rfl)
  unfold w_X7_countKind at h
  obtain ⟨H, hH0⟩ : ∃ z, z = s.heap := ⟨_, rfl⟩
  rw [← hH0] at hc ⊢
  obtain ⟨locs, hlc0⟩ : ∃ z : List Loc, z = [] := ⟨_, rfl⟩
  rw [← hlc0] at hc ⊢
  refine lv_iconst (v := 0) hx hb dX7_countKind_0 (by decide) ?_
  refine lv_istore_n (lv' := [(2, .int 0), (0, .ref p0), (1, .int p1)]) hx hb dX7_countKind_1 rfl hl (by decide) rfl (fun ls hl => ?_)
  refine lv_iconst (v := 0) hx hb dX7_countKind_2 (by decide) ?_
  refine lv_istore_n (lv' := [(3, .int 0), (2, .int 0), (0, .ref p0), (1, .int p1)]) hx hb dX7_countKind_3 rfl hl (by decide) rfl (fun ls hl => ?_)
  exact hb_4 p0 p1 0 0 h _ _ _ hc (lv_sub hl [2, 3, 1, 0] rfl)
def b_X7_countDates_48 (g : gS) (r0 : Nat) (i1 : Int32) (i2 : Int32) (i3 : Int32) (i4 : Int32) (Q : Int32 → Prop) (k5 : Int32 → Int32 → Prop) : Prop :=
  k5 i3 (i4 + 1)
def l_X7_countDates_5 (g : gS) (r0 : Nat) (i1 : Int32) (i2 : Int32) (Q : Int32 → Prop) (i3 : Int32) (i4 : Int32) (k5 : Int32 → Int32 → Prop) : Prop :=
  gK g r0 = 8 ∧ (((gI g r0 3) ≤ i4 → (Q i3)) ∧ (¬ (gI g r0 3) ≤ i4 → (w_X7_documentAt g r0 i4 (fun o3 => ((o3 = none → (b_X7_countDates_48 g r0 i1 i2 i3 i4 Q k5)) ∧ (∀ y5, o3 = some y5 → (gK g y5 = 3 ∧ (((gI g y5 0) < i1 → (b_X7_countDates_48 g r0 i1 i2 i3 i4 Q k5)) ∧ (¬ (gI g y5 0) < i1 → ((i2 < (gI g y5 0) → (b_X7_countDates_48 g r0 i1 i2 i3 i4 Q k5)) ∧ (¬ i2 < (gI g y5 0) → (b_X7_countDates_48 g r0 i1 i2 (i3 + 1) i4 Q k5))))))))))))
def w_X7_countDates (g : gS) (p0 : Nat) (p1 : Int32) (p2 : Int32) (Q : Int32 → Prop) : Prop :=
  lpx2 (l_X7_countDates_5 g p0 p1 p2 Q) 0 0
abbrev r_X7_countDates : Room := { frames := 2, cells := 0, slots := 0, locals := 42 }
set_option maxHeartbeats 4000000 in
set_option maxRecDepth 100000 in
theorem c_X7_countDates {l : Launch} {D : va_G} {cA : Nat → ClassId} {sz : Nat} {g : gS} {p0 : Nat} {p1 : Int32} {p2 : Int32} {Q : Int32 → Prop} (h : w_X7_countDates g p0 p1 p2 Q) : Met l yX7_countDates wsX7_countDates r_X7_countDates (va_Pc [.ref p0, .int p1, .int p2] (gPre D cA g sz)) (gQi D cA g sz (fun r g2 => g = g2 ∧ Q r)) 0 0 (gA g sz) := by
  refine g_met (cc := cX7_countDates) (maxL := 6) (ret := (some .int)) (own := RX7) (by decide) rfl rfl (Nat.le_of_ble_eq_true rfl) ?_
  intro p e s m args below meth c ls CF hr hlk hnm hc hl
  obtain ⟨hx, hb, hml, hown, hts⟩ := id CF
  have hl : lv_has ls 6 [(0, .ref p0), (1, .int p1), (2, .int p2)] := hl
  show W p l e r_X7_countDates s m args below meth c s.heap [] 0 0 (MQ below (gQi D cA g sz (fun r g2 => g = g2 ∧ Q r)) args s 0 0 (gA g sz)) (F0 m 0 ls [])
  have hb_5 : ∀ (r0 : Nat) (i1 : Int32) (i2 : Int32), ∀ (i3 : Int32) (i4 : Int32), lpx2 (l_X7_countDates_5 g r0 i1 i2 Q) i3 i4 → ∀ (H : Heap) (locs : List Loc) (ls : Array Slot), gC D cA (gA g sz) s g H locs → lv_has ls 6 [(0, .ref r0), (1, .int i1), (2, .int i2), (3, .int i3), (4, .int i4)] → W p l e r_X7_countDates s m args below meth c H locs 0 0 (MQ below (gQi D cA g sz (fun r g2 => g = g2 ∧ Q r)) args s 0 0 (gA g sz)) (F0 m 5 ls []) := by
    intro r0 i1 i2
    refine lpx2_run (P := fun (i3 : Int32) (i4 : Int32) => ∀ (H : Heap) (locs : List Loc) (ls : Array Slot), gC D cA (gA g sz) s g H locs → lv_has ls 6 [(0, .ref r0), (1, .int i1), (2, .int i2), (3, .int i3), (4, .int i4)] → W p l e r_X7_countDates s m args below meth c H locs 0 0 (MQ below (gQi D cA g sz (fun r g2 => g = g2 ∧ Q r)) args s 0 0 (gA g sz)) (F0 m 5 ls [])) ?_
    intro k5 hk_5 i3 i4 h H locs ls hc hl
    have hb_48 : ∀ (i3 : Int32) (i4 : Int32), b_X7_countDates_48 g r0 i1 i2 i3 i4 Q k5 → ∀ (H : Heap) (locs : List Loc) (ls : Array Slot), gC D cA (gA g sz) s g H locs → lv_has ls 6 [(0, .ref r0), (1, .int i1), (2, .int i2), (3, .int i3), (4, .int i4)] → W p l e r_X7_countDates s m args below meth c H locs 0 0 (MQ below (gQi D cA g sz (fun r g2 => g = g2 ∧ Q r)) args s 0 0 (gA g sz)) (F0 m 48 ls []) := by
      intro i3 i4 h H locs ls hc hl
      unfold b_X7_countDates_48 at h
      refine lv_iinc (v := (i4 + 1)) (lv' := [(4, .int (i4 + 1)), (0, .ref r0), (1, .int i1), (2, .int i2), (3, .int i3)]) hx hb dX7_countDates_48 hl (k := 4) rfl rfl (by decide) rfl (fun ls hl => ?_)
      refine lv_goto (tgt := 5) hx hb dX7_countDates_51 (by decide) ?_
      exact hk_5 i3 (i4 + 1) h _ _ _ hc (lv_sub hl [1, 2, 3, 4, 0] rfl)
    unfold l_X7_countDates_5 at h
    refine lv_iload hx hb dX7_countDates_5 (lv_at hl 4 rfl) ?_
    refine lv_aload_n hx hb dX7_countDates_7 rfl (lv_at hl 0 rfl) ?_
    obtain ⟨hk1, h⟩ := h
    refine g_get CF hc hk1 rfl (by decide) (fun _ h9 => List.mem_cons_of_mem _ (List.mem_append_left _ (List.mem_append_right _ (h9)))) (k := 3) (by decide) (List.mem_cons_of_mem _ (List.mem_append_left _ (List.mem_append_left _ (List.mem_of_getElem? (i := 0) rfl)))) rfl dX7_countDates_8 ?_
    refine lv_icmp_ge (tgt := 54) hx hb dX7_countDates_11 (by decide) (fun c2 => ?_) (fun c2 => ?_)
    · have h := h.1 c2
      refine lv_iload_n hx hb dX7_countDates_54 rfl (lv_at hl 3 rfl) ?_
      exact g_reti (r := i3) CF hr hlk hc rfl ⟨rfl, h⟩ dX7_countDates_55
    · have h := h.2 c2
      refine lv_aload_n hx hb dX7_countDates_14 rfl (lv_at hl 0 rfl) ?_
      refine lv_iload hx hb dX7_countDates_15 (lv_at hl 4 rfl) ?_
      refine g_callq (va_runV (As := [.int i4]) (rest := []) CF (c_X7_documentAt h) (cwV 1 hts gX7_countDates_X7_documentAt rfl rfl rfl (by decide +kernel) ⟨Nat.le_of_ble_eq_true rfl, Nat.le_of_ble_eq_true rfl⟩) (hc.preV hk1 rfl (by decide)) rfl rfl hl.1 rfl (lv_room (Nat.le_of_ble_eq_true rfl)) dX7_countDates_17 ⟨Nat.le_of_ble_eq_true rfl, Nat.le_of_ble_eq_true rfl⟩) hc (fun o3 gq4 H locs hq hc => ?_)
      obtain ⟨rfl, h⟩ := hq
      refine g_astoreq (lv' := [(5, va_rf o3), (0, .ref r0), (1, .int i1), (2, .int i2), (3, .int i3), (4, .int i4)]) CF dX7_countDates_20 hl (by decide) rfl (fun ls hl => ?_)
      refine g_aloadq CF dX7_countDates_22 (lv_at hl 0 rfl) ?_
      refine g_ifnull (tgt := 48) CF dX7_countDates_24 (by decide) (fun e6 => ?_) (fun y5 e6 => ?_)
      · have hu10 := h.1 e6
        subst e6
        have h := hu10
        exact hb_48 i3 i4 h _ _ _ hc (lv_sub hl [1, 2, 3, 4, 5] rfl)
      · have hu10 := h.2 y5 e6
        subst e6
        have h := hu10
        refine lv_aload hx hb dX7_countDates_27 (lv_at hl 0 rfl) ?_
        obtain ⟨hk7, h⟩ := h
        refine g_get CF hc hk7 rfl (by decide) (fun _ h9 => List.mem_cons_of_mem _ (List.mem_append_right _ (h9))) (k := 0) (by decide) (List.mem_cons_of_mem _ (List.mem_append_left _ (List.mem_append_left _ (List.mem_of_getElem? (i := 1) rfl)))) rfl dX7_countDates_29 ?_
        refine lv_iload_n hx hb dX7_countDates_32 rfl (lv_at hl 2 rfl) ?_
        refine lv_icmp_lt (tgt := 48) hx hb dX7_countDates_33 (by decide) (fun c8 => ?_) (fun c8 => ?_)
        · have h := h.1 c8
          exact hb_48 i3 i4 h _ _ _ hc (lv_sub hl [1, 2, 3, 4, 5] rfl)
        · have h := h.2 c8
          refine lv_aload hx hb dX7_countDates_36 (lv_at hl 0 rfl) ?_
          refine g_get CF hc hk7 rfl (by decide) (fun _ h9 => List.mem_cons_of_mem _ (List.mem_append_right _ (h9))) (k := 0) (by decide) (List.mem_cons_of_mem _ (List.mem_append_left _ (List.mem_append_left _ (List.mem_of_getElem? (i := 1) rfl)))) rfl dX7_countDates_38 ?_
          refine lv_iload_n hx hb dX7_countDates_41 rfl (lv_at hl 3 rfl) ?_
          refine lv_icmp_gt (tgt := 48) hx hb dX7_countDates_42 (by decide) (fun c9 => ?_) (fun c9 => ?_)
          · have h := h.1 c9
            exact hb_48 i3 i4 h _ _ _ hc (lv_sub hl [1, 2, 3, 4, 5] rfl)
          · have h := h.2 c9
            refine lv_iinc (v := (i3 + 1)) (lv' := [(3, .int (i3 + 1)), (5, .ref y5), (0, .ref r0), (1, .int i1), (2, .int i2), (4, .int i4)]) hx hb dX7_countDates_45 hl (k := 4) rfl rfl (by decide) rfl (fun ls hl => ?_)
            exact hb_48 (i3 + 1) i4 h _ _ _ hc (lv_sub hl [2, 3, 4, 0, 5] rfl)
  unfold w_X7_countDates at h
  obtain ⟨H, hH0⟩ : ∃ z, z = s.heap := ⟨_, rfl⟩
  rw [← hH0] at hc ⊢
  obtain ⟨locs, hlc0⟩ : ∃ z : List Loc, z = [] := ⟨_, rfl⟩
  rw [← hlc0] at hc ⊢
  refine lv_iconst (v := 0) hx hb dX7_countDates_0 (by decide) ?_
  refine lv_istore_n (lv' := [(3, .int 0), (0, .ref p0), (1, .int p1), (2, .int p2)]) hx hb dX7_countDates_1 rfl hl (by decide) rfl (fun ls hl => ?_)
  refine lv_iconst (v := 0) hx hb dX7_countDates_2 (by decide) ?_
  refine lv_istore (lv' := [(4, .int 0), (3, .int 0), (0, .ref p0), (1, .int p1), (2, .int p2)]) hx hb dX7_countDates_3 hl (by decide) rfl (fun ls hl => ?_)
  exact hb_5 p0 p1 p2 0 0 h _ _ _ hc (lv_sub hl [2, 3, 4, 1, 0] rfl)
def w_X8_init (g0 : gS) (p0 : Nat) (p1 : Nat) (p2 : Nat) (p3 : Nat) (p4 : Int32) (Q : gS → Prop) : Prop :=
  ∀ q1, gK g0 q1 = 0 → (∀ g3, g3 = sNew g0 q1 21 30 → (gK g3 p0 = 9 ∧ (∀ g6, g6 = sV g3 p0 4 (some q1) → (gK g6 p0 = 9 ∧ (∀ g9, g9 = sV g6 p0 0 (some p1) → (gK g9 p0 = 9 ∧ (∀ g12, g12 = sV g9 p0 1 (some p2) → (gK g12 p0 = 9 ∧ (∀ g15, g15 = sV g12 p0 2 (some p3) → (gK g15 p0 = 9 ∧ ((p4 = 0 ∨ p4 = 1) ∧ (∀ g19, g19 = sU g15 p0 3 p4 → (Q g19)))))))))))))
abbrev r_X8_init : Room := { frames := 1, cells := 1, slots := 30, locals := 12 }
set_option maxHeartbeats 4000000 in
set_option maxRecDepth 100000 in
theorem c_X8_init {l : Launch} {D : va_G} {cA : Nat → ClassId} {sz : Nat} {g0 : gS} {p0 : Nat} {p1 : Nat} {p2 : Nat} {p3 : Nat} {p4 : Int32} {Q : gS → Prop} (h : w_X8_init g0 p0 p1 p2 p3 p4 Q) : Met l yX8_init wsX8_init r_X8_init (va_Pc [.ref p0, .ref p1, .ref p2, .ref p3, .int p4] (gPre D cA g0 sz)) (gQv D cA g0 sz (Q)) 1 30 (gA g0 sz) := by
  refine g_met (cc := cX8_init) (maxL := 5) (ret := none) (own := RX8) (by decide) rfl rfl (Nat.le_of_ble_eq_true rfl) ?_
  intro p e s m args below meth c ls CF hr hlk hnm hc hl
  obtain ⟨hx, hb, hml, hown, hts⟩ := id CF
  have hl : lv_has ls 5 [(0, .ref p0), (1, .ref p1), (2, .ref p2), (3, .ref p3), (4, .int p4)] := hl
  show W p l e r_X8_init s m args below meth c s.heap [] 0 0 (MQ below (gQv D cA g0 sz (Q)) args s 1 30 (gA g0 sz)) (F0 m 0 ls [])
  unfold w_X8_init at h
  obtain ⟨H, hH0⟩ : ∃ z, z = s.heap := ⟨_, rfl⟩
  rw [← hH0] at hc ⊢
  obtain ⟨locs, hlc0⟩ : ∃ z : List Loc, z = [] := ⟨_, rfl⟩
  rw [← hlc0] at hc ⊢
  refine lv_aload_n hx hb dX8_init_0 rfl (lv_at hl 0 rfl) ?_
  refine W.objInit hx hb hown (hts _ (List.mem_cons_of_mem _ (List.mem_append_left _ (List.mem_of_getElem? (i := 0) rfl)))) (hts _ (List.mem_cons_of_mem _ (List.mem_append_left _ (List.mem_of_getElem? (i := 1) rfl)))) (hts _ (List.mem_cons_of_mem _ (List.mem_append_left _ (List.mem_of_getElem? (i := 2) rfl)))) rfl (by rw [hml]; exact hl.1) rfl dX8_init_1 (Nat.le_of_ble_eq_true rfl) (Nat.le_of_ble_eq_true rfl) ?_
  refine W.eq (g2 := F0 m 4 ls []) rfl ?_
  refine lv_aload_n hx hb dX8_init_4 rfl (lv_at hl 0 rfl) ?_
  refine lv_bipush (v := 30) hx hb dX8_init_5 (by decide) ?_
  refine g_newi CF hc (List.mem_cons_of_mem _ (List.mem_append_left _ (List.mem_of_getElem? (i := 3) rfl))) (n := 30) (N := 30) (by decide) (by decide) (by decide) (Nat.le_of_ble_eq_true rfl) (Nat.le_of_ble_eq_true rfl) dX8_init_7 (fun q1 H locs hq2 hc => ?_)
  replace h := h q1 hq2
  obtain ⟨g3, eg4⟩ : ∃ z, z = sNew g0 q1 21 30 := ⟨_, rfl⟩
  have hc : gC D cA (gA g0 sz) s g3 H locs := by rw [eg4]; exact hc
  replace h := h g3 eg4
  refine W.widen (k := 1) (n := 30) (Nat.le_of_ble_eq_true rfl) (Nat.le_of_ble_eq_true rfl) ?_
  obtain ⟨hk5, h⟩ := h
  refine g_putrF CF hc hk5 rfl (by decide) (fun _ h9 => List.mem_cons_of_mem _ (List.mem_append_right _ (h9))) tyX8 tyX8_ok nmX8 (k := 4) (by decide) (List.mem_cons_of_mem _ (List.mem_append_left _ (List.mem_of_getElem? (i := 4) rfl))) rfl hnm rfl (some q1) narrow_ra fits_ra rfl dX8_init_9 (fun H locs hc => ?_)
  obtain ⟨g6, eg7⟩ : ∃ z, z = sV g3 p0 4 (some q1) := ⟨_, rfl⟩
  have hc : gC D cA (gA g0 sz) s g6 H locs := by rw [eg7]; exact hc
  replace h := h g6 eg7
  refine lv_aload_n hx hb dX8_init_12 rfl (lv_at hl 0 rfl) ?_
  refine lv_aload_n hx hb dX8_init_13 rfl (lv_at hl 1 rfl) ?_
  obtain ⟨hk8, h⟩ := h
  refine g_putrF CF hc hk8 rfl (by decide) (fun _ h9 => List.mem_cons_of_mem _ (List.mem_append_right _ (h9))) tyX8 tyX8_ok nmX8 (k := 0) (by decide) (List.mem_cons_of_mem _ (List.mem_append_left _ (List.mem_of_getElem? (i := 5) rfl))) rfl hnm rfl (some p1) narrow_rf fits_rf rfl dX8_init_14 (fun H locs hc => ?_)
  obtain ⟨g9, eg10⟩ : ∃ z, z = sV g6 p0 0 (some p1) := ⟨_, rfl⟩
  have hc : gC D cA (gA g0 sz) s g9 H locs := by rw [eg10]; exact hc
  replace h := h g9 eg10
  refine lv_aload_n hx hb dX8_init_17 rfl (lv_at hl 0 rfl) ?_
  refine lv_aload_n hx hb dX8_init_18 rfl (lv_at hl 2 rfl) ?_
  obtain ⟨hk11, h⟩ := h
  refine g_putrF CF hc hk11 rfl (by decide) (fun _ h9 => List.mem_cons_of_mem _ (List.mem_append_right _ (h9))) tyX8 tyX8_ok nmX8 (k := 1) (by decide) (List.mem_cons_of_mem _ (List.mem_append_left _ (List.mem_of_getElem? (i := 6) rfl))) rfl hnm rfl (some p2) narrow_rf fits_rf rfl dX8_init_19 (fun H locs hc => ?_)
  obtain ⟨g12, eg13⟩ : ∃ z, z = sV g9 p0 1 (some p2) := ⟨_, rfl⟩
  have hc : gC D cA (gA g0 sz) s g12 H locs := by rw [eg13]; exact hc
  replace h := h g12 eg13
  refine lv_aload_n hx hb dX8_init_22 rfl (lv_at hl 0 rfl) ?_
  refine lv_aload_n hx hb dX8_init_23 rfl (lv_at hl 3 rfl) ?_
  obtain ⟨hk14, h⟩ := h
  refine g_putrF CF hc hk14 rfl (by decide) (fun _ h9 => List.mem_cons_of_mem _ (List.mem_append_right _ (h9))) tyX8 tyX8_ok nmX8 (k := 2) (by decide) (List.mem_cons_of_mem _ (List.mem_append_left _ (List.mem_of_getElem? (i := 7) rfl))) rfl hnm rfl (some p3) narrow_rf fits_rf rfl dX8_init_24 (fun H locs hc => ?_)
  obtain ⟨g15, eg16⟩ : ∃ z, z = sV g12 p0 2 (some p3) := ⟨_, rfl⟩
  have hc : gC D cA (gA g0 sz) s g15 H locs := by rw [eg16]; exact hc
  replace h := h g15 eg16
  refine lv_aload_n hx hb dX8_init_27 rfl (lv_at hl 0 rfl) ?_
  refine lv_iload hx hb dX8_init_28 (lv_at hl 4 rfl) ?_
  obtain ⟨hk17, h⟩ := h
  obtain ⟨hz18, h⟩ := h
  refine g_putiF CF hc hk17 rfl (by decide) (fun _ h9 => List.mem_cons_of_mem _ (List.mem_append_right _ (h9))) tyX8 tyX8_ok nmX8 (k := 3) (by decide) (List.mem_cons_of_mem _ (List.mem_append_left _ (List.mem_of_getElem? (i := 8) rfl))) rfl hnm rfl (v := p4) (narrow_01 hz18) (fits_01 hz18) rfl dX8_init_30 (fun H locs hc => ?_)
  obtain ⟨g19, eg20⟩ : ∃ z, z = sU g15 p0 3 p4 := ⟨_, rfl⟩
  have hc : gC D cA (gA g0 sz) s g19 H locs := by rw [eg20]; exact hc
  replace h := h g19 eg20
  exact g_retv CF hr hlk hc h dX8_init_33
def b_X8_taste_94 (g : gS) (is0 : Int32) (Q : Int32 → Prop) : Prop :=
  Q is0
def b_X8_taste_20 (g : gS) (Q : Int32 → Prop) : Prop :=
  Q 0
def w_X8_taste (g : gS) (p0 : Nat) (p1 : Int32) (p2 : Int32) (p3 : Int32) (p4 : Int32) (Q : Int32 → Prop) : Prop :=
  gK g p0 = 9 ∧ (∃ y2, gR g p0 2 = some y2 ∧ (gK g y2 = 2 ∧ (w_X1_lengthOf g y2 p4 (fun x5 => ((p2 ≤ 0 → (b_X8_taste_20 g Q)) ∧ (¬ p2 ≤ 0 → ((0 < x5 → (∃ y9, gR g p0 2 = some y9 ∧ (gK g y9 = 2 ∧ (¬ x5 = 0 ∧ (∃ y13, gR g p0 2 = some y13 ∧ (∃ y15, gR g p0 2 = some y15 ∧ (gK g y15 = 2 ∧ (w_X1_spreadOf g y15 p1 p4 (fun x18 => (gK g y13 = 2 ∧ (w_X1_rarityOf g y13 x18 (fun x21 => ((0 < (((10 * p2) + 3) + (((9 * p3) * (gI g y9 2)) / x5)) → (¬ (((10 * p2) + 3) + (((9 * p3) * (gI g y9 2)) / x5)) = 0 ∧ (∃ y25, gR g p0 1 = some y25 ∧ (gK g y25 = 5 ∧ (w_X4_weightOf g y25 p4 (fun x28 => (b_X8_taste_94 g ((((x21 * p2) * 20) / (((10 * p2) + 3) + (((9 * p3) * (gI g y9 2)) / x5))) * x28) Q))))))) ∧ (¬ 0 < (((10 * p2) + 3) + (((9 * p3) * (gI g y9 2)) / x5)) → (b_X8_taste_94 g 0 Q))))))))))))))) ∧ (¬ 0 < x5 → (b_X8_taste_20 g Q)))))))))
abbrev r_X8_taste : Room := { frames := 1, cells := 0, slots := 0, locals := 25 }
set_option maxHeartbeats 4000000 in
set_option maxRecDepth 100000 in
theorem c_X8_taste {l : Launch} {D : va_G} {cA : Nat → ClassId} {sz : Nat} {g : gS} {p0 : Nat} {p1 : Int32} {p2 : Int32} {p3 : Int32} {p4 : Int32} {Q : Int32 → Prop} (h : w_X8_taste g p0 p1 p2 p3 p4 Q) : Met l yX8_taste wsX8_taste r_X8_taste (va_Pc [.ref p0, .int p1, .int p2, .int p3, .int p4] (gPre D cA g sz)) (gQi D cA g sz (fun r g2 => g = g2 ∧ Q r)) 0 0 (gA g sz) := by
  refine g_met (cc := cX8_taste) (maxL := 8) (ret := (some .int)) (own := RX8) (by decide) rfl rfl (Nat.le_of_ble_eq_true rfl) ?_
  intro p e s m args below meth c ls CF hr hlk hnm hc hl
  obtain ⟨hx, hb, hml, hown, hts⟩ := id CF
  have hl : lv_has ls 8 [(0, .ref p0), (1, .int p1), (2, .int p2), (3, .int p3), (4, .int p4)] := hl
  show W p l e r_X8_taste s m args below meth c s.heap [] 0 0 (MQ below (gQi D cA g sz (fun r g2 => g = g2 ∧ Q r)) args s 0 0 (gA g sz)) (F0 m 0 ls [])
  have hb_94 : ∀ (is0 : Int32), b_X8_taste_94 g is0 Q → ∀ (H : Heap) (locs : List Loc) (ls : Array Slot), gC D cA (gA g sz) s g H locs → lv_has ls 8 [] → W p l e r_X8_taste s m args below meth c H locs 0 0 (MQ below (gQi D cA g sz (fun r g2 => g = g2 ∧ Q r)) args s 0 0 (gA g sz)) (F0 m 94 ls [.int is0]) := by
    intro is0 h H locs ls hc hl
    unfold b_X8_taste_94 at h
    exact g_reti (r := is0) CF hr hlk hc rfl ⟨rfl, h⟩ dX8_taste_94
  have hb_20 : b_X8_taste_20 g Q → ∀ (H : Heap) (locs : List Loc) (ls : Array Slot), gC D cA (gA g sz) s g H locs → lv_has ls 8 [] → W p l e r_X8_taste s m args below meth c H locs 0 0 (MQ below (gQi D cA g sz (fun r g2 => g = g2 ∧ Q r)) args s 0 0 (gA g sz)) (F0 m 20 ls []) := by
    intro h H locs ls hc hl
    unfold b_X8_taste_20 at h
    refine lv_iconst (v := 0) hx hb dX8_taste_20 (by decide) ?_
    exact g_reti (r := 0) CF hr hlk hc rfl ⟨rfl, h⟩ dX8_taste_21
  unfold w_X8_taste at h
  obtain ⟨H, hH0⟩ : ∃ z, z = s.heap := ⟨_, rfl⟩
  rw [← hH0] at hc ⊢
  obtain ⟨locs, hlc0⟩ : ∃ z : List Loc, z = [] := ⟨_, rfl⟩
  rw [← hlc0] at hc ⊢
  refine lv_aload_n hx hb dX8_taste_0 rfl (lv_at hl 0 rfl) ?_
  obtain ⟨hk1, h⟩ := h
  obtain ⟨y2, e3, h⟩ := h
  refine g_getr CF hc hk1 rfl (by decide) (fun _ h9 => List.mem_cons_of_mem _ (List.mem_append_left _ (List.mem_append_left _ (List.mem_append_right _ (h9))))) (k := 2) (by decide) (List.mem_cons_of_mem _ (List.mem_append_left _ (List.mem_append_left _ (List.mem_append_left _ (List.mem_append_left _ (List.mem_of_getElem? (i := 0) rfl)))))) e3 rfl dX8_taste_1 ?_
  refine lv_iload hx hb dX8_taste_4 (lv_at hl 4 rfl) ?_
  obtain ⟨hk4, h⟩ := h
  refine g_calli (va_runV (As := [.int p4]) (rest := []) CF (c_X1_lengthOf h) (cwV 1 hts gX8_taste_X1_lengthOf rfl rfl rfl (by decide +kernel) ⟨Nat.le_of_ble_eq_true rfl, Nat.le_of_ble_eq_true rfl⟩) (hc.preV hk4 rfl (by decide)) rfl rfl hl.1 rfl (lv_room (Nat.le_of_ble_eq_true rfl)) dX8_taste_6 ⟨Nat.le_of_ble_eq_true rfl, Nat.le_of_ble_eq_true rfl⟩) hc (fun x5 gq6 H locs hq hc => ?_)
  obtain ⟨rfl, h⟩ := hq
  refine lv_istore (lv' := [(5, .int x5), (0, .ref p0), (1, .int p1), (2, .int p2), (3, .int p3), (4, .int p4)]) hx hb dX8_taste_9 hl (by decide) rfl (fun ls hl => ?_)
  refine lv_iload_n hx hb dX8_taste_11 rfl (lv_at hl 3 rfl) ?_
  refine lv_if_le (tgt := 20) hx hb dX8_taste_12 (by decide) (fun c7 => ?_) (fun c7 => ?_)
  · have h := h.1 c7
    exact hb_20  h _ _ _ hc (lv_sub hl [] rfl)
  · have h := h.2 c7
    refine lv_iload hx hb dX8_taste_15 (lv_at hl 0 rfl) ?_
    refine lv_if_gt (tgt := 22) hx hb dX8_taste_17 (by decide) (fun c8 => ?_) (fun c8 => ?_)
    · have h := h.1 c8
      refine lv_bipush (v := 10) hx hb dX8_taste_22 (by decide) ?_
      refine lv_iload_n hx hb dX8_taste_24 rfl (lv_at hl 3 rfl) ?_
      refine lv_imul hx hb dX8_taste_25 ?_
      refine lv_iconst (v := 3) hx hb dX8_taste_26 (by decide) ?_
      refine lv_iadd hx hb dX8_taste_27 ?_
      refine lv_bipush (v := 9) hx hb dX8_taste_28 (by decide) ?_
      refine lv_iload_n hx hb dX8_taste_30 rfl (lv_at hl 4 rfl) ?_
      refine lv_imul hx hb dX8_taste_31 ?_
      refine lv_aload_n hx hb dX8_taste_32 rfl (lv_at hl 1 rfl) ?_
      obtain ⟨y9, e10, h⟩ := h
      refine g_getr CF hc hk1 rfl (by decide) (fun _ h9 => List.mem_cons_of_mem _ (List.mem_append_left _ (List.mem_append_left _ (List.mem_append_right _ (h9))))) (k := 2) (by decide) (List.mem_cons_of_mem _ (List.mem_append_left _ (List.mem_append_left _ (List.mem_append_left _ (List.mem_append_left _ (List.mem_of_getElem? (i := 0) rfl)))))) e10 rfl dX8_taste_33 ?_
      obtain ⟨hk11, h⟩ := h
      refine g_get CF hc hk11 rfl (by decide) (fun _ h9 => List.mem_cons_of_mem _ (List.mem_append_left _ (List.mem_append_right _ (h9)))) (k := 2) (by decide) (List.mem_cons_of_mem _ (List.mem_append_left _ (List.mem_append_left _ (List.mem_append_left _ (List.mem_append_left _ (List.mem_of_getElem? (i := 1) rfl)))))) rfl dX8_taste_36 ?_
      refine lv_imul hx hb dX8_taste_39 ?_
      refine lv_iload hx hb dX8_taste_40 (lv_at hl 0 rfl) ?_
      obtain ⟨hz12, h⟩ := h
      refine lv_idiv hx hb dX8_taste_42 hz12 ?_
      refine lv_iadd hx hb dX8_taste_43 ?_
      refine lv_istore (lv' := [(6, .int (((10 * p2) + 3) + (((9 * p3) * (gI g y9 2)) / x5))), (5, .int x5), (0, .ref p0), (1, .int p1), (2, .int p2), (3, .int p3), (4, .int p4)]) hx hb dX8_taste_44 hl (by decide) rfl (fun ls hl => ?_)
      refine lv_aload_n hx hb dX8_taste_46 rfl (lv_at hl 2 rfl) ?_
      obtain ⟨y13, e14, h⟩ := h
      refine g_getr CF hc hk1 rfl (by decide) (fun _ h9 => List.mem_cons_of_mem _ (List.mem_append_left _ (List.mem_append_left _ (List.mem_append_right _ (h9))))) (k := 2) (by decide) (List.mem_cons_of_mem _ (List.mem_append_left _ (List.mem_append_left _ (List.mem_append_left _ (List.mem_append_left _ (List.mem_of_getElem? (i := 0) rfl)))))) e14 rfl dX8_taste_47 ?_
      refine lv_aload_n hx hb dX8_taste_50 rfl (lv_at hl 2 rfl) ?_
      obtain ⟨y15, e16, h⟩ := h
      refine g_getr CF hc hk1 rfl (by decide) (fun _ h9 => List.mem_cons_of_mem _ (List.mem_append_left _ (List.mem_append_left _ (List.mem_append_right _ (h9))))) (k := 2) (by decide) (List.mem_cons_of_mem _ (List.mem_append_left _ (List.mem_append_left _ (List.mem_append_left _ (List.mem_append_left _ (List.mem_of_getElem? (i := 0) rfl)))))) e16 rfl dX8_taste_51 ?_
      refine lv_iload_n hx hb dX8_taste_54 rfl (lv_at hl 3 rfl) ?_
      refine lv_iload hx hb dX8_taste_55 (lv_at hl 6 rfl) ?_
      obtain ⟨hk17, h⟩ := h
      refine g_calli (va_runV (As := [.int p1, .int p4]) (rest := [.ref y13]) CF (c_X1_spreadOf h) (cwV 2 hts gX8_taste_X1_spreadOf rfl rfl rfl (by decide +kernel) ⟨Nat.le_of_ble_eq_true rfl, Nat.le_of_ble_eq_true rfl⟩) (hc.preV hk17 rfl (by decide)) rfl rfl hl.1 rfl (lv_room (Nat.le_of_ble_eq_true rfl)) dX8_taste_57 ⟨Nat.le_of_ble_eq_true rfl, Nat.le_of_ble_eq_true rfl⟩) hc (fun x18 gq19 H locs hq hc => ?_)
      obtain ⟨rfl, h⟩ := hq
      obtain ⟨hk20, h⟩ := h
      refine g_calli (va_runV (As := [.int x18]) (rest := []) CF (c_X1_rarityOf h) (cwV 1 hts gX8_taste_X1_rarityOf rfl rfl rfl (by decide +kernel) ⟨Nat.le_of_ble_eq_true rfl, Nat.le_of_ble_eq_true rfl⟩) (hc.preV hk20 rfl (by decide)) rfl rfl hl.1 rfl (lv_room (Nat.le_of_ble_eq_true rfl)) dX8_taste_60 ⟨Nat.le_of_ble_eq_true rfl, Nat.le_of_ble_eq_true rfl⟩) hc (fun x21 gq22 H locs hq hc => ?_)
      obtain ⟨rfl, h⟩ := hq
      refine lv_istore (lv' := [(7, .int x21), (6, .int (((10 * p2) + 3) + (((9 * p3) * (gI g y9 2)) / x5))), (5, .int x5), (0, .ref p0), (1, .int p1), (2, .int p2), (3, .int p3), (4, .int p4)]) hx hb dX8_taste_63 hl (by decide) rfl (fun ls hl => ?_)
      refine lv_iload hx hb dX8_taste_65 (lv_at hl 1 rfl) ?_
      refine lv_if_gt (tgt := 74) hx hb dX8_taste_67 (by decide) (fun c23 => ?_) (fun c23 => ?_)
      · have h := h.1 c23
        refine lv_iload hx hb dX8_taste_74 (lv_at hl 0 rfl) ?_
        refine lv_iload_n hx hb dX8_taste_76 rfl (lv_at hl 5 rfl) ?_
        refine lv_imul hx hb dX8_taste_77 ?_
        refine lv_bipush (v := 20) hx hb dX8_taste_78 (by decide) ?_
        refine lv_imul hx hb dX8_taste_80 ?_
        refine lv_iload hx hb dX8_taste_81 (lv_at hl 1 rfl) ?_
        obtain ⟨hz24, h⟩ := h
        refine lv_idiv hx hb dX8_taste_83 hz24 ?_
        refine lv_aload_n hx hb dX8_taste_84 rfl (lv_at hl 3 rfl) ?_
        obtain ⟨y25, e26, h⟩ := h
        refine g_getr CF hc hk1 rfl (by decide) (fun _ h9 => List.mem_cons_of_mem _ (List.mem_append_left _ (List.mem_append_left _ (List.mem_append_right _ (h9))))) (k := 1) (by decide) (List.mem_cons_of_mem _ (List.mem_append_left _ (List.mem_append_left _ (List.mem_append_left _ (List.mem_append_left _ (List.mem_of_getElem? (i := 2) rfl)))))) e26 rfl dX8_taste_85 ?_
        refine lv_iload hx hb dX8_taste_88 (lv_at hl 7 rfl) ?_
        obtain ⟨hk27, h⟩ := h
        refine g_calli (va_runV (As := [.int p4]) (rest := [.int (((x21 * p2) * 20) / (((10 * p2) + 3) + (((9 * p3) * (gI g y9 2)) / x5)))]) CF (c_X4_weightOf h) (cwV 1 hts gX8_taste_X4_weightOf rfl rfl rfl (by decide +kernel) ⟨Nat.le_of_ble_eq_true rfl, Nat.le_of_ble_eq_true rfl⟩) (hc.preV hk27 rfl (by decide)) rfl rfl hl.1 rfl (lv_room (Nat.le_of_ble_eq_true rfl)) dX8_taste_90 ⟨Nat.le_of_ble_eq_true rfl, Nat.le_of_ble_eq_true rfl⟩) hc (fun x28 gq29 H locs hq hc => ?_)
        obtain ⟨rfl, h⟩ := hq
        refine lv_imul hx hb dX8_taste_93 ?_
        exact hb_94 ((((x21 * p2) * 20) / (((10 * p2) + 3) + (((9 * p3) * (gI g y9 2)) / x5))) * x28) h _ _ _ hc (lv_sub hl [] rfl)
      · have h := h.2 c23
        refine lv_iconst (v := 0) hx hb dX8_taste_70 (by decide) ?_
        refine lv_goto (tgt := 94) hx hb dX8_taste_71 (by decide) ?_
        exact hb_94 0 h _ _ _ hc (lv_sub hl [] rfl)
    · have h := h.2 c8
      exact hb_20  h _ _ _ hc (lv_sub hl [] rfl)
def b_X8_termValue_174 (g : gS) (is0 : Int32) (Q : Int32 → Prop) : Prop :=
  Q is0
def b_X8_termValue_157 (g : gS) (r0 : Nat) (r1 : Nat) (o2 : Option Nat) (i3 : Int32) (i4 : Int32) (i5 : Int32) (i6 : Int32) (i7 : Int32) (Q : Int32 → Prop) (k52 : Int32 → Int32 → Int32 → Prop) : Prop :=
  k52 i5 i6 (i7 + 1)
def b_X8_termValue_120 (g : gS) (r0 : Nat) (r1 : Nat) (o2 : Option Nat) (i3 : Int32) (i4 : Int32) (i6 : Int32) (i7 : Int32) (r8 : Nat) (i9 : Int32) (i10 : Int32) (is0 : Int32) (Q : Int32 → Prop) (k52 : Int32 → Int32 → Int32 → Prop) : Prop :=
  gK g r8 = 10 ∧ (gK g r0 = 9 ∧ (w_X8_taste g r0 i3 i9 (gI g r8 3) i7 (fun x3 => (w_X8_taste g r0 i4 i10 (gI g r8 3) i7 (fun x5 => (b_X8_termValue_157 g r0 r1 o2 i3 i4 is0 (i6 + (x3 + x5)) i7 Q k52))))))
def b_X8_termValue_115 (g : gS) (r0 : Nat) (r1 : Nat) (o2 : Option Nat) (i3 : Int32) (i4 : Int32) (i6 : Int32) (i7 : Int32) (r8 : Nat) (i9 : Int32) (i10 : Int32) (Q : Int32 → Prop) (k52 : Int32 → Int32 → Int32 → Prop) : Prop :=
  b_X8_termValue_120 g r0 r1 o2 i3 i4 i6 i7 r8 i9 i10 1 Q k52
def l_X8_termValue_52 (g : gS) (r0 : Nat) (r1 : Nat) (o2 : Option Nat) (i3 : Int32) (i4 : Int32) (Q : Int32 → Prop) (i5 : Int32) (i6 : Int32) (i7 : Int32) (k52 : Int32 → Int32 → Int32 → Prop) : Prop :=
  (3 ≤ i7 → ((i5 = 0 → (b_X8_termValue_174 g (-1) Q)) ∧ (¬ i5 = 0 → (b_X8_termValue_174 g i6 Q)))) ∧ (¬ 3 ≤ i7 → (∃ y9, o2 = some y9 ∧ (gK g y9 = 3 ∧ (w_X2_rowOf g y9 i7 (fun o13 => ((o13 = none → (b_X8_termValue_157 g r0 r1 (some y9) i3 i4 i5 i6 i7 Q k52)) ∧ (∀ y15, o13 = some y15 → (gK g r1 = 6 ∧ (w_X5_isFor g r1 i7 (fun x18 => ((x18 = 0 → (b_X8_termValue_157 g r0 r1 (some y9) i3 i4 i5 i6 i7 Q k52)) ∧ (¬ x18 = 0 → (gK g y15 = 10 ∧ (w_X9_countOf g y15 i3 (fun x22 => (w_X9_countOf g y15 i4 (fun x24 => ((i5 = 0 → ((0 < x22 → (b_X8_termValue_115 g r0 r1 (some y9) i3 i4 i6 i7 y15 x22 x24 Q k52)) ∧ (¬ 0 < x22 → ((x24 ≤ 0 → (b_X8_termValue_120 g r0 r1 (some y9) i3 i4 i6 i7 y15 x22 x24 0 Q k52)) ∧ (¬ x24 ≤ 0 → (b_X8_termValue_115 g r0 r1 (some y9) i3 i4 i6 i7 y15 x22 x24 Q k52)))))) ∧ (¬ i5 = 0 → (b_X8_termValue_115 g r0 r1 (some y9) i3 i4 i6 i7 y15 x22 x24 Q k52))))))))))))))))))))
def b_X8_termValue_41 (g : gS) (r0 : Nat) (r1 : Nat) (o2 : Option Nat) (i3 : Int32) (is0 : Int32) (Q : Int32 → Prop) : Prop :=
  lpx3 (l_X8_termValue_52 g r0 r1 o2 i3 is0 Q) 0 0 0
def w_X8_termValue (g : gS) (p0 : Nat) (p1 : Nat) (p2 : Option Nat) (Q : Int32 → Prop) : Prop :=
  gK g p0 = 9 ∧ (∃ y31, gR g p0 1 = some y31 ∧ (gK g p1 = 6 ∧ (gK g y31 = 5 ∧ (w_X4_unmuted g y31 (gI g p1 1) (fun x35 => (((gI g p0 3) = 0 → (b_X8_termValue_41 g p0 p1 p2 x35 (-1) Q)) ∧ (¬ (gI g p0 3) = 0 → (∃ y38, gR g p0 1 = some y38 ∧ (∃ y40, gR g p0 1 = some y40 ∧ (gK g y40 = 5 ∧ (w_X4_aliasOf g y40 (gI g p1 1) (fun x43 => (gK g y38 = 5 ∧ (w_X4_unmuted g y38 x43 (fun x46 => (b_X8_termValue_41 g p0 p1 p2 x35 x46 Q))))))))))))))))
abbrev r_X8_termValue : Room := { frames := 2, cells := 0, slots := 0, locals := 52 }
set_option maxHeartbeats 4000000 in
set_option maxRecDepth 100000 in
theorem c_X8_termValue {l : Launch} {D : va_G} {cA : Nat → ClassId} {sz : Nat} {g : gS} {p0 : Nat} {p1 : Nat} {p2 : Option Nat} {Q : Int32 → Prop} (h : w_X8_termValue g p0 p1 p2 Q) : Met l yX8_termValue wsX8_termValue r_X8_termValue (va_Pc [.ref p0, .ref p1, va_rf p2] (gPre D cA g sz)) (gQi D cA g sz (fun r g2 => g = g2 ∧ Q r)) 0 0 (gA g sz) := by
  refine g_met (cc := cX8_termValue) (maxL := 11) (ret := (some .int)) (own := RX8) (by decide) rfl rfl (by cases p2 <;> exact Nat.le_of_ble_eq_true rfl) ?_
  intro p e s m args below meth c ls CF hr hlk hnm hc hl
  obtain ⟨hx, hb, hml, hown, hts⟩ := id CF
  have hl : lv_has ls 11 [(0, .ref p0), (1, .ref p1), (2, va_rf p2)] := (by cases p2 <;> exact hl)
  show W p l e r_X8_termValue s m args below meth c s.heap [] 0 0 (MQ below (gQi D cA g sz (fun r g2 => g = g2 ∧ Q r)) args s 0 0 (gA g sz)) (F0 m 0 ls [])
  have hb_174 : ∀ (is0 : Int32), b_X8_termValue_174 g is0 Q → ∀ (H : Heap) (locs : List Loc) (ls : Array Slot), gC D cA (gA g sz) s g H locs → lv_has ls 11 [] → W p l e r_X8_termValue s m args below meth c H locs 0 0 (MQ below (gQi D cA g sz (fun r g2 => g = g2 ∧ Q r)) args s 0 0 (gA g sz)) (F0 m 174 ls [.int is0]) := by
    intro is0 h H locs ls hc hl
    unfold b_X8_termValue_174 at h
    exact g_reti (r := is0) CF hr hlk hc rfl ⟨rfl, h⟩ dX8_termValue_174
  have hb_52 : ∀ (r0 : Nat) (r1 : Nat) (o2 : Option Nat) (i3 : Int32) (i4 : Int32), ∀ (i5 : Int32) (i6 : Int32) (i7 : Int32), lpx3 (l_X8_termValue_52 g r0 r1 o2 i3 i4 Q) i5 i6 i7 → ∀ (H : Heap) (locs : List Loc) (ls : Array Slot), gC D cA (gA g sz) s g H locs → lv_has ls 11 [(0, .ref r0), (1, .ref r1), (2, va_rf o2), (3, .int i3), (4, .int i4), (5, .int i5), (6, .int i6), (7, .int i7)] → W p l e r_X8_termValue s m args below meth c H locs 0 0 (MQ below (gQi D cA g sz (fun r g2 => g = g2 ∧ Q r)) args s 0 0 (gA g sz)) (F0 m 52 ls []) := by
    intro r0 r1 o2 i3 i4
    refine lpx3_run (P := fun (i5 : Int32) (i6 : Int32) (i7 : Int32) => ∀ (H : Heap) (locs : List Loc) (ls : Array Slot), gC D cA (gA g sz) s g H locs → lv_has ls 11 [(0, .ref r0), (1, .ref r1), (2, va_rf o2), (3, .int i3), (4, .int i4), (5, .int i5), (6, .int i6), (7, .int i7)] → W p l e r_X8_termValue s m args below meth c H locs 0 0 (MQ below (gQi D cA g sz (fun r g2 => g = g2 ∧ Q r)) args s 0 0 (gA g sz)) (F0 m 52 ls [])) ?_
    intro k52 hk_52 i5 i6 i7 h H locs ls hc hl
    have hb_157 : ∀ (i5 : Int32) (i6 : Int32) (i7 : Int32), b_X8_termValue_157 g r0 r1 o2 i3 i4 i5 i6 i7 Q k52 → ∀ (H : Heap) (locs : List Loc) (ls : Array Slot), gC D cA (gA g sz) s g H locs → lv_has ls 11 [(0, .ref r0), (1, .ref r1), (2, va_rf o2), (3, .int i3), (4, .int i4), (5, .int i5), (6, .int i6), (7, .int i7)] → W p l e r_X8_termValue s m args below meth c H locs 0 0 (MQ below (gQi D cA g sz (fun r g2 => g = g2 ∧ Q r)) args s 0 0 (gA g sz)) (F0 m 157 ls []) := by
      intro i5 i6 i7 h H locs ls hc hl
      unfold b_X8_termValue_157 at h
      refine lv_iinc (v := (i7 + 1)) (lv' := [(7, .int (i7 + 1)), (0, .ref r0), (1, .ref r1), (2, va_rf o2), (3, .int i3), (4, .int i4), (5, .int i5), (6, .int i6)]) hx hb dX8_termValue_157 hl (k := 7) rfl rfl (by decide) rfl (fun ls hl => ?_)
      refine lv_goto (tgt := 52) hx hb dX8_termValue_160 (by decide) ?_
      exact hk_52 i5 i6 (i7 + 1) h _ _ _ hc (lv_sub hl [1, 2, 3, 4, 5, 6, 7, 0] rfl)
    have hb_120 : ∀ (i6 : Int32) (i7 : Int32) (r8 : Nat) (i9 : Int32) (i10 : Int32) (is0 : Int32), b_X8_termValue_120 g r0 r1 o2 i3 i4 i6 i7 r8 i9 i10 is0 Q k52 → ∀ (H : Heap) (locs : List Loc) (ls : Array Slot), gC D cA (gA g sz) s g H locs → lv_has ls 11 [(0, .ref r0), (1, .ref r1), (2, va_rf o2), (3, .int i3), (4, .int i4), (6, .int i6), (7, .int i7), (8, .ref r8), (9, .int i9), (10, .int i10)] → W p l e r_X8_termValue s m args below meth c H locs 0 0 (MQ below (gQi D cA g sz (fun r g2 => g = g2 ∧ Q r)) args s 0 0 (gA g sz)) (F0 m 120 ls [.int is0]) := by
      intro i6 i7 r8 i9 i10 is0 h H locs ls hc hl
      unfold b_X8_termValue_120 at h
      refine lv_istore (lv' := [(5, .int is0), (0, .ref r0), (1, .ref r1), (2, va_rf o2), (3, .int i3), (4, .int i4), (6, .int i6), (7, .int i7), (8, .ref r8), (9, .int i9), (10, .int i10)]) hx hb dX8_termValue_120 hl (by decide) rfl (fun ls hl => ?_)
      refine lv_iload hx hb dX8_termValue_122 (lv_at hl 6 rfl) ?_
      refine lv_aload_n hx hb dX8_termValue_124 rfl (lv_at hl 1 rfl) ?_
      refine lv_iload_n hx hb dX8_termValue_125 rfl (lv_at hl 4 rfl) ?_
      refine lv_iload hx hb dX8_termValue_126 (lv_at hl 9 rfl) ?_
      refine lv_aload hx hb dX8_termValue_128 (lv_at hl 8 rfl) ?_
      obtain ⟨hk1, h⟩ := h
      refine g_get CF hc hk1 rfl (by decide) (fun _ h9 => List.mem_cons_of_mem _ (List.mem_append_left _ (List.mem_append_left _ (List.mem_append_left _ (List.mem_append_right _ (h9)))))) (k := 3) (by decide) (List.mem_cons_of_mem _ (List.mem_append_left _ (List.mem_append_left _ (List.mem_append_left _ (List.mem_append_left _ (List.mem_append_left _ (List.mem_append_left _ (List.mem_append_left _ (List.mem_of_getElem? (i := 3) rfl))))))))) rfl dX8_termValue_130 ?_
      refine lv_iload hx hb dX8_termValue_133 (lv_at hl 7 rfl) ?_
      obtain ⟨hk2, h⟩ := h
      refine g_calli (va_runV (As := [.int i3, .int i9, .int (gI g r8 3), .int i7]) (rest := [.int i6]) CF (c_X8_taste h) (cwV 4 hts gX8_termValue_X8_taste rfl rfl rfl (by decide +kernel) ⟨Nat.le_of_ble_eq_true rfl, Nat.le_of_ble_eq_true rfl⟩) (hc.preV hk2 rfl (by decide)) rfl rfl hl.1 rfl (lv_room (Nat.le_of_ble_eq_true rfl)) dX8_termValue_135 ⟨Nat.le_of_ble_eq_true rfl, Nat.le_of_ble_eq_true rfl⟩) hc (fun x3 gq4 H locs hq hc => ?_)
      obtain ⟨rfl, h⟩ := hq
      refine lv_aload_n hx hb dX8_termValue_138 rfl (lv_at hl 1 rfl) ?_
      refine lv_iload hx hb dX8_termValue_139 (lv_at hl 5 rfl) ?_
      refine lv_iload hx hb dX8_termValue_141 (lv_at hl 10 rfl) ?_
      refine lv_aload hx hb dX8_termValue_143 (lv_at hl 8 rfl) ?_
      refine g_get CF hc hk1 rfl (by decide) (fun _ h9 => List.mem_cons_of_mem _ (List.mem_append_left _ (List.mem_append_left _ (List.mem_append_left _ (List.mem_append_right _ (h9)))))) (k := 3) (by decide) (List.mem_cons_of_mem _ (List.mem_append_left _ (List.mem_append_left _ (List.mem_append_left _ (List.mem_append_left _ (List.mem_append_left _ (List.mem_append_left _ (List.mem_append_left _ (List.mem_of_getElem? (i := 3) rfl))))))))) rfl dX8_termValue_145 ?_
      refine lv_iload hx hb dX8_termValue_148 (lv_at hl 7 rfl) ?_
      refine g_calli (va_runV (As := [.int i4, .int i10, .int (gI g r8 3), .int i7]) (rest := [.int x3, .int i6]) CF (c_X8_taste h) (cwV 4 hts gX8_termValue_X8_taste rfl rfl rfl (by decide +kernel) ⟨Nat.le_of_ble_eq_true rfl, Nat.le_of_ble_eq_true rfl⟩) (hc.preV hk2 rfl (by decide)) rfl rfl hl.1 rfl (lv_room (Nat.le_of_ble_eq_true rfl)) dX8_termValue_150 ⟨Nat.le_of_ble_eq_true rfl, Nat.le_of_ble_eq_true rfl⟩) hc (fun x5 gq6 H locs hq hc => ?_)
      obtain ⟨rfl, h⟩ := hq
      refine lv_iadd hx hb dX8_termValue_153 ?_
      refine lv_iadd hx hb dX8_termValue_154 ?_
      refine lv_istore (lv' := [(6, .int (i6 + (x3 + x5))), (5, .int is0), (0, .ref r0), (1, .ref r1), (2, va_rf o2), (3, .int i3), (4, .int i4), (7, .int i7), (8, .ref r8), (9, .int i9), (10, .int i10)]) hx hb dX8_termValue_155 hl (by decide) rfl (fun ls hl => ?_)
      exact hb_157 is0 (i6 + (x3 + x5)) i7 h _ _ _ hc (lv_sub hl [2, 3, 4, 5, 6, 1, 0, 7] rfl)
    have hb_115 : ∀ (i6 : Int32) (i7 : Int32) (r8 : Nat) (i9 : Int32) (i10 : Int32), b_X8_termValue_115 g r0 r1 o2 i3 i4 i6 i7 r8 i9 i10 Q k52 → ∀ (H : Heap) (locs : List Loc) (ls : Array Slot), gC D cA (gA g sz) s g H locs → lv_has ls 11 [(0, .ref r0), (1, .ref r1), (2, va_rf o2), (3, .int i3), (4, .int i4), (6, .int i6), (7, .int i7), (8, .ref r8), (9, .int i9), (10, .int i10)] → W p l e r_X8_termValue s m args below meth c H locs 0 0 (MQ below (gQi D cA g sz (fun r g2 => g = g2 ∧ Q r)) args s 0 0 (gA g sz)) (F0 m 115 ls []) := by
      intro i6 i7 r8 i9 i10 h H locs ls hc hl
      unfold b_X8_termValue_115 at h
      refine lv_iconst (v := 1) hx hb dX8_termValue_115 (by decide) ?_
      refine lv_goto (tgt := 120) hx hb dX8_termValue_116 (by decide) ?_
      exact hb_120 i6 i7 r8 i9 i10 1 h _ _ _ hc (lv_sub hl [0, 1, 2, 3, 4, 5, 6, 7, 8, 9] rfl)
    unfold l_X8_termValue_52 at h
    refine lv_iload hx hb dX8_termValue_52 (lv_at hl 7 rfl) ?_
    refine lv_iconst (v := 3) hx hb dX8_termValue_54 (by decide) ?_
    refine lv_icmp_ge (tgt := 163) hx hb dX8_termValue_55 (by decide) (fun c7 => ?_) (fun c7 => ?_)
    · have h := h.1 c7
      refine lv_iload hx hb dX8_termValue_163 (lv_at hl 5 rfl) ?_
      refine lv_if_eq (tgt := 173) hx hb dX8_termValue_165 (by decide) (fun c8 => ?_) (fun c8 => ?_)
      · have h := h.1 c8
        refine lv_iconst (v := (-1)) hx hb dX8_termValue_173 (by decide) ?_
        exact hb_174 (-1) h _ _ _ hc (lv_sub hl [] rfl)
      · have h := h.2 c8
        refine lv_iload hx hb dX8_termValue_168 (lv_at hl 6 rfl) ?_
        refine lv_goto (tgt := 174) hx hb dX8_termValue_170 (by decide) ?_
        exact hb_174 i6 h _ _ _ hc (lv_sub hl [] rfl)
    · have h := h.2 c7
      refine g_aload_nq CF dX8_termValue_58 rfl (lv_at hl 2 rfl) ?_
      refine lv_iload hx hb dX8_termValue_59 (lv_at hl 7 rfl) ?_
      obtain ⟨y9, e10, hu11⟩ := h
      subst e10
      have h := hu11
      obtain ⟨hk12, h⟩ := h
      refine g_callq (va_runV (As := [.int i7]) (rest := []) CF (c_X2_rowOf h) (cwV 1 hts gX8_termValue_X2_rowOf rfl rfl rfl (by decide +kernel) ⟨Nat.le_of_ble_eq_true rfl, Nat.le_of_ble_eq_true rfl⟩) (hc.preV hk12 rfl (by decide)) rfl rfl hl.1 rfl (lv_room (Nat.le_of_ble_eq_true rfl)) dX8_termValue_61 ⟨Nat.le_of_ble_eq_true rfl, Nat.le_of_ble_eq_true rfl⟩) hc (fun o13 gq14 H locs hq hc => ?_)
      obtain ⟨rfl, h⟩ := hq
      refine g_astoreq (lv' := [(8, va_rf o13), (0, .ref r0), (1, .ref r1), (2, .ref y9), (3, .int i3), (4, .int i4), (5, .int i5), (6, .int i6), (7, .int i7)]) CF dX8_termValue_64 hl (by decide) rfl (fun ls hl => ?_)
      refine g_aloadq CF dX8_termValue_66 (lv_at hl 0 rfl) ?_
      refine g_ifnull (tgt := 157) CF dX8_termValue_68 (by decide) (fun e16 => ?_) (fun y15 e16 => ?_)
      · have hu29 := h.1 e16
        subst e16
        have h := hu29
        exact hb_157 i5 i6 i7 h _ _ _ hc (lv_sub hl [1, 2, 3, 4, 5, 6, 7, 8] rfl)
      · have hu29 := h.2 y15 e16
        subst e16
        have h := hu29
        refine lv_aload_n hx hb dX8_termValue_71 rfl (lv_at hl 2 rfl) ?_
        refine lv_iload hx hb dX8_termValue_72 (lv_at hl 8 rfl) ?_
        obtain ⟨hk17, h⟩ := h
        refine g_calli (va_runV (As := [.int i7]) (rest := []) CF (c_X5_isFor h) (cwV 1 hts gX8_termValue_X5_isFor rfl rfl rfl (by decide +kernel) ⟨Nat.le_of_ble_eq_true rfl, Nat.le_of_ble_eq_true rfl⟩) (hc.preV hk17 rfl (by decide)) rfl rfl hl.1 rfl (lv_room (Nat.le_of_ble_eq_true rfl)) dX8_termValue_74 ⟨Nat.le_of_ble_eq_true rfl, Nat.le_of_ble_eq_true rfl⟩) hc (fun x18 gq19 H locs hq hc => ?_)
        obtain ⟨rfl, h⟩ := hq
        refine lv_if_ne (tgt := 83) hx hb dX8_termValue_77 (by decide) (fun c20 => ?_) (fun c20 => ?_)
        · have h := h.2 c20
          refine lv_aload hx hb dX8_termValue_83 (lv_at hl 0 rfl) ?_
          refine lv_iload_n hx hb dX8_termValue_85 rfl (lv_at hl 4 rfl) ?_
          obtain ⟨hk21, h⟩ := h
          refine g_calli (va_runV (As := [.int i3]) (rest := []) CF (c_X9_countOf h) (cwV 1 hts gX8_termValue_X9_countOf rfl rfl rfl (by decide +kernel) ⟨Nat.le_of_ble_eq_true rfl, Nat.le_of_ble_eq_true rfl⟩) (hc.preV hk21 rfl (by decide)) rfl rfl hl.1 rfl (lv_room (Nat.le_of_ble_eq_true rfl)) dX8_termValue_86 ⟨Nat.le_of_ble_eq_true rfl, Nat.le_of_ble_eq_true rfl⟩) hc (fun x22 gq23 H locs hq hc => ?_)
          obtain ⟨rfl, h⟩ := hq
          refine lv_istore (lv' := [(9, .int x22), (8, .ref y15), (0, .ref r0), (1, .ref r1), (2, .ref y9), (3, .int i3), (4, .int i4), (5, .int i5), (6, .int i6), (7, .int i7)]) hx hb dX8_termValue_89 hl (by decide) rfl (fun ls hl => ?_)
          refine lv_aload hx hb dX8_termValue_91 (lv_at hl 1 rfl) ?_
          refine lv_iload hx hb dX8_termValue_93 (lv_at hl 6 rfl) ?_
          refine g_calli (va_runV (As := [.int i4]) (rest := []) CF (c_X9_countOf h) (cwV 1 hts gX8_termValue_X9_countOf rfl rfl rfl (by decide +kernel) ⟨Nat.le_of_ble_eq_true rfl, Nat.le_of_ble_eq_true rfl⟩) (hc.preV hk21 rfl (by decide)) rfl rfl hl.1 rfl (lv_room (Nat.le_of_ble_eq_true rfl)) dX8_termValue_95 ⟨Nat.le_of_ble_eq_true rfl, Nat.le_of_ble_eq_true rfl⟩) hc (fun x24 gq25 H locs hq hc => ?_)
          obtain ⟨rfl, h⟩ := hq
          refine lv_istore (lv' := [(10, .int x24), (9, .int x22), (8, .ref y15), (0, .ref r0), (1, .ref r1), (2, .ref y9), (3, .int i3), (4, .int i4), (5, .int i5), (6, .int i6), (7, .int i7)]) hx hb dX8_termValue_98 hl (by decide) rfl (fun ls hl => ?_)
          refine lv_iload hx hb dX8_termValue_100 (lv_at hl 8 rfl) ?_
          refine lv_if_ne (tgt := 115) hx hb dX8_termValue_102 (by decide) (fun c26 => ?_) (fun c26 => ?_)
          · have h := h.2 c26
            exact hb_115 i6 i7 y15 x22 x24 h _ _ _ hc (lv_sub hl [3, 4, 5, 6, 7, 9, 10, 2, 1, 0] rfl)
          · have h := h.1 c26
            refine lv_iload hx hb dX8_termValue_105 (lv_at hl 1 rfl) ?_
            refine lv_if_gt (tgt := 115) hx hb dX8_termValue_107 (by decide) (fun c27 => ?_) (fun c27 => ?_)
            · have h := h.1 c27
              exact hb_115 i6 i7 y15 x22 x24 h _ _ _ hc (lv_sub hl [3, 4, 5, 6, 7, 9, 10, 2, 1, 0] rfl)
            · have h := h.2 c27
              refine lv_iload hx hb dX8_termValue_110 (lv_at hl 0 rfl) ?_
              refine lv_if_le (tgt := 119) hx hb dX8_termValue_112 (by decide) (fun c28 => ?_) (fun c28 => ?_)
              · have h := h.1 c28
                refine lv_iconst (v := 0) hx hb dX8_termValue_119 (by decide) ?_
                exact hb_120 i6 i7 y15 x22 x24 0 h _ _ _ hc (lv_sub hl [3, 4, 5, 6, 7, 9, 10, 2, 1, 0] rfl)
              · have h := h.2 c28
                exact hb_115 i6 i7 y15 x22 x24 h _ _ _ hc (lv_sub hl [3, 4, 5, 6, 7, 9, 10, 2, 1, 0] rfl)
        · have h := h.1 c20
          refine lv_goto (tgt := 157) hx hb dX8_termValue_80 (by decide) ?_
          exact hb_157 i5 i6 i7 h _ _ _ hc (lv_sub hl [1, 2, 3, 4, 5, 6, 7, 8] rfl)
  have hb_41 : ∀ (r0 : Nat) (r1 : Nat) (o2 : Option Nat) (i3 : Int32) (is0 : Int32), b_X8_termValue_41 g r0 r1 o2 i3 is0 Q → ∀ (H : Heap) (locs : List Loc) (ls : Array Slot), gC D cA (gA g sz) s g H locs → lv_has ls 11 [(0, .ref r0), (1, .ref r1), (2, va_rf o2), (3, .int i3)] → W p l e r_X8_termValue s m args below meth c H locs 0 0 (MQ below (gQi D cA g sz (fun r g2 => g = g2 ∧ Q r)) args s 0 0 (gA g sz)) (F0 m 41 ls [.int is0]) := by
    intro r0 r1 o2 i3 is0 h H locs ls hc hl
    unfold b_X8_termValue_41 at h
    refine lv_istore (lv' := [(4, .int is0), (0, .ref r0), (1, .ref r1), (2, va_rf o2), (3, .int i3)]) hx hb dX8_termValue_41 hl (by decide) rfl (fun ls hl => ?_)
    refine lv_iconst (v := 0) hx hb dX8_termValue_43 (by decide) ?_
    refine lv_istore (lv' := [(5, .int 0), (4, .int is0), (0, .ref r0), (1, .ref r1), (2, va_rf o2), (3, .int i3)]) hx hb dX8_termValue_44 hl (by decide) rfl (fun ls hl => ?_)
    refine lv_iconst (v := 0) hx hb dX8_termValue_46 (by decide) ?_
    refine lv_istore (lv' := [(6, .int 0), (5, .int 0), (4, .int is0), (0, .ref r0), (1, .ref r1), (2, va_rf o2), (3, .int i3)]) hx hb dX8_termValue_47 hl (by decide) rfl (fun ls hl => ?_)
    refine lv_iconst (v := 0) hx hb dX8_termValue_49 (by decide) ?_
    refine lv_istore (lv' := [(7, .int 0), (6, .int 0), (5, .int 0), (4, .int is0), (0, .ref r0), (1, .ref r1), (2, va_rf o2), (3, .int i3)]) hx hb dX8_termValue_50 hl (by decide) rfl (fun ls hl => ?_)
    exact hb_52 r0 r1 o2 i3 is0 0 0 0 h _ _ _ hc (lv_sub hl [4, 5, 6, 7, 3, 2, 1, 0] rfl)
  unfold w_X8_termValue at h
  obtain ⟨H, hH0⟩ : ∃ z, z = s.heap := ⟨_, rfl⟩
  rw [← hH0] at hc ⊢
  obtain ⟨locs, hlc0⟩ : ∃ z : List Loc, z = [] := ⟨_, rfl⟩
  rw [← hlc0] at hc ⊢
  refine lv_aload_n hx hb dX8_termValue_0 rfl (lv_at hl 0 rfl) ?_
  obtain ⟨hk30, h⟩ := h
  obtain ⟨y31, e32, h⟩ := h
  refine g_getr CF hc hk30 rfl (by decide) (fun _ h9 => List.mem_cons_of_mem _ (List.mem_append_left _ (List.mem_append_left _ (List.mem_append_left _ (List.mem_append_left _ (List.mem_append_left _ (List.mem_append_right _ (h9)))))))) (k := 1) (by decide) (List.mem_cons_of_mem _ (List.mem_append_left _ (List.mem_append_left _ (List.mem_append_left _ (List.mem_append_left _ (List.mem_append_left _ (List.mem_append_left _ (List.mem_append_left _ (List.mem_of_getElem? (i := 0) rfl))))))))) e32 rfl dX8_termValue_1 ?_
  refine lv_aload_n hx hb dX8_termValue_4 rfl (lv_at hl 1 rfl) ?_
  obtain ⟨hk33, h⟩ := h
  refine g_get CF hc hk33 rfl (by decide) (fun _ h9 => List.mem_cons_of_mem _ (List.mem_append_left _ (List.mem_append_left _ (List.mem_append_left _ (List.mem_append_left _ (List.mem_append_right _ (h9))))))) (k := 1) (by decide) (List.mem_cons_of_mem _ (List.mem_append_left _ (List.mem_append_left _ (List.mem_append_left _ (List.mem_append_left _ (List.mem_append_left _ (List.mem_append_left _ (List.mem_append_left _ (List.mem_of_getElem? (i := 1) rfl))))))))) rfl dX8_termValue_5 ?_
  obtain ⟨hk34, h⟩ := h
  refine g_calli (va_runV (As := [.int (gI g p1 1)]) (rest := []) CF (c_X4_unmuted h) (cwV 1 hts gX8_termValue_X4_unmuted rfl rfl rfl (by decide +kernel) ⟨Nat.le_of_ble_eq_true rfl, Nat.le_of_ble_eq_true rfl⟩) (hc.preV hk34 rfl (by decide)) rfl rfl hl.1 rfl (lv_room (Nat.le_of_ble_eq_true rfl)) dX8_termValue_8 ⟨Nat.le_of_ble_eq_true rfl, Nat.le_of_ble_eq_true rfl⟩) hc (fun x35 gq36 H locs hq hc => ?_)
  obtain ⟨rfl, h⟩ := hq
  refine lv_istore_n (lv' := [(3, .int x35), (0, .ref p0), (1, .ref p1), (2, va_rf p2)]) hx hb dX8_termValue_11 rfl hl (by decide) (by cases p2 <;> rfl) (fun ls hl => ?_)
  refine lv_aload_n hx hb dX8_termValue_12 rfl (lv_at hl 1 rfl) ?_
  refine g_get CF hc hk30 rfl (by decide) (fun _ h9 => List.mem_cons_of_mem _ (List.mem_append_left _ (List.mem_append_left _ (List.mem_append_left _ (List.mem_append_left _ (List.mem_append_left _ (List.mem_append_right _ (h9)))))))) (k := 3) (by decide) (List.mem_cons_of_mem _ (List.mem_append_left _ (List.mem_append_left _ (List.mem_append_left _ (List.mem_append_left _ (List.mem_append_left _ (List.mem_append_left _ (List.mem_append_left _ (List.mem_of_getElem? (i := 2) rfl))))))))) rfl dX8_termValue_13 ?_
  refine lv_if_eq (tgt := 40) hx hb dX8_termValue_16 (by decide) (fun c37 => ?_) (fun c37 => ?_)
  · have h := h.1 c37
    refine lv_iconst (v := (-1)) hx hb dX8_termValue_40 (by decide) ?_
    exact hb_41 p0 p1 p2 x35 (-1) h _ _ _ hc (lv_sub hl [1, 2, 3, 0] rfl)
  · have h := h.2 c37
    refine lv_aload_n hx hb dX8_termValue_19 rfl (lv_at hl 1 rfl) ?_
    obtain ⟨y38, e39, h⟩ := h
    refine g_getr CF hc hk30 rfl (by decide) (fun _ h9 => List.mem_cons_of_mem _ (List.mem_append_left _ (List.mem_append_left _ (List.mem_append_left _ (List.mem_append_left _ (List.mem_append_left _ (List.mem_append_right _ (h9)))))))) (k := 1) (by decide) (List.mem_cons_of_mem _ (List.mem_append_left _ (List.mem_append_left _ (List.mem_append_left _ (List.mem_append_left _ (List.mem_append_left _ (List.mem_append_left _ (List.mem_append_left _ (List.mem_of_getElem? (i := 0) rfl))))))))) e39 rfl dX8_termValue_20 ?_
    refine lv_aload_n hx hb dX8_termValue_23 rfl (lv_at hl 1 rfl) ?_
    obtain ⟨y40, e41, h⟩ := h
    refine g_getr CF hc hk30 rfl (by decide) (fun _ h9 => List.mem_cons_of_mem _ (List.mem_append_left _ (List.mem_append_left _ (List.mem_append_left _ (List.mem_append_left _ (List.mem_append_left _ (List.mem_append_right _ (h9)))))))) (k := 1) (by decide) (List.mem_cons_of_mem _ (List.mem_append_left _ (List.mem_append_left _ (List.mem_append_left _ (List.mem_append_left _ (List.mem_append_left _ (List.mem_append_left _ (List.mem_append_left _ (List.mem_of_getElem? (i := 0) rfl))))))))) e41 rfl dX8_termValue_24 ?_
    refine lv_aload_n hx hb dX8_termValue_27 rfl (lv_at hl 2 rfl) ?_
    refine g_get CF hc hk33 rfl (by decide) (fun _ h9 => List.mem_cons_of_mem _ (List.mem_append_left _ (List.mem_append_left _ (List.mem_append_left _ (List.mem_append_left _ (List.mem_append_right _ (h9))))))) (k := 1) (by decide) (List.mem_cons_of_mem _ (List.mem_append_left _ (List.mem_append_left _ (List.mem_append_left _ (List.mem_append_left _ (List.mem_append_left _ (List.mem_append_left _ (List.mem_append_left _ (List.mem_of_getElem? (i := 1) rfl))))))))) rfl dX8_termValue_28 ?_
    obtain ⟨hk42, h⟩ := h
    refine g_calli (va_runV (As := [.int (gI g p1 1)]) (rest := [.ref y38]) CF (c_X4_aliasOf h) (cwV 1 hts gX8_termValue_X4_aliasOf rfl rfl rfl (by decide +kernel) ⟨Nat.le_of_ble_eq_true rfl, Nat.le_of_ble_eq_true rfl⟩) (hc.preV hk42 rfl (by decide)) rfl rfl hl.1 rfl (lv_room (Nat.le_of_ble_eq_true rfl)) dX8_termValue_31 ⟨Nat.le_of_ble_eq_true rfl, Nat.le_of_ble_eq_true rfl⟩) hc (fun x43 gq44 H locs hq hc => ?_)
    obtain ⟨rfl, h⟩ := hq
    obtain ⟨hk45, h⟩ := h
    refine g_calli (va_runV (As := [.int x43]) (rest := []) CF (c_X4_unmuted h) (cwV 1 hts gX8_termValue_X4_unmuted rfl rfl rfl (by decide +kernel) ⟨Nat.le_of_ble_eq_true rfl, Nat.le_of_ble_eq_true rfl⟩) (hc.preV hk45 rfl (by decide)) rfl rfl hl.1 rfl (lv_room (Nat.le_of_ble_eq_true rfl)) dX8_termValue_34 ⟨Nat.le_of_ble_eq_true rfl, Nat.le_of_ble_eq_true rfl⟩) hc (fun x46 gq47 H locs hq hc => ?_)
    obtain ⟨rfl, h⟩ := hq
    refine lv_goto (tgt := 41) hx hb dX8_termValue_37 (by decide) ?_
    exact hb_41 p0 p1 p2 x35 x46 h _ _ _ hc (lv_sub hl [1, 2, 3, 0] rfl)
def b_X8_valueAt_23 (g : gS) (is0 : Int32) (Q : Int32 → Prop) : Prop :=
  Q is0
def b_X8_valueAt_13 (g : gS) (Q : Int32 → Prop) : Prop :=
  b_X8_valueAt_23 g (-1) Q
def w_X8_valueAt (g : gS) (p0 : Nat) (p1 : Int32) (Q : Int32 → Prop) : Prop :=
  (p1 < 0 → (b_X8_valueAt_13 g Q)) ∧ (¬ p1 < 0 → (gK g p0 = 9 ∧ (∃ y3, gR g p0 4 = some y3 ∧ (gK g y3 = 21 ∧ ((p1 < (nI (gN g y3)) → (∃ y7, gR g p0 4 = some y7 ∧ (gK g y7 = 21 ∧ (vp_in p1 (gN g y7) ∧ (b_X8_valueAt_23 g (gI g y7 (Int32.toNatClampNeg p1)) Q))))) ∧ (¬ p1 < (nI (gN g y3)) → (b_X8_valueAt_13 g Q)))))))
abbrev r_X8_valueAt : Room := { frames := 0, cells := 0, slots := 0, locals := 0 }
set_option maxHeartbeats 4000000 in
set_option maxRecDepth 100000 in
theorem c_X8_valueAt {l : Launch} {D : va_G} {cA : Nat → ClassId} {sz : Nat} {g : gS} {p0 : Nat} {p1 : Int32} {Q : Int32 → Prop} (h : w_X8_valueAt g p0 p1 Q) : Met l yX8_valueAt wsX8_valueAt r_X8_valueAt (va_Pc [.ref p0, .int p1] (gPre D cA g sz)) (gQi D cA g sz (fun r g2 => g = g2 ∧ Q r)) 0 0 (gA g sz) := by
  refine g_met (cc := cX8_valueAt) (maxL := 2) (ret := (some .int)) (own := RX8) (by decide) rfl rfl (Nat.le_of_ble_eq_true rfl) ?_
  intro p e s m args below meth c ls CF hr hlk hnm hc hl
  obtain ⟨hx, hb, hml, hown, hts⟩ := id CF
  have hl : lv_has ls 2 [(0, .ref p0), (1, .int p1)] := hl
  show W p l e r_X8_valueAt s m args below meth c s.heap [] 0 0 (MQ below (gQi D cA g sz (fun r g2 => g = g2 ∧ Q r)) args s 0 0 (gA g sz)) (F0 m 0 ls [])
  have hb_23 : ∀ (is0 : Int32), b_X8_valueAt_23 g is0 Q → ∀ (H : Heap) (locs : List Loc) (ls : Array Slot), gC D cA (gA g sz) s g H locs → lv_has ls 2 [] → W p l e r_X8_valueAt s m args below meth c H locs 0 0 (MQ below (gQi D cA g sz (fun r g2 => g = g2 ∧ Q r)) args s 0 0 (gA g sz)) (F0 m 23 ls [.int is0]) := by
    intro is0 h H locs ls hc hl
    unfold b_X8_valueAt_23 at h
    exact g_reti (r := is0) CF hr hlk hc rfl ⟨rfl, h⟩ dX8_valueAt_23
  have hb_13 : b_X8_valueAt_13 g Q → ∀ (H : Heap) (locs : List Loc) (ls : Array Slot), gC D cA (gA g sz) s g H locs → lv_has ls 2 [] → W p l e r_X8_valueAt s m args below meth c H locs 0 0 (MQ below (gQi D cA g sz (fun r g2 => g = g2 ∧ Q r)) args s 0 0 (gA g sz)) (F0 m 13 ls []) := by
    intro h H locs ls hc hl
    unfold b_X8_valueAt_13 at h
    refine lv_iconst (v := (-1)) hx hb dX8_valueAt_13 (by decide) ?_
    refine lv_goto (tgt := 23) hx hb dX8_valueAt_14 (by decide) ?_
    exact hb_23 (-1) h _ _ _ hc (lv_sub hl [] rfl)
  unfold w_X8_valueAt at h
  obtain ⟨H, hH0⟩ : ∃ z, z = s.heap := ⟨_, rfl⟩
  rw [← hH0] at hc ⊢
  obtain ⟨locs, hlc0⟩ : ∃ z : List Loc, z = [] := ⟨_, rfl⟩
  rw [← hlc0] at hc ⊢
  refine lv_iload_n hx hb dX8_valueAt_0 rfl (lv_at hl 1 rfl) ?_
  refine lv_if_lt (tgt := 13) hx hb dX8_valueAt_1 (by decide) (fun c1 => ?_) (fun c1 => ?_)
  · have h := h.1 c1
    exact hb_13  h _ _ _ hc (lv_sub hl [] rfl)
  · have h := h.2 c1
    refine lv_iload_n hx hb dX8_valueAt_4 rfl (lv_at hl 1 rfl) ?_
    refine lv_aload_n hx hb dX8_valueAt_5 rfl (lv_at hl 0 rfl) ?_
    obtain ⟨hk2, h⟩ := h
    obtain ⟨y3, e4, h⟩ := h
    refine g_getr CF hc hk2 rfl (by decide) (fun _ h9 => List.mem_cons_of_mem _ (List.mem_append_right _ (h9))) (k := 4) (by decide) (List.mem_cons_of_mem _ (List.mem_append_left _ (List.mem_of_getElem? (i := 0) rfl))) e4 rfl dX8_valueAt_6 ?_
    obtain ⟨hk5, h⟩ := h
    refine g_alen CF hc (j := 0) hk5 (by decide) dX8_valueAt_9 ?_
    refine lv_icmp_lt (tgt := 17) hx hb dX8_valueAt_10 (by decide) (fun c6 => ?_) (fun c6 => ?_)
    · have h := h.1 c6
      refine lv_aload_n hx hb dX8_valueAt_17 rfl (lv_at hl 0 rfl) ?_
      obtain ⟨y7, e8, h⟩ := h
      refine g_getr CF hc hk2 rfl (by decide) (fun _ h9 => List.mem_cons_of_mem _ (List.mem_append_right _ (h9))) (k := 4) (by decide) (List.mem_cons_of_mem _ (List.mem_append_left _ (List.mem_of_getElem? (i := 0) rfl))) e8 rfl dX8_valueAt_18 ?_
      refine lv_iload_n hx hb dX8_valueAt_21 rfl (lv_at hl 1 rfl) ?_
      obtain ⟨hk9, h⟩ := h
      obtain ⟨hi10, h⟩ := h
      refine g_iald CF hc hk9 hi10 dX8_valueAt_22 ?_
      exact hb_23 (gI g y7 (Int32.toNatClampNeg p1)) h _ _ _ hc (lv_sub hl [] rfl)
    · have h := h.2 c6
      exact hb_13  h _ _ _ hc (lv_sub hl [] rfl)
def b_X8_sumOfAtLeast_62 (g : gS) (is0 : Int32) (Q : Int32 → Prop) : Prop :=
  Q is0
def b_X8_sumOfAtLeast_45 (g : gS) (r0 : Nat) (r1 : Nat) (i2 : Int32) (i3 : Int32) (i4 : Int32) (i5 : Int32) (Q : Int32 → Prop) (k8 : Int32 → Int32 → Int32 → Prop) : Prop :=
  k8 i3 i4 (i5 + 1)
def l_X8_sumOfAtLeast_8 (g : gS) (r0 : Nat) (r1 : Nat) (i2 : Int32) (Q : Int32 → Prop) (i3 : Int32) (i4 : Int32) (i5 : Int32) (k8 : Int32 → Int32 → Int32 → Prop) : Prop :=
  gK g r1 = 6 ∧ (w_X5_partCount g r1 (fun x2 => ((x2 ≤ i5 → ((i3 < i2 → (b_X8_sumOfAtLeast_62 g (-1) Q)) ∧ (¬ i3 < i2 → (b_X8_sumOfAtLeast_62 g i4 Q)))) ∧ (¬ x2 ≤ i5 → (w_X5_partAt g r1 i5 (fun x6 => (gK g r0 = 9 ∧ (w_X8_valueAt g r0 x6 (fun x9 => ((x9 = (-1) → (b_X8_sumOfAtLeast_45 g r0 r1 i2 i3 i4 i5 Q k8)) ∧ (¬ x9 = (-1) → (b_X8_sumOfAtLeast_45 g r0 r1 i2 (i3 + 1) (i4 + x9) i5 Q k8))))))))))))
def w_X8_sumOfAtLeast (g : gS) (p0 : Nat) (p1 : Nat) (p2 : Int32) (Q : Int32 → Prop) : Prop :=
  lpx3 (l_X8_sumOfAtLeast_8 g p0 p1 p2 Q) 0 0 0
abbrev r_X8_sumOfAtLeast : Room := { frames := 1, cells := 0, slots := 0, locals := 21 }
set_option maxHeartbeats 4000000 in
set_option maxRecDepth 100000 in
theorem c_X8_sumOfAtLeast {l : Launch} {D : va_G} {cA : Nat → ClassId} {sz : Nat} {g : gS} {p0 : Nat} {p1 : Nat} {p2 : Int32} {Q : Int32 → Prop} (h : w_X8_sumOfAtLeast g p0 p1 p2 Q) : Met l yX8_sumOfAtLeast wsX8_sumOfAtLeast r_X8_sumOfAtLeast (va_Pc [.ref p0, .ref p1, .int p2] (gPre D cA g sz)) (gQi D cA g sz (fun r g2 => g = g2 ∧ Q r)) 0 0 (gA g sz) := by
  refine g_met (cc := cX8_sumOfAtLeast) (maxL := 7) (ret := (some .int)) (own := RX8) (by decide) rfl rfl (Nat.le_of_ble_eq_true rfl) ?_
  intro p e s m args below meth c ls CF hr hlk hnm hc hl
  obtain ⟨hx, hb, hml, hown, hts⟩ := id CF
  have hl : lv_has ls 7 [(0, .ref p0), (1, .ref p1), (2, .int p2)] := hl
  show W p l e r_X8_sumOfAtLeast s m args below meth c s.heap [] 0 0 (MQ below (gQi D cA g sz (fun r g2 => g = g2 ∧ Q r)) args s 0 0 (gA g sz)) (F0 m 0 ls [])
  have hb_62 : ∀ (is0 : Int32), b_X8_sumOfAtLeast_62 g is0 Q → ∀ (H : Heap) (locs : List Loc) (ls : Array Slot), gC D cA (gA g sz) s g H locs → lv_has ls 7 [] → W p l e r_X8_sumOfAtLeast s m args below meth c H locs 0 0 (MQ below (gQi D cA g sz (fun r g2 => g = g2 ∧ Q r)) args s 0 0 (gA g sz)) (F0 m 62 ls [.int is0]) := by
    intro is0 h H locs ls hc hl
    unfold b_X8_sumOfAtLeast_62 at h
    exact g_reti (r := is0) CF hr hlk hc rfl ⟨rfl, h⟩ dX8_sumOfAtLeast_62
  have hb_8 : ∀ (r0 : Nat) (r1 : Nat) (i2 : Int32), ∀ (i3 : Int32) (i4 : Int32) (i5 : Int32), lpx3 (l_X8_sumOfAtLeast_8 g r0 r1 i2 Q) i3 i4 i5 → ∀ (H : Heap) (locs : List Loc) (ls : Array Slot), gC D cA (gA g sz) s g H locs → lv_has ls 7 [(0, .ref r0), (1, .ref r1), (2, .int i2), (3, .int i3), (4, .int i4), (5, .int i5)] → W p l e r_X8_sumOfAtLeast s m args below meth c H locs 0 0 (MQ below (gQi D cA g sz (fun r g2 => g = g2 ∧ Q r)) args s 0 0 (gA g sz)) (F0 m 8 ls []) := by
    intro r0 r1 i2
    refine lpx3_run (P := fun (i3 : Int32) (i4 : Int32) (i5 : Int32) => ∀ (H : Heap) (locs : List Loc) (ls : Array Slot), gC D cA (gA g sz) s g H locs → lv_has ls 7 [(0, .ref r0), (1, .ref r1), (2, .int i2), (3, .int i3), (4, .int i4), (5, .int i5)] → W p l e r_X8_sumOfAtLeast s m args below meth c H locs 0 0 (MQ below (gQi D cA g sz (fun r g2 => g = g2 ∧ Q r)) args s 0 0 (gA g sz)) (F0 m 8 ls [])) ?_
    intro k8 hk_8 i3 i4 i5 h H locs ls hc hl
    have hb_45 : ∀ (i3 : Int32) (i4 : Int32) (i5 : Int32), b_X8_sumOfAtLeast_45 g r0 r1 i2 i3 i4 i5 Q k8 → ∀ (H : Heap) (locs : List Loc) (ls : Array Slot), gC D cA (gA g sz) s g H locs → lv_has ls 7 [(0, .ref r0), (1, .ref r1), (2, .int i2), (3, .int i3), (4, .int i4), (5, .int i5)] → W p l e r_X8_sumOfAtLeast s m args below meth c H locs 0 0 (MQ below (gQi D cA g sz (fun r g2 => g = g2 ∧ Q r)) args s 0 0 (gA g sz)) (F0 m 45 ls []) := by
      intro i3 i4 i5 h H locs ls hc hl
      unfold b_X8_sumOfAtLeast_45 at h
      refine lv_iinc (v := (i5 + 1)) (lv' := [(5, .int (i5 + 1)), (0, .ref r0), (1, .ref r1), (2, .int i2), (3, .int i3), (4, .int i4)]) hx hb dX8_sumOfAtLeast_45 hl (k := 5) rfl rfl (by decide) rfl (fun ls hl => ?_)
      refine lv_goto (tgt := 8) hx hb dX8_sumOfAtLeast_48 (by decide) ?_
      exact hk_8 i3 i4 (i5 + 1) h _ _ _ hc (lv_sub hl [1, 2, 3, 4, 5, 0] rfl)
    unfold l_X8_sumOfAtLeast_8 at h
    refine lv_iload hx hb dX8_sumOfAtLeast_8 (lv_at hl 5 rfl) ?_
    refine lv_aload_n hx hb dX8_sumOfAtLeast_10 rfl (lv_at hl 1 rfl) ?_
    obtain ⟨hk1, h⟩ := h
    refine g_calli (va_runV (As := []) (rest := [.int i5]) CF (c_X5_partCount h) (cwV 0 hts gX8_sumOfAtLeast_X5_partCount rfl rfl rfl (by decide +kernel) ⟨Nat.le_of_ble_eq_true rfl, Nat.le_of_ble_eq_true rfl⟩) (hc.preV hk1 rfl (by decide)) rfl rfl hl.1 rfl (lv_room (Nat.le_of_ble_eq_true rfl)) dX8_sumOfAtLeast_11 ⟨Nat.le_of_ble_eq_true rfl, Nat.le_of_ble_eq_true rfl⟩) hc (fun x2 gq3 H locs hq hc => ?_)
    obtain ⟨rfl, h⟩ := hq
    refine lv_icmp_ge (tgt := 51) hx hb dX8_sumOfAtLeast_14 (by decide) (fun c4 => ?_) (fun c4 => ?_)
    · have h := h.1 c4
      refine lv_iload_n hx hb dX8_sumOfAtLeast_51 rfl (lv_at hl 3 rfl) ?_
      refine lv_iload_n hx hb dX8_sumOfAtLeast_52 rfl (lv_at hl 2 rfl) ?_
      refine lv_icmp_lt (tgt := 61) hx hb dX8_sumOfAtLeast_53 (by decide) (fun c5 => ?_) (fun c5 => ?_)
      · have h := h.1 c5
        refine lv_iconst (v := (-1)) hx hb dX8_sumOfAtLeast_61 (by decide) ?_
        exact hb_62 (-1) h _ _ _ hc (lv_sub hl [] rfl)
      · have h := h.2 c5
        refine lv_iload hx hb dX8_sumOfAtLeast_56 (lv_at hl 4 rfl) ?_
        refine lv_goto (tgt := 62) hx hb dX8_sumOfAtLeast_58 (by decide) ?_
        exact hb_62 i4 h _ _ _ hc (lv_sub hl [] rfl)
    · have h := h.2 c4
      refine lv_aload_n hx hb dX8_sumOfAtLeast_17 rfl (lv_at hl 0 rfl) ?_
      refine lv_aload_n hx hb dX8_sumOfAtLeast_18 rfl (lv_at hl 1 rfl) ?_
      refine lv_iload hx hb dX8_sumOfAtLeast_19 (lv_at hl 5 rfl) ?_
      refine g_calli (va_runV (As := [.int i5]) (rest := [.ref r0]) CF (c_X5_partAt h) (cwV 1 hts gX8_sumOfAtLeast_X5_partAt rfl rfl rfl (by decide +kernel) ⟨Nat.le_of_ble_eq_true rfl, Nat.le_of_ble_eq_true rfl⟩) (hc.preV hk1 rfl (by decide)) rfl rfl hl.1 rfl (lv_room (Nat.le_of_ble_eq_true rfl)) dX8_sumOfAtLeast_21 ⟨Nat.le_of_ble_eq_true rfl, Nat.le_of_ble_eq_true rfl⟩) hc (fun x6 gq7 H locs hq hc => ?_)
      obtain ⟨rfl, h⟩ := hq
      obtain ⟨hk8, h⟩ := h
      refine g_calli (va_runV (As := [.int x6]) (rest := []) CF (c_X8_valueAt h) (cwV 1 hts gX8_sumOfAtLeast_X8_valueAt rfl rfl rfl (by decide +kernel) ⟨Nat.le_of_ble_eq_true rfl, Nat.le_of_ble_eq_true rfl⟩) (hc.preV hk8 rfl (by decide)) rfl rfl hl.1 rfl (lv_room (Nat.le_of_ble_eq_true rfl)) dX8_sumOfAtLeast_24 ⟨Nat.le_of_ble_eq_true rfl, Nat.le_of_ble_eq_true rfl⟩) hc (fun x9 gq10 H locs hq hc => ?_)
      obtain ⟨rfl, h⟩ := hq
      refine lv_istore (lv' := [(6, .int x9), (0, .ref r0), (1, .ref r1), (2, .int i2), (3, .int i3), (4, .int i4), (5, .int i5)]) hx hb dX8_sumOfAtLeast_27 hl (by decide) rfl (fun ls hl => ?_)
      refine lv_iload hx hb dX8_sumOfAtLeast_29 (lv_at hl 0 rfl) ?_
      refine lv_iconst (v := (-1)) hx hb dX8_sumOfAtLeast_31 (by decide) ?_
      refine lv_icmp_eq (tgt := 45) hx hb dX8_sumOfAtLeast_32 (by decide) (fun c11 => ?_) (fun c11 => ?_)
      · have h := h.1 c11
        exact hb_45 i3 i4 i5 h _ _ _ hc (lv_sub hl [1, 2, 3, 4, 5, 6] rfl)
      · have h := h.2 c11
        refine lv_iinc (v := (i3 + 1)) (lv' := [(3, .int (i3 + 1)), (6, .int x9), (0, .ref r0), (1, .ref r1), (2, .int i2), (4, .int i4), (5, .int i5)]) hx hb dX8_sumOfAtLeast_35 hl (k := 4) rfl rfl (by decide) rfl (fun ls hl => ?_)
        refine lv_iload hx hb dX8_sumOfAtLeast_38 (lv_at hl 5 rfl) ?_
        refine lv_iload hx hb dX8_sumOfAtLeast_40 (lv_at hl 1 rfl) ?_
        refine lv_iadd hx hb dX8_sumOfAtLeast_42 ?_
        refine lv_istore (lv' := [(4, .int (i4 + x9)), (3, .int (i3 + 1)), (6, .int x9), (0, .ref r0), (1, .ref r1), (2, .int i2), (5, .int i5)]) hx hb dX8_sumOfAtLeast_43 hl (by decide) rfl (fun ls hl => ?_)
        exact hb_45 (i3 + 1) (i4 + x9) i5 h _ _ _ hc (lv_sub hl [3, 4, 5, 1, 0, 6] rfl)
  unfold w_X8_sumOfAtLeast at h
  obtain ⟨H, hH0⟩ : ∃ z, z = s.heap := ⟨_, rfl⟩
  rw [← hH0] at hc ⊢
  obtain ⟨locs, hlc0⟩ : ∃ z : List Loc, z = [] := ⟨_, rfl⟩
  rw [← hlc0] at hc ⊢
  refine lv_iconst (v := 0) hx hb dX8_sumOfAtLeast_0 (by decide) ?_
  refine lv_istore_n (lv' := [(3, .int 0), (0, .ref p0), (1, .ref p1), (2, .int p2)]) hx hb dX8_sumOfAtLeast_1 rfl hl (by decide) rfl (fun ls hl => ?_)
  refine lv_iconst (v := 0) hx hb dX8_sumOfAtLeast_2 (by decide) ?_
  refine lv_istore (lv' := [(4, .int 0), (3, .int 0), (0, .ref p0), (1, .ref p1), (2, .int p2)]) hx hb dX8_sumOfAtLeast_3 hl (by decide) rfl (fun ls hl => ?_)
  refine lv_iconst (v := 0) hx hb dX8_sumOfAtLeast_5 (by decide) ?_
  refine lv_istore (lv' := [(5, .int 0), (4, .int 0), (3, .int 0), (0, .ref p0), (1, .ref p1), (2, .int p2)]) hx hb dX8_sumOfAtLeast_6 hl (by decide) rfl (fun ls hl => ?_)
  exact hb_8 p0 p1 p2 0 0 0 h _ _ _ hc (lv_sub hl [3, 4, 5, 2, 1, 0] rfl)
def b_X8_isNearIn_90 (g : gS) (r0 : Nat) (r1 : Nat) (r2 : Nat) (i3 : Int32) (i4 : Int32) (i5 : Int32) (Q : Int32 → Prop) (k3 : Int32 → Prop) : Prop :=
  k3 (i5 + 1)
def b_X8_isNearIn_84 (g : gS) (r0 : Nat) (r1 : Nat) (r2 : Nat) (i3 : Int32) (i4 : Int32) (i5 : Int32) (i6 : Int32) (Q : Int32 → Prop) (k3 : Int32 → Prop) (k39 : Int32 → Prop) : Prop :=
  k39 (i6 + 1)
def l_X8_isNearIn_39 (g : gS) (r0 : Nat) (r1 : Nat) (r2 : Nat) (i3 : Int32) (i4 : Int32) (i5 : Int32) (Q : Int32 → Prop) (k3 : Int32 → Prop) (i6 : Int32) (k39 : Int32 → Prop) : Prop :=
  gK g r1 = 10 ∧ (((gI g r1 3) ≤ i6 → (b_X8_isNearIn_90 g r0 r1 r2 i3 i4 i5 Q k3)) ∧ (¬ (gI g r1 3) ≤ i6 → (gK g r2 = 6 ∧ (w_X5_isApartAsAsked g r2 (i6 - i5) (fun x4 => ((x4 = 0 → (b_X8_isNearIn_84 g r0 r1 r2 i3 i4 i5 i6 Q k3 k39)) ∧ (¬ x4 = 0 → (gK g r0 = 9 ∧ (∃ y8, gR g r0 1 = some y8 ∧ (w_X9_termOn g r1 i6 (fun x10 => (gK g y8 = 5 ∧ (w_X4_finds g y8 i4 x10 (gI g r0 3) (fun x13 => ((x13 = 0 → (b_X8_isNearIn_84 g r0 r1 r2 i3 i4 i5 i6 Q k3 k39)) ∧ (¬ x13 = 0 → (Q 1)))))))))))))))))
def l_X8_isNearIn_3 (g : gS) (r0 : Nat) (r1 : Nat) (r2 : Nat) (i3 : Int32) (i4 : Int32) (Q : Int32 → Prop) (i5 : Int32) (k3 : Int32 → Prop) : Prop :=
  gK g r1 = 10 ∧ (((gI g r1 3) ≤ i5 → (Q 0)) ∧ (¬ (gI g r1 3) ≤ i5 → (gK g r0 = 9 ∧ (∃ y19, gR g r0 1 = some y19 ∧ (w_X9_termOn g r1 i5 (fun x21 => (gK g y19 = 5 ∧ (w_X4_finds g y19 i3 x21 (gI g r0 3) (fun x24 => ((x24 = 0 → (b_X8_isNearIn_90 g r0 r1 r2 i3 i4 i5 Q k3)) ∧ (¬ x24 = 0 → (lpx1 (l_X8_isNearIn_39 g r0 r1 r2 i3 i4 i5 Q k3) 0))))))))))))
def w_X8_isNearIn (g : gS) (p0 : Nat) (p1 : Nat) (p2 : Nat) (p3 : Int32) (p4 : Int32) (Q : Int32 → Prop) : Prop :=
  lpx1 (l_X8_isNearIn_3 g p0 p1 p2 p3 p4 Q) 0
abbrev r_X8_isNearIn : Room := { frames := 1, cells := 0, slots := 0, locals := 23 }
set_option maxHeartbeats 4000000 in
set_option maxRecDepth 100000 in
theorem c_X8_isNearIn {l : Launch} {D : va_G} {cA : Nat → ClassId} {sz : Nat} {g : gS} {p0 : Nat} {p1 : Nat} {p2 : Nat} {p3 : Int32} {p4 : Int32} {Q : Int32 → Prop} (h : w_X8_isNearIn g p0 p1 p2 p3 p4 Q) : Met l yX8_isNearIn wsX8_isNearIn r_X8_isNearIn (va_Pc [.ref p0, .ref p1, .ref p2, .int p3, .int p4] (gPre D cA g sz)) (gQi D cA g sz (fun r g2 => g = g2 ∧ Q r)) 0 0 (gA g sz) := by
  refine g_met (cc := cX8_isNearIn) (maxL := 7) (ret := (some .boolean)) (own := RX8) (by decide) rfl rfl (Nat.le_of_ble_eq_true rfl) ?_
  intro p e s m args below meth c ls CF hr hlk hnm hc hl
  obtain ⟨hx, hb, hml, hown, hts⟩ := id CF
  have hl : lv_has ls 7 [(0, .ref p0), (1, .ref p1), (2, .ref p2), (3, .int p3), (4, .int p4)] := hl
  show W p l e r_X8_isNearIn s m args below meth c s.heap [] 0 0 (MQ below (gQi D cA g sz (fun r g2 => g = g2 ∧ Q r)) args s 0 0 (gA g sz)) (F0 m 0 ls [])
  have hb_3 : ∀ (r0 : Nat) (r1 : Nat) (r2 : Nat) (i3 : Int32) (i4 : Int32), ∀ (i5 : Int32), lpx1 (l_X8_isNearIn_3 g r0 r1 r2 i3 i4 Q) i5 → ∀ (H : Heap) (locs : List Loc) (ls : Array Slot), gC D cA (gA g sz) s g H locs → lv_has ls 7 [(0, .ref r0), (1, .ref r1), (2, .ref r2), (3, .int i3), (4, .int i4), (5, .int i5)] → W p l e r_X8_isNearIn s m args below meth c H locs 0 0 (MQ below (gQi D cA g sz (fun r g2 => g = g2 ∧ Q r)) args s 0 0 (gA g sz)) (F0 m 3 ls []) := by
    intro r0 r1 r2 i3 i4
    refine lpx1_run (P := fun (i5 : Int32) => ∀ (H : Heap) (locs : List Loc) (ls : Array Slot), gC D cA (gA g sz) s g H locs → lv_has ls 7 [(0, .ref r0), (1, .ref r1), (2, .ref r2), (3, .int i3), (4, .int i4), (5, .int i5)] → W p l e r_X8_isNearIn s m args below meth c H locs 0 0 (MQ below (gQi D cA g sz (fun r g2 => g = g2 ∧ Q r)) args s 0 0 (gA g sz)) (F0 m 3 ls [])) ?_
    intro k3 hk_3 i5 h H locs ls hc hl
    have hb_90 : ∀ (i5 : Int32), b_X8_isNearIn_90 g r0 r1 r2 i3 i4 i5 Q k3 → ∀ (H : Heap) (locs : List Loc) (ls : Array Slot), gC D cA (gA g sz) s g H locs → lv_has ls 7 [(0, .ref r0), (1, .ref r1), (2, .ref r2), (3, .int i3), (4, .int i4), (5, .int i5)] → W p l e r_X8_isNearIn s m args below meth c H locs 0 0 (MQ below (gQi D cA g sz (fun r g2 => g = g2 ∧ Q r)) args s 0 0 (gA g sz)) (F0 m 90 ls []) := by
      intro i5 h H locs ls hc hl
      unfold b_X8_isNearIn_90 at h
      refine lv_iinc (v := (i5 + 1)) (lv' := [(5, .int (i5 + 1)), (0, .ref r0), (1, .ref r1), (2, .ref r2), (3, .int i3), (4, .int i4)]) hx hb dX8_isNearIn_90 hl (k := 5) rfl rfl (by decide) rfl (fun ls hl => ?_)
      refine lv_goto (tgt := 3) hx hb dX8_isNearIn_93 (by decide) ?_
      exact hk_3 (i5 + 1) h _ _ _ hc (lv_sub hl [1, 2, 3, 4, 5, 0] rfl)
    have hb_39 : ∀ (i5 : Int32), ∀ (i6 : Int32), lpx1 (l_X8_isNearIn_39 g r0 r1 r2 i3 i4 i5 Q k3) i6 → ∀ (H : Heap) (locs : List Loc) (ls : Array Slot), gC D cA (gA g sz) s g H locs → lv_has ls 7 [(0, .ref r0), (1, .ref r1), (2, .ref r2), (3, .int i3), (4, .int i4), (5, .int i5), (6, .int i6)] → W p l e r_X8_isNearIn s m args below meth c H locs 0 0 (MQ below (gQi D cA g sz (fun r g2 => g = g2 ∧ Q r)) args s 0 0 (gA g sz)) (F0 m 39 ls []) := by
      intro i5
      refine lpx1_run (P := fun (i6 : Int32) => ∀ (H : Heap) (locs : List Loc) (ls : Array Slot), gC D cA (gA g sz) s g H locs → lv_has ls 7 [(0, .ref r0), (1, .ref r1), (2, .ref r2), (3, .int i3), (4, .int i4), (5, .int i5), (6, .int i6)] → W p l e r_X8_isNearIn s m args below meth c H locs 0 0 (MQ below (gQi D cA g sz (fun r g2 => g = g2 ∧ Q r)) args s 0 0 (gA g sz)) (F0 m 39 ls [])) ?_
      intro k39 hk_39 i6 h H locs ls hc hl
      have hb_84 : ∀ (i6 : Int32), b_X8_isNearIn_84 g r0 r1 r2 i3 i4 i5 i6 Q k3 k39 → ∀ (H : Heap) (locs : List Loc) (ls : Array Slot), gC D cA (gA g sz) s g H locs → lv_has ls 7 [(0, .ref r0), (1, .ref r1), (2, .ref r2), (3, .int i3), (4, .int i4), (5, .int i5), (6, .int i6)] → W p l e r_X8_isNearIn s m args below meth c H locs 0 0 (MQ below (gQi D cA g sz (fun r g2 => g = g2 ∧ Q r)) args s 0 0 (gA g sz)) (F0 m 84 ls []) := by
        intro i6 h H locs ls hc hl
        unfold b_X8_isNearIn_84 at h
        refine lv_iinc (v := (i6 + 1)) (lv' := [(6, .int (i6 + 1)), (0, .ref r0), (1, .ref r1), (2, .ref r2), (3, .int i3), (4, .int i4), (5, .int i5)]) hx hb dX8_isNearIn_84 hl (k := 6) rfl rfl (by decide) rfl (fun ls hl => ?_)
        refine lv_goto (tgt := 39) hx hb dX8_isNearIn_87 (by decide) ?_
        exact hk_39 (i6 + 1) h _ _ _ hc (lv_sub hl [1, 2, 3, 4, 5, 6, 0] rfl)
      unfold l_X8_isNearIn_39 at h
      refine lv_iload hx hb dX8_isNearIn_39 (lv_at hl 6 rfl) ?_
      refine lv_aload_n hx hb dX8_isNearIn_41 rfl (lv_at hl 1 rfl) ?_
      obtain ⟨hk1, h⟩ := h
      refine g_get CF hc hk1 rfl (by decide) (fun _ h9 => List.mem_cons_of_mem _ (List.mem_append_left _ (List.mem_append_left _ (List.mem_append_left _ (List.mem_append_right _ (h9)))))) (k := 3) (by decide) (List.mem_cons_of_mem _ (List.mem_append_left _ (List.mem_append_left _ (List.mem_append_left _ (List.mem_append_left _ (List.mem_of_getElem? (i := 0) rfl)))))) rfl dX8_isNearIn_42 ?_
      refine lv_icmp_ge (tgt := 90) hx hb dX8_isNearIn_45 (by decide) (fun c2 => ?_) (fun c2 => ?_)
      · have h := h.1 c2
        exact hb_90 i5 h _ _ _ hc (lv_sub hl [0, 1, 2, 3, 4, 5] rfl)
      · have h := h.2 c2
        refine lv_aload_n hx hb dX8_isNearIn_48 rfl (lv_at hl 2 rfl) ?_
        refine lv_iload hx hb dX8_isNearIn_49 (lv_at hl 6 rfl) ?_
        refine lv_iload hx hb dX8_isNearIn_51 (lv_at hl 5 rfl) ?_
        refine lv_isub hx hb dX8_isNearIn_53 ?_
        obtain ⟨hk3, h⟩ := h
        refine g_calli (va_runV (As := [.int (i6 - i5)]) (rest := []) CF (c_X5_isApartAsAsked h) (cwV 1 hts gX8_isNearIn_X5_isApartAsAsked rfl rfl rfl (by decide +kernel) ⟨Nat.le_of_ble_eq_true rfl, Nat.le_of_ble_eq_true rfl⟩) (hc.preV hk3 rfl (by decide)) rfl rfl hl.1 rfl (lv_room (Nat.le_of_ble_eq_true rfl)) dX8_isNearIn_54 ⟨Nat.le_of_ble_eq_true rfl, Nat.le_of_ble_eq_true rfl⟩) hc (fun x4 gq5 H locs hq hc => ?_)
        obtain ⟨rfl, h⟩ := hq
        refine lv_if_eq (tgt := 84) hx hb dX8_isNearIn_57 (by decide) (fun c6 => ?_) (fun c6 => ?_)
        · have h := h.1 c6
          exact hb_84 i6 h _ _ _ hc (lv_sub hl [0, 1, 2, 3, 4, 5, 6] rfl)
        · have h := h.2 c6
          refine lv_aload_n hx hb dX8_isNearIn_60 rfl (lv_at hl 0 rfl) ?_
          obtain ⟨hk7, h⟩ := h
          obtain ⟨y8, e9, h⟩ := h
          refine g_getr CF hc hk7 rfl (by decide) (fun _ h9 => List.mem_cons_of_mem _ (List.mem_append_left _ (List.mem_append_left _ (List.mem_append_right _ (h9))))) (k := 1) (by decide) (List.mem_cons_of_mem _ (List.mem_append_left _ (List.mem_append_left _ (List.mem_append_left _ (List.mem_append_left _ (List.mem_of_getElem? (i := 1) rfl)))))) e9 rfl dX8_isNearIn_61 ?_
          refine lv_iload hx hb dX8_isNearIn_64 (lv_at hl 4 rfl) ?_
          refine lv_aload_n hx hb dX8_isNearIn_66 rfl (lv_at hl 1 rfl) ?_
          refine lv_iload hx hb dX8_isNearIn_67 (lv_at hl 6 rfl) ?_
          refine g_calli (va_runV (As := [.int i6]) (rest := [.int i4, .ref y8]) CF (c_X9_termOn h) (cwV 1 hts gX8_isNearIn_X9_termOn rfl rfl rfl (by decide +kernel) ⟨Nat.le_of_ble_eq_true rfl, Nat.le_of_ble_eq_true rfl⟩) (hc.preV hk1 rfl (by decide)) rfl rfl hl.1 rfl (lv_room (Nat.le_of_ble_eq_true rfl)) dX8_isNearIn_69 ⟨Nat.le_of_ble_eq_true rfl, Nat.le_of_ble_eq_true rfl⟩) hc (fun x10 gq11 H locs hq hc => ?_)
          obtain ⟨rfl, h⟩ := hq
          refine lv_aload_n hx hb dX8_isNearIn_72 rfl (lv_at hl 0 rfl) ?_
          refine g_get CF hc hk7 rfl (by decide) (fun _ h9 => List.mem_cons_of_mem _ (List.mem_append_left _ (List.mem_append_left _ (List.mem_append_right _ (h9))))) (k := 3) (by decide) (List.mem_cons_of_mem _ (List.mem_append_left _ (List.mem_append_left _ (List.mem_append_left _ (List.mem_append_left _ (List.mem_of_getElem? (i := 2) rfl)))))) rfl dX8_isNearIn_73 ?_
          obtain ⟨hk12, h⟩ := h
          refine g_calli (va_runV (As := [.int i4, .int x10, .int (gI g r0 3)]) (rest := []) CF (c_X4_finds h) (cwV 3 hts gX8_isNearIn_X4_finds rfl rfl rfl (by decide +kernel) ⟨Nat.le_of_ble_eq_true rfl, Nat.le_of_ble_eq_true rfl⟩) (hc.preV hk12 rfl (by decide)) rfl rfl hl.1 rfl (lv_room (Nat.le_of_ble_eq_true rfl)) dX8_isNearIn_76 ⟨Nat.le_of_ble_eq_true rfl, Nat.le_of_ble_eq_true rfl⟩) hc (fun x13 gq14 H locs hq hc => ?_)
          obtain ⟨rfl, h⟩ := hq
          refine lv_if_eq (tgt := 84) hx hb dX8_isNearIn_79 (by decide) (fun c15 => ?_) (fun c15 => ?_)
          · have h := h.1 c15
            exact hb_84 i6 h _ _ _ hc (lv_sub hl [0, 1, 2, 3, 4, 5, 6] rfl)
          · have h := h.2 c15
            refine lv_iconst (v := 1) hx hb dX8_isNearIn_82 (by decide) ?_
            exact g_reti (r := 1) CF hr hlk hc (narrow_01 (by decide : (1 : Int32) = 0 ∨ (1 : Int32) = 1)) ⟨rfl, h⟩ dX8_isNearIn_83
    unfold l_X8_isNearIn_3 at h
    refine lv_iload hx hb dX8_isNearIn_3 (lv_at hl 5 rfl) ?_
    refine lv_aload_n hx hb dX8_isNearIn_5 rfl (lv_at hl 1 rfl) ?_
    obtain ⟨hk16, h⟩ := h
    refine g_get CF hc hk16 rfl (by decide) (fun _ h9 => List.mem_cons_of_mem _ (List.mem_append_left _ (List.mem_append_left _ (List.mem_append_left _ (List.mem_append_right _ (h9)))))) (k := 3) (by decide) (List.mem_cons_of_mem _ (List.mem_append_left _ (List.mem_append_left _ (List.mem_append_left _ (List.mem_append_left _ (List.mem_of_getElem? (i := 0) rfl)))))) rfl dX8_isNearIn_6 ?_
    refine lv_icmp_ge (tgt := 96) hx hb dX8_isNearIn_9 (by decide) (fun c17 => ?_) (fun c17 => ?_)
    · have h := h.1 c17
      refine lv_iconst (v := 0) hx hb dX8_isNearIn_96 (by decide) ?_
      exact g_reti (r := 0) CF hr hlk hc (narrow_01 (by decide : (0 : Int32) = 0 ∨ (0 : Int32) = 1)) ⟨rfl, h⟩ dX8_isNearIn_97
    · have h := h.2 c17
      refine lv_aload_n hx hb dX8_isNearIn_12 rfl (lv_at hl 0 rfl) ?_
      obtain ⟨hk18, h⟩ := h
      obtain ⟨y19, e20, h⟩ := h
      refine g_getr CF hc hk18 rfl (by decide) (fun _ h9 => List.mem_cons_of_mem _ (List.mem_append_left _ (List.mem_append_left _ (List.mem_append_right _ (h9))))) (k := 1) (by decide) (List.mem_cons_of_mem _ (List.mem_append_left _ (List.mem_append_left _ (List.mem_append_left _ (List.mem_append_left _ (List.mem_of_getElem? (i := 1) rfl)))))) e20 rfl dX8_isNearIn_13 ?_
      refine lv_iload_n hx hb dX8_isNearIn_16 rfl (lv_at hl 3 rfl) ?_
      refine lv_aload_n hx hb dX8_isNearIn_17 rfl (lv_at hl 1 rfl) ?_
      refine lv_iload hx hb dX8_isNearIn_18 (lv_at hl 5 rfl) ?_
      refine g_calli (va_runV (As := [.int i5]) (rest := [.int i3, .ref y19]) CF (c_X9_termOn h) (cwV 1 hts gX8_isNearIn_X9_termOn rfl rfl rfl (by decide +kernel) ⟨Nat.le_of_ble_eq_true rfl, Nat.le_of_ble_eq_true rfl⟩) (hc.preV hk16 rfl (by decide)) rfl rfl hl.1 rfl (lv_room (Nat.le_of_ble_eq_true rfl)) dX8_isNearIn_20 ⟨Nat.le_of_ble_eq_true rfl, Nat.le_of_ble_eq_true rfl⟩) hc (fun x21 gq22 H locs hq hc => ?_)
      obtain ⟨rfl, h⟩ := hq
      refine lv_aload_n hx hb dX8_isNearIn_23 rfl (lv_at hl 0 rfl) ?_
      refine g_get CF hc hk18 rfl (by decide) (fun _ h9 => List.mem_cons_of_mem _ (List.mem_append_left _ (List.mem_append_left _ (List.mem_append_right _ (h9))))) (k := 3) (by decide) (List.mem_cons_of_mem _ (List.mem_append_left _ (List.mem_append_left _ (List.mem_append_left _ (List.mem_append_left _ (List.mem_of_getElem? (i := 2) rfl)))))) rfl dX8_isNearIn_24 ?_
      obtain ⟨hk23, h⟩ := h
      refine g_calli (va_runV (As := [.int i3, .int x21, .int (gI g r0 3)]) (rest := []) CF (c_X4_finds h) (cwV 3 hts gX8_isNearIn_X4_finds rfl rfl rfl (by decide +kernel) ⟨Nat.le_of_ble_eq_true rfl, Nat.le_of_ble_eq_true rfl⟩) (hc.preV hk23 rfl (by decide)) rfl rfl hl.1 rfl (lv_room (Nat.le_of_ble_eq_true rfl)) dX8_isNearIn_27 ⟨Nat.le_of_ble_eq_true rfl, Nat.le_of_ble_eq_true rfl⟩) hc (fun x24 gq25 H locs hq hc => ?_)
      obtain ⟨rfl, h⟩ := hq
      refine lv_if_ne (tgt := 36) hx hb dX8_isNearIn_30 (by decide) (fun c26 => ?_) (fun c26 => ?_)
      · have h := h.2 c26
        refine lv_iconst (v := 0) hx hb dX8_isNearIn_36 (by decide) ?_
        refine lv_istore (lv' := [(6, .int 0), (0, .ref r0), (1, .ref r1), (2, .ref r2), (3, .int i3), (4, .int i4), (5, .int i5)]) hx hb dX8_isNearIn_37 hl (by decide) rfl (fun ls hl => ?_)
        exact hb_39 i5 0 h _ _ _ hc (lv_sub hl [1, 2, 3, 4, 5, 6, 0] rfl)
      · have h := h.1 c26
        refine lv_goto (tgt := 90) hx hb dX8_isNearIn_33 (by decide) ?_
        exact hb_90 i5 h _ _ _ hc (lv_sub hl [0, 1, 2, 3, 4, 5] rfl)
  unfold w_X8_isNearIn at h
  obtain ⟨H, hH0⟩ : ∃ z, z = s.heap := ⟨_, rfl⟩
  rw [← hH0] at hc ⊢
  obtain ⟨locs, hlc0⟩ : ∃ z : List Loc, z = [] := ⟨_, rfl⟩
  rw [← hlc0] at hc ⊢
  refine lv_iconst (v := 0) hx hb dX8_isNearIn_0 (by decide) ?_
  refine lv_istore (lv' := [(5, .int 0), (0, .ref p0), (1, .ref p1), (2, .ref p2), (3, .int p3), (4, .int p4)]) hx hb dX8_isNearIn_1 hl (by decide) rfl (fun ls hl => ?_)
  exact hb_3 p0 p1 p2 p3 p4 0 h _ _ _ hc (lv_sub hl [1, 2, 3, 4, 5, 0] rfl)
def b_X8_nearValue_151 (g : gS) (is0 : Int32) (Q : Int32 → Prop) : Prop :=
  Q is0
def b_X8_nearValue_128 (g : gS) (r0 : Nat) (r1 : Nat) (o2 : Option Nat) (r3 : Nat) (r4 : Nat) (i5 : Int32) (i6 : Int32) (i7 : Int32) (Q : Int32 → Prop) (k56 : Int32 → Int32 → Prop) : Prop :=
  k56 i6 (i7 + 1)
def b_X8_nearValue_94 (g : gS) (r0 : Nat) (r1 : Nat) (o2 : Option Nat) (r3 : Nat) (r4 : Nat) (i5 : Int32) (i6 : Int32) (i7 : Int32) (o8 : Option Nat) (is0 : Int32) (Q : Int32 → Prop) (k56 : Int32 → Int32 → Prop) : Prop :=
  (o8 = none → (b_X8_nearValue_128 g r0 r1 o2 r3 r4 i5 i6 i7 Q k56)) ∧ (∀ y1, o8 = some y1 → ((is0 = 0 → (b_X8_nearValue_128 g r0 r1 o2 r3 r4 i5 i6 i7 Q k56)) ∧ (¬ is0 = 0 → (gK g r3 = 6 ∧ (gK g r4 = 6 ∧ (gK g r0 = 9 ∧ (w_X8_isNearIn g r0 y1 r1 (gI g r3 1) (gI g r4 1) (fun x7 => ((x7 = 0 → (b_X8_nearValue_128 g r0 r1 o2 r3 r4 i5 i6 i7 Q k56)) ∧ (¬ x7 = 0 → (b_X8_nearValue_128 g r0 r1 o2 r3 r4 i5 (i6 + 1) i7 Q k56)))))))))))
def b_X8_nearValue_93 (g : gS) (r0 : Nat) (r1 : Nat) (o2 : Option Nat) (r3 : Nat) (r4 : Nat) (i5 : Int32) (i6 : Int32) (i7 : Int32) (o8 : Option Nat) (Q : Int32 → Prop) (k56 : Int32 → Int32 → Prop) : Prop :=
  b_X8_nearValue_94 g r0 r1 o2 r3 r4 i5 i6 i7 o8 0 Q k56
def l_X8_nearValue_56 (g : gS) (r0 : Nat) (r1 : Nat) (o2 : Option Nat) (r3 : Nat) (r4 : Nat) (i5 : Int32) (Q : Int32 → Prop) (i6 : Int32) (i7 : Int32) (k56 : Int32 → Int32 → Prop) : Prop :=
  (3 ≤ i7 → ((i6 = 0 → (b_X8_nearValue_151 g (-1) Q)) ∧ (¬ i6 = 0 → (b_X8_nearValue_151 g (i5 + (100 * i6)) Q)))) ∧ (¬ 3 ≤ i7 → (∃ y13, o2 = some y13 ∧ (gK g y13 = 3 ∧ (w_X2_rowOf g y13 i7 (fun o17 => (gK g r3 = 6 ∧ (w_X5_isFor g r3 i7 (fun x20 => ((x20 = 0 → (b_X8_nearValue_93 g r0 r1 (some y13) r3 r4 i5 i6 i7 o17 Q k56)) ∧ (¬ x20 = 0 → (gK g r4 = 6 ∧ (w_X5_isFor g r4 i7 (fun x24 => ((x24 = 0 → (b_X8_nearValue_93 g r0 r1 (some y13) r3 r4 i5 i6 i7 o17 Q k56)) ∧ (¬ x24 = 0 → (b_X8_nearValue_94 g r0 r1 (some y13) r3 r4 i5 i6 i7 o17 1 Q k56))))))))))))))))
def b_X8_nearValue_48 (g : gS) (Q : Int32 → Prop) : Prop :=
  Q (-1)
def w_X8_nearValue (g : gS) (p0 : Nat) (p1 : Nat) (p2 : Option Nat) (Q : Int32 → Prop) : Prop :=
  gK g p0 = 9 ∧ (∃ y28, gR g p0 0 = some y28 ∧ (gK g p1 = 6 ∧ (gK g y28 = 7 ∧ (w_X6_nodeAt g y28 (gI g p1 3) (fun o32 => (∃ y34, gR g p0 0 = some y34 ∧ (gK g y34 = 7 ∧ (w_X6_nodeAt g y34 (gI g p1 4) (fun o37 => (w_X8_sumOfAtLeast g p0 p1 2 (fun x39 => ((o32 = none → (b_X8_nearValue_48 g Q)) ∧ (∀ y41, o32 = some y41 → ((o37 = none → (b_X8_nearValue_48 g Q)) ∧ (∀ y43, o37 = some y43 → ((x39 = (-1) → (b_X8_nearValue_48 g Q)) ∧ (¬ x39 = (-1) → (lpx2 (l_X8_nearValue_56 g p0 p1 p2 y41 y43 x39 Q) 0 0))))))))))))))))))
abbrev r_X8_nearValue : Room := { frames := 2, cells := 0, slots := 0, locals := 49 }
set_option maxHeartbeats 4000000 in
set_option maxRecDepth 100000 in
theorem c_X8_nearValue {l : Launch} {D : va_G} {cA : Nat → ClassId} {sz : Nat} {g : gS} {p0 : Nat} {p1 : Nat} {p2 : Option Nat} {Q : Int32 → Prop} (h : w_X8_nearValue g p0 p1 p2 Q) : Met l yX8_nearValue wsX8_nearValue r_X8_nearValue (va_Pc [.ref p0, .ref p1, va_rf p2] (gPre D cA g sz)) (gQi D cA g sz (fun r g2 => g = g2 ∧ Q r)) 0 0 (gA g sz) := by
  refine g_met (cc := cX8_nearValue) (maxL := 10) (ret := (some .int)) (own := RX8) (by decide) rfl rfl (by cases p2 <;> exact Nat.le_of_ble_eq_true rfl) ?_
  intro p e s m args below meth c ls CF hr hlk hnm hc hl
  obtain ⟨hx, hb, hml, hown, hts⟩ := id CF
  have hl : lv_has ls 10 [(0, .ref p0), (1, .ref p1), (2, va_rf p2)] := (by cases p2 <;> exact hl)
  show W p l e r_X8_nearValue s m args below meth c s.heap [] 0 0 (MQ below (gQi D cA g sz (fun r g2 => g = g2 ∧ Q r)) args s 0 0 (gA g sz)) (F0 m 0 ls [])
  have hb_151 : ∀ (is0 : Int32), b_X8_nearValue_151 g is0 Q → ∀ (H : Heap) (locs : List Loc) (ls : Array Slot), gC D cA (gA g sz) s g H locs → lv_has ls 10 [] → W p l e r_X8_nearValue s m args below meth c H locs 0 0 (MQ below (gQi D cA g sz (fun r g2 => g = g2 ∧ Q r)) args s 0 0 (gA g sz)) (F0 m 151 ls [.int is0]) := by
    intro is0 h H locs ls hc hl
    unfold b_X8_nearValue_151 at h
    exact g_reti (r := is0) CF hr hlk hc rfl ⟨rfl, h⟩ dX8_nearValue_151
  have hb_56 : ∀ (r0 : Nat) (r1 : Nat) (o2 : Option Nat) (r3 : Nat) (r4 : Nat) (i5 : Int32), ∀ (i6 : Int32) (i7 : Int32), lpx2 (l_X8_nearValue_56 g r0 r1 o2 r3 r4 i5 Q) i6 i7 → ∀ (H : Heap) (locs : List Loc) (ls : Array Slot), gC D cA (gA g sz) s g H locs → lv_has ls 10 [(0, .ref r0), (1, .ref r1), (2, va_rf o2), (3, .ref r3), (4, .ref r4), (5, .int i5), (6, .int i6), (7, .int i7)] → W p l e r_X8_nearValue s m args below meth c H locs 0 0 (MQ below (gQi D cA g sz (fun r g2 => g = g2 ∧ Q r)) args s 0 0 (gA g sz)) (F0 m 56 ls []) := by
    intro r0 r1 o2 r3 r4 i5
    refine lpx2_run (P := fun (i6 : Int32) (i7 : Int32) => ∀ (H : Heap) (locs : List Loc) (ls : Array Slot), gC D cA (gA g sz) s g H locs → lv_has ls 10 [(0, .ref r0), (1, .ref r1), (2, va_rf o2), (3, .ref r3), (4, .ref r4), (5, .int i5), (6, .int i6), (7, .int i7)] → W p l e r_X8_nearValue s m args below meth c H locs 0 0 (MQ below (gQi D cA g sz (fun r g2 => g = g2 ∧ Q r)) args s 0 0 (gA g sz)) (F0 m 56 ls [])) ?_
    intro k56 hk_56 i6 i7 h H locs ls hc hl
    have hb_128 : ∀ (i6 : Int32) (i7 : Int32), b_X8_nearValue_128 g r0 r1 o2 r3 r4 i5 i6 i7 Q k56 → ∀ (H : Heap) (locs : List Loc) (ls : Array Slot), gC D cA (gA g sz) s g H locs → lv_has ls 10 [(0, .ref r0), (1, .ref r1), (2, va_rf o2), (3, .ref r3), (4, .ref r4), (5, .int i5), (6, .int i6), (7, .int i7)] → W p l e r_X8_nearValue s m args below meth c H locs 0 0 (MQ below (gQi D cA g sz (fun r g2 => g = g2 ∧ Q r)) args s 0 0 (gA g sz)) (F0 m 128 ls []) := by
      intro i6 i7 h H locs ls hc hl
      unfold b_X8_nearValue_128 at h
      refine lv_iinc (v := (i7 + 1)) (lv' := [(7, .int (i7 + 1)), (0, .ref r0), (1, .ref r1), (2, va_rf o2), (3, .ref r3), (4, .ref r4), (5, .int i5), (6, .int i6)]) hx hb dX8_nearValue_128 hl (k := 7) rfl rfl (by decide) rfl (fun ls hl => ?_)
      refine lv_goto (tgt := 56) hx hb dX8_nearValue_131 (by decide) ?_
      exact hk_56 i6 (i7 + 1) h _ _ _ hc (lv_sub hl [1, 2, 3, 4, 5, 6, 7, 0] rfl)
    have hb_94 : ∀ (i6 : Int32) (i7 : Int32) (o8 : Option Nat) (is0 : Int32), b_X8_nearValue_94 g r0 r1 o2 r3 r4 i5 i6 i7 o8 is0 Q k56 → ∀ (H : Heap) (locs : List Loc) (ls : Array Slot), gC D cA (gA g sz) s g H locs → lv_has ls 10 [(0, .ref r0), (1, .ref r1), (2, va_rf o2), (3, .ref r3), (4, .ref r4), (5, .int i5), (6, .int i6), (7, .int i7), (8, va_rf o8)] → W p l e r_X8_nearValue s m args below meth c H locs 0 0 (MQ below (gQi D cA g sz (fun r g2 => g = g2 ∧ Q r)) args s 0 0 (gA g sz)) (F0 m 94 ls [.int is0]) := by
      intro i6 i7 o8 is0 h H locs ls hc hl
      unfold b_X8_nearValue_94 at h
      refine lv_istore (lv' := [(9, .int is0), (0, .ref r0), (1, .ref r1), (2, va_rf o2), (3, .ref r3), (4, .ref r4), (5, .int i5), (6, .int i6), (7, .int i7), (8, va_rf o8)]) hx hb dX8_nearValue_94 hl (by decide) (by cases o8 <;> rfl) (fun ls hl => ?_)
      refine g_aloadq CF dX8_nearValue_96 (lv_at hl 9 rfl) ?_
      refine g_ifnull (tgt := 128) CF dX8_nearValue_98 (by decide) (fun e2 => ?_) (fun y1 e2 => ?_)
      · have hu10 := h.1 e2
        subst e2
        have h := hu10
        exact hb_128 i6 i7 h _ _ _ hc (lv_sub hl [1, 2, 3, 4, 5, 6, 7, 8] rfl)
      · have hu10 := h.2 y1 e2
        subst e2
        have h := hu10
        refine lv_iload hx hb dX8_nearValue_101 (lv_at hl 0 rfl) ?_
        refine lv_if_eq (tgt := 128) hx hb dX8_nearValue_103 (by decide) (fun c3 => ?_) (fun c3 => ?_)
        · have h := h.1 c3
          exact hb_128 i6 i7 h _ _ _ hc (lv_sub hl [1, 2, 3, 4, 5, 6, 7, 8] rfl)
        · have h := h.2 c3
          refine lv_aload_n hx hb dX8_nearValue_106 rfl (lv_at hl 1 rfl) ?_
          refine lv_aload hx hb dX8_nearValue_107 (lv_at hl 9 rfl) ?_
          refine lv_aload_n hx hb dX8_nearValue_109 rfl (lv_at hl 2 rfl) ?_
          refine lv_aload_n hx hb dX8_nearValue_110 rfl (lv_at hl 4 rfl) ?_
          obtain ⟨hk4, h⟩ := h
          refine g_get CF hc hk4 rfl (by decide) (fun _ h9 => List.mem_cons_of_mem _ (List.mem_append_left _ (List.mem_append_left _ (List.mem_append_left _ (List.mem_append_left _ (List.mem_append_right _ (h9))))))) (k := 1) (by decide) (List.mem_cons_of_mem _ (List.mem_append_left _ (List.mem_append_left _ (List.mem_append_left _ (List.mem_append_left _ (List.mem_append_left _ (List.mem_append_left _ (List.mem_append_left _ (List.mem_of_getElem? (i := 3) rfl))))))))) rfl dX8_nearValue_111 ?_
          refine lv_aload hx hb dX8_nearValue_114 (lv_at hl 5 rfl) ?_
          obtain ⟨hk5, h⟩ := h
          refine g_get CF hc hk5 rfl (by decide) (fun _ h9 => List.mem_cons_of_mem _ (List.mem_append_left _ (List.mem_append_left _ (List.mem_append_left _ (List.mem_append_left _ (List.mem_append_right _ (h9))))))) (k := 1) (by decide) (List.mem_cons_of_mem _ (List.mem_append_left _ (List.mem_append_left _ (List.mem_append_left _ (List.mem_append_left _ (List.mem_append_left _ (List.mem_append_left _ (List.mem_append_left _ (List.mem_of_getElem? (i := 3) rfl))))))))) rfl dX8_nearValue_116 ?_
          obtain ⟨hk6, h⟩ := h
          refine g_calli (va_runV (As := [.ref y1, .ref r1, .int (gI g r3 1), .int (gI g r4 1)]) (rest := []) CF (c_X8_isNearIn h) (cwV 4 hts gX8_nearValue_X8_isNearIn rfl rfl rfl (by decide +kernel) ⟨Nat.le_of_ble_eq_true rfl, Nat.le_of_ble_eq_true rfl⟩) (hc.preV hk6 rfl (by decide)) rfl rfl hl.1 rfl (lv_room (Nat.le_of_ble_eq_true rfl)) dX8_nearValue_119 ⟨Nat.le_of_ble_eq_true rfl, Nat.le_of_ble_eq_true rfl⟩) hc (fun x7 gq8 H locs hq hc => ?_)
          obtain ⟨rfl, h⟩ := hq
          refine lv_if_eq (tgt := 128) hx hb dX8_nearValue_122 (by decide) (fun c9 => ?_) (fun c9 => ?_)
          · have h := h.1 c9
            exact hb_128 i6 i7 h _ _ _ hc (lv_sub hl [1, 2, 3, 4, 5, 6, 7, 8] rfl)
          · have h := h.2 c9
            refine lv_iinc (v := (i6 + 1)) (lv' := [(6, .int (i6 + 1)), (9, .int is0), (0, .ref r0), (1, .ref r1), (2, va_rf o2), (3, .ref r3), (4, .ref r4), (5, .int i5), (7, .int i7), (8, .ref y1)]) hx hb dX8_nearValue_125 hl (k := 7) rfl rfl (by decide) rfl (fun ls hl => ?_)
            exact hb_128 (i6 + 1) i7 h _ _ _ hc (lv_sub hl [2, 3, 4, 5, 6, 7, 0, 8] rfl)
    have hb_93 : ∀ (i6 : Int32) (i7 : Int32) (o8 : Option Nat), b_X8_nearValue_93 g r0 r1 o2 r3 r4 i5 i6 i7 o8 Q k56 → ∀ (H : Heap) (locs : List Loc) (ls : Array Slot), gC D cA (gA g sz) s g H locs → lv_has ls 10 [(0, .ref r0), (1, .ref r1), (2, va_rf o2), (3, .ref r3), (4, .ref r4), (5, .int i5), (6, .int i6), (7, .int i7), (8, va_rf o8)] → W p l e r_X8_nearValue s m args below meth c H locs 0 0 (MQ below (gQi D cA g sz (fun r g2 => g = g2 ∧ Q r)) args s 0 0 (gA g sz)) (F0 m 93 ls []) := by
      intro i6 i7 o8 h H locs ls hc hl
      unfold b_X8_nearValue_93 at h
      refine lv_iconst (v := 0) hx hb dX8_nearValue_93 (by decide) ?_
      exact hb_94 i6 i7 o8 0 h _ _ _ hc (lv_sub hl [0, 1, 2, 3, 4, 5, 6, 7, 8] rfl)
    unfold l_X8_nearValue_56 at h
    refine lv_iload hx hb dX8_nearValue_56 (lv_at hl 7 rfl) ?_
    refine lv_iconst (v := 3) hx hb dX8_nearValue_58 (by decide) ?_
    refine lv_icmp_ge (tgt := 134) hx hb dX8_nearValue_59 (by decide) (fun c11 => ?_) (fun c11 => ?_)
    · have h := h.1 c11
      refine lv_iload hx hb dX8_nearValue_134 (lv_at hl 6 rfl) ?_
      refine lv_if_ne (tgt := 143) hx hb dX8_nearValue_136 (by decide) (fun c12 => ?_) (fun c12 => ?_)
      · have h := h.2 c12
        refine lv_iload hx hb dX8_nearValue_143 (lv_at hl 5 rfl) ?_
        refine lv_bipush (v := 100) hx hb dX8_nearValue_145 (by decide) ?_
        refine lv_iload hx hb dX8_nearValue_147 (lv_at hl 6 rfl) ?_
        refine lv_imul hx hb dX8_nearValue_149 ?_
        refine lv_iadd hx hb dX8_nearValue_150 ?_
        exact hb_151 (i5 + (100 * i6)) h _ _ _ hc (lv_sub hl [] rfl)
      · have h := h.1 c12
        refine lv_iconst (v := (-1)) hx hb dX8_nearValue_139 (by decide) ?_
        refine lv_goto (tgt := 151) hx hb dX8_nearValue_140 (by decide) ?_
        exact hb_151 (-1) h _ _ _ hc (lv_sub hl [] rfl)
    · have h := h.2 c11
      refine g_aload_nq CF dX8_nearValue_62 rfl (lv_at hl 2 rfl) ?_
      refine lv_iload hx hb dX8_nearValue_63 (lv_at hl 7 rfl) ?_
      obtain ⟨y13, e14, hu15⟩ := h
      subst e14
      have h := hu15
      obtain ⟨hk16, h⟩ := h
      refine g_callq (va_runV (As := [.int i7]) (rest := []) CF (c_X2_rowOf h) (cwV 1 hts gX8_nearValue_X2_rowOf rfl rfl rfl (by decide +kernel) ⟨Nat.le_of_ble_eq_true rfl, Nat.le_of_ble_eq_true rfl⟩) (hc.preV hk16 rfl (by decide)) rfl rfl hl.1 rfl (lv_room (Nat.le_of_ble_eq_true rfl)) dX8_nearValue_65 ⟨Nat.le_of_ble_eq_true rfl, Nat.le_of_ble_eq_true rfl⟩) hc (fun o17 gq18 H locs hq hc => ?_)
      obtain ⟨rfl, h⟩ := hq
      refine g_astoreq (lv' := [(8, va_rf o17), (0, .ref r0), (1, .ref r1), (2, .ref y13), (3, .ref r3), (4, .ref r4), (5, .int i5), (6, .int i6), (7, .int i7)]) CF dX8_nearValue_68 hl (by decide) rfl (fun ls hl => ?_)
      refine lv_aload_n hx hb dX8_nearValue_70 rfl (lv_at hl 4 rfl) ?_
      refine lv_iload hx hb dX8_nearValue_71 (lv_at hl 8 rfl) ?_
      obtain ⟨hk19, h⟩ := h
      refine g_calli (va_runV (As := [.int i7]) (rest := []) CF (c_X5_isFor h) (cwV 1 hts gX8_nearValue_X5_isFor rfl rfl rfl (by decide +kernel) ⟨Nat.le_of_ble_eq_true rfl, Nat.le_of_ble_eq_true rfl⟩) (hc.preV hk19 rfl (by decide)) rfl rfl hl.1 rfl (lv_room (Nat.le_of_ble_eq_true rfl)) dX8_nearValue_73 ⟨Nat.le_of_ble_eq_true rfl, Nat.le_of_ble_eq_true rfl⟩) hc (fun x20 gq21 H locs hq hc => ?_)
      obtain ⟨rfl, h⟩ := hq
      refine lv_if_eq (tgt := 93) hx hb dX8_nearValue_76 (by decide) (fun c22 => ?_) (fun c22 => ?_)
      · have h := h.1 c22
        exact hb_93 i6 i7 o17 h _ _ _ hc (lv_sub hl [1, 2, 3, 4, 5, 6, 7, 8, 0] rfl)
      · have h := h.2 c22
        refine lv_aload hx hb dX8_nearValue_79 (lv_at hl 5 rfl) ?_
        refine lv_iload hx hb dX8_nearValue_81 (lv_at hl 8 rfl) ?_
        obtain ⟨hk23, h⟩ := h
        refine g_calli (va_runV (As := [.int i7]) (rest := []) CF (c_X5_isFor h) (cwV 1 hts gX8_nearValue_X5_isFor rfl rfl rfl (by decide +kernel) ⟨Nat.le_of_ble_eq_true rfl, Nat.le_of_ble_eq_true rfl⟩) (hc.preV hk23 rfl (by decide)) rfl rfl hl.1 rfl (lv_room (Nat.le_of_ble_eq_true rfl)) dX8_nearValue_83 ⟨Nat.le_of_ble_eq_true rfl, Nat.le_of_ble_eq_true rfl⟩) hc (fun x24 gq25 H locs hq hc => ?_)
        obtain ⟨rfl, h⟩ := hq
        refine lv_if_eq (tgt := 93) hx hb dX8_nearValue_86 (by decide) (fun c26 => ?_) (fun c26 => ?_)
        · have h := h.1 c26
          exact hb_93 i6 i7 o17 h _ _ _ hc (lv_sub hl [1, 2, 3, 4, 5, 6, 7, 8, 0] rfl)
        · have h := h.2 c26
          refine lv_iconst (v := 1) hx hb dX8_nearValue_89 (by decide) ?_
          refine lv_goto (tgt := 94) hx hb dX8_nearValue_90 (by decide) ?_
          exact hb_94 i6 i7 o17 1 h _ _ _ hc (lv_sub hl [1, 2, 3, 4, 5, 6, 7, 8, 0] rfl)
  have hb_48 : b_X8_nearValue_48 g Q → ∀ (H : Heap) (locs : List Loc) (ls : Array Slot), gC D cA (gA g sz) s g H locs → lv_has ls 10 [] → W p l e r_X8_nearValue s m args below meth c H locs 0 0 (MQ below (gQi D cA g sz (fun r g2 => g = g2 ∧ Q r)) args s 0 0 (gA g sz)) (F0 m 48 ls []) := by
    intro h H locs ls hc hl
    unfold b_X8_nearValue_48 at h
    refine lv_iconst (v := (-1)) hx hb dX8_nearValue_48 (by decide) ?_
    exact g_reti (r := (-1)) CF hr hlk hc rfl ⟨rfl, h⟩ dX8_nearValue_49
  unfold w_X8_nearValue at h
  obtain ⟨H, hH0⟩ : ∃ z, z = s.heap := ⟨_, rfl⟩
  rw [← hH0] at hc ⊢
  obtain ⟨locs, hlc0⟩ : ∃ z : List Loc, z = [] := ⟨_, rfl⟩
  rw [← hlc0] at hc ⊢
  refine lv_aload_n hx hb dX8_nearValue_0 rfl (lv_at hl 0 rfl) ?_
  obtain ⟨hk27, h⟩ := h
  obtain ⟨y28, e29, h⟩ := h
  refine g_getr CF hc hk27 rfl (by decide) (fun _ h9 => List.mem_cons_of_mem _ (List.mem_append_left _ (List.mem_append_left _ (List.mem_append_left _ (List.mem_append_left _ (List.mem_append_left _ (List.mem_append_right _ (h9)))))))) (k := 0) (by decide) (List.mem_cons_of_mem _ (List.mem_append_left _ (List.mem_append_left _ (List.mem_append_left _ (List.mem_append_left _ (List.mem_append_left _ (List.mem_append_left _ (List.mem_append_left _ (List.mem_of_getElem? (i := 0) rfl))))))))) e29 rfl dX8_nearValue_1 ?_
  refine lv_aload_n hx hb dX8_nearValue_4 rfl (lv_at hl 1 rfl) ?_
  obtain ⟨hk30, h⟩ := h
  refine g_get CF hc hk30 rfl (by decide) (fun _ h9 => List.mem_cons_of_mem _ (List.mem_append_left _ (List.mem_append_left _ (List.mem_append_left _ (List.mem_append_left _ (List.mem_append_right _ (h9))))))) (k := 3) (by decide) (List.mem_cons_of_mem _ (List.mem_append_left _ (List.mem_append_left _ (List.mem_append_left _ (List.mem_append_left _ (List.mem_append_left _ (List.mem_append_left _ (List.mem_append_left _ (List.mem_of_getElem? (i := 1) rfl))))))))) rfl dX8_nearValue_5 ?_
  obtain ⟨hk31, h⟩ := h
  refine g_callq (va_runV (As := [.int (gI g p1 3)]) (rest := []) CF (c_X6_nodeAt h) (cwV 1 hts gX8_nearValue_X6_nodeAt rfl rfl rfl (by decide +kernel) ⟨Nat.le_of_ble_eq_true rfl, Nat.le_of_ble_eq_true rfl⟩) (hc.preV hk31 rfl (by decide)) rfl rfl hl.1 rfl (lv_room (Nat.le_of_ble_eq_true rfl)) dX8_nearValue_8 ⟨Nat.le_of_ble_eq_true rfl, Nat.le_of_ble_eq_true rfl⟩) hc (fun o32 gq33 H locs hq hc => ?_)
  obtain ⟨rfl, h⟩ := hq
  refine g_astore_nq (lv' := [(3, va_rf o32), (0, .ref p0), (1, .ref p1), (2, va_rf p2)]) CF dX8_nearValue_11 rfl hl (by decide) (by cases p2 <;> rfl) (fun ls hl => ?_)
  refine lv_aload_n hx hb dX8_nearValue_12 rfl (lv_at hl 1 rfl) ?_
  obtain ⟨y34, e35, h⟩ := h
  refine g_getr CF hc hk27 rfl (by decide) (fun _ h9 => List.mem_cons_of_mem _ (List.mem_append_left _ (List.mem_append_left _ (List.mem_append_left _ (List.mem_append_left _ (List.mem_append_left _ (List.mem_append_right _ (h9)))))))) (k := 0) (by decide) (List.mem_cons_of_mem _ (List.mem_append_left _ (List.mem_append_left _ (List.mem_append_left _ (List.mem_append_left _ (List.mem_append_left _ (List.mem_append_left _ (List.mem_append_left _ (List.mem_of_getElem? (i := 0) rfl))))))))) e35 rfl dX8_nearValue_13 ?_
  refine lv_aload_n hx hb dX8_nearValue_16 rfl (lv_at hl 2 rfl) ?_
  refine g_get CF hc hk30 rfl (by decide) (fun _ h9 => List.mem_cons_of_mem _ (List.mem_append_left _ (List.mem_append_left _ (List.mem_append_left _ (List.mem_append_left _ (List.mem_append_right _ (h9))))))) (k := 4) (by decide) (List.mem_cons_of_mem _ (List.mem_append_left _ (List.mem_append_left _ (List.mem_append_left _ (List.mem_append_left _ (List.mem_append_left _ (List.mem_append_left _ (List.mem_append_left _ (List.mem_of_getElem? (i := 2) rfl))))))))) rfl dX8_nearValue_17 ?_
  obtain ⟨hk36, h⟩ := h
  refine g_callq (va_runV (As := [.int (gI g p1 4)]) (rest := []) CF (c_X6_nodeAt h) (cwV 1 hts gX8_nearValue_X6_nodeAt rfl rfl rfl (by decide +kernel) ⟨Nat.le_of_ble_eq_true rfl, Nat.le_of_ble_eq_true rfl⟩) (hc.preV hk36 rfl (by decide)) rfl rfl hl.1 rfl (lv_room (Nat.le_of_ble_eq_true rfl)) dX8_nearValue_20 ⟨Nat.le_of_ble_eq_true rfl, Nat.le_of_ble_eq_true rfl⟩) hc (fun o37 gq38 H locs hq hc => ?_)
  obtain ⟨rfl, h⟩ := hq
  refine g_astoreq (lv' := [(4, va_rf o37), (3, va_rf o32), (0, .ref p0), (1, .ref p1), (2, va_rf p2)]) CF dX8_nearValue_23 hl (by decide) (by cases o32 <;> rfl) (fun ls hl => ?_)
  refine lv_aload_n hx hb dX8_nearValue_25 rfl (lv_at hl 2 rfl) ?_
  refine lv_aload_n hx hb dX8_nearValue_26 rfl (lv_at hl 3 rfl) ?_
  refine lv_iconst (v := 2) hx hb dX8_nearValue_27 (by decide) ?_
  refine g_calli (va_runV (As := [.ref p1, .int 2]) (rest := []) CF (c_X8_sumOfAtLeast h) (cwV 2 hts gX8_nearValue_X8_sumOfAtLeast rfl rfl rfl (by decide +kernel) ⟨Nat.le_of_ble_eq_true rfl, Nat.le_of_ble_eq_true rfl⟩) (hc.preV hk27 rfl (by decide)) rfl rfl hl.1 rfl (lv_room (Nat.le_of_ble_eq_true rfl)) dX8_nearValue_28 ⟨Nat.le_of_ble_eq_true rfl, Nat.le_of_ble_eq_true rfl⟩) hc (fun x39 gq40 H locs hq hc => ?_)
  obtain ⟨rfl, h⟩ := hq
  refine lv_istore (lv' := [(5, .int x39), (4, va_rf o37), (3, va_rf o32), (0, .ref p0), (1, .ref p1), (2, va_rf p2)]) hx hb dX8_nearValue_31 hl (by decide) (by cases o37 <;> rfl) (fun ls hl => ?_)
  refine g_aload_nq CF dX8_nearValue_33 rfl (lv_at hl 2 rfl) ?_
  refine g_ifnull (tgt := 48) CF dX8_nearValue_34 (by decide) (fun e42 => ?_) (fun y41 e42 => ?_)
  · have hu47 := h.1 e42
    subst e42
    have h := hu47
    exact hb_48  h _ _ _ hc (lv_sub hl [] rfl)
  · have hu47 := h.2 y41 e42
    subst e42
    have h := hu47
    refine g_aloadq CF dX8_nearValue_37 (lv_at hl 1 rfl) ?_
    refine g_ifnull (tgt := 48) CF dX8_nearValue_39 (by decide) (fun e44 => ?_) (fun y43 e44 => ?_)
    · have hu46 := h.1 e44
      subst e44
      have h := hu46
      exact hb_48  h _ _ _ hc (lv_sub hl [] rfl)
    · have hu46 := h.2 y43 e44
      subst e44
      have h := hu46
      refine lv_iload hx hb dX8_nearValue_42 (lv_at hl 0 rfl) ?_
      refine lv_iconst (v := (-1)) hx hb dX8_nearValue_44 (by decide) ?_
      refine lv_icmp_ne (tgt := 50) hx hb dX8_nearValue_45 (by decide) (fun c45 => ?_) (fun c45 => ?_)
      · have h := h.2 c45
        refine lv_iconst (v := 0) hx hb dX8_nearValue_50 (by decide) ?_
        refine lv_istore (lv' := [(6, .int 0), (5, .int x39), (4, .ref y43), (3, .ref y41), (0, .ref p0), (1, .ref p1), (2, va_rf p2)]) hx hb dX8_nearValue_51 hl (by decide) rfl (fun ls hl => ?_)
        refine lv_iconst (v := 0) hx hb dX8_nearValue_53 (by decide) ?_
        refine lv_istore (lv' := [(7, .int 0), (6, .int 0), (5, .int x39), (4, .ref y43), (3, .ref y41), (0, .ref p0), (1, .ref p1), (2, va_rf p2)]) hx hb dX8_nearValue_54 hl (by decide) rfl (fun ls hl => ?_)
        exact hb_56 p0 p1 p2 y41 y43 x39 0 0 h _ _ _ hc (lv_sub hl [5, 6, 7, 4, 3, 2, 1, 0] rfl)
      · have h := h.1 c45
        exact hb_48  h _ _ _ hc (lv_sub hl [] rfl)
def b_X8_scaledValue_15 (g : gS) (is0 : Int32) (Q : Int32 → Prop) : Prop :=
  Q is0
def w_X8_scaledValue (g : gS) (p0 : Int32) (p1 : Int32) (Q : Int32 → Prop) : Prop :=
  (p0 = (-1) → (b_X8_scaledValue_15 g (-1) Q)) ∧ (¬ p0 = (-1) → (b_X8_scaledValue_15 g ((p0 * p1) / 100) Q))
abbrev r_X8_scaledValue : Room := { frames := 0, cells := 0, slots := 0, locals := 0 }
set_option maxHeartbeats 4000000 in
set_option maxRecDepth 100000 in
theorem c_X8_scaledValue {l : Launch} {D : va_G} {cA : Nat → ClassId} {sz : Nat} {g : gS} {p0 : Int32} {p1 : Int32} {Q : Int32 → Prop} (h : w_X8_scaledValue g p0 p1 Q) : Met l yX8_scaledValue wsX8_scaledValue r_X8_scaledValue (va_Pc [.int p0, .int p1] (gPre D cA g sz)) (gQi D cA g sz (fun r g2 => g = g2 ∧ Q r)) 0 0 (gA g sz) := by
  refine g_met (cc := cX8_scaledValue) (maxL := 2) (ret := (some .int)) (own := RX8) (by decide) rfl rfl (Nat.le_of_ble_eq_true rfl) ?_
  intro p e s m args below meth c ls CF hr hlk hnm hc hl
  obtain ⟨hx, hb, hml, hown, hts⟩ := id CF
  have hl : lv_has ls 2 [(0, .int p0), (1, .int p1)] := hl
  show W p l e r_X8_scaledValue s m args below meth c s.heap [] 0 0 (MQ below (gQi D cA g sz (fun r g2 => g = g2 ∧ Q r)) args s 0 0 (gA g sz)) (F0 m 0 ls [])
  have hb_15 : ∀ (is0 : Int32), b_X8_scaledValue_15 g is0 Q → ∀ (H : Heap) (locs : List Loc) (ls : Array Slot), gC D cA (gA g sz) s g H locs → lv_has ls 2 [] → W p l e r_X8_scaledValue s m args below meth c H locs 0 0 (MQ below (gQi D cA g sz (fun r g2 => g = g2 ∧ Q r)) args s 0 0 (gA g sz)) (F0 m 15 ls [.int is0]) := by
    intro is0 h H locs ls hc hl
    unfold b_X8_scaledValue_15 at h
    exact g_reti (r := is0) CF hr hlk hc rfl ⟨rfl, h⟩ dX8_scaledValue_15
  unfold w_X8_scaledValue at h
  obtain ⟨H, hH0⟩ : ∃ z, z = s.heap := ⟨_, rfl⟩
  rw [← hH0] at hc ⊢
  obtain ⟨locs, hlc0⟩ : ∃ z : List Loc, z = [] := ⟨_, rfl⟩
  rw [← hlc0] at hc ⊢
  refine lv_iload_n hx hb dX8_scaledValue_0 rfl (lv_at hl 0 rfl) ?_
  refine lv_iconst (v := (-1)) hx hb dX8_scaledValue_1 (by decide) ?_
  refine lv_icmp_ne (tgt := 9) hx hb dX8_scaledValue_2 (by decide) (fun c1 => ?_) (fun c1 => ?_)
  · have h := h.2 c1
    refine lv_iload_n hx hb dX8_scaledValue_9 rfl (lv_at hl 0 rfl) ?_
    refine lv_iload_n hx hb dX8_scaledValue_10 rfl (lv_at hl 1 rfl) ?_
    refine lv_imul hx hb dX8_scaledValue_11 ?_
    refine lv_bipush (v := 100) hx hb dX8_scaledValue_12 (by decide) ?_
    refine lv_idiv hx hb dX8_scaledValue_14 (by decide) ?_
    exact hb_15 ((p0 * p1) / 100) h _ _ _ hc (lv_sub hl [] rfl)
  · have h := h.1 c1
    refine lv_iconst (v := (-1)) hx hb dX8_scaledValue_5 (by decide) ?_
    refine lv_goto (tgt := 15) hx hb dX8_scaledValue_6 (by decide) ?_
    exact hb_15 (-1) h _ _ _ hc (lv_sub hl [] rfl)
