def b_X8_valueOf_171 (g : gS) (is0 : Int32) (Q : Int32 → Prop) : Prop :=
  Q is0
def b_X8_valueOf_150 (g : gS) (is0 : Int32) (Q : Int32 → Prop) : Prop :=
  Q is0
def b_X8_valueOf_149 (g : gS) (Q : Int32 → Prop) : Prop :=
  b_X8_valueOf_150 g (-1) Q
def b_X8_valueOf_115 (g : gS) (is0 : Int32) (Q : Int32 → Prop) : Prop :=
  Q is0
def w_X8_valueOf (g : gS) (p0 : Nat) (p1 : Option Nat) (p2 : Option Nat) (Q : Int32 → Prop) : Prop :=
  (p1 = none → (Q (-1))) ∧ (∀ y1, p1 = some y1 → (gK g y1 = 6 ∧ (((gI g y1 0).toInt < 0 ∨ 8 < (gI g y1 0).toInt → (Q (-1))) ∧ ((gI g y1 0).toInt = 0 → (gK g p0 = 9 ∧ (w_X8_termValue g p0 y1 p2 (fun x6 => (Q x6))))) ∧ ((gI g y1 0).toInt = 1 → (gK g p0 = 9 ∧ (w_X8_sumOfAtLeast g p0 y1 2 (fun x9 => (Q x9))))) ∧ ((gI g y1 0).toInt = 2 → (gK g p0 = 9 ∧ (w_X8_sumOfAtLeast g p0 y1 1 (fun x12 => (Q x12))))) ∧ ((gI g y1 0).toInt = 3 → (gK g p0 = 9 ∧ (w_X8_valueAt g p0 (gI g y1 4) (fun x15 => ((x15 = (-1) → (w_X8_valueAt g p0 (gI g y1 3) (fun x18 => (b_X8_valueOf_115 g x18 Q)))) ∧ (¬ x15 = (-1) → (b_X8_valueOf_115 g (-1) Q))))))) ∧ ((gI g y1 0).toInt = 4 → (gK g p0 = 9 ∧ (w_X8_nearValue g p0 y1 p2 (fun x21 => (Q x21))))) ∧ ((gI g y1 0).toInt = 5 → (∃ y23, p2 = some y23 ∧ (gK g y23 = 3 ∧ (((gI g y23 0) < (gI g y1 7) → (b_X8_valueOf_149 g Q)) ∧ (¬ (gI g y23 0) < (gI g y1 7) → (((gI g y1 8) < (gI g y23 0) → (b_X8_valueOf_149 g Q)) ∧ (¬ (gI g y1 8) < (gI g y23 0) → (b_X8_valueOf_150 g 0 Q)))))))) ∧ ((gI g y1 0).toInt = 6 → (∃ y29, p2 = some y29 ∧ (gK g y29 = 3 ∧ (((((gI g y1 9) >>> ((gI g y29 1) &&& 31)) &&& 1) = 1 → (b_X8_valueOf_171 g 0 Q)) ∧ (¬ (((gI g y1 9) >>> ((gI g y29 1) &&& 31)) &&& 1) = 1 → (b_X8_valueOf_171 g (-1) Q)))))) ∧ ((gI g y1 0).toInt = 7 → (gK g p0 = 9 ∧ (w_X8_valueAt g p0 (gI g y1 3) (fun x35 => (w_X8_scaledValue g x35 (gI g y1 10) (fun x37 => (Q x37))))))) ∧ ((gI g y1 0).toInt = 8 → (gK g p0 = 9 ∧ (w_X8_sumOfAtLeast g p0 y1 (gI g y1 12) (fun x40 => (Q x40))))))))
abbrev r_X8_valueOf : Room := { frames := 3, cells := 0, slots := 0, locals := 82 }
set_option maxHeartbeats 4000000 in
set_option maxRecDepth 100000 in
theorem c_X8_valueOf {l : Launch} {D : va_G} {cA : Nat → ClassId} {sz : Nat} {g : gS} {p0 : Nat} {p1 : Option Nat} {p2 : Option Nat} {Q : Int32 → Prop} (h : w_X8_valueOf g p0 p1 p2 Q) : Met l yX8_valueOf wsX8_valueOf r_X8_valueOf (va_Pc [.ref p0, va_rf p1, va_rf p2] (gPre D cA g sz)) (gQi D cA g sz (fun r g2 => g = g2 ∧ Q r)) 0 0 (gA g sz) := by
  refine g_met (cc := cX8_valueOf) (maxL := 3) (ret := (some .int)) (own := RX8) (by decide) rfl rfl (by cases p1 <;> cases p2 <;> exact Nat.le_of_ble_eq_true rfl) ?_
  intro p e s m args below meth c ls CF hr hlk hnm hc hl
  obtain ⟨hx, hb, hml, hown, hts⟩ := id CF
  have hl : lv_has ls 3 [(0, .ref p0), (1, va_rf p1), (2, va_rf p2)] := (by cases p1 <;> cases p2 <;> exact hl)
  show W p l e r_X8_valueOf s m args below meth c s.heap [] 0 0 (MQ below (gQi D cA g sz (fun r g2 => g = g2 ∧ Q r)) args s 0 0 (gA g sz)) (F0 m 0 ls [])
  have hb_171 : ∀ (is0 : Int32), b_X8_valueOf_171 g is0 Q → ∀ (H : Heap) (locs : List Loc) (ls : Array Slot), gC D cA (gA g sz) s g H locs → lv_has ls 3 [] → W p l e r_X8_valueOf s m args below meth c H locs 0 0 (MQ below (gQi D cA g sz (fun r g2 => g = g2 ∧ Q r)) args s 0 0 (gA g sz)) (F0 m 171 ls [.int is0]) := by
    intro is0 h H locs ls hc hl
    unfold b_X8_valueOf_171 at h
    exact g_reti (r := is0) CF hr hlk hc rfl ⟨rfl, h⟩ dX8_valueOf_171
  have hb_150 : ∀ (is0 : Int32), b_X8_valueOf_150 g is0 Q → ∀ (H : Heap) (locs : List Loc) (ls : Array Slot), gC D cA (gA g sz) s g H locs → lv_has ls 3 [] → W p l e r_X8_valueOf s m args below meth c H locs 0 0 (MQ below (gQi D cA g sz (fun r g2 => g = g2 ∧ Q r)) args s 0 0 (gA g sz)) (F0 m 150 ls [.int is0]) := by
    intro is0 h H locs ls hc hl
    unfold b_X8_valueOf_150 at h
    exact g_reti (r := is0) CF hr hlk hc rfl ⟨rfl, h⟩ dX8_valueOf_150
  have hb_149 : b_X8_valueOf_149 g Q → ∀ (H : Heap) (locs : List Loc) (ls : Array Slot), gC D cA (gA g sz) s g H locs → lv_has ls 3 [] → W p l e r_X8_valueOf s m args below meth c H locs 0 0 (MQ below (gQi D cA g sz (fun r g2 => g = g2 ∧ Q r)) args s 0 0 (gA g sz)) (F0 m 149 ls []) := by
    intro h H locs ls hc hl
    unfold b_X8_valueOf_149 at h
    refine lv_iconst (v := (-1)) hx hb dX8_valueOf_149 (by decide) ?_
    exact hb_150 (-1) h _ _ _ hc (lv_sub hl [] rfl)
  have hb_115 : ∀ (is0 : Int32), b_X8_valueOf_115 g is0 Q → ∀ (H : Heap) (locs : List Loc) (ls : Array Slot), gC D cA (gA g sz) s g H locs → lv_has ls 3 [] → W p l e r_X8_valueOf s m args below meth c H locs 0 0 (MQ below (gQi D cA g sz (fun r g2 => g = g2 ∧ Q r)) args s 0 0 (gA g sz)) (F0 m 115 ls [.int is0]) := by
    intro is0 h H locs ls hc hl
    unfold b_X8_valueOf_115 at h
    exact g_reti (r := is0) CF hr hlk hc rfl ⟨rfl, h⟩ dX8_valueOf_115
  unfold w_X8_valueOf at h
  obtain ⟨H, hH0⟩ : ∃ z, z = s.heap := ⟨_, rfl⟩
  rw [← hH0] at hc ⊢
  obtain ⟨locs, hlc0⟩ : ∃ z : List Loc, z = [] := ⟨_, rfl⟩
  rw [← hlc0] at hc ⊢
  refine g_aload_nq CF dX8_valueOf_0 rfl (lv_at hl 1 rfl) ?_
  refine g_ifnonnull (tgt := 6) CF dX8_valueOf_1 (by decide) (fun y1 e2 => ?_) (fun e2 => ?_)
  · have hu42 := h.2 y1 e2
    subst e2
    have h := hu42
    refine lv_aload_n hx hb dX8_valueOf_6 rfl (lv_at hl 1 rfl) ?_
    obtain ⟨hk3, h⟩ := h
    refine g_get CF hc hk3 rfl (by decide) (fun _ h9 => List.mem_cons_of_mem _ (List.mem_append_left _ (List.mem_append_left _ (List.mem_append_left _ (List.mem_append_left _ (List.mem_append_left _ (List.mem_append_left _ (List.mem_append_right _ (h9))))))))) (k := 0) (by decide) (List.mem_cons_of_mem _ (List.mem_append_left _ (List.mem_append_left _ (List.mem_append_left _ (List.mem_append_left _ (List.mem_append_left _ (List.mem_append_left _ (List.mem_append_left _ (List.mem_append_left _ (List.mem_of_getElem? (i := 0) rfl)))))))))) rfl dX8_valueOf_7 ?_
    by_cases hd4 : (gI g y1 0).toInt < 0 ∨ 8 < (gI g y1 0).toInt
    · replace h := h.1 hd4
      refine lv_tableOut (tgt := 188) hx hb dX8_valueOf_10 hd4 (by decide) ?_
      refine lv_iconst (v := (-1)) hx hb dX8_valueOf_188 (by decide) ?_
      exact g_reti (r := (-1)) CF hr hlk hc rfl ⟨rfl, h⟩ dX8_valueOf_189
    · replace h := h.2
      rcases (show (gI g y1 0).toInt = 0 ∨ (gI g y1 0).toInt = 1 ∨ (gI g y1 0).toInt = 2 ∨ (gI g y1 0).toInt = 3 ∨ (gI g y1 0).toInt = 4 ∨ (gI g y1 0).toInt = 5 ∨ (gI g y1 0).toInt = 6 ∨ (gI g y1 0).toInt = 7 ∨ (gI g y1 0).toInt = 8 by omega) with hs | hs | hs | hs | hs | hs | hs | hs | hs
      · have h := h.1 hs
        refine lv_tableIn (off := 50) (tgt := 60) hx hb dX8_valueOf_10 (by omega) (by omega) (by rw [hs]; rfl) (by decide) ?_
        refine lv_aload_n hx hb dX8_valueOf_60 rfl (lv_at hl 0 rfl) ?_
        refine lv_aload_n hx hb dX8_valueOf_61 rfl (lv_at hl 1 rfl) ?_
        refine g_aload_nq CF dX8_valueOf_62 rfl (lv_at hl 2 rfl) ?_
        obtain ⟨hk5, h⟩ := h
        refine g_calli (va_runV (As := [.ref y1, va_rf p2]) (rest := []) CF (c_X8_termValue h) (cwV 2 hts gX8_valueOf_X8_termValue rfl rfl rfl (by decide +kernel) ⟨Nat.le_of_ble_eq_true rfl, Nat.le_of_ble_eq_true rfl⟩) (hc.preV hk5 rfl (by decide)) rfl rfl hl.1 rfl (lv_room (Nat.le_of_ble_eq_true rfl)) dX8_valueOf_63 ⟨Nat.le_of_ble_eq_true rfl, Nat.le_of_ble_eq_true rfl⟩) hc (fun x6 gq7 H locs hq hc => ?_)
        obtain ⟨rfl, h⟩ := hq
        exact g_reti (r := x6) CF hr hlk hc rfl ⟨rfl, h⟩ dX8_valueOf_66
      · have h := h.2.1 hs
        refine lv_tableIn (off := 57) (tgt := 67) hx hb dX8_valueOf_10 (by omega) (by omega) (by rw [hs]; rfl) (by decide) ?_
        refine lv_aload_n hx hb dX8_valueOf_67 rfl (lv_at hl 0 rfl) ?_
        refine lv_aload_n hx hb dX8_valueOf_68 rfl (lv_at hl 1 rfl) ?_
        refine lv_iconst (v := 2) hx hb dX8_valueOf_69 (by decide) ?_
        obtain ⟨hk8, h⟩ := h
        refine g_calli (va_runV (As := [.ref y1, .int 2]) (rest := []) CF (c_X8_sumOfAtLeast h) (cwV 2 hts gX8_valueOf_X8_sumOfAtLeast rfl rfl rfl (by decide +kernel) ⟨Nat.le_of_ble_eq_true rfl, Nat.le_of_ble_eq_true rfl⟩) (hc.preV hk8 rfl (by decide)) rfl rfl hl.1 rfl (lv_room (Nat.le_of_ble_eq_true rfl)) dX8_valueOf_70 ⟨Nat.le_of_ble_eq_true rfl, Nat.le_of_ble_eq_true rfl⟩) hc (fun x9 gq10 H locs hq hc => ?_)
        obtain ⟨rfl, h⟩ := hq
        exact g_reti (r := x9) CF hr hlk hc rfl ⟨rfl, h⟩ dX8_valueOf_73
      · have h := h.2.2.1 hs
        refine lv_tableIn (off := 64) (tgt := 74) hx hb dX8_valueOf_10 (by omega) (by omega) (by rw [hs]; rfl) (by decide) ?_
        refine lv_aload_n hx hb dX8_valueOf_74 rfl (lv_at hl 0 rfl) ?_
        refine lv_aload_n hx hb dX8_valueOf_75 rfl (lv_at hl 1 rfl) ?_
        refine lv_iconst (v := 1) hx hb dX8_valueOf_76 (by decide) ?_
        obtain ⟨hk11, h⟩ := h
        refine g_calli (va_runV (As := [.ref y1, .int 1]) (rest := []) CF (c_X8_sumOfAtLeast h) (cwV 2 hts gX8_valueOf_X8_sumOfAtLeast rfl rfl rfl (by decide +kernel) ⟨Nat.le_of_ble_eq_true rfl, Nat.le_of_ble_eq_true rfl⟩) (hc.preV hk11 rfl (by decide)) rfl rfl hl.1 rfl (lv_room (Nat.le_of_ble_eq_true rfl)) dX8_valueOf_77 ⟨Nat.le_of_ble_eq_true rfl, Nat.le_of_ble_eq_true rfl⟩) hc (fun x12 gq13 H locs hq hc => ?_)
        obtain ⟨rfl, h⟩ := hq
        exact g_reti (r := x12) CF hr hlk hc rfl ⟨rfl, h⟩ dX8_valueOf_80
      · have h := h.2.2.2.1 hs
        refine lv_tableIn (off := 81) (tgt := 91) hx hb dX8_valueOf_10 (by omega) (by omega) (by rw [hs]; rfl) (by decide) ?_
        refine lv_aload_n hx hb dX8_valueOf_91 rfl (lv_at hl 0 rfl) ?_
        refine lv_aload_n hx hb dX8_valueOf_92 rfl (lv_at hl 1 rfl) ?_
        refine g_get CF hc hk3 rfl (by decide) (fun _ h9 => List.mem_cons_of_mem _ (List.mem_append_left _ (List.mem_append_left _ (List.mem_append_left _ (List.mem_append_left _ (List.mem_append_left _ (List.mem_append_left _ (List.mem_append_right _ (h9))))))))) (k := 4) (by decide) (List.mem_cons_of_mem _ (List.mem_append_left _ (List.mem_append_left _ (List.mem_append_left _ (List.mem_append_left _ (List.mem_append_left _ (List.mem_append_left _ (List.mem_append_left _ (List.mem_append_left _ (List.mem_of_getElem? (i := 2) rfl)))))))))) rfl dX8_valueOf_93 ?_
        obtain ⟨hk14, h⟩ := h
        refine g_calli (va_runV (As := [.int (gI g y1 4)]) (rest := []) CF (c_X8_valueAt h) (cwV 1 hts gX8_valueOf_X8_valueAt rfl rfl rfl (by decide +kernel) ⟨Nat.le_of_ble_eq_true rfl, Nat.le_of_ble_eq_true rfl⟩) (hc.preV hk14 rfl (by decide)) rfl rfl hl.1 rfl (lv_room (Nat.le_of_ble_eq_true rfl)) dX8_valueOf_96 ⟨Nat.le_of_ble_eq_true rfl, Nat.le_of_ble_eq_true rfl⟩) hc (fun x15 gq16 H locs hq hc => ?_)
        obtain ⟨rfl, h⟩ := hq
        refine lv_iconst (v := (-1)) hx hb dX8_valueOf_99 (by decide) ?_
        refine lv_icmp_ne (tgt := 114) hx hb dX8_valueOf_100 (by decide) (fun c17 => ?_) (fun c17 => ?_)
        · have h := h.2 c17
          refine lv_iconst (v := (-1)) hx hb dX8_valueOf_114 (by decide) ?_
          exact hb_115 (-1) h _ _ _ hc (lv_sub hl [] rfl)
        · have h := h.1 c17
          refine lv_aload_n hx hb dX8_valueOf_103 rfl (lv_at hl 0 rfl) ?_
          refine lv_aload_n hx hb dX8_valueOf_104 rfl (lv_at hl 1 rfl) ?_
          refine g_get CF hc hk3 rfl (by decide) (fun _ h9 => List.mem_cons_of_mem _ (List.mem_append_left _ (List.mem_append_left _ (List.mem_append_left _ (List.mem_append_left _ (List.mem_append_left _ (List.mem_append_left _ (List.mem_append_right _ (h9))))))))) (k := 3) (by decide) (List.mem_cons_of_mem _ (List.mem_append_left _ (List.mem_append_left _ (List.mem_append_left _ (List.mem_append_left _ (List.mem_append_left _ (List.mem_append_left _ (List.mem_append_left _ (List.mem_append_left _ (List.mem_of_getElem? (i := 3) rfl)))))))))) rfl dX8_valueOf_105 ?_
          refine g_calli (va_runV (As := [.int (gI g y1 3)]) (rest := []) CF (c_X8_valueAt h) (cwV 1 hts gX8_valueOf_X8_valueAt rfl rfl rfl (by decide +kernel) ⟨Nat.le_of_ble_eq_true rfl, Nat.le_of_ble_eq_true rfl⟩) (hc.preV hk14 rfl (by decide)) rfl rfl hl.1 rfl (lv_room (Nat.le_of_ble_eq_true rfl)) dX8_valueOf_108 ⟨Nat.le_of_ble_eq_true rfl, Nat.le_of_ble_eq_true rfl⟩) hc (fun x18 gq19 H locs hq hc => ?_)
          obtain ⟨rfl, h⟩ := hq
          refine lv_goto (tgt := 115) hx hb dX8_valueOf_111 (by decide) ?_
          exact hb_115 x18 h _ _ _ hc (lv_sub hl [] rfl)
      · have h := h.2.2.2.2.1 hs
        refine lv_tableIn (off := 106) (tgt := 116) hx hb dX8_valueOf_10 (by omega) (by omega) (by rw [hs]; rfl) (by decide) ?_
        refine lv_aload_n hx hb dX8_valueOf_116 rfl (lv_at hl 0 rfl) ?_
        refine lv_aload_n hx hb dX8_valueOf_117 rfl (lv_at hl 1 rfl) ?_
        refine g_aload_nq CF dX8_valueOf_118 rfl (lv_at hl 2 rfl) ?_
        obtain ⟨hk20, h⟩ := h
        refine g_calli (va_runV (As := [.ref y1, va_rf p2]) (rest := []) CF (c_X8_nearValue h) (cwV 2 hts gX8_valueOf_X8_nearValue rfl rfl rfl (by decide +kernel) ⟨Nat.le_of_ble_eq_true rfl, Nat.le_of_ble_eq_true rfl⟩) (hc.preV hk20 rfl (by decide)) rfl rfl hl.1 rfl (lv_room (Nat.le_of_ble_eq_true rfl)) dX8_valueOf_119 ⟨Nat.le_of_ble_eq_true rfl, Nat.le_of_ble_eq_true rfl⟩) hc (fun x21 gq22 H locs hq hc => ?_)
        obtain ⟨rfl, h⟩ := hq
        exact g_reti (r := x21) CF hr hlk hc rfl ⟨rfl, h⟩ dX8_valueOf_122
      · have h := h.2.2.2.2.2.1 hs
        refine lv_tableIn (off := 113) (tgt := 123) hx hb dX8_valueOf_10 (by omega) (by omega) (by rw [hs]; rfl) (by decide) ?_
        refine g_aload_nq CF dX8_valueOf_123 rfl (lv_at hl 2 rfl) ?_
        obtain ⟨y23, e24, hu25⟩ := h
        subst e24
        have h := hu25
        obtain ⟨hk26, h⟩ := h
        refine g_get CF hc hk26 rfl (by decide) (fun _ h9 => List.mem_cons_of_mem _ (List.mem_append_left _ (List.mem_append_left _ (List.mem_append_left _ (List.mem_append_left _ (List.mem_append_left _ (List.mem_append_right _ (h9)))))))) (k := 0) (by decide) (List.mem_cons_of_mem _ (List.mem_append_left _ (List.mem_append_left _ (List.mem_append_left _ (List.mem_append_left _ (List.mem_append_left _ (List.mem_append_left _ (List.mem_append_left _ (List.mem_append_left _ (List.mem_of_getElem? (i := 4) rfl)))))))))) rfl dX8_valueOf_124 ?_
        refine lv_aload_n hx hb dX8_valueOf_127 rfl (lv_at hl 1 rfl) ?_
        refine g_get CF hc hk3 rfl (by decide) (fun _ h9 => List.mem_cons_of_mem _ (List.mem_append_left _ (List.mem_append_left _ (List.mem_append_left _ (List.mem_append_left _ (List.mem_append_left _ (List.mem_append_left _ (List.mem_append_right _ (h9))))))))) (k := 7) (by decide) (List.mem_cons_of_mem _ (List.mem_append_left _ (List.mem_append_left _ (List.mem_append_left _ (List.mem_append_left _ (List.mem_append_left _ (List.mem_append_left _ (List.mem_append_left _ (List.mem_append_left _ (List.mem_of_getElem? (i := 5) rfl)))))))))) rfl dX8_valueOf_128 ?_
        refine lv_icmp_lt (tgt := 149) hx hb dX8_valueOf_131 (by decide) (fun c27 => ?_) (fun c27 => ?_)
        · have h := h.1 c27
          exact hb_149  h _ _ _ hc (lv_sub hl [] rfl)
        · have h := h.2 c27
          refine lv_aload_n hx hb dX8_valueOf_134 rfl (lv_at hl 2 rfl) ?_
          refine g_get CF hc hk26 rfl (by decide) (fun _ h9 => List.mem_cons_of_mem _ (List.mem_append_left _ (List.mem_append_left _ (List.mem_append_left _ (List.mem_append_left _ (List.mem_append_left _ (List.mem_append_right _ (h9)))))))) (k := 0) (by decide) (List.mem_cons_of_mem _ (List.mem_append_left _ (List.mem_append_left _ (List.mem_append_left _ (List.mem_append_left _ (List.mem_append_left _ (List.mem_append_left _ (List.mem_append_left _ (List.mem_append_left _ (List.mem_of_getElem? (i := 4) rfl)))))))))) rfl dX8_valueOf_135 ?_
          refine lv_aload_n hx hb dX8_valueOf_138 rfl (lv_at hl 1 rfl) ?_
          refine g_get CF hc hk3 rfl (by decide) (fun _ h9 => List.mem_cons_of_mem _ (List.mem_append_left _ (List.mem_append_left _ (List.mem_append_left _ (List.mem_append_left _ (List.mem_append_left _ (List.mem_append_left _ (List.mem_append_right _ (h9))))))))) (k := 8) (by decide) (List.mem_cons_of_mem _ (List.mem_append_left _ (List.mem_append_left _ (List.mem_append_left _ (List.mem_append_left _ (List.mem_append_left _ (List.mem_append_left _ (List.mem_append_left _ (List.mem_append_left _ (List.mem_of_getElem? (i := 6) rfl)))))))))) rfl dX8_valueOf_139 ?_
          refine lv_icmp_gt (tgt := 149) hx hb dX8_valueOf_142 (by decide) (fun c28 => ?_) (fun c28 => ?_)
          · have h := h.1 c28
            exact hb_149  h _ _ _ hc (lv_sub hl [] rfl)
          · have h := h.2 c28
            refine lv_iconst (v := 0) hx hb dX8_valueOf_145 (by decide) ?_
            refine lv_goto (tgt := 150) hx hb dX8_valueOf_146 (by decide) ?_
            exact hb_150 0 h _ _ _ hc (lv_sub hl [] rfl)
      · have h := h.2.2.2.2.2.2.1 hs
        refine lv_tableIn (off := 141) (tgt := 151) hx hb dX8_valueOf_10 (by omega) (by omega) (by rw [hs]; rfl) (by decide) ?_
        refine lv_aload_n hx hb dX8_valueOf_151 rfl (lv_at hl 1 rfl) ?_
        refine g_get CF hc hk3 rfl (by decide) (fun _ h9 => List.mem_cons_of_mem _ (List.mem_append_left _ (List.mem_append_left _ (List.mem_append_left _ (List.mem_append_left _ (List.mem_append_left _ (List.mem_append_left _ (List.mem_append_right _ (h9))))))))) (k := 9) (by decide) (List.mem_cons_of_mem _ (List.mem_append_left _ (List.mem_append_left _ (List.mem_append_left _ (List.mem_append_left _ (List.mem_append_left _ (List.mem_append_left _ (List.mem_append_left _ (List.mem_append_left _ (List.mem_of_getElem? (i := 7) rfl)))))))))) rfl dX8_valueOf_152 ?_
        refine g_aload_nq CF dX8_valueOf_155 rfl (lv_at hl 2 rfl) ?_
        obtain ⟨y29, e30, hu31⟩ := h
        subst e30
        have h := hu31
        obtain ⟨hk32, h⟩ := h
        refine g_get CF hc hk32 rfl (by decide) (fun _ h9 => List.mem_cons_of_mem _ (List.mem_append_left _ (List.mem_append_left _ (List.mem_append_left _ (List.mem_append_left _ (List.mem_append_left _ (List.mem_append_right _ (h9)))))))) (k := 1) (by decide) (List.mem_cons_of_mem _ (List.mem_append_left _ (List.mem_append_left _ (List.mem_append_left _ (List.mem_append_left _ (List.mem_append_left _ (List.mem_append_left _ (List.mem_append_left _ (List.mem_append_left _ (List.mem_of_getElem? (i := 8) rfl)))))))))) rfl dX8_valueOf_156 ?_
        refine lv_ishr hx hb dX8_valueOf_159 ?_
        refine lv_iconst (v := 1) hx hb dX8_valueOf_160 (by decide) ?_
        refine lv_iand hx hb dX8_valueOf_161 ?_
        refine lv_iconst (v := 1) hx hb dX8_valueOf_162 (by decide) ?_
        refine lv_icmp_ne (tgt := 170) hx hb dX8_valueOf_163 (by decide) (fun c33 => ?_) (fun c33 => ?_)
        · have h := h.2 c33
          refine lv_iconst (v := (-1)) hx hb dX8_valueOf_170 (by decide) ?_
          exact hb_171 (-1) h _ _ _ hc (lv_sub hl [] rfl)
        · have h := h.1 c33
          refine lv_iconst (v := 0) hx hb dX8_valueOf_166 (by decide) ?_
          refine lv_goto (tgt := 171) hx hb dX8_valueOf_167 (by decide) ?_
          exact hb_171 0 h _ _ _ hc (lv_sub hl [] rfl)
      · have h := h.2.2.2.2.2.2.2.1 hs
        refine lv_tableIn (off := 162) (tgt := 172) hx hb dX8_valueOf_10 (by omega) (by omega) (by rw [hs]; rfl) (by decide) ?_
        refine lv_aload_n hx hb dX8_valueOf_172 rfl (lv_at hl 0 rfl) ?_
        refine lv_aload_n hx hb dX8_valueOf_173 rfl (lv_at hl 1 rfl) ?_
        refine g_get CF hc hk3 rfl (by decide) (fun _ h9 => List.mem_cons_of_mem _ (List.mem_append_left _ (List.mem_append_left _ (List.mem_append_left _ (List.mem_append_left _ (List.mem_append_left _ (List.mem_append_left _ (List.mem_append_right _ (h9))))))))) (k := 3) (by decide) (List.mem_cons_of_mem _ (List.mem_append_left _ (List.mem_append_left _ (List.mem_append_left _ (List.mem_append_left _ (List.mem_append_left _ (List.mem_append_left _ (List.mem_append_left _ (List.mem_append_left _ (List.mem_of_getElem? (i := 3) rfl)))))))))) rfl dX8_valueOf_174 ?_
        obtain ⟨hk34, h⟩ := h
        refine g_calli (va_runV (As := [.int (gI g y1 3)]) (rest := []) CF (c_X8_valueAt h) (cwV 1 hts gX8_valueOf_X8_valueAt rfl rfl rfl (by decide +kernel) ⟨Nat.le_of_ble_eq_true rfl, Nat.le_of_ble_eq_true rfl⟩) (hc.preV hk34 rfl (by decide)) rfl rfl hl.1 rfl (lv_room (Nat.le_of_ble_eq_true rfl)) dX8_valueOf_177 ⟨Nat.le_of_ble_eq_true rfl, Nat.le_of_ble_eq_true rfl⟩) hc (fun x35 gq36 H locs hq hc => ?_)
        obtain ⟨rfl, h⟩ := hq
        refine lv_aload_n hx hb dX8_valueOf_180 rfl (lv_at hl 1 rfl) ?_
        refine g_get CF hc hk3 rfl (by decide) (fun _ h9 => List.mem_cons_of_mem _ (List.mem_append_left _ (List.mem_append_left _ (List.mem_append_left _ (List.mem_append_left _ (List.mem_append_left _ (List.mem_append_left _ (List.mem_append_right _ (h9))))))))) (k := 10) (by decide) (List.mem_cons_of_mem _ (List.mem_append_left _ (List.mem_append_left _ (List.mem_append_left _ (List.mem_append_left _ (List.mem_append_left _ (List.mem_append_left _ (List.mem_append_left _ (List.mem_append_left _ (List.mem_of_getElem? (i := 9) rfl)))))))))) rfl dX8_valueOf_181 ?_
        refine g_calli (va_runS (As := [.int x35, .int (gI g y1 10)]) (rest := []) CF (c_X8_scaledValue h) (va_cwS 2 hts gX8_valueOf_X8_scaledValue rfl rfl rfl (by decide +kernel) ⟨Nat.le_of_ble_eq_true rfl, Nat.le_of_ble_eq_true rfl⟩) hc.preS rfl rfl hl.1 rfl (lv_room (Nat.le_of_ble_eq_true rfl)) dX8_valueOf_184 ⟨Nat.le_of_ble_eq_true rfl, Nat.le_of_ble_eq_true rfl⟩) hc (fun x37 gq38 H locs hq hc => ?_)
        obtain ⟨rfl, h⟩ := hq
        exact g_reti (r := x37) CF hr hlk hc rfl ⟨rfl, h⟩ dX8_valueOf_187
      · have h := h.2.2.2.2.2.2.2.2 hs
        refine lv_tableIn (off := 71) (tgt := 81) hx hb dX8_valueOf_10 (by omega) (by omega) (by rw [hs]; rfl) (by decide) ?_
        refine lv_aload_n hx hb dX8_valueOf_81 rfl (lv_at hl 0 rfl) ?_
        refine lv_aload_n hx hb dX8_valueOf_82 rfl (lv_at hl 1 rfl) ?_
        refine lv_aload_n hx hb dX8_valueOf_83 rfl (lv_at hl 1 rfl) ?_
        refine g_get CF hc hk3 rfl (by decide) (fun _ h9 => List.mem_cons_of_mem _ (List.mem_append_left _ (List.mem_append_left _ (List.mem_append_left _ (List.mem_append_left _ (List.mem_append_left _ (List.mem_append_left _ (List.mem_append_right _ (h9))))))))) (k := 12) (by decide) (List.mem_cons_of_mem _ (List.mem_append_left _ (List.mem_append_left _ (List.mem_append_left _ (List.mem_append_left _ (List.mem_append_left _ (List.mem_append_left _ (List.mem_append_left _ (List.mem_append_left _ (List.mem_of_getElem? (i := 1) rfl)))))))))) rfl dX8_valueOf_84 ?_
        obtain ⟨hk39, h⟩ := h
        refine g_calli (va_runV (As := [.ref y1, .int (gI g y1 12)]) (rest := []) CF (c_X8_sumOfAtLeast h) (cwV 2 hts gX8_valueOf_X8_sumOfAtLeast rfl rfl rfl (by decide +kernel) ⟨Nat.le_of_ble_eq_true rfl, Nat.le_of_ble_eq_true rfl⟩) (hc.preV hk39 rfl (by decide)) rfl rfl hl.1 rfl (lv_room (Nat.le_of_ble_eq_true rfl)) dX8_valueOf_87 ⟨Nat.le_of_ble_eq_true rfl, Nat.le_of_ble_eq_true rfl⟩) hc (fun x40 gq41 H locs hq hc => ?_)
        obtain ⟨rfl, h⟩ := hq
        exact g_reti (r := x40) CF hr hlk hc rfl ⟨rfl, h⟩ dX8_valueOf_90
  · have hu42 := h.1 e2
    subst e2
    have h := hu42
    refine lv_iconst (v := (-1)) hx hb dX8_valueOf_4 (by decide) ?_
    exact g_reti (r := (-1)) CF hr hlk hc rfl ⟨rfl, h⟩ dX8_valueOf_5
def b_X8_scoreOf_46 (g : gS) (r0 : Nat) (i2 : Int32) (Q : Int32 → gS → Prop) : Prop :=
  gK g r0 = 9 ∧ (w_X8_valueAt g r0 i2 (fun x2 => (Q x2 g)))
def l_X8_scoreOf_2 (r0 : Nat) (o1 : Option Nat) (i2 : Int32) (Q : Int32 → gS → Prop) (g : gS) (i3 : Int32) (k2 : gS → Int32 → Prop) : Prop :=
  (i2 < i3 → (b_X8_scoreOf_46 g r0 i2 Q)) ∧ (¬ i2 < i3 → (gK g r0 = 9 ∧ (∃ y6, gR g r0 4 = some y6 ∧ (gK g y6 = 21 ∧ (((nI (gN g y6)) ≤ i3 → (b_X8_scoreOf_46 g r0 i2 Q)) ∧ (¬ (nI (gN g y6)) ≤ i3 → (∃ y10, gR g r0 4 = some y10 ∧ (∃ y12, gR g r0 0 = some y12 ∧ (gK g y12 = 7 ∧ (w_X6_nodeAt g y12 i3 (fun o15 => (w_X8_valueOf g r0 o15 o1 (fun x17 => (gK g y10 = 21 ∧ (vp_in i3 (gN g y10) ∧ (∀ g21, g21 = sU g y10 (Int32.toNatClampNeg i3) (if 1000000 < x17 then 1000000 else x17) → (k2 g21 (i3 + 1))))))))))))))))))
def w_X8_scoreOf (g0 : gS) (p0 : Nat) (p1 : Option Nat) (p2 : Int32) (Q : Int32 → gS → Prop) : Prop :=
  lpx2 (l_X8_scoreOf_2 p0 p1 p2 Q) g0 0
abbrev r_X8_scoreOf : Room := { frames := 4, cells := 0, slots := 0, locals := 104 }
set_option maxHeartbeats 4000000 in
set_option maxRecDepth 100000 in
theorem c_X8_scoreOf {l : Launch} {D : va_G} {cA : Nat → ClassId} {sz : Nat} {g0 : gS} {p0 : Nat} {p1 : Option Nat} {p2 : Int32} {Q : Int32 → gS → Prop} (h : w_X8_scoreOf g0 p0 p1 p2 Q) : Met l yX8_scoreOf wsX8_scoreOf r_X8_scoreOf (va_Pc [.ref p0, va_rf p1, .int p2] (gPre D cA g0 sz)) (gQi D cA g0 sz (Q)) 0 0 (gA g0 sz) := by
  refine g_met (cc := cX8_scoreOf) (maxL := 4) (ret := (some .int)) (own := RX8) (by decide) rfl rfl (by cases p1 <;> exact Nat.le_of_ble_eq_true rfl) ?_
  intro p e s m args below meth c ls CF hr hlk hnm hc hl
  obtain ⟨hx, hb, hml, hown, hts⟩ := id CF
  have hl : lv_has ls 4 [(0, .ref p0), (1, va_rf p1), (2, .int p2)] := (by cases p1 <;> exact hl)
  show W p l e r_X8_scoreOf s m args below meth c s.heap [] 0 0 (MQ below (gQi D cA g0 sz (Q)) args s 0 0 (gA g0 sz)) (F0 m 0 ls [])
  have hb_46 : ∀ (g : gS) (r0 : Nat) (i2 : Int32), b_X8_scoreOf_46 g r0 i2 Q → ∀ (H : Heap) (locs : List Loc) (ls : Array Slot), gC D cA (gA g0 sz) s g H locs → lv_has ls 4 [(0, .ref r0), (2, .int i2)] → W p l e r_X8_scoreOf s m args below meth c H locs 0 0 (MQ below (gQi D cA g0 sz (Q)) args s 0 0 (gA g0 sz)) (F0 m 46 ls []) := by
    intro g r0 i2 h H locs ls hc hl
    unfold b_X8_scoreOf_46 at h
    refine lv_aload_n hx hb dX8_scoreOf_46 rfl (lv_at hl 0 rfl) ?_
    refine lv_iload_n hx hb dX8_scoreOf_47 rfl (lv_at hl 1 rfl) ?_
    obtain ⟨hk1, h⟩ := h
    refine g_calli (va_runV (As := [.int i2]) (rest := []) CF (c_X8_valueAt h) (cwV 1 hts gX8_scoreOf_X8_valueAt rfl rfl rfl (by decide +kernel) ⟨Nat.le_of_ble_eq_true rfl, Nat.le_of_ble_eq_true rfl⟩) (hc.preV hk1 rfl (by decide)) rfl rfl hl.1 rfl (lv_room (Nat.le_of_ble_eq_true rfl)) dX8_scoreOf_48 ⟨Nat.le_of_ble_eq_true rfl, Nat.le_of_ble_eq_true rfl⟩) hc (fun x2 gq3 H locs hq hc => ?_)
    obtain ⟨rfl, h⟩ := hq
    exact g_reti (r := x2) CF hr hlk hc rfl h dX8_scoreOf_51
  have hb_2 : ∀ (r0 : Nat) (o1 : Option Nat) (i2 : Int32), ∀ (g : gS) (i3 : Int32), lpx2 (l_X8_scoreOf_2 r0 o1 i2 Q) g i3 → ∀ (H : Heap) (locs : List Loc) (ls : Array Slot), gC D cA (gA g0 sz) s g H locs → lv_has ls 4 [(0, .ref r0), (1, va_rf o1), (2, .int i2), (3, .int i3)] → W p l e r_X8_scoreOf s m args below meth c H locs 0 0 (MQ below (gQi D cA g0 sz (Q)) args s 0 0 (gA g0 sz)) (F0 m 2 ls []) := by
    intro r0 o1 i2
    refine lpx2_run (P := fun (g : gS) (i3 : Int32) => ∀ (H : Heap) (locs : List Loc) (ls : Array Slot), gC D cA (gA g0 sz) s g H locs → lv_has ls 4 [(0, .ref r0), (1, va_rf o1), (2, .int i2), (3, .int i3)] → W p l e r_X8_scoreOf s m args below meth c H locs 0 0 (MQ below (gQi D cA g0 sz (Q)) args s 0 0 (gA g0 sz)) (F0 m 2 ls [])) ?_
    intro k2 hk_2 g i3 h H locs ls hc hl
    unfold l_X8_scoreOf_2 at h
    refine lv_iload_n hx hb dX8_scoreOf_2 rfl (lv_at hl 3 rfl) ?_
    refine lv_iload_n hx hb dX8_scoreOf_3 rfl (lv_at hl 2 rfl) ?_
    refine lv_icmp_gt (tgt := 46) hx hb dX8_scoreOf_4 (by decide) (fun c4 => ?_) (fun c4 => ?_)
    · have h := h.1 c4
      exact hb_46 g r0 i2 h _ _ _ hc (lv_sub hl [0, 2] rfl)
    · have h := h.2 c4
      refine lv_iload_n hx hb dX8_scoreOf_7 rfl (lv_at hl 3 rfl) ?_
      refine lv_aload_n hx hb dX8_scoreOf_8 rfl (lv_at hl 0 rfl) ?_
      obtain ⟨hk5, h⟩ := h
      obtain ⟨y6, e7, h⟩ := h
      refine g_getr CF hc hk5 rfl (by decide) (fun _ h9 => List.mem_cons_of_mem _ (List.mem_append_left _ (List.mem_append_left _ (List.mem_append_left _ (List.mem_append_left _ (List.mem_append_left _ (List.mem_append_left _ (List.mem_append_right _ (h9))))))))) (k := 4) (by decide) (List.mem_cons_of_mem _ (List.mem_append_left _ (List.mem_append_left _ (List.mem_append_left _ (List.mem_append_left _ (List.mem_append_left _ (List.mem_append_left _ (List.mem_append_left _ (List.mem_append_left _ (List.mem_of_getElem? (i := 0) rfl)))))))))) e7 rfl dX8_scoreOf_9 ?_
      obtain ⟨hk8, h⟩ := h
      refine g_alen CF hc (j := 0) hk8 (by decide) dX8_scoreOf_12 ?_
      refine lv_icmp_ge (tgt := 46) hx hb dX8_scoreOf_13 (by decide) (fun c9 => ?_) (fun c9 => ?_)
      · have h := h.1 c9
        exact hb_46 g r0 i2 h _ _ _ hc (lv_sub hl [0, 2] rfl)
      · have h := h.2 c9
        refine lv_aload_n hx hb dX8_scoreOf_16 rfl (lv_at hl 0 rfl) ?_
        obtain ⟨y10, e11, h⟩ := h
        refine g_getr CF hc hk5 rfl (by decide) (fun _ h9 => List.mem_cons_of_mem _ (List.mem_append_left _ (List.mem_append_left _ (List.mem_append_left _ (List.mem_append_left _ (List.mem_append_left _ (List.mem_append_left _ (List.mem_append_right _ (h9))))))))) (k := 4) (by decide) (List.mem_cons_of_mem _ (List.mem_append_left _ (List.mem_append_left _ (List.mem_append_left _ (List.mem_append_left _ (List.mem_append_left _ (List.mem_append_left _ (List.mem_append_left _ (List.mem_append_left _ (List.mem_of_getElem? (i := 0) rfl)))))))))) e11 rfl dX8_scoreOf_17 ?_
        refine lv_iload_n hx hb dX8_scoreOf_20 rfl (lv_at hl 3 rfl) ?_
        refine lv_aload_n hx hb dX8_scoreOf_21 rfl (lv_at hl 0 rfl) ?_
        refine lv_aload_n hx hb dX8_scoreOf_22 rfl (lv_at hl 0 rfl) ?_
        obtain ⟨y12, e13, h⟩ := h
        refine g_getr CF hc hk5 rfl (by decide) (fun _ h9 => List.mem_cons_of_mem _ (List.mem_append_left _ (List.mem_append_left _ (List.mem_append_left _ (List.mem_append_left _ (List.mem_append_left _ (List.mem_append_left _ (List.mem_append_right _ (h9))))))))) (k := 0) (by decide) (List.mem_cons_of_mem _ (List.mem_append_left _ (List.mem_append_left _ (List.mem_append_left _ (List.mem_append_left _ (List.mem_append_left _ (List.mem_append_left _ (List.mem_append_left _ (List.mem_append_left _ (List.mem_of_getElem? (i := 1) rfl)))))))))) e13 rfl dX8_scoreOf_23 ?_
        refine lv_iload_n hx hb dX8_scoreOf_26 rfl (lv_at hl 3 rfl) ?_
        obtain ⟨hk14, h⟩ := h
        refine g_callq (va_runV (As := [.int i3]) (rest := [.ref r0, .int i3, .ref y10]) CF (c_X6_nodeAt h) (cwV 1 hts gX8_scoreOf_X6_nodeAt rfl rfl rfl (by decide +kernel) ⟨Nat.le_of_ble_eq_true rfl, Nat.le_of_ble_eq_true rfl⟩) (hc.preV hk14 rfl (by decide)) rfl rfl hl.1 rfl (lv_room (Nat.le_of_ble_eq_true rfl)) dX8_scoreOf_27 ⟨Nat.le_of_ble_eq_true rfl, Nat.le_of_ble_eq_true rfl⟩) hc (fun o15 gq16 H locs hq hc => ?_)
        obtain ⟨rfl, h⟩ := hq
        refine g_aload_nq CF dX8_scoreOf_30 rfl (lv_at hl 1 rfl) ?_
        refine g_calli (va_runV (As := [va_rf o15, va_rf o1]) (rest := [.int i3, .ref y10]) CF (c_X8_valueOf h) (cwV 2 hts gX8_scoreOf_X8_valueOf rfl rfl rfl (by decide +kernel) ⟨Nat.le_of_ble_eq_true rfl, Nat.le_of_ble_eq_true rfl⟩) (hc.preV hk5 rfl (by decide)) rfl rfl hl.1 rfl (lv_room (Nat.le_of_ble_eq_true rfl)) dX8_scoreOf_31 ⟨Nat.le_of_ble_eq_true rfl, Nat.le_of_ble_eq_true rfl⟩) hc (fun x17 gq18 H locs hq hc => ?_)
        obtain ⟨rfl, h⟩ := hq
        refine lv_ldc (v := 1000000) hx hb hown (hts _ (List.mem_cons_of_mem _ (List.mem_append_left _ (List.mem_append_left _ (List.mem_append_left _ (List.mem_append_left _ (List.mem_append_left _ (List.mem_append_left _ (List.mem_append_left _ (List.mem_append_left _ (List.mem_of_getElem? (i := 2) rfl))))))))))) dX8_scoreOf_34 ?_
        refine va_mmin hx hb (hml.trans hl.1.symm) hown (hts _ (List.mem_cons_of_mem _ (List.mem_append_left _ (List.mem_append_left _ (List.mem_append_left _ (List.mem_append_left _ (List.mem_append_left _ (List.mem_append_left _ (List.mem_append_left _ (List.mem_append_left _ (List.mem_of_getElem? (i := 3) rfl))))))))))) (hts _ (List.mem_cons_of_mem _ (List.mem_append_left _ (List.mem_append_left _ (List.mem_append_left _ (List.mem_append_left _ (List.mem_append_left _ (List.mem_append_left _ (List.mem_append_left _ (List.mem_append_left _ (List.mem_of_getElem? (i := 4) rfl))))))))))) (hts _ (List.mem_cons_of_mem _ (List.mem_append_left _ (List.mem_append_left _ (List.mem_append_left _ (List.mem_append_left _ (List.mem_append_left _ (List.mem_append_left _ (List.mem_append_left _ (List.mem_append_left _ (List.mem_of_getElem? (i := 5) rfl))))))))))) (hts _ (List.mem_cons_of_mem _ (List.mem_append_left _ (List.mem_append_left _ (List.mem_append_left _ (List.mem_append_left _ (List.mem_append_left _ (List.mem_append_left _ (List.mem_append_left _ (List.mem_append_left _ (List.mem_of_getElem? (i := 6) rfl))))))))))) (Nat.le_of_ble_eq_true rfl) (Nat.le_of_ble_eq_true rfl) (Nat.le_of_ble_eq_true rfl) (Nat.le_of_ble_eq_true rfl) dX8_scoreOf_36 ?_
        obtain ⟨hk19, h⟩ := h
        obtain ⟨hi20, h⟩ := h
        refine g_iast CF hc hk19 (x := (if 1000000 < x17 then 1000000 else x17)) hi20 dX8_scoreOf_39 (fun H locs hc => ?_)
        obtain ⟨g21, eg22⟩ : ∃ z, z = sU g y10 (Int32.toNatClampNeg i3) (if 1000000 < x17 then 1000000 else x17) := ⟨_, rfl⟩
        have hc : gC D cA (gA g0 sz) s g21 H locs := by rw [eg22]; exact hc
        replace h := h g21 eg22
        refine lv_iinc (v := (i3 + 1)) (lv' := [(3, .int (i3 + 1)), (0, .ref r0), (1, va_rf o1), (2, .int i2)]) hx hb dX8_scoreOf_40 hl (k := 3) rfl rfl (by decide) rfl (fun ls hl => ?_)
        refine lv_goto (tgt := 2) hx hb dX8_scoreOf_43 (by decide) ?_
        exact hk_2 g21 (i3 + 1) h _ _ _ hc (lv_sub hl [1, 2, 3, 0] rfl)
  unfold w_X8_scoreOf at h
  obtain ⟨H, hH0⟩ : ∃ z, z = s.heap := ⟨_, rfl⟩
  rw [← hH0] at hc ⊢
  obtain ⟨locs, hlc0⟩ : ∃ z : List Loc, z = [] := ⟨_, rfl⟩
  rw [← hlc0] at hc ⊢
  refine lv_iconst (v := 0) hx hb dX8_scoreOf_0 (by decide) ?_
  refine lv_istore_n (lv' := [(3, .int 0), (0, .ref p0), (1, va_rf p1), (2, .int p2)]) hx hb dX8_scoreOf_1 rfl hl (by decide) rfl (fun ls hl => ?_)
  exact hb_2 p0 p1 p2 g0 0 h _ _ _ hc (lv_sub hl [1, 2, 3, 0] rfl)
def w_X3_init (g0 : gS) (p0 : Nat) (p1 : Nat) (p2 : Nat) (Q : gS → Prop) : Prop :=
  ∀ q1 rr2, gFresh g0 q1 rr2 3 → (∀ g4, g4 = sGrid g0 q1 rr2 3 200 → (gK g4 p0 = 4 ∧ (∀ g7, g7 = sV g4 p0 2 (some q1) → (∀ q9, gK g7 q9 = 0 → (∀ g11, g11 = sNew g7 q9 21 200 → (gK g11 p0 = 4 ∧ (∀ g14, g14 = sV g11 p0 3 (some q9) → (∀ q16, gK g14 q16 = 0 → (∀ g18, g18 = sNew g14 q16 21 200 → (gK g18 p0 = 4 ∧ (∀ g21, g21 = sV g18 p0 4 (some q16) → (∀ q23, gK g21 q23 = 0 → (∀ g25, g25 = sNew g21 q23 21 200 → (gK g25 p0 = 4 ∧ (∀ g28, g28 = sV g25 p0 5 (some q23) → (gK g28 p0 = 4 ∧ (∀ g31, g31 = sV g28 p0 0 (some p1) → (gK g31 p0 = 4 ∧ (∀ g34, g34 = sV g31 p0 1 (some p2) → (Q g34))))))))))))))))))))
abbrev r_X3_init : Room := { frames := 1, cells := 7, slots := 1203, locals := 12 }
set_option maxHeartbeats 4000000 in
set_option maxRecDepth 100000 in
theorem c_X3_init {l : Launch} {D : va_G} {cA : Nat → ClassId} {sz : Nat} {g0 : gS} {p0 : Nat} {p1 : Nat} {p2 : Nat} {Q : gS → Prop} (h : w_X3_init g0 p0 p1 p2 Q) : Met l yX3_init wsX3_init r_X3_init (va_Pc [.ref p0, .ref p1, .ref p2] (gPre D cA g0 sz)) (gQv D cA g0 sz (Q)) 7 1203 (gA g0 sz) := by
  refine g_met (cc := cX3_init) (maxL := 3) (ret := none) (own := RX3) (by decide) rfl rfl (Nat.le_of_ble_eq_true rfl) ?_
  intro p e s m args below meth c ls CF hr hlk hnm hc hl
  obtain ⟨hx, hb, hml, hown, hts⟩ := id CF
  have hl : lv_has ls 3 [(0, .ref p0), (1, .ref p1), (2, .ref p2)] := hl
  show W p l e r_X3_init s m args below meth c s.heap [] 0 0 (MQ below (gQv D cA g0 sz (Q)) args s 7 1203 (gA g0 sz)) (F0 m 0 ls [])
  unfold w_X3_init at h
  obtain ⟨H, hH0⟩ : ∃ z, z = s.heap := ⟨_, rfl⟩
  rw [← hH0] at hc ⊢
  obtain ⟨locs, hlc0⟩ : ∃ z : List Loc, z = [] := ⟨_, rfl⟩
  rw [← hlc0] at hc ⊢
  refine lv_aload_n hx hb dX3_init_0 rfl (lv_at hl 0 rfl) ?_
  refine W.objInit hx hb hown (hts _ (List.mem_cons_of_mem _ (List.mem_append_left _ (List.mem_of_getElem? (i := 0) rfl)))) (hts _ (List.mem_cons_of_mem _ (List.mem_append_left _ (List.mem_of_getElem? (i := 1) rfl)))) (hts _ (List.mem_cons_of_mem _ (List.mem_append_left _ (List.mem_of_getElem? (i := 2) rfl)))) rfl (by rw [hml]; exact hl.1) rfl dX3_init_1 (Nat.le_of_ble_eq_true rfl) (Nat.le_of_ble_eq_true rfl) ?_
  refine W.eq (g2 := F0 m 4 ls []) rfl ?_
  refine lv_aload_n hx hb dX3_init_4 rfl (lv_at hl 0 rfl) ?_
  refine lv_iconst (v := 3) hx hb dX3_init_5 (by decide) ?_
  refine lv_sipush (v := 200) hx hb dX3_init_6 (by decide) ?_
  refine g_mna CF hc (List.mem_cons_of_mem _ (List.mem_append_left _ (List.mem_of_getElem? (i := 3) rfl))) (List.mem_cons_of_mem _ (List.mem_append_left _ (List.mem_of_getElem? (i := 4) rfl))) (n := 3) (k := 200) (N := 3) (M := 200) (by decide) (by decide) (by decide) (by decide) (by decide) (by decide) (Nat.le_of_ble_eq_true rfl) (Nat.le_of_ble_eq_true rfl) dX3_init_9 (fun q1 rr2 H locs hg3 hc => ?_)
  replace h := h q1 rr2 hg3
  refine W.widen (k := 4) (n := 603) (Nat.le_of_ble_eq_true rfl) (Nat.le_of_ble_eq_true rfl) ?_
  obtain ⟨g4, eg5⟩ : ∃ z, z = sGrid g0 q1 rr2 3 200 := ⟨_, rfl⟩
  have hc : gC D cA (gA g0 sz) s g4 H locs := by rw [eg5]; exact hc
  replace h := h g4 eg5
  obtain ⟨hk6, h⟩ := h
  refine g_putrF CF hc hk6 rfl (by decide) (fun _ h9 => List.mem_cons_of_mem _ (List.mem_append_right _ (h9))) tyX3 tyX3_ok nmX3 (k := 2) (by decide) (List.mem_cons_of_mem _ (List.mem_append_left _ (List.mem_of_getElem? (i := 5) rfl))) rfl hnm rfl (some q1) narrow_ra fits_ra rfl dX3_init_13 (fun H locs hc => ?_)
  obtain ⟨g7, eg8⟩ : ∃ z, z = sV g4 p0 2 (some q1) := ⟨_, rfl⟩
  have hc : gC D cA (gA g0 sz) s g7 H locs := by rw [eg8]; exact hc
  replace h := h g7 eg8
  refine lv_aload_n hx hb dX3_init_16 rfl (lv_at hl 0 rfl) ?_
  refine lv_sipush (v := 200) hx hb dX3_init_17 (by decide) ?_
  refine g_newi CF hc (List.mem_cons_of_mem _ (List.mem_append_left _ (List.mem_of_getElem? (i := 4) rfl))) (n := 200) (N := 200) (by decide) (by decide) (by decide) (Nat.le_of_ble_eq_true rfl) (Nat.le_of_ble_eq_true rfl) dX3_init_20 (fun q9 H locs hq10 hc => ?_)
  replace h := h q9 hq10
  obtain ⟨g11, eg12⟩ : ∃ z, z = sNew g7 q9 21 200 := ⟨_, rfl⟩
  have hc : gC D cA (gA g0 sz) s g11 H locs := by rw [eg12]; exact hc
  replace h := h g11 eg12
  refine W.widen (k := 5) (n := 803) (Nat.le_of_ble_eq_true rfl) (Nat.le_of_ble_eq_true rfl) ?_
  obtain ⟨hk13, h⟩ := h
  refine g_putrF CF hc hk13 rfl (by decide) (fun _ h9 => List.mem_cons_of_mem _ (List.mem_append_right _ (h9))) tyX3 tyX3_ok nmX3 (k := 3) (by decide) (List.mem_cons_of_mem _ (List.mem_append_left _ (List.mem_of_getElem? (i := 6) rfl))) rfl hnm rfl (some q9) narrow_ra fits_ra rfl dX3_init_22 (fun H locs hc => ?_)
  obtain ⟨g14, eg15⟩ : ∃ z, z = sV g11 p0 3 (some q9) := ⟨_, rfl⟩
  have hc : gC D cA (gA g0 sz) s g14 H locs := by rw [eg15]; exact hc
  replace h := h g14 eg15
  refine lv_aload_n hx hb dX3_init_25 rfl (lv_at hl 0 rfl) ?_
  refine lv_sipush (v := 200) hx hb dX3_init_26 (by decide) ?_
  refine g_newi CF hc (List.mem_cons_of_mem _ (List.mem_append_left _ (List.mem_of_getElem? (i := 4) rfl))) (n := 200) (N := 200) (by decide) (by decide) (by decide) (Nat.le_of_ble_eq_true rfl) (Nat.le_of_ble_eq_true rfl) dX3_init_29 (fun q16 H locs hq17 hc => ?_)
  replace h := h q16 hq17
  obtain ⟨g18, eg19⟩ : ∃ z, z = sNew g14 q16 21 200 := ⟨_, rfl⟩
  have hc : gC D cA (gA g0 sz) s g18 H locs := by rw [eg19]; exact hc
  replace h := h g18 eg19
  refine W.widen (k := 6) (n := 1003) (Nat.le_of_ble_eq_true rfl) (Nat.le_of_ble_eq_true rfl) ?_
  obtain ⟨hk20, h⟩ := h
  refine g_putrF CF hc hk20 rfl (by decide) (fun _ h9 => List.mem_cons_of_mem _ (List.mem_append_right _ (h9))) tyX3 tyX3_ok nmX3 (k := 4) (by decide) (List.mem_cons_of_mem _ (List.mem_append_left _ (List.mem_of_getElem? (i := 7) rfl))) rfl hnm rfl (some q16) narrow_ra fits_ra rfl dX3_init_31 (fun H locs hc => ?_)
  obtain ⟨g21, eg22⟩ : ∃ z, z = sV g18 p0 4 (some q16) := ⟨_, rfl⟩
  have hc : gC D cA (gA g0 sz) s g21 H locs := by rw [eg22]; exact hc
  replace h := h g21 eg22
  refine lv_aload_n hx hb dX3_init_34 rfl (lv_at hl 0 rfl) ?_
  refine lv_sipush (v := 200) hx hb dX3_init_35 (by decide) ?_
  refine g_newi CF hc (List.mem_cons_of_mem _ (List.mem_append_left _ (List.mem_of_getElem? (i := 4) rfl))) (n := 200) (N := 200) (by decide) (by decide) (by decide) (Nat.le_of_ble_eq_true rfl) (Nat.le_of_ble_eq_true rfl) dX3_init_38 (fun q23 H locs hq24 hc => ?_)
  replace h := h q23 hq24
  obtain ⟨g25, eg26⟩ : ∃ z, z = sNew g21 q23 21 200 := ⟨_, rfl⟩
  have hc : gC D cA (gA g0 sz) s g25 H locs := by rw [eg26]; exact hc
  replace h := h g25 eg26
  refine W.widen (k := 7) (n := 1203) (Nat.le_of_ble_eq_true rfl) (Nat.le_of_ble_eq_true rfl) ?_
  obtain ⟨hk27, h⟩ := h
  refine g_putrF CF hc hk27 rfl (by decide) (fun _ h9 => List.mem_cons_of_mem _ (List.mem_append_right _ (h9))) tyX3 tyX3_ok nmX3 (k := 5) (by decide) (List.mem_cons_of_mem _ (List.mem_append_left _ (List.mem_of_getElem? (i := 8) rfl))) rfl hnm rfl (some q23) narrow_ra fits_ra rfl dX3_init_40 (fun H locs hc => ?_)
  obtain ⟨g28, eg29⟩ : ∃ z, z = sV g25 p0 5 (some q23) := ⟨_, rfl⟩
  have hc : gC D cA (gA g0 sz) s g28 H locs := by rw [eg29]; exact hc
  replace h := h g28 eg29
  refine lv_aload_n hx hb dX3_init_43 rfl (lv_at hl 0 rfl) ?_
  refine lv_aload_n hx hb dX3_init_44 rfl (lv_at hl 1 rfl) ?_
  obtain ⟨hk30, h⟩ := h
  refine g_putrF CF hc hk30 rfl (by decide) (fun _ h9 => List.mem_cons_of_mem _ (List.mem_append_right _ (h9))) tyX3 tyX3_ok nmX3 (k := 0) (by decide) (List.mem_cons_of_mem _ (List.mem_append_left _ (List.mem_of_getElem? (i := 9) rfl))) rfl hnm rfl (some p1) narrow_rf fits_rf rfl dX3_init_45 (fun H locs hc => ?_)
  obtain ⟨g31, eg32⟩ : ∃ z, z = sV g28 p0 0 (some p1) := ⟨_, rfl⟩
  have hc : gC D cA (gA g0 sz) s g31 H locs := by rw [eg32]; exact hc
  replace h := h g31 eg32
  refine lv_aload_n hx hb dX3_init_48 rfl (lv_at hl 0 rfl) ?_
  refine lv_aload_n hx hb dX3_init_49 rfl (lv_at hl 2 rfl) ?_
  obtain ⟨hk33, h⟩ := h
  refine g_putrF CF hc hk33 rfl (by decide) (fun _ h9 => List.mem_cons_of_mem _ (List.mem_append_right _ (h9))) tyX3 tyX3_ok nmX3 (k := 1) (by decide) (List.mem_cons_of_mem _ (List.mem_append_left _ (List.mem_of_getElem? (i := 10) rfl))) rfl hnm rfl (some p2) narrow_rf fits_rf rfl dX3_init_50 (fun H locs hc => ?_)
  obtain ⟨g34, eg35⟩ : ∃ z, z = sV g31 p0 1 (some p2) := ⟨_, rfl⟩
  have hc : gC D cA (gA g0 sz) s g34 H locs := by rw [eg35]; exact hc
  replace h := h g34 eg35
  exact g_retv CF hr hlk hc h dX3_init_53
def b_X3_fillWorthsOf_71 (g : gS) (r0 : Nat) (r1 : Nat) (i2 : Int32) (r3 : Nat) (i4 : Int32) (Q : gS → Prop) (k3 : gS → Int32 → Prop) : Prop :=
  k3 g (i4 + 1)
def l_X3_fillWorthsOf_3 (r0 : Nat) (r1 : Nat) (i2 : Int32) (r3 : Nat) (Q : gS → Prop) (g : gS) (i4 : Int32) (k3 : gS → Int32 → Prop) : Prop :=
  gK g r1 = 10 ∧ (((gI g r1 4) ≤ i4 → (Q g)) ∧ (¬ (gI g r1 4) ≤ i4 → (w_X9_differentTermOn g r1 i4 (fun x3 => ((x3 < 0 → (b_X3_fillWorthsOf_71 g r0 r1 i2 r3 i4 Q k3)) ∧ (¬ x3 < 0 → (gK g r3 = 21 ∧ (((nI (gN g r3)) ≤ x3 → (b_X3_fillWorthsOf_71 g r0 r1 i2 r3 i4 Q k3)) ∧ (¬ (nI (gN g r3)) ≤ x3 → (gK g r0 = 4 ∧ (∃ y9, gR g r0 1 = some y9 ∧ (gK g y9 = 5 ∧ (w_X4_isMuted g y9 x3 (fun x12 => ((x12 = 0 → (∃ y15, gR g r0 0 = some y15 ∧ (gK g y15 = 1 ∧ (∃ y18, gR g y15 5 = some y18 ∧ (∃ y20, gR g r0 0 = some y20 ∧ (gK g y20 = 1 ∧ (∃ y23, gR g y20 5 = some y23 ∧ (gK g y23 = 2 ∧ (w_X1_spreadOf g y23 x3 i2 (fun x26 => (gK g y18 = 2 ∧ (w_X1_rarityOf g y18 x26 (fun x29 => (vp_in x3 (gN g r3) ∧ (∀ g32, g32 = sU g r3 (Int32.toNatClampNeg x3) x29 → (b_X3_fillWorthsOf_71 g32 r0 r1 i2 r3 i4 Q k3)))))))))))))))) ∧ (¬ x12 = 0 → (b_X3_fillWorthsOf_71 g r0 r1 i2 r3 i4 Q k3)))))))))))))))))
def w_X3_fillWorthsOf (g0 : gS) (p0 : Nat) (p1 : Nat) (p2 : Int32) (p3 : Nat) (Q : gS → Prop) : Prop :=
  lpx2 (l_X3_fillWorthsOf_3 p0 p1 p2 p3 Q) g0 0
abbrev r_X3_fillWorthsOf : Room := { frames := 1, cells := 0, slots := 0, locals := 25 }
set_option maxHeartbeats 4000000 in
set_option maxRecDepth 100000 in
theorem c_X3_fillWorthsOf {l : Launch} {D : va_G} {cA : Nat → ClassId} {sz : Nat} {g0 : gS} {p0 : Nat} {p1 : Nat} {p2 : Int32} {p3 : Nat} {Q : gS → Prop} (h : w_X3_fillWorthsOf g0 p0 p1 p2 p3 Q) : Met l yX3_fillWorthsOf wsX3_fillWorthsOf r_X3_fillWorthsOf (va_Pc [.ref p0, .ref p1, .int p2, .ref p3] (gPre D cA g0 sz)) (gQv D cA g0 sz (Q)) 0 0 (gA g0 sz) := by
  refine g_met (cc := cX3_fillWorthsOf) (maxL := 6) (ret := none) (own := RX3) (by decide) rfl rfl (Nat.le_of_ble_eq_true rfl) ?_
  intro p e s m args below meth c ls CF hr hlk hnm hc hl
  obtain ⟨hx, hb, hml, hown, hts⟩ := id CF
  have hl : lv_has ls 6 [(0, .ref p0), (1, .ref p1), (2, .int p2), (3, .ref p3)] := hl
  show W p l e r_X3_fillWorthsOf s m args below meth c s.heap [] 0 0 (MQ below (gQv D cA g0 sz (Q)) args s 0 0 (gA g0 sz)) (F0 m 0 ls [])
  have hb_3 : ∀ (r0 : Nat) (r1 : Nat) (i2 : Int32) (r3 : Nat), ∀ (g : gS) (i4 : Int32), lpx2 (l_X3_fillWorthsOf_3 r0 r1 i2 r3 Q) g i4 → ∀ (H : Heap) (locs : List Loc) (ls : Array Slot), gC D cA (gA g0 sz) s g H locs → lv_has ls 6 [(0, .ref r0), (1, .ref r1), (2, .int i2), (3, .ref r3), (4, .int i4)] → W p l e r_X3_fillWorthsOf s m args below meth c H locs 0 0 (MQ below (gQv D cA g0 sz (Q)) args s 0 0 (gA g0 sz)) (F0 m 3 ls []) := by
    intro r0 r1 i2 r3
    refine lpx2_run (P := fun (g : gS) (i4 : Int32) => ∀ (H : Heap) (locs : List Loc) (ls : Array Slot), gC D cA (gA g0 sz) s g H locs → lv_has ls 6 [(0, .ref r0), (1, .ref r1), (2, .int i2), (3, .ref r3), (4, .int i4)] → W p l e r_X3_fillWorthsOf s m args below meth c H locs 0 0 (MQ below (gQv D cA g0 sz (Q)) args s 0 0 (gA g0 sz)) (F0 m 3 ls [])) ?_
    intro k3 hk_3 g i4 h H locs ls hc hl
    have hb_71 : ∀ (g : gS) (i4 : Int32), b_X3_fillWorthsOf_71 g r0 r1 i2 r3 i4 Q k3 → ∀ (H : Heap) (locs : List Loc) (ls : Array Slot), gC D cA (gA g0 sz) s g H locs → lv_has ls 6 [(0, .ref r0), (1, .ref r1), (2, .int i2), (3, .ref r3), (4, .int i4)] → W p l e r_X3_fillWorthsOf s m args below meth c H locs 0 0 (MQ below (gQv D cA g0 sz (Q)) args s 0 0 (gA g0 sz)) (F0 m 71 ls []) := by
      intro g i4 h H locs ls hc hl
      unfold b_X3_fillWorthsOf_71 at h
      refine lv_iinc (v := (i4 + 1)) (lv' := [(4, .int (i4 + 1)), (0, .ref r0), (1, .ref r1), (2, .int i2), (3, .ref r3)]) hx hb dX3_fillWorthsOf_71 hl (k := 4) rfl rfl (by decide) rfl (fun ls hl => ?_)
      refine lv_goto (tgt := 3) hx hb dX3_fillWorthsOf_74 (by decide) ?_
      exact hk_3 g (i4 + 1) h _ _ _ hc (lv_sub hl [1, 2, 3, 4, 0] rfl)
    unfold l_X3_fillWorthsOf_3 at h
    refine lv_iload hx hb dX3_fillWorthsOf_3 (lv_at hl 4 rfl) ?_
    refine lv_aload_n hx hb dX3_fillWorthsOf_5 rfl (lv_at hl 1 rfl) ?_
    obtain ⟨hk1, h⟩ := h
    refine g_get CF hc hk1 rfl (by decide) (fun _ h9 => List.mem_cons_of_mem _ (List.mem_append_left _ (List.mem_append_left _ (List.mem_append_left _ (List.mem_append_left _ (List.mem_append_right _ (h9))))))) (k := 4) (by decide) (List.mem_cons_of_mem _ (List.mem_append_left _ (List.mem_append_left _ (List.mem_append_left _ (List.mem_append_left _ (List.mem_append_left _ (List.mem_append_left _ (List.mem_of_getElem? (i := 0) rfl)))))))) rfl dX3_fillWorthsOf_6 ?_
    refine lv_icmp_ge (tgt := 77) hx hb dX3_fillWorthsOf_9 (by decide) (fun c2 => ?_) (fun c2 => ?_)
    · have h := h.1 c2
      exact g_retv CF hr hlk hc h dX3_fillWorthsOf_77
    · have h := h.2 c2
      refine lv_aload_n hx hb dX3_fillWorthsOf_12 rfl (lv_at hl 1 rfl) ?_
      refine lv_iload hx hb dX3_fillWorthsOf_13 (lv_at hl 4 rfl) ?_
      refine g_calli (va_runV (As := [.int i4]) (rest := []) CF (c_X9_differentTermOn h) (cwV 1 hts gX3_fillWorthsOf_X9_differentTermOn rfl rfl rfl (by decide +kernel) ⟨Nat.le_of_ble_eq_true rfl, Nat.le_of_ble_eq_true rfl⟩) (hc.preV hk1 rfl (by decide)) rfl rfl hl.1 rfl (lv_room (Nat.le_of_ble_eq_true rfl)) dX3_fillWorthsOf_15 ⟨Nat.le_of_ble_eq_true rfl, Nat.le_of_ble_eq_true rfl⟩) hc (fun x3 gq4 H locs hq hc => ?_)
      obtain ⟨rfl, h⟩ := hq
      refine lv_istore (lv' := [(5, .int x3), (0, .ref r0), (1, .ref r1), (2, .int i2), (3, .ref r3), (4, .int i4)]) hx hb dX3_fillWorthsOf_18 hl (by decide) rfl (fun ls hl => ?_)
      refine lv_iload hx hb dX3_fillWorthsOf_20 (lv_at hl 0 rfl) ?_
      refine lv_if_lt (tgt := 71) hx hb dX3_fillWorthsOf_22 (by decide) (fun c5 => ?_) (fun c5 => ?_)
      · have h := h.1 c5
        exact hb_71 g i4 h _ _ _ hc (lv_sub hl [1, 2, 3, 4, 5] rfl)
      · have h := h.2 c5
        refine lv_iload hx hb dX3_fillWorthsOf_25 (lv_at hl 0 rfl) ?_
        refine lv_aload_n hx hb dX3_fillWorthsOf_27 rfl (lv_at hl 4 rfl) ?_
        obtain ⟨hk6, h⟩ := h
        refine g_alen CF hc (j := 0) hk6 (by decide) dX3_fillWorthsOf_28 ?_
        refine lv_icmp_ge (tgt := 71) hx hb dX3_fillWorthsOf_29 (by decide) (fun c7 => ?_) (fun c7 => ?_)
        · have h := h.1 c7
          exact hb_71 g i4 h _ _ _ hc (lv_sub hl [1, 2, 3, 4, 5] rfl)
        · have h := h.2 c7
          refine lv_aload_n hx hb dX3_fillWorthsOf_32 rfl (lv_at hl 1 rfl) ?_
          obtain ⟨hk8, h⟩ := h
          obtain ⟨y9, e10, h⟩ := h
          refine g_getr CF hc hk8 rfl (by decide) (fun _ h9 => List.mem_cons_of_mem _ (List.mem_append_left _ (List.mem_append_left _ (List.mem_append_left _ (List.mem_append_right _ (h9)))))) (k := 1) (by decide) (List.mem_cons_of_mem _ (List.mem_append_left _ (List.mem_append_left _ (List.mem_append_left _ (List.mem_append_left _ (List.mem_append_left _ (List.mem_append_left _ (List.mem_of_getElem? (i := 1) rfl)))))))) e10 rfl dX3_fillWorthsOf_33 ?_
          refine lv_iload hx hb dX3_fillWorthsOf_36 (lv_at hl 0 rfl) ?_
          obtain ⟨hk11, h⟩ := h
          refine g_calli (va_runV (As := [.int x3]) (rest := []) CF (c_X4_isMuted h) (cwV 1 hts gX3_fillWorthsOf_X4_isMuted rfl rfl rfl (by decide +kernel) ⟨Nat.le_of_ble_eq_true rfl, Nat.le_of_ble_eq_true rfl⟩) (hc.preV hk11 rfl (by decide)) rfl rfl hl.1 rfl (lv_room (Nat.le_of_ble_eq_true rfl)) dX3_fillWorthsOf_38 ⟨Nat.le_of_ble_eq_true rfl, Nat.le_of_ble_eq_true rfl⟩) hc (fun x12 gq13 H locs hq hc => ?_)
          obtain ⟨rfl, h⟩ := hq
          refine lv_if_ne (tgt := 71) hx hb dX3_fillWorthsOf_41 (by decide) (fun c14 => ?_) (fun c14 => ?_)
          · have h := h.2 c14
            exact hb_71 g i4 h _ _ _ hc (lv_sub hl [1, 2, 3, 4, 5] rfl)
          · have h := h.1 c14
            refine lv_aload_n hx hb dX3_fillWorthsOf_44 rfl (lv_at hl 4 rfl) ?_
            refine lv_iload hx hb dX3_fillWorthsOf_45 (lv_at hl 0 rfl) ?_
            refine lv_aload_n hx hb dX3_fillWorthsOf_47 rfl (lv_at hl 1 rfl) ?_
            obtain ⟨y15, e16, h⟩ := h
            refine g_getr CF hc hk8 rfl (by decide) (fun _ h9 => List.mem_cons_of_mem _ (List.mem_append_left _ (List.mem_append_left _ (List.mem_append_left _ (List.mem_append_right _ (h9)))))) (k := 0) (by decide) (List.mem_cons_of_mem _ (List.mem_append_left _ (List.mem_append_left _ (List.mem_append_left _ (List.mem_append_left _ (List.mem_append_left _ (List.mem_append_left _ (List.mem_of_getElem? (i := 2) rfl)))))))) e16 rfl dX3_fillWorthsOf_48 ?_
            obtain ⟨hk17, h⟩ := h
            obtain ⟨y18, e19, h⟩ := h
            refine g_getr CF hc hk17 rfl (by decide) (fun _ h9 => List.mem_cons_of_mem _ (List.mem_append_left _ (List.mem_append_left _ (List.mem_append_right _ (h9))))) (k := 5) (by decide) (List.mem_cons_of_mem _ (List.mem_append_left _ (List.mem_append_left _ (List.mem_append_left _ (List.mem_append_left _ (List.mem_append_left _ (List.mem_append_left _ (List.mem_of_getElem? (i := 3) rfl)))))))) e19 rfl dX3_fillWorthsOf_51 ?_
            refine lv_aload_n hx hb dX3_fillWorthsOf_54 rfl (lv_at hl 1 rfl) ?_
            obtain ⟨y20, e21, h⟩ := h
            refine g_getr CF hc hk8 rfl (by decide) (fun _ h9 => List.mem_cons_of_mem _ (List.mem_append_left _ (List.mem_append_left _ (List.mem_append_left _ (List.mem_append_right _ (h9)))))) (k := 0) (by decide) (List.mem_cons_of_mem _ (List.mem_append_left _ (List.mem_append_left _ (List.mem_append_left _ (List.mem_append_left _ (List.mem_append_left _ (List.mem_append_left _ (List.mem_of_getElem? (i := 2) rfl)))))))) e21 rfl dX3_fillWorthsOf_55 ?_
            obtain ⟨hk22, h⟩ := h
            obtain ⟨y23, e24, h⟩ := h
            refine g_getr CF hc hk22 rfl (by decide) (fun _ h9 => List.mem_cons_of_mem _ (List.mem_append_left _ (List.mem_append_left _ (List.mem_append_right _ (h9))))) (k := 5) (by decide) (List.mem_cons_of_mem _ (List.mem_append_left _ (List.mem_append_left _ (List.mem_append_left _ (List.mem_append_left _ (List.mem_append_left _ (List.mem_append_left _ (List.mem_of_getElem? (i := 3) rfl)))))))) e24 rfl dX3_fillWorthsOf_58 ?_
            refine lv_iload hx hb dX3_fillWorthsOf_61 (lv_at hl 0 rfl) ?_
            refine lv_iload_n hx hb dX3_fillWorthsOf_63 rfl (lv_at hl 3 rfl) ?_
            obtain ⟨hk25, h⟩ := h
            refine g_calli (va_runV (As := [.int x3, .int i2]) (rest := [.ref y18, .int x3, .ref r3]) CF (c_X1_spreadOf h) (cwV 2 hts gX3_fillWorthsOf_X1_spreadOf rfl rfl rfl (by decide +kernel) ⟨Nat.le_of_ble_eq_true rfl, Nat.le_of_ble_eq_true rfl⟩) (hc.preV hk25 rfl (by decide)) rfl rfl hl.1 rfl (lv_room (Nat.le_of_ble_eq_true rfl)) dX3_fillWorthsOf_64 ⟨Nat.le_of_ble_eq_true rfl, Nat.le_of_ble_eq_true rfl⟩) hc (fun x26 gq27 H locs hq hc => ?_)
            obtain ⟨rfl, h⟩ := hq
            obtain ⟨hk28, h⟩ := h
            refine g_calli (va_runV (As := [.int x26]) (rest := [.int x3, .ref r3]) CF (c_X1_rarityOf h) (cwV 1 hts gX3_fillWorthsOf_X1_rarityOf rfl rfl rfl (by decide +kernel) ⟨Nat.le_of_ble_eq_true rfl, Nat.le_of_ble_eq_true rfl⟩) (hc.preV hk28 rfl (by decide)) rfl rfl hl.1 rfl (lv_room (Nat.le_of_ble_eq_true rfl)) dX3_fillWorthsOf_67 ⟨Nat.le_of_ble_eq_true rfl, Nat.le_of_ble_eq_true rfl⟩) hc (fun x29 gq30 H locs hq hc => ?_)
            obtain ⟨rfl, h⟩ := hq
            obtain ⟨hi31, h⟩ := h
            refine g_iast CF hc hk6 (x := x29) hi31 dX3_fillWorthsOf_70 (fun H locs hc => ?_)
            obtain ⟨g32, eg33⟩ : ∃ z, z = sU g r3 (Int32.toNatClampNeg x3) x29 := ⟨_, rfl⟩
            have hc : gC D cA (gA g0 sz) s g32 H locs := by rw [eg33]; exact hc
            replace h := h g32 eg33
            exact hb_71 g32 i4 h _ _ _ hc (lv_sub hl [1, 2, 3, 4, 5] rfl)
  unfold w_X3_fillWorthsOf at h
  obtain ⟨H, hH0⟩ : ∃ z, z = s.heap := ⟨_, rfl⟩
  rw [← hH0] at hc ⊢
  obtain ⟨locs, hlc0⟩ : ∃ z : List Loc, z = [] := ⟨_, rfl⟩
  rw [← hlc0] at hc ⊢
  refine lv_iconst (v := 0) hx hb dX3_fillWorthsOf_0 (by decide) ?_
  refine lv_istore (lv' := [(4, .int 0), (0, .ref p0), (1, .ref p1), (2, .int p2), (3, .ref p3)]) hx hb dX3_fillWorthsOf_1 hl (by decide) rfl (fun ls hl => ?_)
  exact hb_3 p0 p1 p2 p3 g0 0 h _ _ _ hc (lv_sub hl [1, 2, 3, 4, 0] rfl)
def b_X3_fillWorths_43 (g : gS) (r0 : Nat) (r1 : Nat) (i2 : Int32) (Q : gS → Prop) (k2 : gS → Int32 → Prop) : Prop :=
  k2 g (i2 + 1)
def l_X3_fillWorths_2 (r0 : Nat) (r1 : Nat) (Q : gS → Prop) (g : gS) (i2 : Int32) (k2 : gS → Int32 → Prop) : Prop :=
  gK g r0 = 4 ∧ (∃ y2, gR g r0 2 = some y2 ∧ (gK g y2 = 24 ∧ (((nI (gN g y2)) ≤ i2 → (Q g)) ∧ (¬ (nI (gN g y2)) ≤ i2 → (∃ y6, gR g r0 2 = some y6 ∧ (gK g y6 = 24 ∧ (vp_in i2 (gN g y6) ∧ (∃ y10, gR g y6 (Int32.toNatClampNeg i2) = some y10 ∧ (w_J7_fill_53178 g y10 0 (fun g13 => (gK g13 r1 = 3 ∧ (w_X2_rowOf g13 r1 i2 (fun o16 => ((o16 = none → (b_X3_fillWorths_43 g13 r0 r1 i2 Q k2)) ∧ (∀ y18, o16 = some y18 → (gK g13 r0 = 4 ∧ (∃ y21, gR g13 r0 2 = some y21 ∧ (gK g13 y21 = 24 ∧ (vp_in i2 (gN g13 y21) ∧ (∃ y25, gR g13 y21 (Int32.toNatClampNeg i2) = some y25 ∧ (w_X3_fillWorthsOf g13 r0 y18 i2 y25 (fun g28 => (b_X3_fillWorths_43 g28 r0 r1 i2 Q k2)))))))))))))))))))))))
def w_X3_fillWorths (g0 : gS) (p0 : Nat) (p1 : Nat) (Q : gS → Prop) : Prop :=
  lpx2 (l_X3_fillWorths_2 p0 p1 Q) g0 0
abbrev r_X3_fillWorths : Room := { frames := 2, cells := 0, slots := 0, locals := 50 }
set_option maxHeartbeats 4000000 in
set_option maxRecDepth 100000 in
theorem c_X3_fillWorths {l : Launch} {D : va_G} {cA : Nat → ClassId} {sz : Nat} {g0 : gS} {p0 : Nat} {p1 : Nat} {Q : gS → Prop} (h : w_X3_fillWorths g0 p0 p1 Q) : Met l yX3_fillWorths wsX3_fillWorths r_X3_fillWorths (va_Pc [.ref p0, .ref p1] (gPre D cA g0 sz)) (gQv D cA g0 sz (Q)) 0 0 (gA g0 sz) := by
  refine g_met (cc := cX3_fillWorths) (maxL := 4) (ret := none) (own := RX3) (by decide) rfl rfl (Nat.le_of_ble_eq_true rfl) ?_
  intro p e s m args below meth c ls CF hr hlk hnm hc hl
  obtain ⟨hx, hb, hml, hown, hts⟩ := id CF
  have hl : lv_has ls 4 [(0, .ref p0), (1, .ref p1)] := hl
  show W p l e r_X3_fillWorths s m args below meth c s.heap [] 0 0 (MQ below (gQv D cA g0 sz (Q)) args s 0 0 (gA g0 sz)) (F0 m 0 ls [])
  have hb_2 : ∀ (r0 : Nat) (r1 : Nat), ∀ (g : gS) (i2 : Int32), lpx2 (l_X3_fillWorths_2 r0 r1 Q) g i2 → ∀ (H : Heap) (locs : List Loc) (ls : Array Slot), gC D cA (gA g0 sz) s g H locs → lv_has ls 4 [(0, .ref r0), (1, .ref r1), (2, .int i2)] → W p l e r_X3_fillWorths s m args below meth c H locs 0 0 (MQ below (gQv D cA g0 sz (Q)) args s 0 0 (gA g0 sz)) (F0 m 2 ls []) := by
    intro r0 r1
    refine lpx2_run (P := fun (g : gS) (i2 : Int32) => ∀ (H : Heap) (locs : List Loc) (ls : Array Slot), gC D cA (gA g0 sz) s g H locs → lv_has ls 4 [(0, .ref r0), (1, .ref r1), (2, .int i2)] → W p l e r_X3_fillWorths s m args below meth c H locs 0 0 (MQ below (gQv D cA g0 sz (Q)) args s 0 0 (gA g0 sz)) (F0 m 2 ls [])) ?_
    intro k2 hk_2 g i2 h H locs ls hc hl
    have hb_43 : ∀ (g : gS) (i2 : Int32), b_X3_fillWorths_43 g r0 r1 i2 Q k2 → ∀ (H : Heap) (locs : List Loc) (ls : Array Slot), gC D cA (gA g0 sz) s g H locs → lv_has ls 4 [(0, .ref r0), (1, .ref r1), (2, .int i2)] → W p l e r_X3_fillWorths s m args below meth c H locs 0 0 (MQ below (gQv D cA g0 sz (Q)) args s 0 0 (gA g0 sz)) (F0 m 43 ls []) := by
      intro g i2 h H locs ls hc hl
      unfold b_X3_fillWorths_43 at h
      refine lv_iinc (v := (i2 + 1)) (lv' := [(2, .int (i2 + 1)), (0, .ref r0), (1, .ref r1)]) hx hb dX3_fillWorths_43 hl (k := 2) rfl rfl (by decide) rfl (fun ls hl => ?_)
      refine lv_goto (tgt := 2) hx hb dX3_fillWorths_46 (by decide) ?_
      exact hk_2 g (i2 + 1) h _ _ _ hc (lv_sub hl [1, 2, 0] rfl)
    unfold l_X3_fillWorths_2 at h
    refine lv_iload_n hx hb dX3_fillWorths_2 rfl (lv_at hl 2 rfl) ?_
    refine lv_aload_n hx hb dX3_fillWorths_3 rfl (lv_at hl 0 rfl) ?_
    obtain ⟨hk1, h⟩ := h
    obtain ⟨y2, e3, h⟩ := h
    refine g_getr CF hc hk1 rfl (by decide) (fun _ h9 => List.mem_cons_of_mem _ (List.mem_append_left _ (List.mem_append_left _ (List.mem_append_left _ (List.mem_append_left _ (List.mem_append_left _ (List.mem_append_right _ (h9)))))))) (k := 2) (by decide) (List.mem_cons_of_mem _ (List.mem_append_left _ (List.mem_append_left _ (List.mem_append_left _ (List.mem_append_left _ (List.mem_append_left _ (List.mem_append_left _ (List.mem_append_left _ (List.mem_of_getElem? (i := 0) rfl))))))))) e3 rfl dX3_fillWorths_4 ?_
    obtain ⟨hk4, h⟩ := h
    refine g_alen CF hc (j := 3) hk4 (by decide) dX3_fillWorths_7 ?_
    refine lv_icmp_ge (tgt := 49) hx hb dX3_fillWorths_8 (by decide) (fun c5 => ?_) (fun c5 => ?_)
    · have h := h.1 c5
      exact g_retv CF hr hlk hc h dX3_fillWorths_49
    · have h := h.2 c5
      refine lv_aload_n hx hb dX3_fillWorths_11 rfl (lv_at hl 0 rfl) ?_
      obtain ⟨y6, e7, h⟩ := h
      refine g_getr CF hc hk1 rfl (by decide) (fun _ h9 => List.mem_cons_of_mem _ (List.mem_append_left _ (List.mem_append_left _ (List.mem_append_left _ (List.mem_append_left _ (List.mem_append_left _ (List.mem_append_right _ (h9)))))))) (k := 2) (by decide) (List.mem_cons_of_mem _ (List.mem_append_left _ (List.mem_append_left _ (List.mem_append_left _ (List.mem_append_left _ (List.mem_append_left _ (List.mem_append_left _ (List.mem_append_left _ (List.mem_of_getElem? (i := 0) rfl))))))))) e7 rfl dX3_fillWorths_12 ?_
      refine lv_iload_n hx hb dX3_fillWorths_15 rfl (lv_at hl 2 rfl) ?_
      obtain ⟨hk8, h⟩ := h
      obtain ⟨hi9, h⟩ := h
      obtain ⟨y10, e11, h⟩ := h
      refine g_aaldr CF hc hk8 hi9 e11 dX3_fillWorths_16 ?_
      refine lv_iconst (v := 0) hx hb dX3_fillWorths_17 (by decide) ?_
      refine g_callv (va_runS (As := [.ref y10, .int 0]) (rest := []) CF (c_J7_fill_53178 h) (va_cwS 2 hts gX3_fillWorths_J7_fill_53178 rfl rfl rfl (by decide +kernel) ⟨Nat.le_of_ble_eq_true rfl, Nat.le_of_ble_eq_true rfl⟩) hc.preS rfl rfl hl.1 rfl (lv_room (Nat.le_of_ble_eq_true rfl)) dX3_fillWorths_18 ⟨Nat.le_of_ble_eq_true rfl, Nat.le_of_ble_eq_true rfl⟩) hc (fun g13 H locs hq hc => ?_)
      replace h := hq
      refine lv_aload_n hx hb dX3_fillWorths_21 rfl (lv_at hl 1 rfl) ?_
      refine lv_iload_n hx hb dX3_fillWorths_22 rfl (lv_at hl 2 rfl) ?_
      obtain ⟨hk15, h⟩ := h
      refine g_callq (va_runV (As := [.int i2]) (rest := []) CF (c_X2_rowOf h) (cwV 1 hts gX3_fillWorths_X2_rowOf rfl rfl rfl (by decide +kernel) ⟨Nat.le_of_ble_eq_true rfl, Nat.le_of_ble_eq_true rfl⟩) (hc.preV hk15 rfl (by decide)) rfl rfl hl.1 rfl (lv_room (Nat.le_of_ble_eq_true rfl)) dX3_fillWorths_23 ⟨Nat.le_of_ble_eq_true rfl, Nat.le_of_ble_eq_true rfl⟩) hc (fun o16 gq17 H locs hq hc => ?_)
      obtain ⟨rfl, h⟩ := hq
      refine g_astore_nq (lv' := [(3, va_rf o16), (0, .ref r0), (1, .ref r1), (2, .int i2)]) CF dX3_fillWorths_26 rfl hl (by decide) rfl (fun ls hl => ?_)
      refine g_aload_nq CF dX3_fillWorths_27 rfl (lv_at hl 0 rfl) ?_
      refine g_ifnull (tgt := 43) CF dX3_fillWorths_28 (by decide) (fun e19 => ?_) (fun y18 e19 => ?_)
      · have hu30 := h.1 e19
        subst e19
        have h := hu30
        exact hb_43 g13 i2 h _ _ _ hc (lv_sub hl [1, 2, 3] rfl)
      · have hu30 := h.2 y18 e19
        subst e19
        have h := hu30
        refine lv_aload_n hx hb dX3_fillWorths_31 rfl (lv_at hl 1 rfl) ?_
        refine lv_aload_n hx hb dX3_fillWorths_32 rfl (lv_at hl 0 rfl) ?_
        refine lv_iload_n hx hb dX3_fillWorths_33 rfl (lv_at hl 3 rfl) ?_
        refine lv_aload_n hx hb dX3_fillWorths_34 rfl (lv_at hl 1 rfl) ?_
        obtain ⟨hk20, h⟩ := h
        obtain ⟨y21, e22, h⟩ := h
        refine g_getr CF hc hk20 rfl (by decide) (fun _ h9 => List.mem_cons_of_mem _ (List.mem_append_left _ (List.mem_append_left _ (List.mem_append_left _ (List.mem_append_left _ (List.mem_append_left _ (List.mem_append_right _ (h9)))))))) (k := 2) (by decide) (List.mem_cons_of_mem _ (List.mem_append_left _ (List.mem_append_left _ (List.mem_append_left _ (List.mem_append_left _ (List.mem_append_left _ (List.mem_append_left _ (List.mem_append_left _ (List.mem_of_getElem? (i := 0) rfl))))))))) e22 rfl dX3_fillWorths_35 ?_
        refine lv_iload_n hx hb dX3_fillWorths_38 rfl (lv_at hl 3 rfl) ?_
        obtain ⟨hk23, h⟩ := h
        obtain ⟨hi24, h⟩ := h
        obtain ⟨y25, e26, h⟩ := h
        refine g_aaldr CF hc hk23 hi24 e26 dX3_fillWorths_39 ?_
        refine g_callv (va_runV (As := [.ref y18, .int i2, .ref y25]) (rest := []) CF (c_X3_fillWorthsOf h) (cwV 3 hts gX3_fillWorths_X3_fillWorthsOf rfl rfl rfl (by decide +kernel) ⟨Nat.le_of_ble_eq_true rfl, Nat.le_of_ble_eq_true rfl⟩) (hc.preV hk20 rfl (by decide)) rfl rfl hl.1 rfl (lv_room (Nat.le_of_ble_eq_true rfl)) dX3_fillWorths_40 ⟨Nat.le_of_ble_eq_true rfl, Nat.le_of_ble_eq_true rfl⟩) hc (fun g28 H locs hq hc => ?_)
        replace h := hq
        exact hb_43 g28 i2 h _ _ _ hc (lv_sub hl [1, 2, 3] rfl)
  unfold w_X3_fillWorths at h
  obtain ⟨H, hH0⟩ : ∃ z, z = s.heap := ⟨_, rfl⟩
  rw [← hH0] at hc ⊢
  obtain ⟨locs, hlc0⟩ : ∃ z : List Loc, z = [] := ⟨_, rfl⟩
  rw [← hlc0] at hc ⊢
  refine lv_iconst (v := 0) hx hb dX3_fillWorths_0 (by decide) ?_
  refine lv_istore_n (lv' := [(2, .int 0), (0, .ref p0), (1, .ref p1)]) hx hb dX3_fillWorths_1 rfl hl (by decide) rfl (fun ls hl => ?_)
  exact hb_2 p0 p1 g0 0 h _ _ _ hc (lv_sub hl [1, 2, 0] rfl)
def b_X3_worthOf_28 (g : gS) (Q : Int32 → Prop) : Prop :=
  Q 0
def w_X3_worthOf (g : gS) (p0 : Nat) (p1 : Int32) (p2 : Int32) (Q : Int32 → Prop) : Prop :=
  (p2 < 0 → (b_X3_worthOf_28 g Q)) ∧ (¬ p2 < 0 → (gK g p0 = 4 ∧ (∃ y3, gR g p0 2 = some y3 ∧ (gK g y3 = 24 ∧ (((nI (gN g y3)) ≤ p2 → (b_X3_worthOf_28 g Q)) ∧ (¬ (nI (gN g y3)) ≤ p2 → ((p1 < 0 → (b_X3_worthOf_28 g Q)) ∧ (¬ p1 < 0 → (∃ y8, gR g p0 2 = some y8 ∧ (gK g y8 = 24 ∧ (vp_in p2 (gN g y8) ∧ (∃ y12, gR g y8 (Int32.toNatClampNeg p2) = some y12 ∧ (gK g y12 = 21 ∧ ((p1 < (nI (gN g y12)) → (∃ y16, gR g p0 2 = some y16 ∧ (gK g y16 = 24 ∧ (vp_in p2 (gN g y16) ∧ (∃ y20, gR g y16 (Int32.toNatClampNeg p2) = some y20 ∧ (gK g y20 = 21 ∧ (vp_in p1 (gN g y20) ∧ (Q (gI g y20 (Int32.toNatClampNeg p1)))))))))) ∧ (¬ p1 < (nI (gN g y12)) → (b_X3_worthOf_28 g Q))))))))))))))))
abbrev r_X3_worthOf : Room := { frames := 0, cells := 0, slots := 0, locals := 0 }
set_option maxHeartbeats 4000000 in
set_option maxRecDepth 100000 in
theorem c_X3_worthOf {l : Launch} {D : va_G} {cA : Nat → ClassId} {sz : Nat} {g : gS} {p0 : Nat} {p1 : Int32} {p2 : Int32} {Q : Int32 → Prop} (h : w_X3_worthOf g p0 p1 p2 Q) : Met l yX3_worthOf wsX3_worthOf r_X3_worthOf (va_Pc [.ref p0, .int p1, .int p2] (gPre D cA g sz)) (gQi D cA g sz (fun r g2 => g = g2 ∧ Q r)) 0 0 (gA g sz) := by
  refine g_met (cc := cX3_worthOf) (maxL := 3) (ret := (some .int)) (own := RX3) (by decide) rfl rfl (Nat.le_of_ble_eq_true rfl) ?_
  intro p e s m args below meth c ls CF hr hlk hnm hc hl
  obtain ⟨hx, hb, hml, hown, hts⟩ := id CF
  have hl : lv_has ls 3 [(0, .ref p0), (1, .int p1), (2, .int p2)] := hl
  show W p l e r_X3_worthOf s m args below meth c s.heap [] 0 0 (MQ below (gQi D cA g sz (fun r g2 => g = g2 ∧ Q r)) args s 0 0 (gA g sz)) (F0 m 0 ls [])
  have hb_28 : b_X3_worthOf_28 g Q → ∀ (H : Heap) (locs : List Loc) (ls : Array Slot), gC D cA (gA g sz) s g H locs → lv_has ls 3 [] → W p l e r_X3_worthOf s m args below meth c H locs 0 0 (MQ below (gQi D cA g sz (fun r g2 => g = g2 ∧ Q r)) args s 0 0 (gA g sz)) (F0 m 28 ls []) := by
    intro h H locs ls hc hl
    unfold b_X3_worthOf_28 at h
    refine lv_iconst (v := 0) hx hb dX3_worthOf_28 (by decide) ?_
    exact g_reti (r := 0) CF hr hlk hc rfl ⟨rfl, h⟩ dX3_worthOf_29
  unfold w_X3_worthOf at h
  obtain ⟨H, hH0⟩ : ∃ z, z = s.heap := ⟨_, rfl⟩
  rw [← hH0] at hc ⊢
  obtain ⟨locs, hlc0⟩ : ∃ z : List Loc, z = [] := ⟨_, rfl⟩
  rw [← hlc0] at hc ⊢
  refine lv_iload_n hx hb dX3_worthOf_0 rfl (lv_at hl 2 rfl) ?_
  refine lv_if_lt (tgt := 28) hx hb dX3_worthOf_1 (by decide) (fun c1 => ?_) (fun c1 => ?_)
  · have h := h.1 c1
    exact hb_28  h _ _ _ hc (lv_sub hl [] rfl)
  · have h := h.2 c1
    refine lv_iload_n hx hb dX3_worthOf_4 rfl (lv_at hl 2 rfl) ?_
    refine lv_aload_n hx hb dX3_worthOf_5 rfl (lv_at hl 0 rfl) ?_
    obtain ⟨hk2, h⟩ := h
    obtain ⟨y3, e4, h⟩ := h
    refine g_getr CF hc hk2 rfl (by decide) (fun _ h9 => List.mem_cons_of_mem _ (List.mem_append_right _ (h9))) (k := 2) (by decide) (List.mem_cons_of_mem _ (List.mem_append_left _ (List.mem_of_getElem? (i := 0) rfl))) e4 rfl dX3_worthOf_6 ?_
    obtain ⟨hk5, h⟩ := h
    refine g_alen CF hc (j := 3) hk5 (by decide) dX3_worthOf_9 ?_
    refine lv_icmp_ge (tgt := 28) hx hb dX3_worthOf_10 (by decide) (fun c6 => ?_) (fun c6 => ?_)
    · have h := h.1 c6
      exact hb_28  h _ _ _ hc (lv_sub hl [] rfl)
    · have h := h.2 c6
      refine lv_iload_n hx hb dX3_worthOf_13 rfl (lv_at hl 1 rfl) ?_
      refine lv_if_lt (tgt := 28) hx hb dX3_worthOf_14 (by decide) (fun c7 => ?_) (fun c7 => ?_)
      · have h := h.1 c7
        exact hb_28  h _ _ _ hc (lv_sub hl [] rfl)
      · have h := h.2 c7
        refine lv_iload_n hx hb dX3_worthOf_17 rfl (lv_at hl 1 rfl) ?_
        refine lv_aload_n hx hb dX3_worthOf_18 rfl (lv_at hl 0 rfl) ?_
        obtain ⟨y8, e9, h⟩ := h
        refine g_getr CF hc hk2 rfl (by decide) (fun _ h9 => List.mem_cons_of_mem _ (List.mem_append_right _ (h9))) (k := 2) (by decide) (List.mem_cons_of_mem _ (List.mem_append_left _ (List.mem_of_getElem? (i := 0) rfl))) e9 rfl dX3_worthOf_19 ?_
        refine lv_iload_n hx hb dX3_worthOf_22 rfl (lv_at hl 2 rfl) ?_
        obtain ⟨hk10, h⟩ := h
        obtain ⟨hi11, h⟩ := h
        obtain ⟨y12, e13, h⟩ := h
        refine g_aaldr CF hc hk10 hi11 e13 dX3_worthOf_23 ?_
        obtain ⟨hk14, h⟩ := h
        refine g_alen CF hc (j := 0) hk14 (by decide) dX3_worthOf_24 ?_
        refine lv_icmp_lt (tgt := 30) hx hb dX3_worthOf_25 (by decide) (fun c15 => ?_) (fun c15 => ?_)
        · have h := h.1 c15
          refine lv_aload_n hx hb dX3_worthOf_30 rfl (lv_at hl 0 rfl) ?_
          obtain ⟨y16, e17, h⟩ := h
          refine g_getr CF hc hk2 rfl (by decide) (fun _ h9 => List.mem_cons_of_mem _ (List.mem_append_right _ (h9))) (k := 2) (by decide) (List.mem_cons_of_mem _ (List.mem_append_left _ (List.mem_of_getElem? (i := 0) rfl))) e17 rfl dX3_worthOf_31 ?_
          refine lv_iload_n hx hb dX3_worthOf_34 rfl (lv_at hl 2 rfl) ?_
          obtain ⟨hk18, h⟩ := h
          obtain ⟨hi19, h⟩ := h
          obtain ⟨y20, e21, h⟩ := h
          refine g_aaldr CF hc hk18 hi19 e21 dX3_worthOf_35 ?_
          refine lv_iload_n hx hb dX3_worthOf_36 rfl (lv_at hl 1 rfl) ?_
          obtain ⟨hk22, h⟩ := h
          obtain ⟨hi23, h⟩ := h
          refine g_iald CF hc hk22 hi23 dX3_worthOf_37 ?_
          exact g_reti (r := (gI g y20 (Int32.toNatClampNeg p1))) CF hr hlk hc rfl ⟨rfl, h⟩ dX3_worthOf_38
        · have h := h.2 c15
          exact hb_28  h _ _ _ hc (lv_sub hl [] rfl)
def b_X3_likeness_62 (g : gS) (r0 : Nat) (r1 : Nat) (i2 : Int32) (i3 : Int32) (Q : Int32 → Prop) (k4 : Int32 → Int32 → Prop) : Prop :=
  k4 i2 (i3 + 1)
def l_X3_likeness_31 (g : gS) (r0 : Nat) (r1 : Nat) (i3 : Int32) (r4 : Nat) (Q : Int32 → Prop) (k4 : Int32 → Int32 → Prop) (i2 : Int32) (i5 : Int32) (k31 : Int32 → Int32 → Prop) : Prop :=
  gK g r4 = 10 ∧ (((gI g r4 4) ≤ i5 → (b_X3_likeness_62 g r0 r1 i2 i3 Q k4)) ∧ (¬ (gI g r4 4) ≤ i5 → (w_X9_differentTermOn g r4 i5 (fun x3 => (gK g r0 = 4 ∧ (w_X3_worthOf g r0 x3 i3 (fun x6 => (k31 (i2 + x6) (i5 + 1)))))))))
def l_X3_likeness_4 (g : gS) (r0 : Nat) (r1 : Nat) (Q : Int32 → Prop) (i2 : Int32) (i3 : Int32) (k4 : Int32 → Int32 → Prop) : Prop :=
  gK g r0 = 4 ∧ (∃ y9, gR g r0 2 = some y9 ∧ (gK g y9 = 24 ∧ (((nI (gN g y9)) ≤ i3 → (Q i2)) ∧ (¬ (nI (gN g y9)) ≤ i3 → (gK g r1 = 3 ∧ (w_X2_rowOf g r1 i3 (fun o14 => ((o14 = none → (b_X3_likeness_62 g r0 r1 i2 i3 Q k4)) ∧ (∀ y16, o14 = some y16 → (lpx2 (l_X3_likeness_31 g r0 r1 i3 y16 Q k4) i2 0))))))))))
def w_X3_likeness (g : gS) (p0 : Nat) (p1 : Nat) (Q : Int32 → Prop) : Prop :=
  lpx2 (l_X3_likeness_4 g p0 p1 Q) 0 0
abbrev r_X3_likeness : Room := { frames := 1, cells := 0, slots := 0, locals := 22 }
set_option maxHeartbeats 4000000 in
set_option maxRecDepth 100000 in
theorem c_X3_likeness {l : Launch} {D : va_G} {cA : Nat → ClassId} {sz : Nat} {g : gS} {p0 : Nat} {p1 : Nat} {Q : Int32 → Prop} (h : w_X3_likeness g p0 p1 Q) : Met l yX3_likeness wsX3_likeness r_X3_likeness (va_Pc [.ref p0, .ref p1] (gPre D cA g sz)) (gQi D cA g sz (fun r g2 => g = g2 ∧ Q r)) 0 0 (gA g sz) := by
  refine g_met (cc := cX3_likeness) (maxL := 6) (ret := (some .int)) (own := RX3) (by decide) rfl rfl (Nat.le_of_ble_eq_true rfl) ?_
  intro p e s m args below meth c ls CF hr hlk hnm hc hl
  obtain ⟨hx, hb, hml, hown, hts⟩ := id CF
  have hl : lv_has ls 6 [(0, .ref p0), (1, .ref p1)] := hl
  show W p l e r_X3_likeness s m args below meth c s.heap [] 0 0 (MQ below (gQi D cA g sz (fun r g2 => g = g2 ∧ Q r)) args s 0 0 (gA g sz)) (F0 m 0 ls [])
  have hb_4 : ∀ (r0 : Nat) (r1 : Nat), ∀ (i2 : Int32) (i3 : Int32), lpx2 (l_X3_likeness_4 g r0 r1 Q) i2 i3 → ∀ (H : Heap) (locs : List Loc) (ls : Array Slot), gC D cA (gA g sz) s g H locs → lv_has ls 6 [(0, .ref r0), (1, .ref r1), (2, .int i2), (3, .int i3)] → W p l e r_X3_likeness s m args below meth c H locs 0 0 (MQ below (gQi D cA g sz (fun r g2 => g = g2 ∧ Q r)) args s 0 0 (gA g sz)) (F0 m 4 ls []) := by
    intro r0 r1
    refine lpx2_run (P := fun (i2 : Int32) (i3 : Int32) => ∀ (H : Heap) (locs : List Loc) (ls : Array Slot), gC D cA (gA g sz) s g H locs → lv_has ls 6 [(0, .ref r0), (1, .ref r1), (2, .int i2), (3, .int i3)] → W p l e r_X3_likeness s m args below meth c H locs 0 0 (MQ below (gQi D cA g sz (fun r g2 => g = g2 ∧ Q r)) args s 0 0 (gA g sz)) (F0 m 4 ls [])) ?_
    intro k4 hk_4 i2 i3 h H locs ls hc hl
    have hb_62 : ∀ (i2 : Int32) (i3 : Int32), b_X3_likeness_62 g r0 r1 i2 i3 Q k4 → ∀ (H : Heap) (locs : List Loc) (ls : Array Slot), gC D cA (gA g sz) s g H locs → lv_has ls 6 [(0, .ref r0), (1, .ref r1), (2, .int i2), (3, .int i3)] → W p l e r_X3_likeness s m args below meth c H locs 0 0 (MQ below (gQi D cA g sz (fun r g2 => g = g2 ∧ Q r)) args s 0 0 (gA g sz)) (F0 m 62 ls []) := by
      intro i2 i3 h H locs ls hc hl
      unfold b_X3_likeness_62 at h
      refine lv_iinc (v := (i3 + 1)) (lv' := [(3, .int (i3 + 1)), (0, .ref r0), (1, .ref r1), (2, .int i2)]) hx hb dX3_likeness_62 hl (k := 3) rfl rfl (by decide) rfl (fun ls hl => ?_)
      refine lv_goto (tgt := 4) hx hb dX3_likeness_65 (by decide) ?_
      exact hk_4 i2 (i3 + 1) h _ _ _ hc (lv_sub hl [1, 2, 3, 0] rfl)
    have hb_31 : ∀ (i3 : Int32) (r4 : Nat), ∀ (i2 : Int32) (i5 : Int32), lpx2 (l_X3_likeness_31 g r0 r1 i3 r4 Q k4) i2 i5 → ∀ (H : Heap) (locs : List Loc) (ls : Array Slot), gC D cA (gA g sz) s g H locs → lv_has ls 6 [(0, .ref r0), (1, .ref r1), (2, .int i2), (3, .int i3), (4, .ref r4), (5, .int i5)] → W p l e r_X3_likeness s m args below meth c H locs 0 0 (MQ below (gQi D cA g sz (fun r g2 => g = g2 ∧ Q r)) args s 0 0 (gA g sz)) (F0 m 31 ls []) := by
      intro i3 r4
      refine lpx2_run (P := fun (i2 : Int32) (i5 : Int32) => ∀ (H : Heap) (locs : List Loc) (ls : Array Slot), gC D cA (gA g sz) s g H locs → lv_has ls 6 [(0, .ref r0), (1, .ref r1), (2, .int i2), (3, .int i3), (4, .ref r4), (5, .int i5)] → W p l e r_X3_likeness s m args below meth c H locs 0 0 (MQ below (gQi D cA g sz (fun r g2 => g = g2 ∧ Q r)) args s 0 0 (gA g sz)) (F0 m 31 ls [])) ?_
      intro k31 hk_31 i2 i5 h H locs ls hc hl
      unfold l_X3_likeness_31 at h
      refine lv_iload hx hb dX3_likeness_31 (lv_at hl 5 rfl) ?_
      refine lv_aload hx hb dX3_likeness_33 (lv_at hl 4 rfl) ?_
      obtain ⟨hk1, h⟩ := h
      refine g_get CF hc hk1 rfl (by decide) (fun _ h9 => List.mem_cons_of_mem _ (List.mem_append_left _ (List.mem_append_right _ (h9)))) (k := 4) (by decide) (List.mem_cons_of_mem _ (List.mem_append_left _ (List.mem_append_left _ (List.mem_append_left _ (List.mem_of_getElem? (i := 1) rfl))))) rfl dX3_likeness_35 ?_
      refine lv_icmp_ge (tgt := 62) hx hb dX3_likeness_38 (by decide) (fun c2 => ?_) (fun c2 => ?_)
      · have h := h.1 c2
        exact hb_62 i2 i3 h _ _ _ hc (lv_sub hl [0, 1, 2, 3] rfl)
      · have h := h.2 c2
        refine lv_iload_n hx hb dX3_likeness_41 rfl (lv_at hl 2 rfl) ?_
        refine lv_aload_n hx hb dX3_likeness_42 rfl (lv_at hl 0 rfl) ?_
        refine lv_aload hx hb dX3_likeness_43 (lv_at hl 4 rfl) ?_
        refine lv_iload hx hb dX3_likeness_45 (lv_at hl 5 rfl) ?_
        refine g_calli (va_runV (As := [.int i5]) (rest := [.ref r0, .int i2]) CF (c_X9_differentTermOn h) (cwV 1 hts gX3_likeness_X9_differentTermOn rfl rfl rfl (by decide +kernel) ⟨Nat.le_of_ble_eq_true rfl, Nat.le_of_ble_eq_true rfl⟩) (hc.preV hk1 rfl (by decide)) rfl rfl hl.1 rfl (lv_room (Nat.le_of_ble_eq_true rfl)) dX3_likeness_47 ⟨Nat.le_of_ble_eq_true rfl, Nat.le_of_ble_eq_true rfl⟩) hc (fun x3 gq4 H locs hq hc => ?_)
        obtain ⟨rfl, h⟩ := hq
        refine lv_iload_n hx hb dX3_likeness_50 rfl (lv_at hl 3 rfl) ?_
        obtain ⟨hk5, h⟩ := h
        refine g_calli (va_runV (As := [.int x3, .int i3]) (rest := [.int i2]) CF (c_X3_worthOf h) (cwV 2 hts gX3_likeness_X3_worthOf rfl rfl rfl (by decide +kernel) ⟨Nat.le_of_ble_eq_true rfl, Nat.le_of_ble_eq_true rfl⟩) (hc.preV hk5 rfl (by decide)) rfl rfl hl.1 rfl (lv_room (Nat.le_of_ble_eq_true rfl)) dX3_likeness_51 ⟨Nat.le_of_ble_eq_true rfl, Nat.le_of_ble_eq_true rfl⟩) hc (fun x6 gq7 H locs hq hc => ?_)
        obtain ⟨rfl, h⟩ := hq
        refine lv_iadd hx hb dX3_likeness_54 ?_
        refine lv_istore_n (lv' := [(2, .int (i2 + x6)), (0, .ref r0), (1, .ref r1), (3, .int i3), (4, .ref r4), (5, .int i5)]) hx hb dX3_likeness_55 rfl hl (by decide) rfl (fun ls hl => ?_)
        refine lv_iinc (v := (i5 + 1)) (lv' := [(5, .int (i5 + 1)), (2, .int (i2 + x6)), (0, .ref r0), (1, .ref r1), (3, .int i3), (4, .ref r4)]) hx hb dX3_likeness_56 hl (k := 5) rfl rfl (by decide) rfl (fun ls hl => ?_)
        refine lv_goto (tgt := 31) hx hb dX3_likeness_59 (by decide) ?_
        exact hk_31 (i2 + x6) (i5 + 1) h _ _ _ hc (lv_sub hl [2, 3, 1, 4, 5, 0] rfl)
    unfold l_X3_likeness_4 at h
    refine lv_iload_n hx hb dX3_likeness_4 rfl (lv_at hl 3 rfl) ?_
    refine lv_aload_n hx hb dX3_likeness_5 rfl (lv_at hl 0 rfl) ?_
    obtain ⟨hk8, h⟩ := h
    obtain ⟨y9, e10, h⟩ := h
    refine g_getr CF hc hk8 rfl (by decide) (fun _ h9 => List.mem_cons_of_mem _ (List.mem_append_left _ (List.mem_append_left _ (List.mem_append_right _ (h9))))) (k := 2) (by decide) (List.mem_cons_of_mem _ (List.mem_append_left _ (List.mem_append_left _ (List.mem_append_left _ (List.mem_of_getElem? (i := 0) rfl))))) e10 rfl dX3_likeness_6 ?_
    obtain ⟨hk11, h⟩ := h
    refine g_alen CF hc (j := 3) hk11 (by decide) dX3_likeness_9 ?_
    refine lv_icmp_ge (tgt := 68) hx hb dX3_likeness_10 (by decide) (fun c12 => ?_) (fun c12 => ?_)
    · have h := h.1 c12
      refine lv_iload_n hx hb dX3_likeness_68 rfl (lv_at hl 2 rfl) ?_
      exact g_reti (r := i2) CF hr hlk hc rfl ⟨rfl, h⟩ dX3_likeness_69
    · have h := h.2 c12
      refine lv_aload_n hx hb dX3_likeness_13 rfl (lv_at hl 1 rfl) ?_
      refine lv_iload_n hx hb dX3_likeness_14 rfl (lv_at hl 3 rfl) ?_
      obtain ⟨hk13, h⟩ := h
      refine g_callq (va_runV (As := [.int i3]) (rest := []) CF (c_X2_rowOf h) (cwV 1 hts gX3_likeness_X2_rowOf rfl rfl rfl (by decide +kernel) ⟨Nat.le_of_ble_eq_true rfl, Nat.le_of_ble_eq_true rfl⟩) (hc.preV hk13 rfl (by decide)) rfl rfl hl.1 rfl (lv_room (Nat.le_of_ble_eq_true rfl)) dX3_likeness_15 ⟨Nat.le_of_ble_eq_true rfl, Nat.le_of_ble_eq_true rfl⟩) hc (fun o14 gq15 H locs hq hc => ?_)
      obtain ⟨rfl, h⟩ := hq
      refine g_astoreq (lv' := [(4, va_rf o14), (0, .ref r0), (1, .ref r1), (2, .int i2), (3, .int i3)]) CF dX3_likeness_18 hl (by decide) rfl (fun ls hl => ?_)
      refine g_aloadq CF dX3_likeness_20 (lv_at hl 0 rfl) ?_
      refine g_ifnonnull (tgt := 28) CF dX3_likeness_22 (by decide) (fun y16 e17 => ?_) (fun e17 => ?_)
      · have hu18 := h.2 y16 e17
        subst e17
        have h := hu18
        refine lv_iconst (v := 0) hx hb dX3_likeness_28 (by decide) ?_
        refine lv_istore (lv' := [(5, .int 0), (4, .ref y16), (0, .ref r0), (1, .ref r1), (2, .int i2), (3, .int i3)]) hx hb dX3_likeness_29 hl (by decide) rfl (fun ls hl => ?_)
        exact hb_31 i3 y16 i2 0 h _ _ _ hc (lv_sub hl [2, 3, 4, 5, 1, 0] rfl)
      · have hu18 := h.1 e17
        subst e17
        have h := hu18
        refine lv_goto (tgt := 62) hx hb dX3_likeness_25 (by decide) ?_
        exact hb_62 i2 i3 h _ _ _ hc (lv_sub hl [1, 2, 3, 4] rfl)
  unfold w_X3_likeness at h
  obtain ⟨H, hH0⟩ : ∃ z, z = s.heap := ⟨_, rfl⟩
  rw [← hH0] at hc ⊢
  obtain ⟨locs, hlc0⟩ : ∃ z : List Loc, z = [] := ⟨_, rfl⟩
  rw [← hlc0] at hc ⊢
  refine lv_iconst (v := 0) hx hb dX3_likeness_0 (by decide) ?_
  refine lv_istore_n (lv' := [(2, .int 0), (0, .ref p0), (1, .ref p1)]) hx hb dX3_likeness_1 rfl hl (by decide) rfl (fun ls hl => ?_)
  refine lv_iconst (v := 0) hx hb dX3_likeness_2 (by decide) ?_
  refine lv_istore_n (lv' := [(3, .int 0), (2, .int 0), (0, .ref p0), (1, .ref p1)]) hx hb dX3_likeness_3 rfl hl (by decide) rfl (fun ls hl => ?_)
  exact hb_4 p0 p1 0 0 h _ _ _ hc (lv_sub hl [2, 3, 1, 0] rfl)
def b_X3_mostLike_95 (g : gS) (r0 : Nat) (i1 : Int32) (i3 : Int32) (i4 : Int32) (i5 : Int32) (Q : Int32 → gS → Prop) (k28 : Int32 → Int32 → Int32 → Prop) : Prop :=
  k28 i3 i4 (i5 + 1)
def l_X3_mostLike_28 (g : gS) (r0 : Nat) (i1 : Int32) (Q : Int32 → gS → Prop) (i3 : Int32) (i4 : Int32) (i5 : Int32) (k28 : Int32 → Int32 → Int32 → Prop) : Prop :=
  gK g r0 = 4 ∧ (∃ y2, gR g r0 0 = some y2 ∧ (gK g y2 = 1 ∧ (((gI g y2 1) ≤ i5 → (Q i3 g)) ∧ (¬ (gI g y2 1) ≤ i5 → (∃ y6, gR g r0 0 = some y6 ∧ (gK g y6 = 1 ∧ (w_X0_documentAt g y6 i5 (fun o9 => ((o9 = none → (b_X3_mostLike_95 g r0 i1 i3 i4 i5 Q k28)) ∧ (∀ y11, o9 = some y11 → ((i5 = i1 → (b_X3_mostLike_95 g r0 i1 i3 i4 i5 Q k28)) ∧ (¬ i5 = i1 → (gK g y11 = 3 ∧ (w_X2_canBeFound g y11 (fun x15 => ((x15 = 0 → (b_X3_mostLike_95 g r0 i1 i3 i4 i5 Q k28)) ∧ (¬ x15 = 0 → (w_X3_likeness g r0 y11 (fun x18 => ((x18 ≤ i4 → (b_X3_mostLike_95 g r0 i1 i3 i4 i5 Q k28)) ∧ (¬ x18 ≤ i4 → (b_X3_mostLike_95 g r0 i1 i5 x18 i5 Q k28))))))))))))))))))))))
def w_X3_mostLike (g0 : gS) (p0 : Nat) (p1 : Int32) (Q : Int32 → gS → Prop) : Prop :=
  gK g0 p0 = 4 ∧ (∃ y23, gR g0 p0 0 = some y23 ∧ (gK g0 y23 = 1 ∧ (w_X0_documentAt g0 y23 p1 (fun o26 => ((o26 = none → (Q (-1) g0)) ∧ (∀ y28, o26 = some y28 → (w_X3_fillWorths g0 p0 y28 (fun g31 => (lpx3 (l_X3_mostLike_28 g31 p0 p1 Q) (-1) 0 0)))))))))
abbrev r_X3_mostLike : Room := { frames := 3, cells := 0, slots := 0, locals := 73 }
set_option maxHeartbeats 4000000 in
set_option maxRecDepth 100000 in
theorem c_X3_mostLike {l : Launch} {D : va_G} {cA : Nat → ClassId} {sz : Nat} {g0 : gS} {p0 : Nat} {p1 : Int32} {Q : Int32 → gS → Prop} (h : w_X3_mostLike g0 p0 p1 Q) : Met l yX3_mostLike wsX3_mostLike r_X3_mostLike (va_Pc [.ref p0, .int p1] (gPre D cA g0 sz)) (gQi D cA g0 sz (Q)) 0 0 (gA g0 sz) := by
  refine g_met (cc := cX3_mostLike) (maxL := 8) (ret := (some .int)) (own := RX3) (by decide) rfl rfl (Nat.le_of_ble_eq_true rfl) ?_
  intro p e s m args below meth c ls CF hr hlk hnm hc hl
  obtain ⟨hx, hb, hml, hown, hts⟩ := id CF
  have hl : lv_has ls 8 [(0, .ref p0), (1, .int p1)] := hl
  show W p l e r_X3_mostLike s m args below meth c s.heap [] 0 0 (MQ below (gQi D cA g0 sz (Q)) args s 0 0 (gA g0 sz)) (F0 m 0 ls [])
  have hb_28 : ∀ (g : gS) (r0 : Nat) (i1 : Int32), ∀ (i3 : Int32) (i4 : Int32) (i5 : Int32), lpx3 (l_X3_mostLike_28 g r0 i1 Q) i3 i4 i5 → ∀ (H : Heap) (locs : List Loc) (ls : Array Slot), gC D cA (gA g0 sz) s g H locs → lv_has ls 8 [(0, .ref r0), (1, .int i1), (3, .int i3), (4, .int i4), (5, .int i5)] → W p l e r_X3_mostLike s m args below meth c H locs 0 0 (MQ below (gQi D cA g0 sz (Q)) args s 0 0 (gA g0 sz)) (F0 m 28 ls []) := by
    intro g r0 i1
    refine lpx3_run (P := fun (i3 : Int32) (i4 : Int32) (i5 : Int32) => ∀ (H : Heap) (locs : List Loc) (ls : Array Slot), gC D cA (gA g0 sz) s g H locs → lv_has ls 8 [(0, .ref r0), (1, .int i1), (3, .int i3), (4, .int i4), (5, .int i5)] → W p l e r_X3_mostLike s m args below meth c H locs 0 0 (MQ below (gQi D cA g0 sz (Q)) args s 0 0 (gA g0 sz)) (F0 m 28 ls [])) ?_
    intro k28 hk_28 i3 i4 i5 h H locs ls hc hl
    have hb_95 : ∀ (i3 : Int32) (i4 : Int32) (i5 : Int32), b_X3_mostLike_95 g r0 i1 i3 i4 i5 Q k28 → ∀ (H : Heap) (locs : List Loc) (ls : Array Slot), gC D cA (gA g0 sz) s g H locs → lv_has ls 8 [(0, .ref r0), (1, .int i1), (3, .int i3), (4, .int i4), (5, .int i5)] → W p l e r_X3_mostLike s m args below meth c H locs 0 0 (MQ below (gQi D cA g0 sz (Q)) args s 0 0 (gA g0 sz)) (F0 m 95 ls []) := by
      intro i3 i4 i5 h H locs ls hc hl
      unfold b_X3_mostLike_95 at h
      refine lv_iinc (v := (i5 + 1)) (lv' := [(5, .int (i5 + 1)), (0, .ref r0), (1, .int i1), (3, .int i3), (4, .int i4)]) hx hb dX3_mostLike_95 hl (k := 4) rfl rfl (by decide) rfl (fun ls hl => ?_)
      refine lv_goto (tgt := 28) hx hb dX3_mostLike_98 (by decide) ?_
      exact hk_28 i3 i4 (i5 + 1) h _ _ _ hc (lv_sub hl [1, 2, 3, 4, 0] rfl)
    unfold l_X3_mostLike_28 at h
    refine lv_iload hx hb dX3_mostLike_28 (lv_at hl 4 rfl) ?_
    refine lv_aload_n hx hb dX3_mostLike_30 rfl (lv_at hl 0 rfl) ?_
    obtain ⟨hk1, h⟩ := h
    obtain ⟨y2, e3, h⟩ := h
    refine g_getr CF hc hk1 rfl (by decide) (fun _ h9 => List.mem_cons_of_mem _ (List.mem_append_left _ (List.mem_append_left _ (List.mem_append_left _ (List.mem_append_left _ (List.mem_append_left _ (List.mem_append_right _ (h9)))))))) (k := 0) (by decide) (List.mem_cons_of_mem _ (List.mem_append_left _ (List.mem_append_left _ (List.mem_append_left _ (List.mem_append_left _ (List.mem_append_left _ (List.mem_append_left _ (List.mem_append_left _ (List.mem_of_getElem? (i := 0) rfl))))))))) e3 rfl dX3_mostLike_31 ?_
    obtain ⟨hk4, h⟩ := h
    refine g_get CF hc hk4 rfl (by decide) (fun _ h9 => List.mem_cons_of_mem _ (List.mem_append_left _ (List.mem_append_left _ (List.mem_append_left _ (List.mem_append_left _ (List.mem_append_right _ (h9))))))) (k := 1) (by decide) (List.mem_cons_of_mem _ (List.mem_append_left _ (List.mem_append_left _ (List.mem_append_left _ (List.mem_append_left _ (List.mem_append_left _ (List.mem_append_left _ (List.mem_append_left _ (List.mem_of_getElem? (i := 1) rfl))))))))) rfl dX3_mostLike_34 ?_
    refine lv_icmp_ge (tgt := 101) hx hb dX3_mostLike_37 (by decide) (fun c5 => ?_) (fun c5 => ?_)
    · have h := h.1 c5
      refine lv_iload_n hx hb dX3_mostLike_101 rfl (lv_at hl 2 rfl) ?_
      exact g_reti (r := i3) CF hr hlk hc rfl h dX3_mostLike_102
    · have h := h.2 c5
      refine lv_aload_n hx hb dX3_mostLike_40 rfl (lv_at hl 0 rfl) ?_
      obtain ⟨y6, e7, h⟩ := h
      refine g_getr CF hc hk1 rfl (by decide) (fun _ h9 => List.mem_cons_of_mem _ (List.mem_append_left _ (List.mem_append_left _ (List.mem_append_left _ (List.mem_append_left _ (List.mem_append_left _ (List.mem_append_right _ (h9)))))))) (k := 0) (by decide) (List.mem_cons_of_mem _ (List.mem_append_left _ (List.mem_append_left _ (List.mem_append_left _ (List.mem_append_left _ (List.mem_append_left _ (List.mem_append_left _ (List.mem_append_left _ (List.mem_of_getElem? (i := 0) rfl))))))))) e7 rfl dX3_mostLike_41 ?_
      refine lv_iload hx hb dX3_mostLike_44 (lv_at hl 4 rfl) ?_
      obtain ⟨hk8, h⟩ := h
      refine g_callq (va_runV (As := [.int i5]) (rest := []) CF (c_X0_documentAt h) (cwV 1 hts gX3_mostLike_X0_documentAt rfl rfl rfl (by decide +kernel) ⟨Nat.le_of_ble_eq_true rfl, Nat.le_of_ble_eq_true rfl⟩) (hc.preV hk8 rfl (by decide)) rfl rfl hl.1 rfl (lv_room (Nat.le_of_ble_eq_true rfl)) dX3_mostLike_46 ⟨Nat.le_of_ble_eq_true rfl, Nat.le_of_ble_eq_true rfl⟩) hc (fun o9 gq10 H locs hq hc => ?_)
      obtain ⟨rfl, h⟩ := hq
      refine g_astoreq (lv' := [(6, va_rf o9), (0, .ref r0), (1, .int i1), (3, .int i3), (4, .int i4), (5, .int i5)]) CF dX3_mostLike_49 hl (by decide) rfl (fun ls hl => ?_)
      refine g_aloadq CF dX3_mostLike_51 (lv_at hl 0 rfl) ?_
      refine g_ifnull (tgt := 95) CF dX3_mostLike_53 (by decide) (fun e12 => ?_) (fun y11 e12 => ?_)
      · have hu21 := h.1 e12
        subst e12
        have h := hu21
        exact hb_95 i3 i4 i5 h _ _ _ hc (lv_sub hl [1, 2, 3, 4, 5] rfl)
      · have hu21 := h.2 y11 e12
        subst e12
        have h := hu21
        refine lv_iload hx hb dX3_mostLike_56 (lv_at hl 5 rfl) ?_
        refine lv_iload_n hx hb dX3_mostLike_58 rfl (lv_at hl 2 rfl) ?_
        refine lv_icmp_eq (tgt := 95) hx hb dX3_mostLike_59 (by decide) (fun c13 => ?_) (fun c13 => ?_)
        · have h := h.1 c13
          exact hb_95 i3 i4 i5 h _ _ _ hc (lv_sub hl [1, 2, 3, 4, 5] rfl)
        · have h := h.2 c13
          refine lv_aload hx hb dX3_mostLike_62 (lv_at hl 0 rfl) ?_
          obtain ⟨hk14, h⟩ := h
          refine g_calli (va_runV (As := []) (rest := []) CF (c_X2_canBeFound h) (cwV 0 hts gX3_mostLike_X2_canBeFound rfl rfl rfl (by decide +kernel) ⟨Nat.le_of_ble_eq_true rfl, Nat.le_of_ble_eq_true rfl⟩) (hc.preV hk14 rfl (by decide)) rfl rfl hl.1 rfl (lv_room (Nat.le_of_ble_eq_true rfl)) dX3_mostLike_64 ⟨Nat.le_of_ble_eq_true rfl, Nat.le_of_ble_eq_true rfl⟩) hc (fun x15 gq16 H locs hq hc => ?_)
          obtain ⟨rfl, h⟩ := hq
          refine lv_if_ne (tgt := 73) hx hb dX3_mostLike_67 (by decide) (fun c17 => ?_) (fun c17 => ?_)
          · have h := h.2 c17
            refine lv_aload_n hx hb dX3_mostLike_73 rfl (lv_at hl 1 rfl) ?_
            refine lv_aload hx hb dX3_mostLike_74 (lv_at hl 0 rfl) ?_
            refine g_calli (va_runV (As := [.ref y11]) (rest := []) CF (c_X3_likeness h) (cwV 1 hts gX3_mostLike_X3_likeness rfl rfl rfl (by decide +kernel) ⟨Nat.le_of_ble_eq_true rfl, Nat.le_of_ble_eq_true rfl⟩) (hc.preV hk1 rfl (by decide)) rfl rfl hl.1 rfl (lv_room (Nat.le_of_ble_eq_true rfl)) dX3_mostLike_76 ⟨Nat.le_of_ble_eq_true rfl, Nat.le_of_ble_eq_true rfl⟩) hc (fun x18 gq19 H locs hq hc => ?_)
            obtain ⟨rfl, h⟩ := hq
            refine lv_istore (lv' := [(7, .int x18), (6, .ref y11), (0, .ref r0), (1, .int i1), (3, .int i3), (4, .int i4), (5, .int i5)]) hx hb dX3_mostLike_79 hl (by decide) rfl (fun ls hl => ?_)
            refine lv_iload hx hb dX3_mostLike_81 (lv_at hl 0 rfl) ?_
            refine lv_iload hx hb dX3_mostLike_83 (lv_at hl 5 rfl) ?_
            refine lv_icmp_le (tgt := 95) hx hb dX3_mostLike_85 (by decide) (fun c20 => ?_) (fun c20 => ?_)
            · have h := h.1 c20
              exact hb_95 i3 i4 i5 h _ _ _ hc (lv_sub hl [2, 3, 4, 5, 6] rfl)
            · have h := h.2 c20
              refine lv_iload hx hb dX3_mostLike_88 (lv_at hl 0 rfl) ?_
              refine lv_istore (lv' := [(4, .int x18), (7, .int x18), (6, .ref y11), (0, .ref r0), (1, .int i1), (3, .int i3), (5, .int i5)]) hx hb dX3_mostLike_90 hl (by decide) rfl (fun ls hl => ?_)
              refine lv_iload hx hb dX3_mostLike_92 (lv_at hl 6 rfl) ?_
              refine lv_istore_n (lv' := [(3, .int i5), (4, .int x18), (7, .int x18), (6, .ref y11), (0, .ref r0), (1, .int i1), (5, .int i5)]) hx hb dX3_mostLike_94 rfl hl (by decide) rfl (fun ls hl => ?_)
              exact hb_95 i5 x18 i5 h _ _ _ hc (lv_sub hl [4, 5, 0, 1, 6] rfl)
          · have h := h.1 c17
            refine lv_goto (tgt := 95) hx hb dX3_mostLike_70 (by decide) ?_
            exact hb_95 i3 i4 i5 h _ _ _ hc (lv_sub hl [1, 2, 3, 4, 5] rfl)
  unfold w_X3_mostLike at h
  obtain ⟨H, hH0⟩ : ∃ z, z = s.heap := ⟨_, rfl⟩
  rw [← hH0] at hc ⊢
  obtain ⟨locs, hlc0⟩ : ∃ z : List Loc, z = [] := ⟨_, rfl⟩
  rw [← hlc0] at hc ⊢
  refine lv_aload_n hx hb dX3_mostLike_0 rfl (lv_at hl 0 rfl) ?_
  obtain ⟨hk22, h⟩ := h
  obtain ⟨y23, e24, h⟩ := h
  refine g_getr CF hc hk22 rfl (by decide) (fun _ h9 => List.mem_cons_of_mem _ (List.mem_append_left _ (List.mem_append_left _ (List.mem_append_left _ (List.mem_append_left _ (List.mem_append_left _ (List.mem_append_right _ (h9)))))))) (k := 0) (by decide) (List.mem_cons_of_mem _ (List.mem_append_left _ (List.mem_append_left _ (List.mem_append_left _ (List.mem_append_left _ (List.mem_append_left _ (List.mem_append_left _ (List.mem_append_left _ (List.mem_of_getElem? (i := 0) rfl))))))))) e24 rfl dX3_mostLike_1 ?_
  refine lv_iload_n hx hb dX3_mostLike_4 rfl (lv_at hl 1 rfl) ?_
  obtain ⟨hk25, h⟩ := h
  refine g_callq (va_runV (As := [.int p1]) (rest := []) CF (c_X0_documentAt h) (cwV 1 hts gX3_mostLike_X0_documentAt rfl rfl rfl (by decide +kernel) ⟨Nat.le_of_ble_eq_true rfl, Nat.le_of_ble_eq_true rfl⟩) (hc.preV hk25 rfl (by decide)) rfl rfl hl.1 rfl (lv_room (Nat.le_of_ble_eq_true rfl)) dX3_mostLike_5 ⟨Nat.le_of_ble_eq_true rfl, Nat.le_of_ble_eq_true rfl⟩) hc (fun o26 gq27 H locs hq hc => ?_)
  obtain ⟨rfl, h⟩ := hq
  refine g_astore_nq (lv' := [(2, va_rf o26), (0, .ref p0), (1, .int p1)]) CF dX3_mostLike_8 rfl hl (by decide) rfl (fun ls hl => ?_)
  refine g_aload_nq CF dX3_mostLike_9 rfl (lv_at hl 0 rfl) ?_
  refine g_ifnonnull (tgt := 15) CF dX3_mostLike_10 (by decide) (fun y28 e29 => ?_) (fun e29 => ?_)
  · have hu33 := h.2 y28 e29
    subst e29
    have h := hu33
    refine lv_aload_n hx hb dX3_mostLike_15 rfl (lv_at hl 1 rfl) ?_
    refine lv_aload_n hx hb dX3_mostLike_16 rfl (lv_at hl 0 rfl) ?_
    refine g_callv (va_runV (As := [.ref y28]) (rest := []) CF (c_X3_fillWorths h) (cwV 1 hts gX3_mostLike_X3_fillWorths rfl rfl rfl (by decide +kernel) ⟨Nat.le_of_ble_eq_true rfl, Nat.le_of_ble_eq_true rfl⟩) (hc.preV hk22 rfl (by decide)) rfl rfl hl.1 rfl (lv_room (Nat.le_of_ble_eq_true rfl)) dX3_mostLike_17 ⟨Nat.le_of_ble_eq_true rfl, Nat.le_of_ble_eq_true rfl⟩) hc (fun g31 H locs hq hc => ?_)
    replace h := hq
    refine lv_iconst (v := (-1)) hx hb dX3_mostLike_20 (by decide) ?_
    refine lv_istore_n (lv' := [(3, .int (-1)), (2, .ref y28), (0, .ref p0), (1, .int p1)]) hx hb dX3_mostLike_21 rfl hl (by decide) rfl (fun ls hl => ?_)
    refine lv_iconst (v := 0) hx hb dX3_mostLike_22 (by decide) ?_
    refine lv_istore (lv' := [(4, .int 0), (3, .int (-1)), (2, .ref y28), (0, .ref p0), (1, .int p1)]) hx hb dX3_mostLike_23 hl (by decide) rfl (fun ls hl => ?_)
    refine lv_iconst (v := 0) hx hb dX3_mostLike_25 (by decide) ?_
    refine lv_istore (lv' := [(5, .int 0), (4, .int 0), (3, .int (-1)), (2, .ref y28), (0, .ref p0), (1, .int p1)]) hx hb dX3_mostLike_26 hl (by decide) rfl (fun ls hl => ?_)
    exact hb_28 g31 p0 p1 (-1) 0 0 h _ _ _ hc (lv_sub hl [4, 5, 2, 1, 0] rfl)
  · have hu33 := h.1 e29
    subst e29
    have h := hu33
    refine lv_iconst (v := (-1)) hx hb dX3_mostLike_13 (by decide) ?_
    exact g_reti (r := (-1)) CF hr hlk hc rfl h dX3_mostLike_14
def w_X10_init (g0 : gS) (p0 : Nat) (Q : gS → Prop) : Prop :=
  ∀ q1, gK g0 q1 = 0 → (∀ g3, g3 = sNew g0 q1 1 0 → (w_X0_init g3 q1 (fun g6 => (gK g6 p0 = 11 ∧ (∀ g9, g9 = sV g6 p0 0 (some q1) → (∀ q11, gK g9 q11 = 0 → (∀ g13, g13 = sNew g9 q11 5 0 → (w_X4_init g13 q11 (fun g16 => (gK g16 p0 = 11 ∧ (∀ g19, g19 = sV g16 p0 1 (some q11) → (∀ q21, gK g19 q21 = 0 → (∀ g23, g23 = sNew g19 q21 7 0 → (gK g23 p0 = 11 ∧ (∃ y26, gR g23 p0 1 = some y26 ∧ (w_X6_init g23 q21 y26 (fun g29 => (gK g29 p0 = 11 ∧ (∀ g32, g32 = sV g29 p0 2 (some q21) → (∀ q34, gK g32 q34 = 0 → (∀ g36, g36 = sNew g32 q34 8 0 → (w_X7_init g36 q34 (fun g39 => (gK g39 p0 = 11 ∧ (∀ g42, g42 = sV g39 p0 3 (some q34) → (∀ q44, gK g42 q44 = 0 → (∀ g46, g46 = sNew g42 q44 4 0 → (gK g46 p0 = 11 ∧ (∃ y49, gR g46 p0 0 = some y49 ∧ (∃ y51, gR g46 p0 1 = some y51 ∧ (w_X3_init g46 q44 y49 y51 (fun g54 => (gK g54 p0 = 11 ∧ (∀ g57, g57 = sV g54 p0 4 (some q44) → (∀ q59, gK g57 q59 = 0 → (∀ g61, g61 = sNew g57 q59 2 0 → (w_X1_init g61 q59 (fun g64 => (gK g64 p0 = 11 ∧ (∀ g67, g67 = sV g64 p0 5 (some q59) → (∀ q69, gK g67 q69 = 0 → (∀ g71, g71 = sNew g67 q69 9 0 → (gK g71 p0 = 11 ∧ (∃ y74, gR g71 p0 2 = some y74 ∧ (∃ y76, gR g71 p0 1 = some y76 ∧ (∃ y78, gR g71 p0 0 = some y78 ∧ (gK g71 y78 = 1 ∧ (∃ y81, gR g71 y78 5 = some y81 ∧ (w_X8_init g71 q69 y74 y76 y81 1 (fun g84 => (gK g84 p0 = 11 ∧ (∀ g87, g87 = sV g84 p0 6 (some q69) → (∀ q89, gK g87 q89 = 0 → (∀ g91, g91 = sNew g87 q89 9 0 → (gK g91 p0 = 11 ∧ (∃ y94, gR g91 p0 2 = some y94 ∧ (∃ y96, gR g91 p0 1 = some y96 ∧ (∃ y98, gR g91 p0 0 = some y98 ∧ (gK g91 y98 = 1 ∧ (∃ y101, gR g91 y98 5 = some y101 ∧ (w_X8_init g91 q89 y94 y96 y101 0 (fun g104 => (gK g104 p0 = 11 ∧ (∀ g107, g107 = sV g104 p0 7 (some q89) → (∀ q109, gK g107 q109 = 0 → (∀ g111, g111 = sNew g107 q109 9 0 → (gK g111 p0 = 11 ∧ (∃ y114, gR g111 p0 2 = some y114 ∧ (∃ y116, gR g111 p0 1 = some y116 ∧ (∃ y118, gR g111 p0 5 = some y118 ∧ (w_X8_init g111 q109 y114 y116 y118 1 (fun g121 => (gK g121 p0 = 11 ∧ (∀ g124, g124 = sV g121 p0 8 (some q109) → (∀ q126 rr127, gFresh g124 q126 rr127 30 → (∀ g129, g129 = sGrid g124 q126 rr127 30 60 → (gK g129 p0 = 11 ∧ (∀ g132, g132 = sV g129 p0 9 (some q126) → (Q g132)))))))))))))))))))))))))))))))))))))))))))))))))))))))))))))))))))))))))))))))
abbrev r_X10_init : Room := { frames := 3, cells := 72, slots := 5155, locals := 52 }
set_option maxHeartbeats 4000000 in
set_option maxRecDepth 100000 in
theorem c_X10_init {l : Launch} {D : va_G} {cA : Nat → ClassId} {sz : Nat} {g0 : gS} {p0 : Nat} {Q : gS → Prop} (h : w_X10_init g0 p0 Q) : Met l yX10_init wsX10_init r_X10_init (va_Pc [.ref p0] (gPre D cA g0 sz)) (gQv D cA g0 sz (Q)) 72 5155 (gA g0 sz) := by
  refine g_met (cc := cX10_init) (maxL := 1) (ret := none) (own := RX10) (by decide) rfl rfl (Nat.le_of_ble_eq_true rfl) ?_
  intro p e s m args below meth c ls CF hr hlk hnm hc hl
  obtain ⟨hx, hb, hml, hown, hts⟩ := id CF
  have hl : lv_has ls 1 [(0, .ref p0)] := hl
  show W p l e r_X10_init s m args below meth c s.heap [] 0 0 (MQ below (gQv D cA g0 sz (Q)) args s 72 5155 (gA g0 sz)) (F0 m 0 ls [])
  unfold w_X10_init at h
  obtain ⟨H, hH0⟩ : ∃ z, z = s.heap := ⟨_, rfl⟩
  rw [← hH0] at hc ⊢
  obtain ⟨locs, hlc0⟩ : ∃ z : List Loc, z = [] := ⟨_, rfl⟩
  rw [← hlc0] at hc ⊢
  refine lv_aload_n hx hb dX10_init_0 rfl (lv_at hl 0 rfl) ?_
  refine W.objInit hx hb hown (hts _ (List.mem_cons_of_mem _ (List.mem_append_left _ (List.mem_append_left _ (List.mem_append_left _ (List.mem_append_left _ (List.mem_append_left _ (List.mem_append_left _ (List.mem_append_left _ (List.mem_append_left _ (List.mem_append_left _ (List.mem_of_getElem? (i := 0) rfl)))))))))))) (hts _ (List.mem_cons_of_mem _ (List.mem_append_left _ (List.mem_append_left _ (List.mem_append_left _ (List.mem_append_left _ (List.mem_append_left _ (List.mem_append_left _ (List.mem_append_left _ (List.mem_append_left _ (List.mem_append_left _ (List.mem_of_getElem? (i := 1) rfl)))))))))))) (hts _ (List.mem_cons_of_mem _ (List.mem_append_left _ (List.mem_append_left _ (List.mem_append_left _ (List.mem_append_left _ (List.mem_append_left _ (List.mem_append_left _ (List.mem_append_left _ (List.mem_append_left _ (List.mem_append_left _ (List.mem_of_getElem? (i := 2) rfl)))))))))))) rfl (by rw [hml]; exact hl.1) rfl dX10_init_1 (Nat.le_of_ble_eq_true rfl) (Nat.le_of_ble_eq_true rfl) ?_
  refine W.eq (g2 := F0 m 4 ls []) rfl ?_
  refine lv_aload_n hx hb dX10_init_4 rfl (lv_at hl 0 rfl) ?_
  refine g_new CF hc (ci := 0) rfl (by decide) (fun _ h9 => List.mem_cons_of_mem _ (List.mem_append_left _ (List.mem_append_left _ (List.mem_append_left _ (List.mem_append_left _ (List.mem_append_left _ (List.mem_append_left _ (List.mem_append_left _ (List.mem_append_right _ (h9)))))))))) tyX0 tyX0_ok dfX0 (List.mem_cons_of_mem _ (List.mem_append_left _ (List.mem_append_left _ (List.mem_append_left _ (List.mem_append_left _ (List.mem_append_left _ (List.mem_append_left _ (List.mem_append_left _ (List.mem_append_left _ (List.mem_append_left _ (List.mem_of_getElem? (i := 3) rfl))))))))))) (List.mem_cons_of_mem _ (List.mem_append_left _ (List.mem_append_left _ (List.mem_append_left _ (List.mem_append_left _ (List.mem_append_left _ (List.mem_append_left _ (List.mem_append_left _ (List.mem_append_left _ (List.mem_append_left _ (List.mem_of_getElem? (i := 4) rfl))))))))))) (List.mem_cons_of_mem _ (List.mem_append_left _ (List.mem_append_left _ (List.mem_append_left _ (List.mem_append_left _ (List.mem_append_left _ (List.mem_append_left _ (List.mem_append_left _ (List.mem_append_left _ (List.mem_append_left _ (List.mem_of_getElem? (i := 5) rfl))))))))))) (Nat.le_of_ble_eq_true rfl) (Nat.le_of_ble_eq_true rfl) dX10_init_5 (fun q1 H locs hq2 hc => ?_)
  replace h := h q1 hq2
  obtain ⟨g3, eg4⟩ : ∃ z, z = sNew g0 q1 1 0 := ⟨_, rfl⟩
  have hc : gC D cA (gA g0 sz) s g3 H locs := by rw [eg4]; exact hc
  replace h := h g3 eg4
  refine W.widen (k := 1) (n := 6) (Nat.le_of_ble_eq_true rfl) (Nat.le_of_ble_eq_true rfl) ?_
  refine lv_dup hx hb dX10_init_8 rfl ?_
  refine g_callv (va_runIN (b := q1) (As := []) (rest := [.ref q1, .ref p0]) CF (c_X0_init h) ⟨va_cnB 0 hts gX10_init_X0_init_n9 rfl rfl rfl (hc.1.2.1 (.methodLinkNest RX10 9 yX0_init "QuarryIndex") (by decide +kernel)) (hts _ (List.mem_cons_of_mem _ (List.mem_append_left _ (List.mem_append_left _ (List.mem_append_left _ (List.mem_append_left _ (List.mem_append_left _ (List.mem_append_left _ (List.mem_append_left _ (List.mem_append_left _ (List.mem_append_left _ (List.mem_of_getElem? (i := 5) rfl)))))))))))) (by decide +kernel) ⟨Nat.le_of_ble_eq_true rfl, Nat.le_of_ble_eq_true rfl⟩, rfl, hts _ (List.mem_cons_of_mem _ (List.mem_append_left _ (List.mem_append_left _ (List.mem_append_left _ (List.mem_append_left _ (List.mem_append_left _ (List.mem_append_left _ (List.mem_append_left _ (List.mem_append_left _ (List.mem_append_right _ (List.mem_append_left _ (List.mem_of_getElem? (i := 13) rfl))))))))))))⟩ (hc.preS (As := .ref q1 :: [])) rfl rfl hl.1 rfl (lv_room (Nat.le_of_ble_eq_true rfl)) dX10_init_9 ⟨Nat.le_of_ble_eq_true rfl, Nat.le_of_ble_eq_true rfl⟩) hc (fun g6 H locs hq hc => ?_)
  replace h := hq
  refine W.widen (k := 9) (n := 735) (Nat.le_of_ble_eq_true rfl) (Nat.le_of_ble_eq_true rfl) ?_
  obtain ⟨hk8, h⟩ := h
  refine g_putrF CF hc hk8 rfl (by decide) (fun _ h9 => List.mem_cons_of_mem _ (List.mem_append_left _ (List.mem_append_left _ (List.mem_append_left _ (List.mem_append_left _ (List.mem_append_left _ (List.mem_append_left _ (List.mem_append_right _ (h9))))))))) tyX10 tyX10_ok nmX10 (k := 0) (by decide) (List.mem_cons_of_mem _ (List.mem_append_left _ (List.mem_append_left _ (List.mem_append_left _ (List.mem_append_left _ (List.mem_append_left _ (List.mem_append_left _ (List.mem_append_left _ (List.mem_append_left _ (List.mem_append_left _ (List.mem_of_getElem? (i := 6) rfl))))))))))) rfl hnm rfl (some q1) narrow_rf fits_rf rfl dX10_init_12 (fun H locs hc => ?_)
  obtain ⟨g9, eg10⟩ : ∃ z, z = sV g6 p0 0 (some q1) := ⟨_, rfl⟩
  have hc : gC D cA (gA g0 sz) s g9 H locs := by rw [eg10]; exact hc
  replace h := h g9 eg10
  refine lv_aload_n hx hb dX10_init_15 rfl (lv_at hl 0 rfl) ?_
  refine g_new CF hc (ci := 4) rfl (by decide) (fun _ h9 => List.mem_cons_of_mem _ (List.mem_append_left _ (List.mem_append_left _ (List.mem_append_left _ (List.mem_append_left _ (List.mem_append_left _ (List.mem_append_right _ (h9)))))))) tyX4 tyX4_ok dfX4 (List.mem_cons_of_mem _ (List.mem_append_left _ (List.mem_append_left _ (List.mem_append_left _ (List.mem_append_left _ (List.mem_append_left _ (List.mem_append_left _ (List.mem_append_left _ (List.mem_append_left _ (List.mem_append_left _ (List.mem_of_getElem? (i := 7) rfl))))))))))) (List.mem_cons_of_mem _ (List.mem_append_left _ (List.mem_append_left _ (List.mem_append_left _ (List.mem_append_left _ (List.mem_append_left _ (List.mem_append_left _ (List.mem_append_left _ (List.mem_append_left _ (List.mem_append_left _ (List.mem_of_getElem? (i := 8) rfl))))))))))) (List.mem_cons_of_mem _ (List.mem_append_left _ (List.mem_append_left _ (List.mem_append_left _ (List.mem_append_left _ (List.mem_append_left _ (List.mem_append_left _ (List.mem_append_left _ (List.mem_append_left _ (List.mem_append_left _ (List.mem_of_getElem? (i := 9) rfl))))))))))) (Nat.le_of_ble_eq_true rfl) (Nat.le_of_ble_eq_true rfl) dX10_init_16 (fun q11 H locs hq12 hc => ?_)
  replace h := h q11 hq12
  obtain ⟨g13, eg14⟩ : ∃ z, z = sNew g9 q11 5 0 := ⟨_, rfl⟩
  have hc : gC D cA (gA g0 sz) s g13 H locs := by rw [eg14]; exact hc
  replace h := h g13 eg14
  refine W.widen (k := 10) (n := 738) (Nat.le_of_ble_eq_true rfl) (Nat.le_of_ble_eq_true rfl) ?_
  refine lv_dup hx hb dX10_init_19 rfl ?_
  refine g_callv (va_runI (b := q11) (As := []) (rest := [.ref q11, .ref p0]) CF (c_X4_init h) (cwI 0 hts gX10_init_X4_init rfl rfl rfl (hts _ (List.mem_cons_of_mem _ (List.mem_append_left _ (List.mem_append_left _ (List.mem_append_left _ (List.mem_append_left _ (List.mem_append_left _ (List.mem_append_left _ (List.mem_append_left _ (List.mem_append_left _ (List.mem_append_left _ (List.mem_of_getElem? (i := 9) rfl)))))))))))) (hts _ (List.mem_cons_of_mem _ (List.mem_append_left _ (List.mem_append_left _ (List.mem_append_left _ (List.mem_append_left _ (List.mem_append_left _ (List.mem_append_left _ (List.mem_append_left _ (List.mem_append_left _ (List.mem_append_right _ (List.mem_append_right _ (List.mem_append_left _ (List.mem_of_getElem? (i := 3) rfl)))))))))))))) (hts _ (List.mem_cons_of_mem _ (List.mem_append_left _ (List.mem_append_left _ (List.mem_append_left _ (List.mem_append_left _ (List.mem_append_left _ (List.mem_append_left _ (List.mem_append_left _ (List.mem_append_left _ (List.mem_append_right _ (List.mem_append_right _ (List.mem_append_left _ (List.mem_of_getElem? (i := 4) rfl)))))))))))))) rfl (by decide +kernel) ⟨Nat.le_of_ble_eq_true rfl, Nat.le_of_ble_eq_true rfl⟩) (hc.preS (As := .ref q11 :: [])) rfl rfl hl.1 rfl (lv_room (Nat.le_of_ble_eq_true rfl)) dX10_init_20 ⟨Nat.le_of_ble_eq_true rfl, Nat.le_of_ble_eq_true rfl⟩) hc (fun g16 H locs hq hc => ?_)
  replace h := hq
  refine W.widen (k := 13) (n := 1141) (Nat.le_of_ble_eq_true rfl) (Nat.le_of_ble_eq_true rfl) ?_
  obtain ⟨hk18, h⟩ := h
  refine g_putrF CF hc hk18 rfl (by decide) (fun _ h9 => List.mem_cons_of_mem _ (List.mem_append_left _ (List.mem_append_left _ (List.mem_append_left _ (List.mem_append_left _ (List.mem_append_left _ (List.mem_append_left _ (List.mem_append_right _ (h9))))))))) tyX10 tyX10_ok nmX10 (k := 1) (by decide) (List.mem_cons_of_mem _ (List.mem_append_left _ (List.mem_append_left _ (List.mem_append_left _ (List.mem_append_left _ (List.mem_append_left _ (List.mem_append_left _ (List.mem_append_left _ (List.mem_append_left _ (List.mem_append_left _ (List.mem_of_getElem? (i := 10) rfl))))))))))) rfl hnm rfl (some q11) narrow_rf fits_rf rfl dX10_init_23 (fun H locs hc => ?_)
  obtain ⟨g19, eg20⟩ : ∃ z, z = sV g16 p0 1 (some q11) := ⟨_, rfl⟩
  have hc : gC D cA (gA g0 sz) s g19 H locs := by rw [eg20]; exact hc
  replace h := h g19 eg20
  refine lv_aload_n hx hb dX10_init_26 rfl (lv_at hl 0 rfl) ?_
  refine g_new CF hc (ci := 6) rfl (by decide) (fun _ h9 => List.mem_cons_of_mem _ (List.mem_append_left _ (List.mem_append_left _ (List.mem_append_left _ (List.mem_append_left _ (List.mem_append_right _ (h9))))))) tyX6 tyX6_ok dfX6 (List.mem_cons_of_mem _ (List.mem_append_left _ (List.mem_append_left _ (List.mem_append_left _ (List.mem_append_left _ (List.mem_append_left _ (List.mem_append_left _ (List.mem_append_left _ (List.mem_append_left _ (List.mem_append_left _ (List.mem_of_getElem? (i := 11) rfl))))))))))) (List.mem_cons_of_mem _ (List.mem_append_left _ (List.mem_append_left _ (List.mem_append_left _ (List.mem_append_left _ (List.mem_append_left _ (List.mem_append_left _ (List.mem_append_left _ (List.mem_append_left _ (List.mem_append_left _ (List.mem_of_getElem? (i := 12) rfl))))))))))) (List.mem_cons_of_mem _ (List.mem_append_left _ (List.mem_append_left _ (List.mem_append_left _ (List.mem_append_left _ (List.mem_append_left _ (List.mem_append_left _ (List.mem_append_left _ (List.mem_append_left _ (List.mem_append_left _ (List.mem_of_getElem? (i := 13) rfl))))))))))) (Nat.le_of_ble_eq_true rfl) (Nat.le_of_ble_eq_true rfl) dX10_init_27 (fun q21 H locs hq22 hc => ?_)
  replace h := h q21 hq22
  obtain ⟨g23, eg24⟩ : ∃ z, z = sNew g19 q21 7 0 := ⟨_, rfl⟩
  have hc : gC D cA (gA g0 sz) s g23 H locs := by rw [eg24]; exact hc
  replace h := h g23 eg24
  refine W.widen (k := 14) (n := 1146) (Nat.le_of_ble_eq_true rfl) (Nat.le_of_ble_eq_true rfl) ?_
  refine lv_dup hx hb dX10_init_30 rfl ?_
  refine lv_aload_n hx hb dX10_init_31 rfl (lv_at hl 0 rfl) ?_
  obtain ⟨hk25, h⟩ := h
  obtain ⟨y26, e27, h⟩ := h
  refine g_getr CF hc hk25 rfl (by decide) (fun _ h9 => List.mem_cons_of_mem _ (List.mem_append_left _ (List.mem_append_left _ (List.mem_append_left _ (List.mem_append_left _ (List.mem_append_left _ (List.mem_append_left _ (List.mem_append_right _ (h9))))))))) (k := 1) (by decide) (List.mem_cons_of_mem _ (List.mem_append_left _ (List.mem_append_left _ (List.mem_append_left _ (List.mem_append_left _ (List.mem_append_left _ (List.mem_append_left _ (List.mem_append_left _ (List.mem_append_left _ (List.mem_append_left _ (List.mem_of_getElem? (i := 10) rfl))))))))))) e27 rfl dX10_init_32 ?_
  refine g_callv (va_runI (b := q21) (As := [.ref y26]) (rest := [.ref q21, .ref p0]) CF (c_X6_init h) (cwI 1 hts gX10_init_X6_init rfl rfl rfl (hts _ (List.mem_cons_of_mem _ (List.mem_append_left _ (List.mem_append_left _ (List.mem_append_left _ (List.mem_append_left _ (List.mem_append_left _ (List.mem_append_left _ (List.mem_append_left _ (List.mem_append_left _ (List.mem_append_left _ (List.mem_of_getElem? (i := 13) rfl)))))))))))) (hts _ (List.mem_cons_of_mem _ (List.mem_append_left _ (List.mem_append_left _ (List.mem_append_left _ (List.mem_append_left _ (List.mem_append_left _ (List.mem_append_left _ (List.mem_append_left _ (List.mem_append_left _ (List.mem_append_right _ (List.mem_append_right _ (List.mem_append_left _ (List.mem_of_getElem? (i := 15) rfl)))))))))))))) (hts _ (List.mem_cons_of_mem _ (List.mem_append_left _ (List.mem_append_left _ (List.mem_append_left _ (List.mem_append_left _ (List.mem_append_left _ (List.mem_append_left _ (List.mem_append_left _ (List.mem_append_left _ (List.mem_append_right _ (List.mem_append_right _ (List.mem_append_left _ (List.mem_of_getElem? (i := 16) rfl)))))))))))))) rfl (by decide +kernel) ⟨Nat.le_of_ble_eq_true rfl, Nat.le_of_ble_eq_true rfl⟩) (hc.preS (As := .ref q21 :: [.ref y26])) rfl rfl hl.1 rfl (lv_room (Nat.le_of_ble_eq_true rfl)) dX10_init_35 ⟨Nat.le_of_ble_eq_true rfl, Nat.le_of_ble_eq_true rfl⟩) hc (fun g29 H locs hq hc => ?_)
  replace h := hq
  refine W.widen (k := 17) (n := 1218) (Nat.le_of_ble_eq_true rfl) (Nat.le_of_ble_eq_true rfl) ?_
  obtain ⟨hk31, h⟩ := h
  refine g_putrF CF hc hk31 rfl (by decide) (fun _ h9 => List.mem_cons_of_mem _ (List.mem_append_left _ (List.mem_append_left _ (List.mem_append_left _ (List.mem_append_left _ (List.mem_append_left _ (List.mem_append_left _ (List.mem_append_right _ (h9))))))))) tyX10 tyX10_ok nmX10 (k := 2) (by decide) (List.mem_cons_of_mem _ (List.mem_append_left _ (List.mem_append_left _ (List.mem_append_left _ (List.mem_append_left _ (List.mem_append_left _ (List.mem_append_left _ (List.mem_append_left _ (List.mem_append_left _ (List.mem_append_left _ (List.mem_of_getElem? (i := 14) rfl))))))))))) rfl hnm rfl (some q21) narrow_rf fits_rf rfl dX10_init_38 (fun H locs hc => ?_)
  obtain ⟨g32, eg33⟩ : ∃ z, z = sV g29 p0 2 (some q21) := ⟨_, rfl⟩
  have hc : gC D cA (gA g0 sz) s g32 H locs := by rw [eg33]; exact hc
  replace h := h g32 eg33
  refine lv_aload_n hx hb dX10_init_41 rfl (lv_at hl 0 rfl) ?_
  refine g_new CF hc (ci := 7) rfl (by decide) (fun _ h9 => List.mem_cons_of_mem _ (List.mem_append_left _ (List.mem_append_left _ (List.mem_append_left _ (List.mem_append_right _ (h9)))))) tyX7 tyX7_ok dfX7 (List.mem_cons_of_mem _ (List.mem_append_left _ (List.mem_append_left _ (List.mem_append_left _ (List.mem_append_left _ (List.mem_append_left _ (List.mem_append_left _ (List.mem_append_left _ (List.mem_append_left _ (List.mem_append_left _ (List.mem_of_getElem? (i := 15) rfl))))))))))) (List.mem_cons_of_mem _ (List.mem_append_left _ (List.mem_append_left _ (List.mem_append_left _ (List.mem_append_left _ (List.mem_append_left _ (List.mem_append_left _ (List.mem_append_left _ (List.mem_append_left _ (List.mem_append_left _ (List.mem_of_getElem? (i := 16) rfl))))))))))) (List.mem_cons_of_mem _ (List.mem_append_left _ (List.mem_append_left _ (List.mem_append_left _ (List.mem_append_left _ (List.mem_append_left _ (List.mem_append_left _ (List.mem_append_left _ (List.mem_append_left _ (List.mem_append_left _ (List.mem_of_getElem? (i := 17) rfl))))))))))) (Nat.le_of_ble_eq_true rfl) (Nat.le_of_ble_eq_true rfl) dX10_init_42 (fun q34 H locs hq35 hc => ?_)
  replace h := h q34 hq35
  obtain ⟨g36, eg37⟩ : ∃ z, z = sNew g32 q34 8 0 := ⟨_, rfl⟩
  have hc : gC D cA (gA g0 sz) s g36 H locs := by rw [eg37]; exact hc
  replace h := h g36 eg37
  refine W.widen (k := 18) (n := 1222) (Nat.le_of_ble_eq_true rfl) (Nat.le_of_ble_eq_true rfl) ?_
  refine lv_dup hx hb dX10_init_45 rfl ?_
  refine g_callv (va_runIN (b := q34) (As := []) (rest := [.ref q34, .ref p0]) CF (c_X7_init h) ⟨va_cnB 0 hts gX10_init_X7_init_n34 rfl rfl rfl (hc.1.2.1 (.methodLinkNest RX10 34 yX7_init "QuarryIndex") (by decide +kernel)) (hts _ (List.mem_cons_of_mem _ (List.mem_append_left _ (List.mem_append_left _ (List.mem_append_left _ (List.mem_append_left _ (List.mem_append_left _ (List.mem_append_left _ (List.mem_append_left _ (List.mem_append_left _ (List.mem_append_left _ (List.mem_of_getElem? (i := 17) rfl)))))))))))) (by decide +kernel) ⟨Nat.le_of_ble_eq_true rfl, Nat.le_of_ble_eq_true rfl⟩, rfl, hts _ (List.mem_cons_of_mem _ (List.mem_append_left _ (List.mem_append_left _ (List.mem_append_left _ (List.mem_append_left _ (List.mem_append_left _ (List.mem_append_left _ (List.mem_append_left _ (List.mem_append_left _ (List.mem_append_right _ (List.mem_append_right _ (List.mem_append_right _ (List.mem_append_left _ (List.mem_of_getElem? (i := 0) rfl))))))))))))))⟩ (hc.preS (As := .ref q34 :: [])) rfl rfl hl.1 rfl (lv_room (Nat.le_of_ble_eq_true rfl)) dX10_init_46 ⟨Nat.le_of_ble_eq_true rfl, Nat.le_of_ble_eq_true rfl⟩) hc (fun g39 H locs hq hc => ?_)
  replace h := hq
  refine W.widen (k := 21) (n := 1402) (Nat.le_of_ble_eq_true rfl) (Nat.le_of_ble_eq_true rfl) ?_
  obtain ⟨hk41, h⟩ := h
  refine g_putrF CF hc hk41 rfl (by decide) (fun _ h9 => List.mem_cons_of_mem _ (List.mem_append_left _ (List.mem_append_left _ (List.mem_append_left _ (List.mem_append_left _ (List.mem_append_left _ (List.mem_append_left _ (List.mem_append_right _ (h9))))))))) tyX10 tyX10_ok nmX10 (k := 3) (by decide) (List.mem_cons_of_mem _ (List.mem_append_left _ (List.mem_append_left _ (List.mem_append_left _ (List.mem_append_left _ (List.mem_append_left _ (List.mem_append_left _ (List.mem_append_left _ (List.mem_append_left _ (List.mem_append_left _ (List.mem_of_getElem? (i := 18) rfl))))))))))) rfl hnm rfl (some q34) narrow_rf fits_rf rfl dX10_init_49 (fun H locs hc => ?_)
  obtain ⟨g42, eg43⟩ : ∃ z, z = sV g39 p0 3 (some q34) := ⟨_, rfl⟩
  have hc : gC D cA (gA g0 sz) s g42 H locs := by rw [eg43]; exact hc
  replace h := h g42 eg43
  refine lv_aload_n hx hb dX10_init_52 rfl (lv_at hl 0 rfl) ?_
  refine g_new CF hc (ci := 3) rfl (by decide) (fun _ h9 => List.mem_cons_of_mem _ (List.mem_append_left _ (List.mem_append_left _ (List.mem_append_right _ (h9))))) tyX3 tyX3_ok dfX3 (List.mem_cons_of_mem _ (List.mem_append_left _ (List.mem_append_left _ (List.mem_append_left _ (List.mem_append_left _ (List.mem_append_left _ (List.mem_append_left _ (List.mem_append_left _ (List.mem_append_left _ (List.mem_append_left _ (List.mem_of_getElem? (i := 19) rfl))))))))))) (List.mem_cons_of_mem _ (List.mem_append_left _ (List.mem_append_left _ (List.mem_append_left _ (List.mem_append_left _ (List.mem_append_left _ (List.mem_append_left _ (List.mem_append_left _ (List.mem_append_left _ (List.mem_append_left _ (List.mem_of_getElem? (i := 20) rfl))))))))))) (List.mem_cons_of_mem _ (List.mem_append_left _ (List.mem_append_left _ (List.mem_append_left _ (List.mem_append_left _ (List.mem_append_left _ (List.mem_append_left _ (List.mem_append_left _ (List.mem_append_left _ (List.mem_append_left _ (List.mem_of_getElem? (i := 21) rfl))))))))))) (Nat.le_of_ble_eq_true rfl) (Nat.le_of_ble_eq_true rfl) dX10_init_53 (fun q44 H locs hq45 hc => ?_)
  replace h := h q44 hq45
  obtain ⟨g46, eg47⟩ : ∃ z, z = sNew g42 q44 4 0 := ⟨_, rfl⟩
  have hc : gC D cA (gA g0 sz) s g46 H locs := by rw [eg47]; exact hc
  replace h := h g46 eg47
  refine W.widen (k := 22) (n := 1408) (Nat.le_of_ble_eq_true rfl) (Nat.le_of_ble_eq_true rfl) ?_
  refine lv_dup hx hb dX10_init_56 rfl ?_
  refine lv_aload_n hx hb dX10_init_57 rfl (lv_at hl 0 rfl) ?_
  obtain ⟨hk48, h⟩ := h
  obtain ⟨y49, e50, h⟩ := h
  refine g_getr CF hc hk48 rfl (by decide) (fun _ h9 => List.mem_cons_of_mem _ (List.mem_append_left _ (List.mem_append_left _ (List.mem_append_left _ (List.mem_append_left _ (List.mem_append_left _ (List.mem_append_left _ (List.mem_append_right _ (h9))))))))) (k := 0) (by decide) (List.mem_cons_of_mem _ (List.mem_append_left _ (List.mem_append_left _ (List.mem_append_left _ (List.mem_append_left _ (List.mem_append_left _ (List.mem_append_left _ (List.mem_append_left _ (List.mem_append_left _ (List.mem_append_left _ (List.mem_of_getElem? (i := 6) rfl))))))))))) e50 rfl dX10_init_58 ?_
  refine lv_aload_n hx hb dX10_init_61 rfl (lv_at hl 0 rfl) ?_
  obtain ⟨y51, e52, h⟩ := h
  refine g_getr CF hc hk48 rfl (by decide) (fun _ h9 => List.mem_cons_of_mem _ (List.mem_append_left _ (List.mem_append_left _ (List.mem_append_left _ (List.mem_append_left _ (List.mem_append_left _ (List.mem_append_left _ (List.mem_append_right _ (h9))))))))) (k := 1) (by decide) (List.mem_cons_of_mem _ (List.mem_append_left _ (List.mem_append_left _ (List.mem_append_left _ (List.mem_append_left _ (List.mem_append_left _ (List.mem_append_left _ (List.mem_append_left _ (List.mem_append_left _ (List.mem_append_left _ (List.mem_of_getElem? (i := 10) rfl))))))))))) e52 rfl dX10_init_62 ?_
  refine g_callv (va_runI (b := q44) (As := [.ref y49, .ref y51]) (rest := [.ref q44, .ref p0]) CF (c_X3_init h) (cwI 2 hts gX10_init_X3_init rfl rfl rfl (hts _ (List.mem_cons_of_mem _ (List.mem_append_left _ (List.mem_append_left _ (List.mem_append_left _ (List.mem_append_left _ (List.mem_append_left _ (List.mem_append_left _ (List.mem_append_left _ (List.mem_append_left _ (List.mem_append_left _ (List.mem_of_getElem? (i := 21) rfl)))))))))))) (hts _ (List.mem_cons_of_mem _ (List.mem_append_left _ (List.mem_append_left _ (List.mem_append_left _ (List.mem_append_left _ (List.mem_append_left _ (List.mem_append_left _ (List.mem_append_left _ (List.mem_append_left _ (List.mem_append_right _ (List.mem_append_right _ (List.mem_append_right _ (List.mem_append_left _ (List.mem_of_getElem? (i := 7) rfl))))))))))))))) (hts _ (List.mem_cons_of_mem _ (List.mem_append_left _ (List.mem_append_left _ (List.mem_append_left _ (List.mem_append_left _ (List.mem_append_left _ (List.mem_append_left _ (List.mem_append_left _ (List.mem_append_left _ (List.mem_append_right _ (List.mem_append_right _ (List.mem_append_right _ (List.mem_append_left _ (List.mem_of_getElem? (i := 8) rfl))))))))))))))) rfl (by decide +kernel) ⟨Nat.le_of_ble_eq_true rfl, Nat.le_of_ble_eq_true rfl⟩) (hc.preS (As := .ref q44 :: [.ref y49, .ref y51])) rfl rfl hl.1 rfl (lv_room (Nat.le_of_ble_eq_true rfl)) dX10_init_65 ⟨Nat.le_of_ble_eq_true rfl, Nat.le_of_ble_eq_true rfl⟩) hc (fun g54 H locs hq hc => ?_)
  replace h := hq
  refine W.widen (k := 29) (n := 2611) (Nat.le_of_ble_eq_true rfl) (Nat.le_of_ble_eq_true rfl) ?_
  obtain ⟨hk56, h⟩ := h
  refine g_putrF CF hc hk56 rfl (by decide) (fun _ h9 => List.mem_cons_of_mem _ (List.mem_append_left _ (List.mem_append_left _ (List.mem_append_left _ (List.mem_append_left _ (List.mem_append_left _ (List.mem_append_left _ (List.mem_append_right _ (h9))))))))) tyX10 tyX10_ok nmX10 (k := 4) (by decide) (List.mem_cons_of_mem _ (List.mem_append_left _ (List.mem_append_left _ (List.mem_append_left _ (List.mem_append_left _ (List.mem_append_left _ (List.mem_append_left _ (List.mem_append_left _ (List.mem_append_left _ (List.mem_append_left _ (List.mem_of_getElem? (i := 22) rfl))))))))))) rfl hnm rfl (some q44) narrow_rf fits_rf rfl dX10_init_68 (fun H locs hc => ?_)
  obtain ⟨g57, eg58⟩ : ∃ z, z = sV g54 p0 4 (some q44) := ⟨_, rfl⟩
  have hc : gC D cA (gA g0 sz) s g57 H locs := by rw [eg58]; exact hc
  replace h := h g57 eg58
  refine lv_aload_n hx hb dX10_init_71 rfl (lv_at hl 0 rfl) ?_
  refine g_new CF hc (ci := 1) rfl (by decide) (fun _ h9 => List.mem_cons_of_mem _ (List.mem_append_left _ (List.mem_append_right _ (h9)))) tyX1 tyX1_ok dfX1 (List.mem_cons_of_mem _ (List.mem_append_left _ (List.mem_append_left _ (List.mem_append_left _ (List.mem_append_left _ (List.mem_append_left _ (List.mem_append_left _ (List.mem_append_left _ (List.mem_append_left _ (List.mem_append_left _ (List.mem_of_getElem? (i := 23) rfl))))))))))) (List.mem_cons_of_mem _ (List.mem_append_left _ (List.mem_append_left _ (List.mem_append_left _ (List.mem_append_left _ (List.mem_append_left _ (List.mem_append_left _ (List.mem_append_left _ (List.mem_append_left _ (List.mem_append_right _ (List.mem_append_left _ (List.mem_of_getElem? (i := 0) rfl)))))))))))) (List.mem_cons_of_mem _ (List.mem_append_left _ (List.mem_append_left _ (List.mem_append_left _ (List.mem_append_left _ (List.mem_append_left _ (List.mem_append_left _ (List.mem_append_left _ (List.mem_append_left _ (List.mem_append_right _ (List.mem_append_left _ (List.mem_of_getElem? (i := 1) rfl)))))))))))) (Nat.le_of_ble_eq_true rfl) (Nat.le_of_ble_eq_true rfl) dX10_init_72 (fun q59 H locs hq60 hc => ?_)
  replace h := h q59 hq60
  obtain ⟨g61, eg62⟩ : ∃ z, z = sNew g57 q59 2 0 := ⟨_, rfl⟩
  have hc : gC D cA (gA g0 sz) s g61 H locs := by rw [eg62]; exact hc
  replace h := h g61 eg62
  refine W.widen (k := 30) (n := 2614) (Nat.le_of_ble_eq_true rfl) (Nat.le_of_ble_eq_true rfl) ?_
  refine lv_dup hx hb dX10_init_75 rfl ?_
  refine g_callv (va_runIN (b := q59) (As := []) (rest := [.ref q59, .ref p0]) CF (c_X1_init h) ⟨va_cnB 0 hts gX10_init_X1_init_n50 rfl rfl rfl (hc.1.2.1 (.methodLinkNest RX10 50 yX1_init "QuarryIndex") (by decide +kernel)) (hts _ (List.mem_cons_of_mem _ (List.mem_append_left _ (List.mem_append_left _ (List.mem_append_left _ (List.mem_append_left _ (List.mem_append_left _ (List.mem_append_left _ (List.mem_append_left _ (List.mem_append_left _ (List.mem_append_right _ (List.mem_append_left _ (List.mem_of_getElem? (i := 1) rfl))))))))))))) (by decide +kernel) ⟨Nat.le_of_ble_eq_true rfl, Nat.le_of_ble_eq_true rfl⟩, rfl, hts _ (List.mem_cons_of_mem _ (List.mem_append_left _ (List.mem_append_left _ (List.mem_append_left _ (List.mem_append_left _ (List.mem_append_left _ (List.mem_append_left _ (List.mem_append_left _ (List.mem_append_left _ (List.mem_append_right _ (List.mem_append_left _ (List.mem_of_getElem? (i := 21) rfl))))))))))))⟩ (hc.preS (As := .ref q59 :: [])) rfl rfl hl.1 rfl (lv_room (Nat.le_of_ble_eq_true rfl)) dX10_init_76 ⟨Nat.le_of_ble_eq_true rfl, Nat.le_of_ble_eq_true rfl⟩) hc (fun g64 H locs hq hc => ?_)
  replace h := hq
  refine W.widen (k := 35) (n := 3220) (Nat.le_of_ble_eq_true rfl) (Nat.le_of_ble_eq_true rfl) ?_
  obtain ⟨hk66, h⟩ := h
  refine g_putrF CF hc hk66 rfl (by decide) (fun _ h9 => List.mem_cons_of_mem _ (List.mem_append_left _ (List.mem_append_left _ (List.mem_append_left _ (List.mem_append_left _ (List.mem_append_left _ (List.mem_append_left _ (List.mem_append_right _ (h9))))))))) tyX10 tyX10_ok nmX10 (k := 5) (by decide) (List.mem_cons_of_mem _ (List.mem_append_left _ (List.mem_append_left _ (List.mem_append_left _ (List.mem_append_left _ (List.mem_append_left _ (List.mem_append_left _ (List.mem_append_left _ (List.mem_append_left _ (List.mem_append_right _ (List.mem_append_left _ (List.mem_of_getElem? (i := 2) rfl)))))))))))) rfl hnm rfl (some q59) narrow_rf fits_rf rfl dX10_init_79 (fun H locs hc => ?_)
  obtain ⟨g67, eg68⟩ : ∃ z, z = sV g64 p0 5 (some q59) := ⟨_, rfl⟩
  have hc : gC D cA (gA g0 sz) s g67 H locs := by rw [eg68]; exact hc
  replace h := h g67 eg68
  refine lv_aload_n hx hb dX10_init_82 rfl (lv_at hl 0 rfl) ?_
  refine g_new CF hc (ci := 8) rfl (by decide) (fun _ h9 => List.mem_cons_of_mem _ (List.mem_append_right _ (h9))) tyX8 tyX8_ok dfX8 (List.mem_cons_of_mem _ (List.mem_append_left _ (List.mem_append_left _ (List.mem_append_left _ (List.mem_append_left _ (List.mem_append_left _ (List.mem_append_left _ (List.mem_append_left _ (List.mem_append_left _ (List.mem_append_right _ (List.mem_append_left _ (List.mem_of_getElem? (i := 3) rfl)))))))))))) (List.mem_cons_of_mem _ (List.mem_append_left _ (List.mem_append_left _ (List.mem_append_left _ (List.mem_append_left _ (List.mem_append_left _ (List.mem_append_left _ (List.mem_append_left _ (List.mem_append_left _ (List.mem_append_right _ (List.mem_append_left _ (List.mem_of_getElem? (i := 4) rfl)))))))))))) (List.mem_cons_of_mem _ (List.mem_append_left _ (List.mem_append_left _ (List.mem_append_left _ (List.mem_append_left _ (List.mem_append_left _ (List.mem_append_left _ (List.mem_append_left _ (List.mem_append_left _ (List.mem_append_right _ (List.mem_append_left _ (List.mem_of_getElem? (i := 5) rfl)))))))))))) (Nat.le_of_ble_eq_true rfl) (Nat.le_of_ble_eq_true rfl) dX10_init_83 (fun q69 H locs hq70 hc => ?_)
  replace h := h q69 hq70
  obtain ⟨g71, eg72⟩ : ∃ z, z = sNew g67 q69 9 0 := ⟨_, rfl⟩
  have hc : gC D cA (gA g0 sz) s g71 H locs := by rw [eg72]; exact hc
  replace h := h g71 eg72
  refine W.widen (k := 36) (n := 3225) (Nat.le_of_ble_eq_true rfl) (Nat.le_of_ble_eq_true rfl) ?_
  refine lv_dup hx hb dX10_init_86 rfl ?_
  refine lv_aload_n hx hb dX10_init_87 rfl (lv_at hl 0 rfl) ?_
  obtain ⟨hk73, h⟩ := h
  obtain ⟨y74, e75, h⟩ := h
  refine g_getr CF hc hk73 rfl (by decide) (fun _ h9 => List.mem_cons_of_mem _ (List.mem_append_left _ (List.mem_append_left _ (List.mem_append_left _ (List.mem_append_left _ (List.mem_append_left _ (List.mem_append_left _ (List.mem_append_right _ (h9))))))))) (k := 2) (by decide) (List.mem_cons_of_mem _ (List.mem_append_left _ (List.mem_append_left _ (List.mem_append_left _ (List.mem_append_left _ (List.mem_append_left _ (List.mem_append_left _ (List.mem_append_left _ (List.mem_append_left _ (List.mem_append_left _ (List.mem_of_getElem? (i := 14) rfl))))))))))) e75 rfl dX10_init_88 ?_
  refine lv_aload_n hx hb dX10_init_91 rfl (lv_at hl 0 rfl) ?_
  obtain ⟨y76, e77, h⟩ := h
  refine g_getr CF hc hk73 rfl (by decide) (fun _ h9 => List.mem_cons_of_mem _ (List.mem_append_left _ (List.mem_append_left _ (List.mem_append_left _ (List.mem_append_left _ (List.mem_append_left _ (List.mem_append_left _ (List.mem_append_right _ (h9))))))))) (k := 1) (by decide) (List.mem_cons_of_mem _ (List.mem_append_left _ (List.mem_append_left _ (List.mem_append_left _ (List.mem_append_left _ (List.mem_append_left _ (List.mem_append_left _ (List.mem_append_left _ (List.mem_append_left _ (List.mem_append_left _ (List.mem_of_getElem? (i := 10) rfl))))))))))) e77 rfl dX10_init_92 ?_
  refine lv_aload_n hx hb dX10_init_95 rfl (lv_at hl 0 rfl) ?_
  obtain ⟨y78, e79, h⟩ := h
  refine g_getr CF hc hk73 rfl (by decide) (fun _ h9 => List.mem_cons_of_mem _ (List.mem_append_left _ (List.mem_append_left _ (List.mem_append_left _ (List.mem_append_left _ (List.mem_append_left _ (List.mem_append_left _ (List.mem_append_right _ (h9))))))))) (k := 0) (by decide) (List.mem_cons_of_mem _ (List.mem_append_left _ (List.mem_append_left _ (List.mem_append_left _ (List.mem_append_left _ (List.mem_append_left _ (List.mem_append_left _ (List.mem_append_left _ (List.mem_append_left _ (List.mem_append_left _ (List.mem_of_getElem? (i := 6) rfl))))))))))) e79 rfl dX10_init_96 ?_
  obtain ⟨hk80, h⟩ := h
  obtain ⟨y81, e82, h⟩ := h
  refine g_getr CF hc hk80 rfl (by decide) (fun _ h9 => List.mem_cons_of_mem _ (List.mem_append_left _ (List.mem_append_left _ (List.mem_append_left _ (List.mem_append_left _ (List.mem_append_left _ (List.mem_append_left _ (List.mem_append_left _ (List.mem_append_right _ (h9)))))))))) (k := 5) (by decide) (List.mem_cons_of_mem _ (List.mem_append_left _ (List.mem_append_left _ (List.mem_append_left _ (List.mem_append_left _ (List.mem_append_left _ (List.mem_append_left _ (List.mem_append_left _ (List.mem_append_left _ (List.mem_append_right _ (List.mem_append_left _ (List.mem_of_getElem? (i := 6) rfl)))))))))))) e82 rfl dX10_init_99 ?_
  refine lv_iconst (v := 1) hx hb dX10_init_102 (by decide) ?_
  refine g_callv (va_runI (b := q69) (As := [.ref y74, .ref y76, .ref y81, .int 1]) (rest := [.ref q69, .ref p0]) CF (c_X8_init h) (cwI 4 hts gX10_init_X8_init rfl rfl rfl (hts _ (List.mem_cons_of_mem _ (List.mem_append_left _ (List.mem_append_left _ (List.mem_append_left _ (List.mem_append_left _ (List.mem_append_left _ (List.mem_append_left _ (List.mem_append_left _ (List.mem_append_left _ (List.mem_append_right _ (List.mem_append_left _ (List.mem_of_getElem? (i := 5) rfl))))))))))))) (hts _ (List.mem_cons_of_mem _ (List.mem_append_left _ (List.mem_append_left _ (List.mem_append_left _ (List.mem_append_left _ (List.mem_append_left _ (List.mem_append_left _ (List.mem_append_left _ (List.mem_append_left _ (List.mem_append_right _ (List.mem_append_right _ (List.mem_append_right _ (List.mem_append_left _ (List.mem_of_getElem? (i := 18) rfl))))))))))))))) (hts _ (List.mem_cons_of_mem _ (List.mem_append_left _ (List.mem_append_left _ (List.mem_append_left _ (List.mem_append_left _ (List.mem_append_left _ (List.mem_append_left _ (List.mem_append_left _ (List.mem_append_left _ (List.mem_append_right _ (List.mem_append_right _ (List.mem_append_right _ (List.mem_append_left _ (List.mem_of_getElem? (i := 19) rfl))))))))))))))) rfl (by decide +kernel) ⟨Nat.le_of_ble_eq_true rfl, Nat.le_of_ble_eq_true rfl⟩) (hc.preS (As := .ref q69 :: [.ref y74, .ref y76, .ref y81, .int 1])) rfl rfl hl.1 rfl (lv_room (Nat.le_of_ble_eq_true rfl)) dX10_init_103 ⟨Nat.le_of_ble_eq_true rfl, Nat.le_of_ble_eq_true rfl⟩) hc (fun g84 H locs hq hc => ?_)
  replace h := hq
  refine W.widen (k := 37) (n := 3255) (Nat.le_of_ble_eq_true rfl) (Nat.le_of_ble_eq_true rfl) ?_
  obtain ⟨hk86, h⟩ := h
  refine g_putrF CF hc hk86 rfl (by decide) (fun _ h9 => List.mem_cons_of_mem _ (List.mem_append_left _ (List.mem_append_left _ (List.mem_append_left _ (List.mem_append_left _ (List.mem_append_left _ (List.mem_append_left _ (List.mem_append_right _ (h9))))))))) tyX10 tyX10_ok nmX10 (k := 6) (by decide) (List.mem_cons_of_mem _ (List.mem_append_left _ (List.mem_append_left _ (List.mem_append_left _ (List.mem_append_left _ (List.mem_append_left _ (List.mem_append_left _ (List.mem_append_left _ (List.mem_append_left _ (List.mem_append_right _ (List.mem_append_left _ (List.mem_of_getElem? (i := 7) rfl)))))))))))) rfl hnm rfl (some q69) narrow_rf fits_rf rfl dX10_init_106 (fun H locs hc => ?_)
  obtain ⟨g87, eg88⟩ : ∃ z, z = sV g84 p0 6 (some q69) := ⟨_, rfl⟩
  have hc : gC D cA (gA g0 sz) s g87 H locs := by rw [eg88]; exact hc
  replace h := h g87 eg88
  refine lv_aload_n hx hb dX10_init_109 rfl (lv_at hl 0 rfl) ?_
  refine g_new CF hc (ci := 8) rfl (by decide) (fun _ h9 => List.mem_cons_of_mem _ (List.mem_append_right _ (h9))) tyX8 tyX8_ok dfX8 (List.mem_cons_of_mem _ (List.mem_append_left _ (List.mem_append_left _ (List.mem_append_left _ (List.mem_append_left _ (List.mem_append_left _ (List.mem_append_left _ (List.mem_append_left _ (List.mem_append_left _ (List.mem_append_right _ (List.mem_append_left _ (List.mem_of_getElem? (i := 3) rfl)))))))))))) (List.mem_cons_of_mem _ (List.mem_append_left _ (List.mem_append_left _ (List.mem_append_left _ (List.mem_append_left _ (List.mem_append_left _ (List.mem_append_left _ (List.mem_append_left _ (List.mem_append_left _ (List.mem_append_right _ (List.mem_append_left _ (List.mem_of_getElem? (i := 4) rfl)))))))))))) (List.mem_cons_of_mem _ (List.mem_append_left _ (List.mem_append_left _ (List.mem_append_left _ (List.mem_append_left _ (List.mem_append_left _ (List.mem_append_left _ (List.mem_append_left _ (List.mem_append_left _ (List.mem_append_right _ (List.mem_append_left _ (List.mem_of_getElem? (i := 5) rfl)))))))))))) (Nat.le_of_ble_eq_true rfl) (Nat.le_of_ble_eq_true rfl) dX10_init_110 (fun q89 H locs hq90 hc => ?_)
  replace h := h q89 hq90
  obtain ⟨g91, eg92⟩ : ∃ z, z = sNew g87 q89 9 0 := ⟨_, rfl⟩
  have hc : gC D cA (gA g0 sz) s g91 H locs := by rw [eg92]; exact hc
  replace h := h g91 eg92
  refine W.widen (k := 38) (n := 3260) (Nat.le_of_ble_eq_true rfl) (Nat.le_of_ble_eq_true rfl) ?_
  refine lv_dup hx hb dX10_init_113 rfl ?_
  refine lv_aload_n hx hb dX10_init_114 rfl (lv_at hl 0 rfl) ?_
  obtain ⟨hk93, h⟩ := h
  obtain ⟨y94, e95, h⟩ := h
  refine g_getr CF hc hk93 rfl (by decide) (fun _ h9 => List.mem_cons_of_mem _ (List.mem_append_left _ (List.mem_append_left _ (List.mem_append_left _ (List.mem_append_left _ (List.mem_append_left _ (List.mem_append_left _ (List.mem_append_right _ (h9))))))))) (k := 2) (by decide) (List.mem_cons_of_mem _ (List.mem_append_left _ (List.mem_append_left _ (List.mem_append_left _ (List.mem_append_left _ (List.mem_append_left _ (List.mem_append_left _ (List.mem_append_left _ (List.mem_append_left _ (List.mem_append_left _ (List.mem_of_getElem? (i := 14) rfl))))))))))) e95 rfl dX10_init_115 ?_
  refine lv_aload_n hx hb dX10_init_118 rfl (lv_at hl 0 rfl) ?_
  obtain ⟨y96, e97, h⟩ := h
  refine g_getr CF hc hk93 rfl (by decide) (fun _ h9 => List.mem_cons_of_mem _ (List.mem_append_left _ (List.mem_append_left _ (List.mem_append_left _ (List.mem_append_left _ (List.mem_append_left _ (List.mem_append_left _ (List.mem_append_right _ (h9))))))))) (k := 1) (by decide) (List.mem_cons_of_mem _ (List.mem_append_left _ (List.mem_append_left _ (List.mem_append_left _ (List.mem_append_left _ (List.mem_append_left _ (List.mem_append_left _ (List.mem_append_left _ (List.mem_append_left _ (List.mem_append_left _ (List.mem_of_getElem? (i := 10) rfl))))))))))) e97 rfl dX10_init_119 ?_
  refine lv_aload_n hx hb dX10_init_122 rfl (lv_at hl 0 rfl) ?_
  obtain ⟨y98, e99, h⟩ := h
  refine g_getr CF hc hk93 rfl (by decide) (fun _ h9 => List.mem_cons_of_mem _ (List.mem_append_left _ (List.mem_append_left _ (List.mem_append_left _ (List.mem_append_left _ (List.mem_append_left _ (List.mem_append_left _ (List.mem_append_right _ (h9))))))))) (k := 0) (by decide) (List.mem_cons_of_mem _ (List.mem_append_left _ (List.mem_append_left _ (List.mem_append_left _ (List.mem_append_left _ (List.mem_append_left _ (List.mem_append_left _ (List.mem_append_left _ (List.mem_append_left _ (List.mem_append_left _ (List.mem_of_getElem? (i := 6) rfl))))))))))) e99 rfl dX10_init_123 ?_
  obtain ⟨hk100, h⟩ := h
  obtain ⟨y101, e102, h⟩ := h
  refine g_getr CF hc hk100 rfl (by decide) (fun _ h9 => List.mem_cons_of_mem _ (List.mem_append_left _ (List.mem_append_left _ (List.mem_append_left _ (List.mem_append_left _ (List.mem_append_left _ (List.mem_append_left _ (List.mem_append_left _ (List.mem_append_right _ (h9)))))))))) (k := 5) (by decide) (List.mem_cons_of_mem _ (List.mem_append_left _ (List.mem_append_left _ (List.mem_append_left _ (List.mem_append_left _ (List.mem_append_left _ (List.mem_append_left _ (List.mem_append_left _ (List.mem_append_left _ (List.mem_append_right _ (List.mem_append_left _ (List.mem_of_getElem? (i := 6) rfl)))))))))))) e102 rfl dX10_init_126 ?_
  refine lv_iconst (v := 0) hx hb dX10_init_129 (by decide) ?_
  refine g_callv (va_runI (b := q89) (As := [.ref y94, .ref y96, .ref y101, .int 0]) (rest := [.ref q89, .ref p0]) CF (c_X8_init h) (cwI 4 hts gX10_init_X8_init rfl rfl rfl (hts _ (List.mem_cons_of_mem _ (List.mem_append_left _ (List.mem_append_left _ (List.mem_append_left _ (List.mem_append_left _ (List.mem_append_left _ (List.mem_append_left _ (List.mem_append_left _ (List.mem_append_left _ (List.mem_append_right _ (List.mem_append_left _ (List.mem_of_getElem? (i := 5) rfl))))))))))))) (hts _ (List.mem_cons_of_mem _ (List.mem_append_left _ (List.mem_append_left _ (List.mem_append_left _ (List.mem_append_left _ (List.mem_append_left _ (List.mem_append_left _ (List.mem_append_left _ (List.mem_append_left _ (List.mem_append_right _ (List.mem_append_right _ (List.mem_append_right _ (List.mem_append_left _ (List.mem_of_getElem? (i := 18) rfl))))))))))))))) (hts _ (List.mem_cons_of_mem _ (List.mem_append_left _ (List.mem_append_left _ (List.mem_append_left _ (List.mem_append_left _ (List.mem_append_left _ (List.mem_append_left _ (List.mem_append_left _ (List.mem_append_left _ (List.mem_append_right _ (List.mem_append_right _ (List.mem_append_right _ (List.mem_append_left _ (List.mem_of_getElem? (i := 19) rfl))))))))))))))) rfl (by decide +kernel) ⟨Nat.le_of_ble_eq_true rfl, Nat.le_of_ble_eq_true rfl⟩) (hc.preS (As := .ref q89 :: [.ref y94, .ref y96, .ref y101, .int 0])) rfl rfl hl.1 rfl (lv_room (Nat.le_of_ble_eq_true rfl)) dX10_init_130 ⟨Nat.le_of_ble_eq_true rfl, Nat.le_of_ble_eq_true rfl⟩) hc (fun g104 H locs hq hc => ?_)
  replace h := hq
  refine W.widen (k := 39) (n := 3290) (Nat.le_of_ble_eq_true rfl) (Nat.le_of_ble_eq_true rfl) ?_
  obtain ⟨hk106, h⟩ := h
  refine g_putrF CF hc hk106 rfl (by decide) (fun _ h9 => List.mem_cons_of_mem _ (List.mem_append_left _ (List.mem_append_left _ (List.mem_append_left _ (List.mem_append_left _ (List.mem_append_left _ (List.mem_append_left _ (List.mem_append_right _ (h9))))))))) tyX10 tyX10_ok nmX10 (k := 7) (by decide) (List.mem_cons_of_mem _ (List.mem_append_left _ (List.mem_append_left _ (List.mem_append_left _ (List.mem_append_left _ (List.mem_append_left _ (List.mem_append_left _ (List.mem_append_left _ (List.mem_append_left _ (List.mem_append_right _ (List.mem_append_left _ (List.mem_of_getElem? (i := 8) rfl)))))))))))) rfl hnm rfl (some q89) narrow_rf fits_rf rfl dX10_init_133 (fun H locs hc => ?_)
  obtain ⟨g107, eg108⟩ : ∃ z, z = sV g104 p0 7 (some q89) := ⟨_, rfl⟩
  have hc : gC D cA (gA g0 sz) s g107 H locs := by rw [eg108]; exact hc
  replace h := h g107 eg108
  refine lv_aload_n hx hb dX10_init_136 rfl (lv_at hl 0 rfl) ?_
  refine g_new CF hc (ci := 8) rfl (by decide) (fun _ h9 => List.mem_cons_of_mem _ (List.mem_append_right _ (h9))) tyX8 tyX8_ok dfX8 (List.mem_cons_of_mem _ (List.mem_append_left _ (List.mem_append_left _ (List.mem_append_left _ (List.mem_append_left _ (List.mem_append_left _ (List.mem_append_left _ (List.mem_append_left _ (List.mem_append_left _ (List.mem_append_right _ (List.mem_append_left _ (List.mem_of_getElem? (i := 3) rfl)))))))))))) (List.mem_cons_of_mem _ (List.mem_append_left _ (List.mem_append_left _ (List.mem_append_left _ (List.mem_append_left _ (List.mem_append_left _ (List.mem_append_left _ (List.mem_append_left _ (List.mem_append_left _ (List.mem_append_right _ (List.mem_append_left _ (List.mem_of_getElem? (i := 4) rfl)))))))))))) (List.mem_cons_of_mem _ (List.mem_append_left _ (List.mem_append_left _ (List.mem_append_left _ (List.mem_append_left _ (List.mem_append_left _ (List.mem_append_left _ (List.mem_append_left _ (List.mem_append_left _ (List.mem_append_right _ (List.mem_append_left _ (List.mem_of_getElem? (i := 5) rfl)))))))))))) (Nat.le_of_ble_eq_true rfl) (Nat.le_of_ble_eq_true rfl) dX10_init_137 (fun q109 H locs hq110 hc => ?_)
  replace h := h q109 hq110
  obtain ⟨g111, eg112⟩ : ∃ z, z = sNew g107 q109 9 0 := ⟨_, rfl⟩
  have hc : gC D cA (gA g0 sz) s g111 H locs := by rw [eg112]; exact hc
  replace h := h g111 eg112
  refine W.widen (k := 40) (n := 3295) (Nat.le_of_ble_eq_true rfl) (Nat.le_of_ble_eq_true rfl) ?_
  refine lv_dup hx hb dX10_init_140 rfl ?_
  refine lv_aload_n hx hb dX10_init_141 rfl (lv_at hl 0 rfl) ?_
  obtain ⟨hk113, h⟩ := h
  obtain ⟨y114, e115, h⟩ := h
  refine g_getr CF hc hk113 rfl (by decide) (fun _ h9 => List.mem_cons_of_mem _ (List.mem_append_left _ (List.mem_append_left _ (List.mem_append_left _ (List.mem_append_left _ (List.mem_append_left _ (List.mem_append_left _ (List.mem_append_right _ (h9))))))))) (k := 2) (by decide) (List.mem_cons_of_mem _ (List.mem_append_left _ (List.mem_append_left _ (List.mem_append_left _ (List.mem_append_left _ (List.mem_append_left _ (List.mem_append_left _ (List.mem_append_left _ (List.mem_append_left _ (List.mem_append_left _ (List.mem_of_getElem? (i := 14) rfl))))))))))) e115 rfl dX10_init_142 ?_
  refine lv_aload_n hx hb dX10_init_145 rfl (lv_at hl 0 rfl) ?_
  obtain ⟨y116, e117, h⟩ := h
  refine g_getr CF hc hk113 rfl (by decide) (fun _ h9 => List.mem_cons_of_mem _ (List.mem_append_left _ (List.mem_append_left _ (List.mem_append_left _ (List.mem_append_left _ (List.mem_append_left _ (List.mem_append_left _ (List.mem_append_right _ (h9))))))))) (k := 1) (by decide) (List.mem_cons_of_mem _ (List.mem_append_left _ (List.mem_append_left _ (List.mem_append_left _ (List.mem_append_left _ (List.mem_append_left _ (List.mem_append_left _ (List.mem_append_left _ (List.mem_append_left _ (List.mem_append_left _ (List.mem_of_getElem? (i := 10) rfl))))))))))) e117 rfl dX10_init_146 ?_
  refine lv_aload_n hx hb dX10_init_149 rfl (lv_at hl 0 rfl) ?_
  obtain ⟨y118, e119, h⟩ := h
  refine g_getr CF hc hk113 rfl (by decide) (fun _ h9 => List.mem_cons_of_mem _ (List.mem_append_left _ (List.mem_append_left _ (List.mem_append_left _ (List.mem_append_left _ (List.mem_append_left _ (List.mem_append_left _ (List.mem_append_right _ (h9))))))))) (k := 5) (by decide) (List.mem_cons_of_mem _ (List.mem_append_left _ (List.mem_append_left _ (List.mem_append_left _ (List.mem_append_left _ (List.mem_append_left _ (List.mem_append_left _ (List.mem_append_left _ (List.mem_append_left _ (List.mem_append_right _ (List.mem_append_left _ (List.mem_of_getElem? (i := 2) rfl)))))))))))) e119 rfl dX10_init_150 ?_
  refine lv_iconst (v := 1) hx hb dX10_init_153 (by decide) ?_
  refine g_callv (va_runI (b := q109) (As := [.ref y114, .ref y116, .ref y118, .int 1]) (rest := [.ref q109, .ref p0]) CF (c_X8_init h) (cwI 4 hts gX10_init_X8_init rfl rfl rfl (hts _ (List.mem_cons_of_mem _ (List.mem_append_left _ (List.mem_append_left _ (List.mem_append_left _ (List.mem_append_left _ (List.mem_append_left _ (List.mem_append_left _ (List.mem_append_left _ (List.mem_append_left _ (List.mem_append_right _ (List.mem_append_left _ (List.mem_of_getElem? (i := 5) rfl))))))))))))) (hts _ (List.mem_cons_of_mem _ (List.mem_append_left _ (List.mem_append_left _ (List.mem_append_left _ (List.mem_append_left _ (List.mem_append_left _ (List.mem_append_left _ (List.mem_append_left _ (List.mem_append_left _ (List.mem_append_right _ (List.mem_append_right _ (List.mem_append_right _ (List.mem_append_left _ (List.mem_of_getElem? (i := 18) rfl))))))))))))))) (hts _ (List.mem_cons_of_mem _ (List.mem_append_left _ (List.mem_append_left _ (List.mem_append_left _ (List.mem_append_left _ (List.mem_append_left _ (List.mem_append_left _ (List.mem_append_left _ (List.mem_append_left _ (List.mem_append_right _ (List.mem_append_right _ (List.mem_append_right _ (List.mem_append_left _ (List.mem_of_getElem? (i := 19) rfl))))))))))))))) rfl (by decide +kernel) ⟨Nat.le_of_ble_eq_true rfl, Nat.le_of_ble_eq_true rfl⟩) (hc.preS (As := .ref q109 :: [.ref y114, .ref y116, .ref y118, .int 1])) rfl rfl hl.1 rfl (lv_room (Nat.le_of_ble_eq_true rfl)) dX10_init_154 ⟨Nat.le_of_ble_eq_true rfl, Nat.le_of_ble_eq_true rfl⟩) hc (fun g121 H locs hq hc => ?_)
  replace h := hq
  refine W.widen (k := 41) (n := 3325) (Nat.le_of_ble_eq_true rfl) (Nat.le_of_ble_eq_true rfl) ?_
  obtain ⟨hk123, h⟩ := h
  refine g_putrF CF hc hk123 rfl (by decide) (fun _ h9 => List.mem_cons_of_mem _ (List.mem_append_left _ (List.mem_append_left _ (List.mem_append_left _ (List.mem_append_left _ (List.mem_append_left _ (List.mem_append_left _ (List.mem_append_right _ (h9))))))))) tyX10 tyX10_ok nmX10 (k := 8) (by decide) (List.mem_cons_of_mem _ (List.mem_append_left _ (List.mem_append_left _ (List.mem_append_left _ (List.mem_append_left _ (List.mem_append_left _ (List.mem_append_left _ (List.mem_append_left _ (List.mem_append_left _ (List.mem_append_right _ (List.mem_append_left _ (List.mem_of_getElem? (i := 9) rfl)))))))))))) rfl hnm rfl (some q109) narrow_rf fits_rf rfl dX10_init_157 (fun H locs hc => ?_)
  obtain ⟨g124, eg125⟩ : ∃ z, z = sV g121 p0 8 (some q109) := ⟨_, rfl⟩
  have hc : gC D cA (gA g0 sz) s g124 H locs := by rw [eg125]; exact hc
  replace h := h g124 eg125
  refine lv_aload_n hx hb dX10_init_160 rfl (lv_at hl 0 rfl) ?_
  refine lv_bipush (v := 30) hx hb dX10_init_161 (by decide) ?_
  refine lv_bipush (v := 60) hx hb dX10_init_163 (by decide) ?_
  refine g_mna CF hc (List.mem_cons_of_mem _ (List.mem_append_left _ (List.mem_append_left _ (List.mem_append_left _ (List.mem_append_left _ (List.mem_append_left _ (List.mem_append_left _ (List.mem_append_left _ (List.mem_append_left _ (List.mem_append_right _ (List.mem_append_left _ (List.mem_of_getElem? (i := 10) rfl)))))))))))) (List.mem_cons_of_mem _ (List.mem_append_left _ (List.mem_append_left _ (List.mem_append_left _ (List.mem_append_left _ (List.mem_append_left _ (List.mem_append_left _ (List.mem_append_left _ (List.mem_append_left _ (List.mem_append_right _ (List.mem_append_left _ (List.mem_of_getElem? (i := 11) rfl)))))))))))) (n := 30) (k := 60) (N := 30) (M := 60) (by decide) (by decide) (by decide) (by decide) (by decide) (by decide) (Nat.le_of_ble_eq_true rfl) (Nat.le_of_ble_eq_true rfl) dX10_init_165 (fun q126 rr127 H locs hg128 hc => ?_)
  replace h := h q126 rr127 hg128
  refine W.widen (k := 72) (n := 5155) (Nat.le_of_ble_eq_true rfl) (Nat.le_of_ble_eq_true rfl) ?_
  obtain ⟨g129, eg130⟩ : ∃ z, z = sGrid g124 q126 rr127 30 60 := ⟨_, rfl⟩
  have hc : gC D cA (gA g0 sz) s g129 H locs := by rw [eg130]; exact hc
  replace h := h g129 eg130
  obtain ⟨hk131, h⟩ := h
  refine g_putrF CF hc hk131 rfl (by decide) (fun _ h9 => List.mem_cons_of_mem _ (List.mem_append_left _ (List.mem_append_left _ (List.mem_append_left _ (List.mem_append_left _ (List.mem_append_left _ (List.mem_append_left _ (List.mem_append_right _ (h9))))))))) tyX10 tyX10_ok nmX10 (k := 9) (by decide) (List.mem_cons_of_mem _ (List.mem_append_left _ (List.mem_append_left _ (List.mem_append_left _ (List.mem_append_left _ (List.mem_append_left _ (List.mem_append_left _ (List.mem_append_left _ (List.mem_append_left _ (List.mem_append_right _ (List.mem_append_left _ (List.mem_of_getElem? (i := 12) rfl)))))))))))) rfl hnm rfl (some q126) narrow_ra fits_ra rfl dX10_init_169 (fun H locs hc => ?_)
  obtain ⟨g132, eg133⟩ : ∃ z, z = sV g129 p0 9 (some q126) := ⟨_, rfl⟩
  have hc : gC D cA (gA g0 sz) s g132 H locs := by rw [eg133]; exact hc
  replace h := h g132 eg133
  exact g_retv CF hr hlk hc h dX10_init_172
def b_X10_isDate_16 (g : gS) (is0 : Int32) (Q : Int32 → Prop) : Prop :=
  (is0 = 0 ∨ is0 = 1) ∧ (Q is0)
def b_X10_isDate_15 (g : gS) (Q : Int32 → Prop) : Prop :=
  b_X10_isDate_16 g 0 Q
def w_X10_isDate (g : gS) (p0 : Int32) (Q : Int32 → Prop) : Prop :=
  (p0 < 0 → (b_X10_isDate_15 g Q)) ∧ (¬ p0 < 0 → ((10000 ≤ p0 → (b_X10_isDate_15 g Q)) ∧ (¬ 10000 ≤ p0 → (b_X10_isDate_16 g 1 Q))))
abbrev r_X10_isDate : Room := { frames := 0, cells := 0, slots := 0, locals := 0 }
set_option maxHeartbeats 4000000 in
set_option maxRecDepth 100000 in
theorem c_X10_isDate {l : Launch} {D : va_G} {cA : Nat → ClassId} {sz : Nat} {g : gS} {p0 : Int32} {Q : Int32 → Prop} (h : w_X10_isDate g p0 Q) : Met l yX10_isDate wsX10_isDate r_X10_isDate (va_Pc [.int p0] (gPre D cA g sz)) (gQi D cA g sz (fun r g2 => g = g2 ∧ Q r)) 0 0 (gA g sz) := by
  refine g_met (cc := cX10_isDate) (maxL := 1) (ret := (some .boolean)) (own := RX10) (by decide) rfl rfl (Nat.le_of_ble_eq_true rfl) ?_
  intro p e s m args below meth c ls CF hr hlk hnm hc hl
  obtain ⟨hx, hb, hml, hown, hts⟩ := id CF
  have hl : lv_has ls 1 [(0, .int p0)] := hl
  show W p l e r_X10_isDate s m args below meth c s.heap [] 0 0 (MQ below (gQi D cA g sz (fun r g2 => g = g2 ∧ Q r)) args s 0 0 (gA g sz)) (F0 m 0 ls [])
  have hb_16 : ∀ (is0 : Int32), b_X10_isDate_16 g is0 Q → ∀ (H : Heap) (locs : List Loc) (ls : Array Slot), gC D cA (gA g sz) s g H locs → lv_has ls 1 [] → W p l e r_X10_isDate s m args below meth c H locs 0 0 (MQ below (gQi D cA g sz (fun r g2 => g = g2 ∧ Q r)) args s 0 0 (gA g sz)) (F0 m 16 ls [.int is0]) := by
    intro is0 h H locs ls hc hl
    unfold b_X10_isDate_16 at h
    obtain ⟨hz1, h⟩ := h
    exact g_reti (r := is0) CF hr hlk hc (narrow_01 hz1) ⟨rfl, h⟩ dX10_isDate_16
  have hb_15 : b_X10_isDate_15 g Q → ∀ (H : Heap) (locs : List Loc) (ls : Array Slot), gC D cA (gA g sz) s g H locs → lv_has ls 1 [] → W p l e r_X10_isDate s m args below meth c H locs 0 0 (MQ below (gQi D cA g sz (fun r g2 => g = g2 ∧ Q r)) args s 0 0 (gA g sz)) (F0 m 15 ls []) := by
    intro h H locs ls hc hl
    unfold b_X10_isDate_15 at h
    refine lv_iconst (v := 0) hx hb dX10_isDate_15 (by decide) ?_
    exact hb_16 0 h _ _ _ hc (lv_sub hl [] rfl)
  unfold w_X10_isDate at h
  obtain ⟨H, hH0⟩ : ∃ z, z = s.heap := ⟨_, rfl⟩
  rw [← hH0] at hc ⊢
  obtain ⟨locs, hlc0⟩ : ∃ z : List Loc, z = [] := ⟨_, rfl⟩
  rw [← hlc0] at hc ⊢
  refine lv_iload_n hx hb dX10_isDate_0 rfl (lv_at hl 0 rfl) ?_
  refine lv_if_lt (tgt := 15) hx hb dX10_isDate_1 (by decide) (fun c2 => ?_) (fun c2 => ?_)
  · have h := h.1 c2
    exact hb_15  h _ _ _ hc (lv_sub hl [] rfl)
  · have h := h.2 c2
    refine lv_iload_n hx hb dX10_isDate_4 rfl (lv_at hl 0 rfl) ?_
    refine lv_sipush (v := 10000) hx hb dX10_isDate_5 (by decide) ?_
    refine lv_icmp_ge (tgt := 15) hx hb dX10_isDate_8 (by decide) (fun c3 => ?_) (fun c3 => ?_)
    · have h := h.1 c3
      exact hb_15  h _ _ _ hc (lv_sub hl [] rfl)
    · have h := h.2 c3
      refine lv_iconst (v := 1) hx hb dX10_isDate_11 (by decide) ?_
      refine lv_goto (tgt := 16) hx hb dX10_isDate_12 (by decide) ?_
      exact hb_16 1 h _ _ _ hc (lv_sub hl [] rfl)
def b_X10_isKind_15 (g : gS) (is0 : Int32) (Q : Int32 → Prop) : Prop :=
  (is0 = 0 ∨ is0 = 1) ∧ (Q is0)
def b_X10_isKind_14 (g : gS) (Q : Int32 → Prop) : Prop :=
  b_X10_isKind_15 g 0 Q
def w_X10_isKind (g : gS) (p0 : Int32) (Q : Int32 → Prop) : Prop :=
  (p0 < 0 → (b_X10_isKind_14 g Q)) ∧ (¬ p0 < 0 → ((8 ≤ p0 → (b_X10_isKind_14 g Q)) ∧ (¬ 8 ≤ p0 → (b_X10_isKind_15 g 1 Q))))
abbrev r_X10_isKind : Room := { frames := 0, cells := 0, slots := 0, locals := 0 }
set_option maxHeartbeats 4000000 in
set_option maxRecDepth 100000 in
theorem c_X10_isKind {l : Launch} {D : va_G} {cA : Nat → ClassId} {sz : Nat} {g : gS} {p0 : Int32} {Q : Int32 → Prop} (h : w_X10_isKind g p0 Q) : Met l yX10_isKind wsX10_isKind r_X10_isKind (va_Pc [.int p0] (gPre D cA g sz)) (gQi D cA g sz (fun r g2 => g = g2 ∧ Q r)) 0 0 (gA g sz) := by
  refine g_met (cc := cX10_isKind) (maxL := 1) (ret := (some .boolean)) (own := RX10) (by decide) rfl rfl (Nat.le_of_ble_eq_true rfl) ?_
  intro p e s m args below meth c ls CF hr hlk hnm hc hl
  obtain ⟨hx, hb, hml, hown, hts⟩ := id CF
  have hl : lv_has ls 1 [(0, .int p0)] := hl
  show W p l e r_X10_isKind s m args below meth c s.heap [] 0 0 (MQ below (gQi D cA g sz (fun r g2 => g = g2 ∧ Q r)) args s 0 0 (gA g sz)) (F0 m 0 ls [])
  have hb_15 : ∀ (is0 : Int32), b_X10_isKind_15 g is0 Q → ∀ (H : Heap) (locs : List Loc) (ls : Array Slot), gC D cA (gA g sz) s g H locs → lv_has ls 1 [] → W p l e r_X10_isKind s m args below meth c H locs 0 0 (MQ below (gQi D cA g sz (fun r g2 => g = g2 ∧ Q r)) args s 0 0 (gA g sz)) (F0 m 15 ls [.int is0]) := by
    intro is0 h H locs ls hc hl
    unfold b_X10_isKind_15 at h
    obtain ⟨hz1, h⟩ := h
    exact g_reti (r := is0) CF hr hlk hc (narrow_01 hz1) ⟨rfl, h⟩ dX10_isKind_15
  have hb_14 : b_X10_isKind_14 g Q → ∀ (H : Heap) (locs : List Loc) (ls : Array Slot), gC D cA (gA g sz) s g H locs → lv_has ls 1 [] → W p l e r_X10_isKind s m args below meth c H locs 0 0 (MQ below (gQi D cA g sz (fun r g2 => g = g2 ∧ Q r)) args s 0 0 (gA g sz)) (F0 m 14 ls []) := by
    intro h H locs ls hc hl
    unfold b_X10_isKind_14 at h
    refine lv_iconst (v := 0) hx hb dX10_isKind_14 (by decide) ?_
    exact hb_15 0 h _ _ _ hc (lv_sub hl [] rfl)
  unfold w_X10_isKind at h
  obtain ⟨H, hH0⟩ : ∃ z, z = s.heap := ⟨_, rfl⟩
  rw [← hH0] at hc ⊢
  obtain ⟨locs, hlc0⟩ : ∃ z : List Loc, z = [] := ⟨_, rfl⟩
  rw [← hlc0] at hc ⊢
  refine lv_iload_n hx hb dX10_isKind_0 rfl (lv_at hl 0 rfl) ?_
  refine lv_if_lt (tgt := 14) hx hb dX10_isKind_1 (by decide) (fun c2 => ?_) (fun c2 => ?_)
  · have h := h.1 c2
    exact hb_14  h _ _ _ hc (lv_sub hl [] rfl)
  · have h := h.2 c2
    refine lv_iload_n hx hb dX10_isKind_4 rfl (lv_at hl 0 rfl) ?_
    refine lv_bipush (v := 8) hx hb dX10_isKind_5 (by decide) ?_
    refine lv_icmp_ge (tgt := 14) hx hb dX10_isKind_7 (by decide) (fun c3 => ?_) (fun c3 => ?_)
    · have h := h.1 c3
      exact hb_14  h _ _ _ hc (lv_sub hl [] rfl)
    · have h := h.2 c3
      refine lv_iconst (v := 1) hx hb dX10_isKind_10 (by decide) ?_
      refine lv_goto (tgt := 15) hx hb dX10_isKind_11 (by decide) ?_
      exact hb_15 1 h _ _ _ hc (lv_sub hl [] rfl)
def b_X10_open_44 (g : gS) (Q : Int32 → gS → Prop) (X : String → gS → Prop) : Prop :=
  X "java/lang/IllegalStateException" g
def b_X10_open_14 (g : gS) (Q : Int32 → gS → Prop) (X : String → gS → Prop) : Prop :=
  X "java/lang/IllegalArgumentException" g
def w_X10_open (g0 : gS) (p0 : Nat) (p1 : Int32) (p2 : Int32) (Q : Int32 → gS → Prop) (X : String → gS → Prop) : Prop :=
  w_X10_isDate g0 p1 (fun x1 => ((x1 = 0 → (b_X10_open_14 g0 Q X)) ∧ (¬ x1 = 0 → (w_X10_isKind g0 p2 (fun x4 => ((x4 = 0 → (b_X10_open_14 g0 Q X)) ∧ (¬ x4 = 0 → (gK g0 p0 = 11 ∧ (∃ y8, gR g0 p0 0 = some y8 ∧ (gK g0 y8 = 1 ∧ (∀ o11, o11 = gR g0 y8 2 → ((o11 = none → (∃ y15, gR g0 p0 0 = some y15 ∧ (gK g0 y15 = 1 ∧ (w_X0_isFull g0 y15 (fun x18 => ((x18 = 0 → (∃ y21, gR g0 p0 0 = some y21 ∧ (∀ q23, gK g0 q23 = 0 → (∀ g25, g25 = sNew g0 q23 3 0 → (w_X2_init g25 q23 p1 p2 (fun g28 => (gK g28 y21 = 1 ∧ (∀ g31, g31 = sV g28 y21 2 (some q23) → (gK g31 p0 = 11 ∧ (∃ y34, gR g31 p0 0 = some y34 ∧ (gK g31 y34 = 1 ∧ (Q (gI g31 y34 1) g31)))))))))))) ∧ (¬ x18 = 0 → (b_X10_open_44 g0 Q X)))))))) ∧ (∀ y13, o11 = some y13 → (b_X10_open_44 g0 Q X))))))))))))))
abbrev r_X10_open : Room := { frames := 6, cells := 14, slots := 131, locals := 82 }
set_option maxHeartbeats 4000000 in
set_option maxRecDepth 100000 in
theorem c_X10_open {l : Launch} {D : va_G} {cA : Nat → ClassId} {sz : Nat} {g0 : gS} {p0 : Nat} {p1 : Int32} {p2 : Int32} {Q : Int32 → gS → Prop} {X : String → gS → Prop} (hflags : l.stackTraces = false) (h : w_X10_open g0 p0 p1 p2 Q X) : vx_Met l yX10_open wsX10_open r_X10_open (va_Pc [.ref p0, .int p1, .int p2] (gPre D cA g0 sz)) (gQi D cA g0 sz (Q)) (gQx D cA g0 sz (X)) 14 131 (gA g0 sz) := by
  refine g_xmet (cc := cX10_open) (maxL := 3) (ret := (some .int)) (own := RX10) (by decide) rfl rfl (Nat.le_of_ble_eq_true rfl) ?_
  intro p e s m args below meth c ls CF hr hlk hnm hxt hc hl
  obtain ⟨hx, hb, hml, hown, hts⟩ := id CF
  have hl : lv_has ls 3 [(0, .ref p0), (1, .int p1), (2, .int p2)] := hl
  show W p l e r_X10_open s m args below meth c s.heap [] 0 0 (vx_MQ below (gQi D cA g0 sz (Q)) (gQx D cA g0 sz (X)) args s 14 131 (gA g0 sz)) (F0 m 0 ls [])
  have hb_44 : ∀ (g : gS), b_X10_open_44 g Q X → ∀ (H : Heap) (locs : List Loc) (ls : Array Slot), gC D cA (gA g0 sz) s g H locs → lv_has ls 3 [] → W p l e r_X10_open s m args below meth c H locs 0 0 (vx_MQ below (gQi D cA g0 sz (Q)) (gQx D cA g0 sz (X)) args s 14 131 (gA g0 sz)) (F0 m 44 ls []) := by
    intro g h H locs ls hc hl
    unfold b_X10_open_44 at h
    exact g_throwS CF hflags hc (cls := "java/lang/IllegalStateException") (text := "a document is open, or 60 have a number") (names := ["java/lang/RuntimeException", "java/lang/Exception"]) (ik := 100) (is := 102) (ic := 104) (by decide) (by decide) (List.mem_cons_of_mem _ (List.mem_append_left _ (List.mem_append_left _ (List.mem_append_left _ (List.mem_append_left _ (List.mem_append_left _ (List.mem_append_left _ (List.mem_append_left _ (List.mem_of_getElem? (i := 2) rfl))))))))) (List.mem_cons_of_mem _ (List.mem_append_left _ (List.mem_append_left _ (List.mem_append_left _ (List.mem_append_left _ (List.mem_append_left _ (List.mem_append_left _ (List.mem_append_left _ (List.mem_of_getElem? (i := 3) rfl))))))))) (by decide +kernel) (fun _ h9 => List.mem_cons_of_mem _ (List.mem_append_right _ (h9))) ex_104_2 ex_ot ex_100_104_3 hl.1 dX10_open_44 dX10_open_47 dX10_open_48 dX10_open_50 dX10_open_53 hxt (Nat.le_of_ble_eq_true rfl) (Nat.le_of_ble_eq_true rfl) (Nat.le_of_ble_eq_true rfl) (Nat.le_of_ble_eq_true rfl) hlk h (Nat.le_of_ble_eq_true rfl) (Nat.le_of_ble_eq_true rfl)
  have hb_14 : ∀ (g : gS), b_X10_open_14 g Q X → ∀ (H : Heap) (locs : List Loc) (ls : Array Slot), gC D cA (gA g0 sz) s g H locs → lv_has ls 3 [] → W p l e r_X10_open s m args below meth c H locs 0 0 (vx_MQ below (gQi D cA g0 sz (Q)) (gQx D cA g0 sz (X)) args s 14 131 (gA g0 sz)) (F0 m 14 ls []) := by
    intro g h H locs ls hc hl
    unfold b_X10_open_14 at h
    exact g_throwS CF hflags hc (cls := "java/lang/IllegalArgumentException") (text := "there is no such date or kind") (names := ["java/lang/RuntimeException", "java/lang/Exception"]) (ik := 85) (is := 87) (ic := 89) (by decide) (by decide) (List.mem_cons_of_mem _ (List.mem_append_left _ (List.mem_append_left _ (List.mem_append_left _ (List.mem_append_left _ (List.mem_append_left _ (List.mem_append_left _ (List.mem_append_left _ (List.mem_of_getElem? (i := 0) rfl))))))))) (List.mem_cons_of_mem _ (List.mem_append_left _ (List.mem_append_left _ (List.mem_append_left _ (List.mem_append_left _ (List.mem_append_left _ (List.mem_append_left _ (List.mem_append_left _ (List.mem_of_getElem? (i := 1) rfl))))))))) (by decide +kernel) (fun _ h9 => List.mem_cons_of_mem _ (List.mem_append_left _ (List.mem_append_right _ (h9)))) ex_89_2 ex_ot ex_85_89_3 hl.1 dX10_open_14 dX10_open_17 dX10_open_18 dX10_open_20 dX10_open_23 hxt (Nat.le_of_ble_eq_true rfl) (Nat.le_of_ble_eq_true rfl) (Nat.le_of_ble_eq_true rfl) (Nat.le_of_ble_eq_true rfl) hlk h (Nat.le_of_ble_eq_true rfl) (Nat.le_of_ble_eq_true rfl)
  unfold w_X10_open at h
  obtain ⟨H, hH0⟩ : ∃ z, z = s.heap := ⟨_, rfl⟩
  rw [← hH0] at hc ⊢
  obtain ⟨locs, hlc0⟩ : ∃ z : List Loc, z = [] := ⟨_, rfl⟩
  rw [← hlc0] at hc ⊢
  refine lv_iload_n hx hb dX10_open_0 rfl (lv_at hl 1 rfl) ?_
  refine g_calli (va_runS (As := [.int p1]) (rest := []) CF (c_X10_isDate h) (va_cwS 1 hts gX10_open_X10_isDate rfl rfl rfl (by decide +kernel) ⟨Nat.le_of_ble_eq_true rfl, Nat.le_of_ble_eq_true rfl⟩) hc.preS rfl rfl hl.1 rfl (lv_room (Nat.le_of_ble_eq_true rfl)) dX10_open_1 ⟨Nat.le_of_ble_eq_true rfl, Nat.le_of_ble_eq_true rfl⟩) hc (fun x1 gq2 H locs hq hc => ?_)
  obtain ⟨rfl, h⟩ := hq
  refine lv_if_eq (tgt := 14) hx hb dX10_open_4 (by decide) (fun c3 => ?_) (fun c3 => ?_)
  · have h := h.1 c3
    exact hb_14 g0 h _ _ _ hc (lv_sub hl [] rfl)
  · have h := h.2 c3
    refine lv_iload_n hx hb dX10_open_7 rfl (lv_at hl 2 rfl) ?_
    refine g_calli (va_runS (As := [.int p2]) (rest := []) CF (c_X10_isKind h) (va_cwS 1 hts gX10_open_X10_isKind rfl rfl rfl (by decide +kernel) ⟨Nat.le_of_ble_eq_true rfl, Nat.le_of_ble_eq_true rfl⟩) hc.preS rfl rfl hl.1 rfl (lv_room (Nat.le_of_ble_eq_true rfl)) dX10_open_8 ⟨Nat.le_of_ble_eq_true rfl, Nat.le_of_ble_eq_true rfl⟩) hc (fun x4 gq5 H locs hq hc => ?_)
    obtain ⟨rfl, h⟩ := hq
    refine lv_if_ne (tgt := 24) hx hb dX10_open_11 (by decide) (fun c6 => ?_) (fun c6 => ?_)
    · have h := h.2 c6
      refine lv_aload_n hx hb dX10_open_24 rfl (lv_at hl 0 rfl) ?_
      obtain ⟨hk7, h⟩ := h
      obtain ⟨y8, e9, h⟩ := h
      refine g_getr CF hc hk7 rfl (by decide) (fun _ h9 => List.mem_cons_of_mem _ (List.mem_append_left _ (List.mem_append_left _ (List.mem_append_left _ (List.mem_append_left _ (List.mem_append_left _ (List.mem_append_right _ (h9)))))))) (k := 0) (by decide) (List.mem_cons_of_mem _ (List.mem_append_left _ (List.mem_append_left _ (List.mem_append_left _ (List.mem_append_left _ (List.mem_append_left _ (List.mem_append_left _ (List.mem_append_left _ (List.mem_of_getElem? (i := 4) rfl))))))))) e9 rfl dX10_open_25 ?_
      obtain ⟨hk10, h⟩ := h
      refine g_get CF hc hk10 rfl (by decide) (fun _ h9 => List.mem_cons_of_mem _ (List.mem_append_left _ (List.mem_append_left _ (List.mem_append_left _ (List.mem_append_left _ (List.mem_append_right _ (h9))))))) (k := 2) (by decide) (List.mem_cons_of_mem _ (List.mem_append_left _ (List.mem_append_left _ (List.mem_append_left _ (List.mem_append_left _ (List.mem_append_left _ (List.mem_append_left _ (List.mem_append_left _ (List.mem_of_getElem? (i := 5) rfl))))))))) rfl dX10_open_28 ?_
      obtain ⟨o11, eo12⟩ : ∃ z, z = gR g0 y8 2 := ⟨_, rfl⟩
      rw [← eo12]
      replace h := h o11 eo12
      refine g_ifnonnull (tgt := 44) CF dX10_open_31 (by decide) (fun y13 e14 => ?_) (fun e14 => ?_)
      · have hu37 := h.2 y13 e14
        subst e14
        have h := hu37
        exact hb_44 g0 h _ _ _ hc (lv_sub hl [] rfl)
      · have hu37 := h.1 e14
        subst e14
        have h := hu37
        refine lv_aload_n hx hb dX10_open_34 rfl (lv_at hl 0 rfl) ?_
        obtain ⟨y15, e16, h⟩ := h
        refine g_getr CF hc hk7 rfl (by decide) (fun _ h9 => List.mem_cons_of_mem _ (List.mem_append_left _ (List.mem_append_left _ (List.mem_append_left _ (List.mem_append_left _ (List.mem_append_left _ (List.mem_append_right _ (h9)))))))) (k := 0) (by decide) (List.mem_cons_of_mem _ (List.mem_append_left _ (List.mem_append_left _ (List.mem_append_left _ (List.mem_append_left _ (List.mem_append_left _ (List.mem_append_left _ (List.mem_append_left _ (List.mem_of_getElem? (i := 4) rfl))))))))) e16 rfl dX10_open_35 ?_
        obtain ⟨hk17, h⟩ := h
        refine g_calli (va_runV (As := []) (rest := []) CF (c_X0_isFull h) (cwV 0 hts gX10_open_X0_isFull rfl rfl rfl (by decide +kernel) ⟨Nat.le_of_ble_eq_true rfl, Nat.le_of_ble_eq_true rfl⟩) (hc.preV hk17 rfl (by decide)) rfl rfl hl.1 rfl (lv_room (Nat.le_of_ble_eq_true rfl)) dX10_open_38 ⟨Nat.le_of_ble_eq_true rfl, Nat.le_of_ble_eq_true rfl⟩) hc (fun x18 gq19 H locs hq hc => ?_)
        obtain ⟨rfl, h⟩ := hq
        refine lv_if_eq (tgt := 54) hx hb dX10_open_41 (by decide) (fun c20 => ?_) (fun c20 => ?_)
        · have h := h.1 c20
          refine lv_aload_n hx hb dX10_open_54 rfl (lv_at hl 0 rfl) ?_
          obtain ⟨y21, e22, h⟩ := h
          refine g_getr CF hc hk7 rfl (by decide) (fun _ h9 => List.mem_cons_of_mem _ (List.mem_append_left _ (List.mem_append_left _ (List.mem_append_left _ (List.mem_append_left _ (List.mem_append_left _ (List.mem_append_right _ (h9)))))))) (k := 0) (by decide) (List.mem_cons_of_mem _ (List.mem_append_left _ (List.mem_append_left _ (List.mem_append_left _ (List.mem_append_left _ (List.mem_append_left _ (List.mem_append_left _ (List.mem_append_left _ (List.mem_of_getElem? (i := 4) rfl))))))))) e22 rfl dX10_open_55 ?_
          refine g_new CF hc (ci := 2) rfl (by decide) (fun _ h9 => List.mem_cons_of_mem _ (List.mem_append_left _ (List.mem_append_left _ (List.mem_append_left _ (List.mem_append_right _ (h9)))))) tyX2 tyX2_ok dfX2 (List.mem_cons_of_mem _ (List.mem_append_left _ (List.mem_append_left _ (List.mem_append_left _ (List.mem_append_left _ (List.mem_append_left _ (List.mem_append_left _ (List.mem_append_left _ (List.mem_of_getElem? (i := 6) rfl))))))))) (List.mem_cons_of_mem _ (List.mem_append_left _ (List.mem_append_left _ (List.mem_append_left _ (List.mem_append_left _ (List.mem_append_left _ (List.mem_append_left _ (List.mem_append_left _ (List.mem_of_getElem? (i := 7) rfl))))))))) (List.mem_cons_of_mem _ (List.mem_append_left _ (List.mem_append_left _ (List.mem_append_left _ (List.mem_append_left _ (List.mem_append_left _ (List.mem_append_left _ (List.mem_append_left _ (List.mem_of_getElem? (i := 8) rfl))))))))) (Nat.le_of_ble_eq_true rfl) (Nat.le_of_ble_eq_true rfl) dX10_open_58 (fun q23 H locs hq24 hc => ?_)
          replace h := h q23 hq24
          obtain ⟨g25, eg26⟩ : ∃ z, z = sNew g0 q23 3 0 := ⟨_, rfl⟩
          have hc : gC D cA (gA g0 sz) s g25 H locs := by rw [eg26]; exact hc
          replace h := h g25 eg26
          refine W.widen (k := 1) (n := 5) (Nat.le_of_ble_eq_true rfl) (Nat.le_of_ble_eq_true rfl) ?_
          refine lv_dup hx hb dX10_open_61 rfl ?_
          refine lv_iload_n hx hb dX10_open_62 rfl (lv_at hl 1 rfl) ?_
          refine lv_iload_n hx hb dX10_open_63 rfl (lv_at hl 2 rfl) ?_
          refine g_callv (va_runI (b := q23) (As := [.int p1, .int p2]) (rest := [.ref q23, .ref y21]) CF (c_X2_init h) (cwI 2 hts gX10_open_X2_init rfl rfl rfl (hts _ (List.mem_cons_of_mem _ (List.mem_append_left _ (List.mem_append_left _ (List.mem_append_left _ (List.mem_append_left _ (List.mem_append_left _ (List.mem_append_left _ (List.mem_append_left _ (List.mem_of_getElem? (i := 8) rfl)))))))))) (hts _ (List.mem_cons_of_mem _ (List.mem_append_left _ (List.mem_append_left _ (List.mem_append_left _ (List.mem_append_left _ (List.mem_append_left _ (List.mem_append_left _ (List.mem_append_right _ (List.mem_of_getElem? (i := 0) rfl)))))))))) (hts _ (List.mem_cons_of_mem _ (List.mem_append_left _ (List.mem_append_left _ (List.mem_append_left _ (List.mem_append_left _ (List.mem_append_left _ (List.mem_append_left _ (List.mem_append_right _ (List.mem_of_getElem? (i := 1) rfl)))))))))) rfl (by decide +kernel) ⟨Nat.le_of_ble_eq_true rfl, Nat.le_of_ble_eq_true rfl⟩) (hc.preS (As := .ref q23 :: [.int p1, .int p2])) rfl rfl hl.1 rfl (lv_room (Nat.le_of_ble_eq_true rfl)) dX10_open_64 ⟨Nat.le_of_ble_eq_true rfl, Nat.le_of_ble_eq_true rfl⟩) hc (fun g28 H locs hq hc => ?_)
          replace h := hq
          refine W.widen (k := 14) (n := 131) (Nat.le_of_ble_eq_true rfl) (Nat.le_of_ble_eq_true rfl) ?_
          obtain ⟨hk30, h⟩ := h
          refine g_putr CF hc hk30 rfl (by decide) (fun _ h9 => List.mem_cons_of_mem _ (List.mem_append_left _ (List.mem_append_left _ (List.mem_append_left _ (List.mem_append_left _ (List.mem_append_right _ (h9))))))) tyX0 tyX0_ok nmX0 (k := 2) (by decide) (List.mem_cons_of_mem _ (List.mem_append_left _ (List.mem_append_left _ (List.mem_append_left _ (List.mem_append_left _ (List.mem_append_left _ (List.mem_append_left _ (List.mem_append_left _ (List.mem_of_getElem? (i := 5) rfl))))))))) rfl (some q23) narrow_rf fits_rf rfl dX10_open_67 (fun H locs hc => ?_)
          obtain ⟨g31, eg32⟩ : ∃ z, z = sV g28 y21 2 (some q23) := ⟨_, rfl⟩
          have hc : gC D cA (gA g0 sz) s g31 H locs := by rw [eg32]; exact hc
          replace h := h g31 eg32
          refine lv_aload_n hx hb dX10_open_70 rfl (lv_at hl 0 rfl) ?_
          obtain ⟨hk33, h⟩ := h
          obtain ⟨y34, e35, h⟩ := h
          refine g_getr CF hc hk33 rfl (by decide) (fun _ h9 => List.mem_cons_of_mem _ (List.mem_append_left _ (List.mem_append_left _ (List.mem_append_left _ (List.mem_append_left _ (List.mem_append_left _ (List.mem_append_right _ (h9)))))))) (k := 0) (by decide) (List.mem_cons_of_mem _ (List.mem_append_left _ (List.mem_append_left _ (List.mem_append_left _ (List.mem_append_left _ (List.mem_append_left _ (List.mem_append_left _ (List.mem_append_left _ (List.mem_of_getElem? (i := 4) rfl))))))))) e35 rfl dX10_open_71 ?_
          obtain ⟨hk36, h⟩ := h
          refine g_get CF hc hk36 rfl (by decide) (fun _ h9 => List.mem_cons_of_mem _ (List.mem_append_left _ (List.mem_append_left _ (List.mem_append_left _ (List.mem_append_left _ (List.mem_append_right _ (h9))))))) (k := 1) (by decide) (List.mem_cons_of_mem _ (List.mem_append_left _ (List.mem_append_left _ (List.mem_append_left _ (List.mem_append_left _ (List.mem_append_left _ (List.mem_append_left _ (List.mem_append_left _ (List.mem_of_getElem? (i := 9) rfl))))))))) rfl dX10_open_74 ?_
          refine vx_ret ?_
          exact g_reti (r := (gI g31 y34 1)) CF hr hlk hc rfl h dX10_open_77
        · have h := h.2 c20
          exact hb_44 g0 h _ _ _ hc (lv_sub hl [] rfl)
    · have h := h.1 c6
      exact hb_14 g0 h _ _ _ hc (lv_sub hl [] rfl)
def b_X10_isField_14 (g : gS) (is0 : Int32) (Q : Int32 → Prop) : Prop :=
  (is0 = 0 ∨ is0 = 1) ∧ (Q is0)
def b_X10_isField_13 (g : gS) (Q : Int32 → Prop) : Prop :=
  b_X10_isField_14 g 0 Q
def w_X10_isField (g : gS) (p0 : Int32) (Q : Int32 → Prop) : Prop :=
  (p0 < 0 → (b_X10_isField_13 g Q)) ∧ (¬ p0 < 0 → ((3 ≤ p0 → (b_X10_isField_13 g Q)) ∧ (¬ 3 ≤ p0 → (b_X10_isField_14 g 1 Q))))
abbrev r_X10_isField : Room := { frames := 0, cells := 0, slots := 0, locals := 0 }
set_option maxHeartbeats 4000000 in
set_option maxRecDepth 100000 in
theorem c_X10_isField {l : Launch} {D : va_G} {cA : Nat → ClassId} {sz : Nat} {g : gS} {p0 : Int32} {Q : Int32 → Prop} (h : w_X10_isField g p0 Q) : Met l yX10_isField wsX10_isField r_X10_isField (va_Pc [.int p0] (gPre D cA g sz)) (gQi D cA g sz (fun r g2 => g = g2 ∧ Q r)) 0 0 (gA g sz) := by
  refine g_met (cc := cX10_isField) (maxL := 1) (ret := (some .boolean)) (own := RX10) (by decide) rfl rfl (Nat.le_of_ble_eq_true rfl) ?_
  intro p e s m args below meth c ls CF hr hlk hnm hc hl
  obtain ⟨hx, hb, hml, hown, hts⟩ := id CF
  have hl : lv_has ls 1 [(0, .int p0)] := hl
  show W p l e r_X10_isField s m args below meth c s.heap [] 0 0 (MQ below (gQi D cA g sz (fun r g2 => g = g2 ∧ Q r)) args s 0 0 (gA g sz)) (F0 m 0 ls [])
  have hb_14 : ∀ (is0 : Int32), b_X10_isField_14 g is0 Q → ∀ (H : Heap) (locs : List Loc) (ls : Array Slot), gC D cA (gA g sz) s g H locs → lv_has ls 1 [] → W p l e r_X10_isField s m args below meth c H locs 0 0 (MQ below (gQi D cA g sz (fun r g2 => g = g2 ∧ Q r)) args s 0 0 (gA g sz)) (F0 m 14 ls [.int is0]) := by
    intro is0 h H locs ls hc hl
    unfold b_X10_isField_14 at h
    obtain ⟨hz1, h⟩ := h
    exact g_reti (r := is0) CF hr hlk hc (narrow_01 hz1) ⟨rfl, h⟩ dX10_isField_14
  have hb_13 : b_X10_isField_13 g Q → ∀ (H : Heap) (locs : List Loc) (ls : Array Slot), gC D cA (gA g sz) s g H locs → lv_has ls 1 [] → W p l e r_X10_isField s m args below meth c H locs 0 0 (MQ below (gQi D cA g sz (fun r g2 => g = g2 ∧ Q r)) args s 0 0 (gA g sz)) (F0 m 13 ls []) := by
    intro h H locs ls hc hl
    unfold b_X10_isField_13 at h
    refine lv_iconst (v := 0) hx hb dX10_isField_13 (by decide) ?_
    exact hb_14 0 h _ _ _ hc (lv_sub hl [] rfl)
  unfold w_X10_isField at h
  obtain ⟨H, hH0⟩ : ∃ z, z = s.heap := ⟨_, rfl⟩
  rw [← hH0] at hc ⊢
  obtain ⟨locs, hlc0⟩ : ∃ z : List Loc, z = [] := ⟨_, rfl⟩
  rw [← hlc0] at hc ⊢
  refine lv_iload_n hx hb dX10_isField_0 rfl (lv_at hl 0 rfl) ?_
  refine lv_if_lt (tgt := 13) hx hb dX10_isField_1 (by decide) (fun c2 => ?_) (fun c2 => ?_)
  · have h := h.1 c2
    exact hb_13  h _ _ _ hc (lv_sub hl [] rfl)
  · have h := h.2 c2
    refine lv_iload_n hx hb dX10_isField_4 rfl (lv_at hl 0 rfl) ?_
    refine lv_iconst (v := 3) hx hb dX10_isField_5 (by decide) ?_
    refine lv_icmp_ge (tgt := 13) hx hb dX10_isField_6 (by decide) (fun c3 => ?_) (fun c3 => ?_)
    · have h := h.1 c3
      exact hb_13  h _ _ _ hc (lv_sub hl [] rfl)
    · have h := h.2 c3
      refine lv_iconst (v := 1) hx hb dX10_isField_9 (by decide) ?_
      refine lv_goto (tgt := 14) hx hb dX10_isField_10 (by decide) ?_
      exact hb_14 1 h _ _ _ hc (lv_sub hl [] rfl)
def b_X10_isTerm_16 (g : gS) (is0 : Int32) (Q : Int32 → Prop) : Prop :=
  (is0 = 0 ∨ is0 = 1) ∧ (Q is0)
def b_X10_isTerm_15 (g : gS) (Q : Int32 → Prop) : Prop :=
  b_X10_isTerm_16 g 0 Q
def w_X10_isTerm (g : gS) (p0 : Int32) (Q : Int32 → Prop) : Prop :=
  (p0 < 0 → (b_X10_isTerm_15 g Q)) ∧ (¬ p0 < 0 → ((200 ≤ p0 → (b_X10_isTerm_15 g Q)) ∧ (¬ 200 ≤ p0 → (b_X10_isTerm_16 g 1 Q))))
abbrev r_X10_isTerm : Room := { frames := 0, cells := 0, slots := 0, locals := 0 }
set_option maxHeartbeats 4000000 in
set_option maxRecDepth 100000 in
theorem c_X10_isTerm {l : Launch} {D : va_G} {cA : Nat → ClassId} {sz : Nat} {g : gS} {p0 : Int32} {Q : Int32 → Prop} (h : w_X10_isTerm g p0 Q) : Met l yX10_isTerm wsX10_isTerm r_X10_isTerm (va_Pc [.int p0] (gPre D cA g sz)) (gQi D cA g sz (fun r g2 => g = g2 ∧ Q r)) 0 0 (gA g sz) := by
  refine g_met (cc := cX10_isTerm) (maxL := 1) (ret := (some .boolean)) (own := RX10) (by decide) rfl rfl (Nat.le_of_ble_eq_true rfl) ?_
  intro p e s m args below meth c ls CF hr hlk hnm hc hl
  obtain ⟨hx, hb, hml, hown, hts⟩ := id CF
  have hl : lv_has ls 1 [(0, .int p0)] := hl
  show W p l e r_X10_isTerm s m args below meth c s.heap [] 0 0 (MQ below (gQi D cA g sz (fun r g2 => g = g2 ∧ Q r)) args s 0 0 (gA g sz)) (F0 m 0 ls [])
  have hb_16 : ∀ (is0 : Int32), b_X10_isTerm_16 g is0 Q → ∀ (H : Heap) (locs : List Loc) (ls : Array Slot), gC D cA (gA g sz) s g H locs → lv_has ls 1 [] → W p l e r_X10_isTerm s m args below meth c H locs 0 0 (MQ below (gQi D cA g sz (fun r g2 => g = g2 ∧ Q r)) args s 0 0 (gA g sz)) (F0 m 16 ls [.int is0]) := by
    intro is0 h H locs ls hc hl
    unfold b_X10_isTerm_16 at h
    obtain ⟨hz1, h⟩ := h
    exact g_reti (r := is0) CF hr hlk hc (narrow_01 hz1) ⟨rfl, h⟩ dX10_isTerm_16
  have hb_15 : b_X10_isTerm_15 g Q → ∀ (H : Heap) (locs : List Loc) (ls : Array Slot), gC D cA (gA g sz) s g H locs → lv_has ls 1 [] → W p l e r_X10_isTerm s m args below meth c H locs 0 0 (MQ below (gQi D cA g sz (fun r g2 => g = g2 ∧ Q r)) args s 0 0 (gA g sz)) (F0 m 15 ls []) := by
    intro h H locs ls hc hl
    unfold b_X10_isTerm_15 at h
    refine lv_iconst (v := 0) hx hb dX10_isTerm_15 (by decide) ?_
    exact hb_16 0 h _ _ _ hc (lv_sub hl [] rfl)
  unfold w_X10_isTerm at h
  obtain ⟨H, hH0⟩ : ∃ z, z = s.heap := ⟨_, rfl⟩
  rw [← hH0] at hc ⊢
  obtain ⟨locs, hlc0⟩ : ∃ z : List Loc, z = [] := ⟨_, rfl⟩
  rw [← hlc0] at hc ⊢
  refine lv_iload_n hx hb dX10_isTerm_0 rfl (lv_at hl 0 rfl) ?_
  refine lv_if_lt (tgt := 15) hx hb dX10_isTerm_1 (by decide) (fun c2 => ?_) (fun c2 => ?_)
  · have h := h.1 c2
    exact hb_15  h _ _ _ hc (lv_sub hl [] rfl)
  · have h := h.2 c2
    refine lv_iload_n hx hb dX10_isTerm_4 rfl (lv_at hl 0 rfl) ?_
    refine lv_sipush (v := 200) hx hb dX10_isTerm_5 (by decide) ?_
    refine lv_icmp_ge (tgt := 15) hx hb dX10_isTerm_8 (by decide) (fun c3 => ?_) (fun c3 => ?_)
    · have h := h.1 c3
      exact hb_15  h _ _ _ hc (lv_sub hl [] rfl)
    · have h := h.2 c3
      refine lv_iconst (v := 1) hx hb dX10_isTerm_11 (by decide) ?_
      refine lv_goto (tgt := 16) hx hb dX10_isTerm_12 (by decide) ?_
      exact hb_16 1 h _ _ _ hc (lv_sub hl [] rfl)
