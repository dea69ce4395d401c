def b_X11_add_246 (g : gS) (gm : gS) (C : Nat) (S : Nat) (is0 : Int32) (b L : Nat) (xs : Nat → Int32) (mc ms : Nat) (Q : Int32 → gS → gS → Prop) : Prop :=
  (is0 = 0 ∨ is0 = 1) ∧ (Q is0 g gm)
def b_X11_add_245 (g : gS) (gm : gS) (C : Nat) (S : Nat) (b L : Nat) (xs : Nat → Int32) (mc ms : Nat) (Q : Int32 → gS → gS → Prop) : Prop :=
  b_X11_add_246 g gm C S 0 b L xs mc ms Q
def b_X11_add_208 (g : gS) (gm : gS) (C : Nat) (S : Nat) (r0 : Nat) (i3 : Int32) (is0 : Int32) (is1 : Int32) (b L : Nat) (xs : Nat → Int32) (mc ms : Nat) (Q : Int32 → gS → gS → Prop) (k185 : Int32 → Int32 → Prop) : Prop :=
  k185 (is0 + is1) (i3 + 1)
def l_X11_add_185 (g : gS) (gm : gS) (C : Nat) (S : Nat) (r0 : Nat) (b L : Nat) (xs : Nat → Int32) (mc ms : Nat) (Q : Int32 → gS → gS → Prop) (i2 : Int32) (i3 : Int32) (k185 : Int32 → Int32 → Prop) : Prop :=
  gK g r0 = 12 ∧ (((gI g r0 3) ≤ i3 → (∃ y4, gR g r0 0 = some y4 ∧ (gK gm y4 = 11 ∧ ((C + 1 ≤ mc ∧ S + 6 ≤ ms) ∧ (w_X10_close gm y4 (fun x8 m10 => ((x8 = i2 → (∃ y12, gR g r0 0 = some y12 ∧ (gK m10 y12 = 11 ∧ (w_X10_documents m10 y12 (fun x15 => ((x15 = (gI g r0 3) → (b_X11_add_246 g m10 (C + 1) (S + 6) 1 b L xs mc ms Q)) ∧ (¬ x15 = (gI g r0 3) → (b_X11_add_245 g m10 (C + 1) (S + 6) b L xs mc ms Q)))))))) ∧ (¬ x8 = i2 → (b_X11_add_245 g m10 (C + 1) (S + 6) b L xs mc ms Q)))) (fun _ _ => False)))))) ∧ (¬ (gI g r0 3) ≤ i3 → (∃ y19, gR g r0 8 = some y19 ∧ (gK g y19 = 21 ∧ (vp_in i3 (gN g y19) ∧ (((gI g y19 (Int32.toNatClampNeg i3)) = 0 → (b_X11_add_208 g gm C S r0 i3 i2 1 b L xs mc ms Q k185)) ∧ (¬ (gI g y19 (Int32.toNatClampNeg i3)) = 0 → (b_X11_add_208 g gm C S r0 i3 i2 0 b L xs mc ms Q k185))))))))
def b_X11_add_110 (g : gS) (gm : gS) (C : Nat) (S : Nat) (r0 : Nat) (i1 : Int32) (i2 : Int32) (i3 : Int32) (rs0 : Nat) (is1 : Int32) (rs2 : Nat) (rs3 : Nat) (is4 : Int32) (b L : Nat) (xs : Nat → Int32) (mc ms : Nat) (Q : Int32 → gS → gS → Prop) (k55 : gS → gS → Nat → Nat → Int32 → Prop) (k76 : gS → gS → Nat → Nat → Int32 → Prop) : Prop :=
  gK g rs3 = 12 ∧ (w_X11_draw g gm rs3 is4 b L xs (fun x25 g26 m27 => ((C + 1 ≤ mc ∧ S + 64 ≤ ms) ∧ (w_X11_with g26 gm rs2 x25 1 64 (fun o29 g30 m31 => (gK g30 rs0 = 24 ∧ (∃ y34, o29 = some y34 ∧ (gK g30 y34 = 21 ∧ (vp_in is1 (gN g30 rs0) ∧ (∀ g38, g38 = sV g30 rs0 (Int32.toNatClampNeg is1) (some y34) → (gK g38 r0 = 12 ∧ (∃ y41, gR g38 r0 0 = some y41 ∧ (∃ y43, gR g38 r0 4 = some y43 ∧ (gK g38 y43 = 28 ∧ (vp_in i1 (gN g38 y43) ∧ (∃ y47, gR g38 y43 (Int32.toNatClampNeg i1) = some y47 ∧ (gK g38 y47 = 24 ∧ (vp_in i2 (gN g38 y47) ∧ (∃ y51, gR g38 y47 (Int32.toNatClampNeg i2) = some y51 ∧ (∃ y53, gR g38 r0 4 = some y53 ∧ (gK g38 y53 = 28 ∧ (vp_in i1 (gN g38 y53) ∧ (∃ y57, gR g38 y53 (Int32.toNatClampNeg i1) = some y57 ∧ (gK g38 y57 = 24 ∧ (vp_in i2 (gN g38 y57) ∧ (∃ y61, gR g38 y57 (Int32.toNatClampNeg i2) = some y61 ∧ (gK g38 y61 = 21 ∧ (gK g38 y51 = 21 ∧ (vp_in ((nI (gN g38 y61)) - 1) (gN g38 y51) ∧ (gK gm y41 = 11 ∧ (((C + 1) + 1 ≤ mc ∧ (S + 64) + 6 ≤ ms) ∧ (w_X10_write gm y41 i2 (gI g38 y51 (Int32.toNatClampNeg ((nI (gN g38 y61)) - 1))) (fun x68 m70 => (∃ y71, gR g38 r0 4 = some y71 ∧ (gK g38 y71 = 28 ∧ (vp_in i1 (gN g38 y71) ∧ (∃ y75, gR g38 y71 (Int32.toNatClampNeg i1) = some y75 ∧ (gK g38 y75 = 24 ∧ (vp_in i2 (gN g38 y75) ∧ (∃ y79, gR g38 y75 (Int32.toNatClampNeg i2) = some y79 ∧ (gK g38 y79 = 21 ∧ ((x68 = (nI (gN g38 y79)) → (k76 g38 m70 ((C + 1) + 1) ((S + 64) + 6) (i3 + (-1)))) ∧ (¬ x68 = (nI (gN g38 y79)) → (Q 0 g38 m70)))))))))))) (fun _ _ => False)))))))))))))))))))))))))))))))))
def l_X11_add_76 (r0 : Nat) (i1 : Int32) (i2 : Int32) (b L : Nat) (xs : Nat → Int32) (mc ms : Nat) (Q : Int32 → gS → gS → Prop) (k55 : gS → gS → Nat → Nat → Int32 → Prop) (g : gS) (gm : gS) (C : Nat) (S : Nat) (i3 : Int32) (k76 : gS → gS → Nat → Nat → Int32 → Prop) : Prop :=
  (i3 ≤ 0 → (k55 g gm C S (i2 + 1))) ∧ (¬ i3 ≤ 0 → (gK g r0 = 12 ∧ (∃ y85, gR g r0 4 = some y85 ∧ (gK g y85 = 28 ∧ (vp_in i1 (gN g y85) ∧ (∃ y89, gR g y85 (Int32.toNatClampNeg i1) = some y89 ∧ (∃ y91, gR g r0 4 = some y91 ∧ (gK g y91 = 28 ∧ (vp_in i1 (gN g y91) ∧ (∃ y95, gR g y91 (Int32.toNatClampNeg i1) = some y95 ∧ (gK g y95 = 24 ∧ (vp_in i2 (gN g y95) ∧ (∃ y99, gR g y95 (Int32.toNatClampNeg i2) = some y99 ∧ (w_X11_draw g gm r0 2 b L xs (fun x101 g102 m103 => ((x101 = 0 → (b_X11_add_110 g102 gm C S r0 i1 i2 i3 y89 i2 y99 r0 4 b L xs mc ms Q k55 k76)) ∧ (¬ x101 = 0 → (b_X11_add_110 g102 gm C S r0 i1 i2 i3 y89 i2 y99 r0 10 b L xs mc ms Q k55 k76))))))))))))))))))
def b_X11_add_72 (g : gS) (gm : gS) (C : Nat) (S : Nat) (r0 : Nat) (i1 : Int32) (i2 : Int32) (rs0 : Nat) (is1 : Int32) (b L : Nat) (xs : Nat → Int32) (mc ms : Nat) (Q : Int32 → gS → gS → Prop) (k55 : gS → gS → Nat → Nat → Int32 → Prop) : Prop :=
  gK g rs0 = 12 ∧ (w_X11_draw g gm rs0 is1 b L xs (fun x106 g107 m108 => (lpx5 (l_X11_add_76 r0 i1 i2 b L xs mc ms Q k55) g107 gm C S x106)))
def l_X11_add_55 (r0 : Nat) (i1 : Int32) (b L : Nat) (xs : Nat → Int32) (mc ms : Nat) (Q : Int32 → gS → gS → Prop) (g : gS) (gm : gS) (C : Nat) (S : Nat) (i2 : Int32) (k55 : gS → gS → Nat → Nat → Int32 → Prop) : Prop :=
  (3 ≤ i2 → (gK g r0 = 12 ∧ (∀ g111, g111 = sU g r0 3 ((gI g r0 3) + 1) → (lpx2 (l_X11_add_185 g111 gm C S r0 b L xs mc ms Q) 0 0)))) ∧ (¬ 3 ≤ i2 → ((i2 = 2 → (b_X11_add_72 g gm C S r0 i1 i2 r0 2 b L xs mc ms Q k55)) ∧ (¬ i2 = 2 → (b_X11_add_72 g gm C S r0 i1 i2 r0 6 b L xs mc ms Q k55))))
def w_X11_add (g0 m0 : gS) (p0 : Nat) (b L : Nat) (xs : Nat → Int32) (mc ms : Nat) (Q : Int32 → gS → gS → Prop) : Prop :=
  gK g0 p0 = 12 ∧ (∃ y115, gR g0 p0 5 = some y115 ∧ (w_X11_draw g0 m0 p0 20 b L xs (fun x117 g118 m119 => (gK g118 y115 = 21 ∧ (vp_in (gI g0 p0 3) (gN g118 y115) ∧ (∀ g122, g122 = sU g118 y115 (Int32.toNatClampNeg (gI g0 p0 3)) x117 → (gK g122 p0 = 12 ∧ (∃ y125, gR g122 p0 6 = some y125 ∧ (w_X11_draw g122 m0 p0 3 b L xs (fun x127 g128 m129 => (gK g128 y125 = 21 ∧ (vp_in (gI g0 p0 3) (gN g128 y125) ∧ (∀ g132, g132 = sU g128 y125 (Int32.toNatClampNeg (gI g0 p0 3)) x127 → (gK g132 p0 = 12 ∧ (∃ y135, gR g132 p0 0 = some y135 ∧ (∃ y137, gR g132 p0 5 = some y137 ∧ (gK g132 y137 = 21 ∧ (vp_in (gI g0 p0 3) (gN g132 y137) ∧ (∃ y141, gR g132 p0 6 = some y141 ∧ (gK g132 y141 = 21 ∧ (vp_in (gI g0 p0 3) (gN g132 y141) ∧ (gK m0 y135 = 11 ∧ ((0 + 14 ≤ mc ∧ 0 + 131 ≤ ms) ∧ (w_X10_open m0 y135 (gI g132 y137 (Int32.toNatClampNeg (gI g0 p0 3))) (gI g132 y141 (Int32.toNatClampNeg (gI g0 p0 3))) (fun x147 m149 => ((x147 = (gI g0 p0 3) → (lpx5 (l_X11_add_55 p0 (gI g0 p0 3) b L xs mc ms Q) g132 m149 (0 + 14) (0 + 131) 0)) ∧ (¬ x147 = (gI g0 p0 3) → (Q 0 g132 m149)))) (fun _ _ => False)))))))))))))))))))))))))
abbrev r_X11_add (mc ms : Nat) : Room := { frames := 7, cells := mc, slots := ms, locals := 106 }
set_option maxHeartbeats 8000000 in
set_option maxRecDepth 100000 in
theorem c_X11_add {l : Launch} {D : va_G} {cA : Nat → ClassId} {sz b L : Nat} {xs : Nat → Int32} {g0 m0 : gS} {p0 : Nat} {mc ms : Nat} {Q : Int32 → gS → gS → Prop} (hflags : l.stackTraces = false) (h : w_X11_add g0 m0 p0 b L xs mc ms Q) : Met l yX11_add wsX11_add (r_X11_add mc ms) (va_Pc [.ref p0] (hPre D cA b L xs g0 m0 sz)) (hQi D cA g0 m0 sz Q) mc ms (hA g0 m0 sz) := by
  refine h_met (cc := cX11_add) (maxL := 4) (ret := (some .boolean)) (own := RX11) (by decide) rfl rfl (Nat.le_of_ble_eq_true rfl) ?_
  intro p e s m args below meth c ls CF hr hlk hnm hc hl
  obtain ⟨hx, hb, hml, hown, hts⟩ := id CF
  have hl : lv_has ls 4 [(0, .ref p0)] := hl
  have hroom : 0 ≤ mc ∧ 0 ≤ ms := ⟨Nat.zero_le _, Nat.zero_le _⟩
  show W p l e (r_X11_add mc ms) s m args below meth c s.heap [] 0 0 (MQ below (hQi D cA g0 m0 sz Q) args s mc ms (hA g0 m0 sz)) (F0 m 0 ls [])
  have hb_246 : ∀ (g : gS) (gm : gS) (C : Nat) (S : Nat) (is0 : Int32), b_X11_add_246 g gm C S is0 b L xs mc ms Q → (C ≤ mc ∧ S ≤ ms) → ∀ (H : Heap) (locs : List Loc) (ls : Array Slot), hC D cA (hA g0 m0 sz) s b L xs g gm H locs → lv_has ls 4 [] → W p l e (r_X11_add mc ms) s m args below meth c H locs C S (MQ below (hQi D cA g0 m0 sz Q) args s mc ms (hA g0 m0 sz)) (F0 m 246 ls [.int is0]) := by
    intro g gm C S is0 h hroom H locs ls hc hl
    unfold b_X11_add_246 at h
    refine W.widen (k := mc) (n := ms) hroom.1 hroom.2 ?_
    obtain ⟨hz1, h⟩ := h
    exact h_reti (r := is0) CF hr hlk hc (narrow_01 hz1) h dX11_add_246
  have hb_245 : ∀ (g : gS) (gm : gS) (C : Nat) (S : Nat), b_X11_add_245 g gm C S b L xs mc ms Q → (C ≤ mc ∧ S ≤ ms) → ∀ (H : Heap) (locs : List Loc) (ls : Array Slot), hC D cA (hA g0 m0 sz) s b L xs g gm H locs → lv_has ls 4 [] → W p l e (r_X11_add mc ms) s m args below meth c H locs C S (MQ below (hQi D cA g0 m0 sz Q) args s mc ms (hA g0 m0 sz)) (F0 m 245 ls []) := by
    intro g gm C S h hroom H locs ls hc hl
    unfold b_X11_add_245 at h
    refine lv_iconst (v := 0) hx hb dX11_add_245 (by decide) ?_
    exact hb_246 g gm C S 0 h hroom _ _ _ hc (lv_sub hl [] rfl)
  have hb_185 : ∀ (g : gS) (gm : gS) (C : Nat) (S : Nat) (r0 : Nat), ∀ (i2 : Int32) (i3 : Int32), lpx2 (l_X11_add_185 g gm C S r0 b L xs mc ms Q) i2 i3 → (C ≤ mc ∧ S ≤ ms) → ∀ (H : Heap) (locs : List Loc) (ls : Array Slot), hC D cA (hA g0 m0 sz) s b L xs g gm H locs → lv_has ls 4 [(0, .ref r0), (2, .int i2), (3, .int i3)] → W p l e (r_X11_add mc ms) s m args below meth c H locs C S (MQ below (hQi D cA g0 m0 sz Q) args s mc ms (hA g0 m0 sz)) (F0 m 185 ls []) := by
    intro g gm C S r0
    refine lpx2_run (P := fun (i2 : Int32) (i3 : Int32) => (C ≤ mc ∧ S ≤ ms) → ∀ (H : Heap) (locs : List Loc) (ls : Array Slot), hC D cA (hA g0 m0 sz) s b L xs g gm H locs → lv_has ls 4 [(0, .ref r0), (2, .int i2), (3, .int i3)] → W p l e (r_X11_add mc ms) s m args below meth c H locs C S (MQ below (hQi D cA g0 m0 sz Q) args s mc ms (hA g0 m0 sz)) (F0 m 185 ls [])) ?_
    intro k185 hk_185 i2 i3 h hroom H locs ls hc hl
    have hb_208 : ∀ (i3 : Int32) (is0 : Int32) (is1 : Int32), b_X11_add_208 g gm C S r0 i3 is0 is1 b L xs mc ms Q k185 → (C ≤ mc ∧ S ≤ ms) → ∀ (H : Heap) (locs : List Loc) (ls : Array Slot), hC D cA (hA g0 m0 sz) s b L xs g gm H locs → lv_has ls 4 [(0, .ref r0), (3, .int i3)] → W p l e (r_X11_add mc ms) s m args below meth c H locs C S (MQ below (hQi D cA g0 m0 sz Q) args s mc ms (hA g0 m0 sz)) (F0 m 208 ls [.int is1, .int is0]) := by
      intro i3 is0 is1 h hroom H locs ls hc hl
      unfold b_X11_add_208 at h
      refine lv_iadd hx hb dX11_add_208 ?_
      refine lv_istore_n (lv' := [(2, .int (is0 + is1)), (0, .ref r0), (3, .int i3)]) hx hb dX11_add_209 rfl hl (by decide) rfl (fun ls hl => ?_)
      refine lv_iinc (v := (i3 + 1)) (lv' := [(3, .int (i3 + 1)), (2, .int (is0 + is1)), (0, .ref r0)]) hx hb dX11_add_210 hl (k := 2) rfl rfl (by decide) rfl (fun ls hl => ?_)
      refine lv_goto (tgt := 185) hx hb dX11_add_213 (by decide) ?_
      exact hk_185 (is0 + is1) (i3 + 1) h hroom _ _ _ hc (lv_sub hl [2, 1, 0] rfl)
    unfold l_X11_add_185 at h
    refine lv_iload_n hx hb dX11_add_185 rfl (lv_at hl 2 rfl) ?_
    refine lv_aload_n hx hb dX11_add_186 rfl (lv_at hl 0 rfl) ?_
    obtain ⟨hk2, h⟩ := h
    refine g_get CF hc.1 hk2 rfl (by decide) (fun _ h9 => List.mem_cons_of_mem _ (List.mem_append_left _ (List.mem_append_left _ (List.mem_append_left _ (List.mem_append_left _ (List.mem_append_left _ (List.mem_append_left _ (List.mem_append_right _ (h9))))))))) (k := 3) (by decide) (List.mem_cons_of_mem _ (List.mem_append_left _ (List.mem_append_left _ (List.mem_append_left _ (List.mem_append_left _ (List.mem_append_left _ (List.mem_append_left _ (List.mem_append_left _ (List.mem_append_left _ (List.mem_of_getElem? (i := 0) rfl)))))))))) rfl dX11_add_187 ?_
    refine lv_icmp_ge (tgt := 216) hx hb dX11_add_190 (by decide) (fun c3 => ?_) (fun c3 => ?_)
    · have h := h.1 c3
      refine lv_aload_n hx hb dX11_add_216 rfl (lv_at hl 0 rfl) ?_
      obtain ⟨y4, e5, h⟩ := h
      refine g_getr CF hc.1 hk2 rfl (by decide) (fun _ h9 => List.mem_cons_of_mem _ (List.mem_append_left _ (List.mem_append_left _ (List.mem_append_left _ (List.mem_append_left _ (List.mem_append_left _ (List.mem_append_left _ (List.mem_append_right _ (h9))))))))) (k := 0) (by decide) (List.mem_cons_of_mem _ (List.mem_append_left _ (List.mem_append_left _ (List.mem_append_left _ (List.mem_append_left _ (List.mem_append_left _ (List.mem_append_left _ (List.mem_append_left _ (List.mem_append_left _ (List.mem_of_getElem? (i := 3) rfl)))))))))) e5 rfl dX11_add_217 ?_
      obtain ⟨hk6, h⟩ := h
      obtain ⟨hroom7, h⟩ := h
      refine h_xcalli (vx_runV (As := []) (rest := []) CF (c_X10_close hflags h) (cwV 0 hts gX11_add_X10_close rfl rfl rfl (by decide +kernel) ⟨Nat.le_of_ble_eq_true rfl, Nat.le_of_ble_eq_true rfl⟩) (hc.swap.1.preV hk6 rfl (by decide)) rfl rfl hl.1 rfl (lv_room (Nat.le_of_ble_eq_true rfl)) dX11_add_220 hroom7) (fun _ _ z => z) hc (fun x8 m10 H locs hq hc => ?_)
      replace h := hq
      have hroom := hroom7
      refine lv_iload_n hx hb dX11_add_223 rfl (lv_at hl 1 rfl) ?_
      refine lv_icmp_ne (tgt := 245) hx hb dX11_add_224 (by decide) (fun c11 => ?_) (fun c11 => ?_)
      · have h := h.2 c11
        exact hb_245 g m10 (C + 1) (S + 6) h hroom _ _ _ hc (lv_sub hl [] rfl)
      · have h := h.1 c11
        refine lv_aload_n hx hb dX11_add_227 rfl (lv_at hl 0 rfl) ?_
        obtain ⟨y12, e13, h⟩ := h
        refine g_getr CF hc.1 hk2 rfl (by decide) (fun _ h9 => List.mem_cons_of_mem _ (List.mem_append_left _ (List.mem_append_left _ (List.mem_append_left _ (List.mem_append_left _ (List.mem_append_left _ (List.mem_append_left _ (List.mem_append_right _ (h9))))))))) (k := 0) (by decide) (List.mem_cons_of_mem _ (List.mem_append_left _ (List.mem_append_left _ (List.mem_append_left _ (List.mem_append_left _ (List.mem_append_left _ (List.mem_append_left _ (List.mem_append_left _ (List.mem_append_left _ (List.mem_of_getElem? (i := 3) rfl)))))))))) e13 rfl dX11_add_228 ?_
        obtain ⟨hk14, h⟩ := h
        refine h_calli (va_runV (As := []) (rest := []) CF (c_X10_documents h) (cwV 0 hts gX11_add_X10_documents rfl rfl rfl (by decide +kernel) ⟨Nat.le_of_ble_eq_true rfl, Nat.le_of_ble_eq_true rfl⟩) (hc.swap.1.preV hk14 rfl (by decide)) rfl rfl hl.1 rfl (lv_room (Nat.le_of_ble_eq_true rfl)) dX11_add_231 hroom) hc (fun x15 m17 H locs hq hc => ?_)
        obtain ⟨rfl, h⟩ := hq
        refine lv_aload_n hx hb dX11_add_234 rfl (lv_at hl 0 rfl) ?_
        refine g_get CF hc.1 hk2 rfl (by decide) (fun _ h9 => List.mem_cons_of_mem _ (List.mem_append_left _ (List.mem_append_left _ (List.mem_append_left _ (List.mem_append_left _ (List.mem_append_left _ (List.mem_append_left _ (List.mem_append_right _ (h9))))))))) (k := 3) (by decide) (List.mem_cons_of_mem _ (List.mem_append_left _ (List.mem_append_left _ (List.mem_append_left _ (List.mem_append_left _ (List.mem_append_left _ (List.mem_append_left _ (List.mem_append_left _ (List.mem_append_left _ (List.mem_of_getElem? (i := 0) rfl)))))))))) rfl dX11_add_235 ?_
        refine lv_icmp_ne (tgt := 245) hx hb dX11_add_238 (by decide) (fun c18 => ?_) (fun c18 => ?_)
        · have h := h.2 c18
          exact hb_245 g m10 (C + 1) (S + 6) h hroom _ _ _ hc (lv_sub hl [] rfl)
        · have h := h.1 c18
          refine lv_iconst (v := 1) hx hb dX11_add_241 (by decide) ?_
          refine lv_goto (tgt := 246) hx hb dX11_add_242 (by decide) ?_
          exact hb_246 g m10 (C + 1) (S + 6) 1 h hroom _ _ _ hc (lv_sub hl [] rfl)
    · have h := h.2 c3
      refine lv_iload_n hx hb dX11_add_193 rfl (lv_at hl 1 rfl) ?_
      refine lv_aload_n hx hb dX11_add_194 rfl (lv_at hl 0 rfl) ?_
      obtain ⟨y19, e20, h⟩ := h
      refine g_getr CF hc.1 hk2 rfl (by decide) (fun _ h9 => List.mem_cons_of_mem _ (List.mem_append_left _ (List.mem_append_left _ (List.mem_append_left _ (List.mem_append_left _ (List.mem_append_left _ (List.mem_append_left _ (List.mem_append_right _ (h9))))))))) (k := 8) (by decide) (List.mem_cons_of_mem _ (List.mem_append_left _ (List.mem_append_left _ (List.mem_append_left _ (List.mem_append_left _ (List.mem_append_left _ (List.mem_append_left _ (List.mem_append_left _ (List.mem_append_left _ (List.mem_of_getElem? (i := 5) rfl)))))))))) e20 rfl dX11_add_195 ?_
      refine lv_iload_n hx hb dX11_add_198 rfl (lv_at hl 2 rfl) ?_
      obtain ⟨hk22, h⟩ := h
      obtain ⟨hi21, h⟩ := h
      refine g_iald CF hc.1 hk22 hi21 dX11_add_199 ?_
      refine lv_if_ne (tgt := 207) hx hb dX11_add_200 (by decide) (fun c23 => ?_) (fun c23 => ?_)
      · have h := h.2 c23
        refine lv_iconst (v := 0) hx hb dX11_add_207 (by decide) ?_
        exact hb_208 i3 i2 0 h hroom _ _ _ hc (lv_sub hl [0, 2] rfl)
      · have h := h.1 c23
        refine lv_iconst (v := 1) hx hb dX11_add_203 (by decide) ?_
        refine lv_goto (tgt := 208) hx hb dX11_add_204 (by decide) ?_
        exact hb_208 i3 i2 1 h hroom _ _ _ hc (lv_sub hl [0, 2] rfl)
  have hb_55 : ∀ (r0 : Nat) (i1 : Int32), ∀ (g : gS) (gm : gS) (C : Nat) (S : Nat) (i2 : Int32), lpx5 (l_X11_add_55 r0 i1 b L xs mc ms Q) g gm C S i2 → (C ≤ mc ∧ S ≤ ms) → ∀ (H : Heap) (locs : List Loc) (ls : Array Slot), hC D cA (hA g0 m0 sz) s b L xs g gm H locs → lv_has ls 4 [(0, .ref r0), (1, .int i1), (2, .int i2)] → W p l e (r_X11_add mc ms) s m args below meth c H locs C S (MQ below (hQi D cA g0 m0 sz Q) args s mc ms (hA g0 m0 sz)) (F0 m 55 ls []) := by
    intro r0 i1
    refine lpx5_run (P := fun (g : gS) (gm : gS) (C : Nat) (S : Nat) (i2 : Int32) => (C ≤ mc ∧ S ≤ ms) → ∀ (H : Heap) (locs : List Loc) (ls : Array Slot), hC D cA (hA g0 m0 sz) s b L xs g gm H locs → lv_has ls 4 [(0, .ref r0), (1, .int i1), (2, .int i2)] → W p l e (r_X11_add mc ms) s m args below meth c H locs C S (MQ below (hQi D cA g0 m0 sz Q) args s mc ms (hA g0 m0 sz)) (F0 m 55 ls [])) ?_
    intro k55 hk_55 g gm C S i2 h hroom H locs ls hc hl
    have hb_76 : ∀ (i2 : Int32), ∀ (g : gS) (gm : gS) (C : Nat) (S : Nat) (i3 : Int32), lpx5 (l_X11_add_76 r0 i1 i2 b L xs mc ms Q k55) g gm C S i3 → (C ≤ mc ∧ S ≤ ms) → ∀ (H : Heap) (locs : List Loc) (ls : Array Slot), hC D cA (hA g0 m0 sz) s b L xs g gm H locs → lv_has ls 4 [(0, .ref r0), (1, .int i1), (2, .int i2), (3, .int i3)] → W p l e (r_X11_add mc ms) s m args below meth c H locs C S (MQ below (hQi D cA g0 m0 sz Q) args s mc ms (hA g0 m0 sz)) (F0 m 76 ls []) := by
      intro i2
      refine lpx5_run (P := fun (g : gS) (gm : gS) (C : Nat) (S : Nat) (i3 : Int32) => (C ≤ mc ∧ S ≤ ms) → ∀ (H : Heap) (locs : List Loc) (ls : Array Slot), hC D cA (hA g0 m0 sz) s b L xs g gm H locs → lv_has ls 4 [(0, .ref r0), (1, .int i1), (2, .int i2), (3, .int i3)] → W p l e (r_X11_add mc ms) s m args below meth c H locs C S (MQ below (hQi D cA g0 m0 sz Q) args s mc ms (hA g0 m0 sz)) (F0 m 76 ls [])) ?_
      intro k76 hk_76 g gm C S i3 h hroom H locs ls hc hl
      have hb_110 : ∀ (g : gS) (gm : gS) (C : Nat) (S : Nat) (i3 : Int32) (rs0 : Nat) (is1 : Int32) (rs2 : Nat) (rs3 : Nat) (is4 : Int32), b_X11_add_110 g gm C S r0 i1 i2 i3 rs0 is1 rs2 rs3 is4 b L xs mc ms Q k55 k76 → (C ≤ mc ∧ S ≤ ms) → ∀ (H : Heap) (locs : List Loc) (ls : Array Slot), hC D cA (hA g0 m0 sz) s b L xs g gm H locs → lv_has ls 4 [(0, .ref r0), (1, .int i1), (2, .int i2), (3, .int i3)] → W p l e (r_X11_add mc ms) s m args below meth c H locs C S (MQ below (hQi D cA g0 m0 sz Q) args s mc ms (hA g0 m0 sz)) (F0 m 110 ls [.int is4, .ref rs3, .ref rs2, .int is1, .ref rs0]) := by
        intro g gm C S i3 rs0 is1 rs2 rs3 is4 h hroom H locs ls hc hl
        unfold b_X11_add_110 at h
        obtain ⟨hk24, h⟩ := h
        replace h := wm_X11_draw h
        refine hh_calli (va_runV (As := [.int is4]) (rest := [.ref rs2, .int is1, .ref rs0]) CF (c_X11_draw h) (cwV 1 hts gX11_add_X11_draw rfl rfl rfl (by decide +kernel) ⟨Nat.le_of_ble_eq_true rfl, Nat.le_of_ble_eq_true rfl⟩) (hc.preV hk24 rfl (by decide)) rfl rfl hl.1 rfl (lv_room (Nat.le_of_ble_eq_true rfl)) dX11_add_110 hroom) hc (fun x25 g26 m27 H locs hq hc => ?_)
        obtain ⟨rfl, h⟩ := hq
        obtain ⟨hroom28, h⟩ := h
        replace h := wm_X11_with h
        refine hh_callq (va_runS (As := [.ref rs2, .int x25]) (rest := [.int is1, .ref rs0]) CF (c_X11_with (mc := 1) (ms := 64) h) (va_cwS 2 hts gX11_add_X11_with rfl rfl rfl (by decide +kernel) ⟨Nat.le_of_ble_eq_true rfl, Nat.le_of_ble_eq_true rfl⟩) hc.preS rfl rfl hl.1 rfl (lv_room (Nat.le_of_ble_eq_true rfl)) dX11_add_113 hroom28) hc (fun o29 g30 m31 H locs hq hc => ?_)
        obtain ⟨rfl, h⟩ := hq
        have hroom := hroom28
        obtain ⟨hk32, h⟩ := h
        obtain ⟨y34, e35, hu36⟩ := h
        subst e35
        have h := hu36
        obtain ⟨hk37, h⟩ := h
        obtain ⟨hi33, h⟩ := h
        refine g_aastr CF hc.join (hc.jk hk32 (by decide)) (hc.jk hk37 (by decide)) (by rw [hc.jn (by rw [hk32]; decide)]; exact hi33) dX11_add_116 (fun H locs hc1 => ?_)
        have hc := hc.putV (by rw [hk32]; decide) hc1
        obtain ⟨g38, eg39⟩ : ∃ z, z = sV g30 rs0 (Int32.toNatClampNeg is1) (some y34) := ⟨_, rfl⟩
        have hc : hC D cA (hA g0 m0 sz) s b L xs g38 gm H locs := by rw [eg39]; exact hc
        replace h := h g38 eg39
        refine lv_aload_n hx hb dX11_add_117 rfl (lv_at hl 0 rfl) ?_
        obtain ⟨hk40, h⟩ := h
        obtain ⟨y41, e42, h⟩ := h
        refine g_getr CF hc.1 hk40 rfl (by decide) (fun _ h9 => List.mem_cons_of_mem _ (List.mem_append_left _ (List.mem_append_left _ (List.mem_append_left _ (List.mem_append_left _ (List.mem_append_left _ (List.mem_append_left _ (List.mem_append_right _ (h9))))))))) (k := 0) (by decide) (List.mem_cons_of_mem _ (List.mem_append_left _ (List.mem_append_left _ (List.mem_append_left _ (List.mem_append_left _ (List.mem_append_left _ (List.mem_append_left _ (List.mem_append_left _ (List.mem_append_left _ (List.mem_of_getElem? (i := 3) rfl)))))))))) e42 rfl dX11_add_118 ?_
        refine lv_iload_n hx hb dX11_add_121 rfl (lv_at hl 2 rfl) ?_
        refine lv_aload_n hx hb dX11_add_122 rfl (lv_at hl 0 rfl) ?_
        obtain ⟨y43, e44, h⟩ := h
        refine g_getr CF hc.1 hk40 rfl (by decide) (fun _ h9 => List.mem_cons_of_mem _ (List.mem_append_left _ (List.mem_append_left _ (List.mem_append_left _ (List.mem_append_left _ (List.mem_append_left _ (List.mem_append_left _ (List.mem_append_right _ (h9))))))))) (k := 4) (by decide) (List.mem_cons_of_mem _ (List.mem_append_left _ (List.mem_append_left _ (List.mem_append_left _ (List.mem_append_left _ (List.mem_append_left _ (List.mem_append_left _ (List.mem_append_left _ (List.mem_append_left _ (List.mem_of_getElem? (i := 4) rfl)))))))))) e44 rfl dX11_add_123 ?_
        refine lv_iload_n hx hb dX11_add_126 rfl (lv_at hl 1 rfl) ?_
        obtain ⟨hk46, h⟩ := h
        obtain ⟨hi45, h⟩ := h
        obtain ⟨y47, e48, h⟩ := h
        refine h_aald CF hc hk46 (by decide) hi45 e48 dX11_add_127 ?_
        refine lv_iload_n hx hb dX11_add_128 rfl (lv_at hl 2 rfl) ?_
        obtain ⟨hk50, h⟩ := h
        obtain ⟨hi49, h⟩ := h
        obtain ⟨y51, e52, h⟩ := h
        refine h_aald CF hc hk50 (by decide) hi49 e52 dX11_add_129 ?_
        refine lv_aload_n hx hb dX11_add_130 rfl (lv_at hl 0 rfl) ?_
        obtain ⟨y53, e54, h⟩ := h
        refine g_getr CF hc.1 hk40 rfl (by decide) (fun _ h9 => List.mem_cons_of_mem _ (List.mem_append_left _ (List.mem_append_left _ (List.mem_append_left _ (List.mem_append_left _ (List.mem_append_left _ (List.mem_append_left _ (List.mem_append_right _ (h9))))))))) (k := 4) (by decide) (List.mem_cons_of_mem _ (List.mem_append_left _ (List.mem_append_left _ (List.mem_append_left _ (List.mem_append_left _ (List.mem_append_left _ (List.mem_append_left _ (List.mem_append_left _ (List.mem_append_left _ (List.mem_of_getElem? (i := 4) rfl)))))))))) e54 rfl dX11_add_131 ?_
        refine lv_iload_n hx hb dX11_add_134 rfl (lv_at hl 1 rfl) ?_
        obtain ⟨hk56, h⟩ := h
        obtain ⟨hi55, h⟩ := h
        obtain ⟨y57, e58, h⟩ := h
        refine h_aald CF hc hk56 (by decide) hi55 e58 dX11_add_135 ?_
        refine lv_iload_n hx hb dX11_add_136 rfl (lv_at hl 2 rfl) ?_
        obtain ⟨hk60, h⟩ := h
        obtain ⟨hi59, h⟩ := h
        obtain ⟨y61, e62, h⟩ := h
        refine h_aald CF hc hk60 (by decide) hi59 e62 dX11_add_137 ?_
        obtain ⟨hk63, h⟩ := h
        refine g_alen CF hc.1 (j := 0) hk63 (by decide) dX11_add_138 ?_
        refine lv_iconst (v := 1) hx hb dX11_add_139 (by decide) ?_
        refine lv_isub hx hb dX11_add_140 ?_
        obtain ⟨hk65, h⟩ := h
        obtain ⟨hi64, h⟩ := h
        refine g_iald CF hc.1 hk65 hi64 dX11_add_141 ?_
        obtain ⟨hk66, h⟩ := h
        obtain ⟨hroom67, h⟩ := h
        refine h_xcalli (vx_runV (As := [.int i2, .int (gI g38 y51 (Int32.toNatClampNeg ((nI (gN g38 y61)) - 1)))]) (rest := []) CF (c_X10_write hflags h) (cwV 2 hts gX11_add_X10_write rfl rfl rfl (by decide +kernel) ⟨Nat.le_of_ble_eq_true rfl, Nat.le_of_ble_eq_true rfl⟩) (hc.swap.1.preV hk66 rfl (by decide)) rfl rfl hl.1 rfl (lv_room (Nat.le_of_ble_eq_true rfl)) dX11_add_142 hroom67) (fun _ _ z => z) hc (fun x68 m70 H locs hq hc => ?_)
        replace h := hq
        have hroom := hroom67
        refine lv_aload_n hx hb dX11_add_145 rfl (lv_at hl 0 rfl) ?_
        obtain ⟨y71, e72, h⟩ := h
        refine g_getr CF hc.1 hk40 rfl (by decide) (fun _ h9 => List.mem_cons_of_mem _ (List.mem_append_left _ (List.mem_append_left _ (List.mem_append_left _ (List.mem_append_left _ (List.mem_append_left _ (List.mem_append_left _ (List.mem_append_right _ (h9))))))))) (k := 4) (by decide) (List.mem_cons_of_mem _ (List.mem_append_left _ (List.mem_append_left _ (List.mem_append_left _ (List.mem_append_left _ (List.mem_append_left _ (List.mem_append_left _ (List.mem_append_left _ (List.mem_append_left _ (List.mem_of_getElem? (i := 4) rfl)))))))))) e72 rfl dX11_add_146 ?_
        refine lv_iload_n hx hb dX11_add_149 rfl (lv_at hl 1 rfl) ?_
        obtain ⟨hk74, h⟩ := h
        obtain ⟨hi73, h⟩ := h
        obtain ⟨y75, e76, h⟩ := h
        refine h_aald CF hc hk74 (by decide) hi73 e76 dX11_add_150 ?_
        refine lv_iload_n hx hb dX11_add_151 rfl (lv_at hl 2 rfl) ?_
        obtain ⟨hk78, h⟩ := h
        obtain ⟨hi77, h⟩ := h
        obtain ⟨y79, e80, h⟩ := h
        refine h_aald CF hc hk78 (by decide) hi77 e80 dX11_add_152 ?_
        obtain ⟨hk81, h⟩ := h
        refine g_alen CF hc.1 (j := 0) hk81 (by decide) dX11_add_153 ?_
        refine lv_icmp_eq (tgt := 159) hx hb dX11_add_154 (by decide) (fun c82 => ?_) (fun c82 => ?_)
        · have h := h.1 c82
          refine lv_iinc (v := (i3 + (-1))) (lv' := [(3, .int (i3 + (-1))), (0, .ref r0), (1, .int i1), (2, .int i2)]) hx hb dX11_add_159 hl (k := 3) rfl rfl (by decide) rfl (fun ls hl => ?_)
          refine lv_goto (tgt := 76) hx hb dX11_add_162 (by decide) ?_
          exact hk_76 g38 m70 ((C + 1) + 1) ((S + 64) + 6) (i3 + (-1)) h hroom _ _ _ hc (lv_sub hl [1, 2, 3, 0] rfl)
        · have h := h.2 c82
          refine lv_iconst (v := 0) hx hb dX11_add_157 (by decide) ?_
          refine W.widen (k := mc) (n := ms) hroom.1 hroom.2 ?_
          exact h_reti (r := 0) CF hr hlk hc (narrow_01 (by decide : (0 : Int32) = 0 ∨ (0 : Int32) = 1)) h dX11_add_158
      unfold l_X11_add_76 at h
      refine lv_iload_n hx hb dX11_add_76 rfl (lv_at hl 3 rfl) ?_
      refine lv_if_le (tgt := 165) hx hb dX11_add_77 (by decide) (fun c83 => ?_) (fun c83 => ?_)
      · have h := h.1 c83
        refine lv_iinc (v := (i2 + 1)) (lv' := [(2, .int (i2 + 1)), (0, .ref r0), (1, .int i1), (3, .int i3)]) hx hb dX11_add_165 hl (k := 2) rfl rfl (by decide) rfl (fun ls hl => ?_)
        refine lv_goto (tgt := 55) hx hb dX11_add_168 (by decide) ?_
        exact hk_55 g gm C S (i2 + 1) h hroom _ _ _ hc (lv_sub hl [1, 2, 0] rfl)
      · have h := h.2 c83
        refine lv_aload_n hx hb dX11_add_80 rfl (lv_at hl 0 rfl) ?_
        obtain ⟨hk84, h⟩ := h
        obtain ⟨y85, e86, h⟩ := h
        refine g_getr CF hc.1 hk84 rfl (by decide) (fun _ h9 => List.mem_cons_of_mem _ (List.mem_append_left _ (List.mem_append_left _ (List.mem_append_left _ (List.mem_append_left _ (List.mem_append_left _ (List.mem_append_left _ (List.mem_append_right _ (h9))))))))) (k := 4) (by decide) (List.mem_cons_of_mem _ (List.mem_append_left _ (List.mem_append_left _ (List.mem_append_left _ (List.mem_append_left _ (List.mem_append_left _ (List.mem_append_left _ (List.mem_append_left _ (List.mem_append_left _ (List.mem_of_getElem? (i := 4) rfl)))))))))) e86 rfl dX11_add_81 ?_
        refine lv_iload_n hx hb dX11_add_84 rfl (lv_at hl 1 rfl) ?_
        obtain ⟨hk88, h⟩ := h
        obtain ⟨hi87, h⟩ := h
        obtain ⟨y89, e90, h⟩ := h
        refine h_aald CF hc hk88 (by decide) hi87 e90 dX11_add_85 ?_
        refine lv_iload_n hx hb dX11_add_86 rfl (lv_at hl 2 rfl) ?_
        refine lv_aload_n hx hb dX11_add_87 rfl (lv_at hl 0 rfl) ?_
        obtain ⟨y91, e92, h⟩ := h
        refine g_getr CF hc.1 hk84 rfl (by decide) (fun _ h9 => List.mem_cons_of_mem _ (List.mem_append_left _ (List.mem_append_left _ (List.mem_append_left _ (List.mem_append_left _ (List.mem_append_left _ (List.mem_append_left _ (List.mem_append_right _ (h9))))))))) (k := 4) (by decide) (List.mem_cons_of_mem _ (List.mem_append_left _ (List.mem_append_left _ (List.mem_append_left _ (List.mem_append_left _ (List.mem_append_left _ (List.mem_append_left _ (List.mem_append_left _ (List.mem_append_left _ (List.mem_of_getElem? (i := 4) rfl)))))))))) e92 rfl dX11_add_88 ?_
        refine lv_iload_n hx hb dX11_add_91 rfl (lv_at hl 1 rfl) ?_
        obtain ⟨hk94, h⟩ := h
        obtain ⟨hi93, h⟩ := h
        obtain ⟨y95, e96, h⟩ := h
        refine h_aald CF hc hk94 (by decide) hi93 e96 dX11_add_92 ?_
        refine lv_iload_n hx hb dX11_add_93 rfl (lv_at hl 2 rfl) ?_
        obtain ⟨hk98, h⟩ := h
        obtain ⟨hi97, h⟩ := h
        obtain ⟨y99, e100, h⟩ := h
        refine h_aald CF hc hk98 (by decide) hi97 e100 dX11_add_94 ?_
        refine lv_aload_n hx hb dX11_add_95 rfl (lv_at hl 0 rfl) ?_
        refine lv_aload_n hx hb dX11_add_96 rfl (lv_at hl 0 rfl) ?_
        refine lv_iconst (v := 2) hx hb dX11_add_97 (by decide) ?_
        replace h := wm_X11_draw h
        refine hh_calli (va_runV (As := [.int 2]) (rest := [.ref r0, .ref y99, .int i2, .ref y89]) CF (c_X11_draw h) (cwV 1 hts gX11_add_X11_draw rfl rfl rfl (by decide +kernel) ⟨Nat.le_of_ble_eq_true rfl, Nat.le_of_ble_eq_true rfl⟩) (hc.preV hk84 rfl (by decide)) rfl rfl hl.1 rfl (lv_room (Nat.le_of_ble_eq_true rfl)) dX11_add_98 hroom) hc (fun x101 g102 m103 H locs hq hc => ?_)
        obtain ⟨rfl, h⟩ := hq
        refine lv_if_ne (tgt := 108) hx hb dX11_add_101 (by decide) (fun c104 => ?_) (fun c104 => ?_)
        · have h := h.2 c104
          refine lv_bipush (v := 10) hx hb dX11_add_108 (by decide) ?_
          exact hb_110 g102 gm C S i3 y89 i2 y99 r0 10 h hroom _ _ _ hc (lv_sub hl [0, 1, 2, 3] rfl)
        · have h := h.1 c104
          refine lv_iconst (v := 4) hx hb dX11_add_104 (by decide) ?_
          refine lv_goto (tgt := 110) hx hb dX11_add_105 (by decide) ?_
          exact hb_110 g102 gm C S i3 y89 i2 y99 r0 4 h hroom _ _ _ hc (lv_sub hl [0, 1, 2, 3] rfl)
    have hb_72 : ∀ (g : gS) (gm : gS) (C : Nat) (S : Nat) (i2 : Int32) (rs0 : Nat) (is1 : Int32), b_X11_add_72 g gm C S r0 i1 i2 rs0 is1 b L xs mc ms Q k55 → (C ≤ mc ∧ S ≤ ms) → ∀ (H : Heap) (locs : List Loc) (ls : Array Slot), hC D cA (hA g0 m0 sz) s b L xs g gm H locs → lv_has ls 4 [(0, .ref r0), (1, .int i1), (2, .int i2)] → W p l e (r_X11_add mc ms) s m args below meth c H locs C S (MQ below (hQi D cA g0 m0 sz Q) args s mc ms (hA g0 m0 sz)) (F0 m 72 ls [.int is1, .ref rs0]) := by
      intro g gm C S i2 rs0 is1 h hroom H locs ls hc hl
      unfold b_X11_add_72 at h
      obtain ⟨hk105, h⟩ := h
      replace h := wm_X11_draw h
      refine hh_calli (va_runV (As := [.int is1]) (rest := []) CF (c_X11_draw h) (cwV 1 hts gX11_add_X11_draw rfl rfl rfl (by decide +kernel) ⟨Nat.le_of_ble_eq_true rfl, Nat.le_of_ble_eq_true rfl⟩) (hc.preV hk105 rfl (by decide)) rfl rfl hl.1 rfl (lv_room (Nat.le_of_ble_eq_true rfl)) dX11_add_72 hroom) hc (fun x106 g107 m108 H locs hq hc => ?_)
      obtain ⟨rfl, h⟩ := hq
      refine lv_istore_n (lv' := [(3, .int x106), (0, .ref r0), (1, .int i1), (2, .int i2)]) hx hb dX11_add_75 rfl hl (by decide) rfl (fun ls hl => ?_)
      exact hb_76 i2 g107 gm C S x106 h hroom _ _ _ hc (lv_sub hl [1, 2, 3, 0] rfl)
    unfold l_X11_add_55 at h
    refine lv_iload_n hx hb dX11_add_55 rfl (lv_at hl 2 rfl) ?_
    refine lv_iconst (v := 3) hx hb dX11_add_56 (by decide) ?_
    refine lv_icmp_ge (tgt := 171) hx hb dX11_add_57 (by decide) (fun c109 => ?_) (fun c109 => ?_)
    · have h := h.1 c109
      refine lv_aload_n hx hb dX11_add_171 rfl (lv_at hl 0 rfl) ?_
      refine lv_dup hx hb dX11_add_172 rfl ?_
      obtain ⟨hk110, h⟩ := h
      refine g_get CF hc.1 hk110 rfl (by decide) (fun _ h9 => List.mem_cons_of_mem _ (List.mem_append_left _ (List.mem_append_left _ (List.mem_append_left _ (List.mem_append_left _ (List.mem_append_left _ (List.mem_append_left _ (List.mem_append_right _ (h9))))))))) (k := 3) (by decide) (List.mem_cons_of_mem _ (List.mem_append_left _ (List.mem_append_left _ (List.mem_append_left _ (List.mem_append_left _ (List.mem_append_left _ (List.mem_append_left _ (List.mem_append_left _ (List.mem_append_left _ (List.mem_of_getElem? (i := 0) rfl)))))))))) rfl dX11_add_173 ?_
      refine lv_iconst (v := 1) hx hb dX11_add_176 (by decide) ?_
      refine lv_iadd hx hb dX11_add_177 ?_
      refine g_puti CF hc.join (hc.jk hk110 (by decide)) rfl (by decide) (fun _ h9 => List.mem_cons_of_mem _ (List.mem_append_left _ (List.mem_append_left _ (List.mem_append_left _ (List.mem_append_left _ (List.mem_append_left _ (List.mem_append_left _ (List.mem_append_right _ (h9))))))))) tyX11 tyX11_ok nmX11 (k := 3) (by decide) (List.mem_cons_of_mem _ (List.mem_append_left _ (List.mem_append_left _ (List.mem_append_left _ (List.mem_append_left _ (List.mem_append_left _ (List.mem_append_left _ (List.mem_append_left _ (List.mem_append_left _ (List.mem_of_getElem? (i := 0) rfl)))))))))) rfl (v := ((gI g r0 3) + 1)) rfl rfl rfl dX11_add_178 (fun H locs hc1 => ?_)
      have hc := hc.putU (by rw [hk110]; decide) hc1
      obtain ⟨g111, eg112⟩ : ∃ z, z = sU g r0 3 ((gI g r0 3) + 1) := ⟨_, rfl⟩
      have hc : hC D cA (hA g0 m0 sz) s b L xs g111 gm H locs := by rw [eg112]; exact hc
      replace h := h g111 eg112
      refine lv_iconst (v := 0) hx hb dX11_add_181 (by decide) ?_
      refine lv_istore_n (lv' := [(2, .int 0), (0, .ref r0), (1, .int i1)]) hx hb dX11_add_182 rfl hl (by decide) rfl (fun ls hl => ?_)
      refine lv_iconst (v := 0) hx hb dX11_add_183 (by decide) ?_
      refine lv_istore_n (lv' := [(3, .int 0), (2, .int 0), (0, .ref r0), (1, .int i1)]) hx hb dX11_add_184 rfl hl (by decide) rfl (fun ls hl => ?_)
      exact hb_185 g111 gm C S r0 0 0 h hroom _ _ _ hc (lv_sub hl [2, 1, 0] rfl)
    · have h := h.2 c109
      refine lv_aload_n hx hb dX11_add_60 rfl (lv_at hl 0 rfl) ?_
      refine lv_iload_n hx hb dX11_add_61 rfl (lv_at hl 2 rfl) ?_
      refine lv_iconst (v := 2) hx hb dX11_add_62 (by decide) ?_
      refine lv_icmp_ne (tgt := 70) hx hb dX11_add_63 (by decide) (fun c113 => ?_) (fun c113 => ?_)
      · have h := h.2 c113
        refine lv_bipush (v := 6) hx hb dX11_add_70 (by decide) ?_
        exact hb_72 g gm C S i2 r0 6 h hroom _ _ _ hc (lv_sub hl [0, 1, 2] rfl)
      · have h := h.1 c113
        refine lv_iconst (v := 2) hx hb dX11_add_66 (by decide) ?_
        refine lv_goto (tgt := 72) hx hb dX11_add_67 (by decide) ?_
        exact hb_72 g gm C S i2 r0 2 h hroom _ _ _ hc (lv_sub hl [0, 1, 2] rfl)
  unfold w_X11_add at h
  obtain ⟨H, hH0⟩ : ∃ z, z = s.heap := ⟨_, rfl⟩
  rw [← hH0] at hc ⊢
  obtain ⟨locs, hlc0⟩ : ∃ z : List Loc, z = [] := ⟨_, rfl⟩
  rw [← hlc0] at hc ⊢
  refine lv_aload_n hx hb dX11_add_0 rfl (lv_at hl 0 rfl) ?_
  obtain ⟨hk114, h⟩ := h
  refine g_get CF hc.1 hk114 rfl (by decide) (fun _ h9 => List.mem_cons_of_mem _ (List.mem_append_left _ (List.mem_append_left _ (List.mem_append_left _ (List.mem_append_left _ (List.mem_append_left _ (List.mem_append_left _ (List.mem_append_right _ (h9))))))))) (k := 3) (by decide) (List.mem_cons_of_mem _ (List.mem_append_left _ (List.mem_append_left _ (List.mem_append_left _ (List.mem_append_left _ (List.mem_append_left _ (List.mem_append_left _ (List.mem_append_left _ (List.mem_append_left _ (List.mem_of_getElem? (i := 0) rfl)))))))))) rfl dX11_add_1 ?_
  refine lv_istore_n (lv' := [(1, .int (gI g0 p0 3)), (0, .ref p0)]) hx hb dX11_add_4 rfl hl (by decide) rfl (fun ls hl => ?_)
  refine lv_aload_n hx hb dX11_add_5 rfl (lv_at hl 1 rfl) ?_
  obtain ⟨y115, e116, h⟩ := h
  refine g_getr CF hc.1 hk114 rfl (by decide) (fun _ h9 => List.mem_cons_of_mem _ (List.mem_append_left _ (List.mem_append_left _ (List.mem_append_left _ (List.mem_append_left _ (List.mem_append_left _ (List.mem_append_left _ (List.mem_append_right _ (h9))))))))) (k := 5) (by decide) (List.mem_cons_of_mem _ (List.mem_append_left _ (List.mem_append_left _ (List.mem_append_left _ (List.mem_append_left _ (List.mem_append_left _ (List.mem_append_left _ (List.mem_append_left _ (List.mem_append_left _ (List.mem_of_getElem? (i := 1) rfl)))))))))) e116 rfl dX11_add_6 ?_
  refine lv_iload_n hx hb dX11_add_9 rfl (lv_at hl 0 rfl) ?_
  refine lv_aload_n hx hb dX11_add_10 rfl (lv_at hl 1 rfl) ?_
  refine lv_bipush (v := 20) hx hb dX11_add_11 (by decide) ?_
  replace h := wm_X11_draw h
  refine hh_calli (va_runV (As := [.int 20]) (rest := [.int (gI g0 p0 3), .ref y115]) CF (c_X11_draw h) (cwV 1 hts gX11_add_X11_draw rfl rfl rfl (by decide +kernel) ⟨Nat.le_of_ble_eq_true rfl, Nat.le_of_ble_eq_true rfl⟩) (hc.preV hk114 rfl (by decide)) rfl rfl hl.1 rfl (lv_room (Nat.le_of_ble_eq_true rfl)) dX11_add_13 hroom) hc (fun x117 g118 m119 H locs hq hc => ?_)
  obtain ⟨rfl, h⟩ := hq
  obtain ⟨hk120, h⟩ := h
  obtain ⟨hi121, h⟩ := h
  refine g_iast CF hc.join (hc.jk hk120 (by decide)) (x := x117) (by rw [hc.jn (by rw [hk120]; decide)]; exact hi121) dX11_add_16 (fun H locs hc1 => ?_)
  have hc := hc.putU (by rw [hk120]; decide) hc1
  obtain ⟨g122, eg123⟩ : ∃ z, z = sU g118 y115 (Int32.toNatClampNeg (gI g0 p0 3)) x117 := ⟨_, rfl⟩
  have hc : hC D cA (hA g0 m0 sz) s b L xs g122 m0 H locs := by rw [eg123]; exact hc
  replace h := h g122 eg123
  refine lv_aload_n hx hb dX11_add_17 rfl (lv_at hl 1 rfl) ?_
  obtain ⟨hk124, h⟩ := h
  obtain ⟨y125, e126, h⟩ := h
  refine g_getr CF hc.1 hk124 rfl (by decide) (fun _ h9 => List.mem_cons_of_mem _ (List.mem_append_left _ (List.mem_append_left _ (List.mem_append_left _ (List.mem_append_left _ (List.mem_append_left _ (List.mem_append_left _ (List.mem_append_right _ (h9))))))))) (k := 6) (by decide) (List.mem_cons_of_mem _ (List.mem_append_left _ (List.mem_append_left _ (List.mem_append_left _ (List.mem_append_left _ (List.mem_append_left _ (List.mem_append_left _ (List.mem_append_left _ (List.mem_append_left _ (List.mem_of_getElem? (i := 2) rfl)))))))))) e126 rfl dX11_add_18 ?_
  refine lv_iload_n hx hb dX11_add_21 rfl (lv_at hl 0 rfl) ?_
  refine lv_aload_n hx hb dX11_add_22 rfl (lv_at hl 1 rfl) ?_
  refine lv_iconst (v := 3) hx hb dX11_add_23 (by decide) ?_
  replace h := wm_X11_draw h
  refine hh_calli (va_runV (As := [.int 3]) (rest := [.int (gI g0 p0 3), .ref y125]) CF (c_X11_draw h) (cwV 1 hts gX11_add_X11_draw rfl rfl rfl (by decide +kernel) ⟨Nat.le_of_ble_eq_true rfl, Nat.le_of_ble_eq_true rfl⟩) (hc.preV hk124 rfl (by decide)) rfl rfl hl.1 rfl (lv_room (Nat.le_of_ble_eq_true rfl)) dX11_add_24 hroom) hc (fun x127 g128 m129 H locs hq hc => ?_)
  obtain ⟨rfl, h⟩ := hq
  obtain ⟨hk130, h⟩ := h
  obtain ⟨hi131, h⟩ := h
  refine g_iast CF hc.join (hc.jk hk130 (by decide)) (x := x127) (by rw [hc.jn (by rw [hk130]; decide)]; exact hi131) dX11_add_27 (fun H locs hc1 => ?_)
  have hc := hc.putU (by rw [hk130]; decide) hc1
  obtain ⟨g132, eg133⟩ : ∃ z, z = sU g128 y125 (Int32.toNatClampNeg (gI g0 p0 3)) x127 := ⟨_, rfl⟩
  have hc : hC D cA (hA g0 m0 sz) s b L xs g132 m0 H locs := by rw [eg133]; exact hc
  replace h := h g132 eg133
  refine lv_aload_n hx hb dX11_add_28 rfl (lv_at hl 1 rfl) ?_
  obtain ⟨hk134, h⟩ := h
  obtain ⟨y135, e136, h⟩ := h
  refine g_getr CF hc.1 hk134 rfl (by decide) (fun _ h9 => List.mem_cons_of_mem _ (List.mem_append_left _ (List.mem_append_left _ (List.mem_append_left _ (List.mem_append_left _ (List.mem_append_left _ (List.mem_append_left _ (List.mem_append_right _ (h9))))))))) (k := 0) (by decide) (List.mem_cons_of_mem _ (List.mem_append_left _ (List.mem_append_left _ (List.mem_append_left _ (List.mem_append_left _ (List.mem_append_left _ (List.mem_append_left _ (List.mem_append_left _ (List.mem_append_left _ (List.mem_of_getElem? (i := 3) rfl)))))))))) e136 rfl dX11_add_29 ?_
  refine lv_aload_n hx hb dX11_add_32 rfl (lv_at hl 1 rfl) ?_
  obtain ⟨y137, e138, h⟩ := h
  refine g_getr CF hc.1 hk134 rfl (by decide) (fun _ h9 => List.mem_cons_of_mem _ (List.mem_append_left _ (List.mem_append_left _ (List.mem_append_left _ (List.mem_append_left _ (List.mem_append_left _ (List.mem_append_left _ (List.mem_append_right _ (h9))))))))) (k := 5) (by decide) (List.mem_cons_of_mem _ (List.mem_append_left _ (List.mem_append_left _ (List.mem_append_left _ (List.mem_append_left _ (List.mem_append_left _ (List.mem_append_left _ (List.mem_append_left _ (List.mem_append_left _ (List.mem_of_getElem? (i := 1) rfl)))))))))) e138 rfl dX11_add_33 ?_
  refine lv_iload_n hx hb dX11_add_36 rfl (lv_at hl 0 rfl) ?_
  obtain ⟨hk140, h⟩ := h
  obtain ⟨hi139, h⟩ := h
  refine g_iald CF hc.1 hk140 hi139 dX11_add_37 ?_
  refine lv_aload_n hx hb dX11_add_38 rfl (lv_at hl 1 rfl) ?_
  obtain ⟨y141, e142, h⟩ := h
  refine g_getr CF hc.1 hk134 rfl (by decide) (fun _ h9 => List.mem_cons_of_mem _ (List.mem_append_left _ (List.mem_append_left _ (List.mem_append_left _ (List.mem_append_left _ (List.mem_append_left _ (List.mem_append_left _ (List.mem_append_right _ (h9))))))))) (k := 6) (by decide) (List.mem_cons_of_mem _ (List.mem_append_left _ (List.mem_append_left _ (List.mem_append_left _ (List.mem_append_left _ (List.mem_append_left _ (List.mem_append_left _ (List.mem_append_left _ (List.mem_append_left _ (List.mem_of_getElem? (i := 2) rfl)))))))))) e142 rfl dX11_add_39 ?_
  refine lv_iload_n hx hb dX11_add_42 rfl (lv_at hl 0 rfl) ?_
  obtain ⟨hk144, h⟩ := h
  obtain ⟨hi143, h⟩ := h
  refine g_iald CF hc.1 hk144 hi143 dX11_add_43 ?_
  obtain ⟨hk145, h⟩ := h
  obtain ⟨hroom146, h⟩ := h
  refine h_xcalli (vx_runV (As := [.int (gI g132 y137 (Int32.toNatClampNeg (gI g0 p0 3))), .int (gI g132 y141 (Int32.toNatClampNeg (gI g0 p0 3)))]) (rest := []) CF (c_X10_open hflags h) (cwV 2 hts gX11_add_X10_open rfl rfl rfl (by decide +kernel) ⟨Nat.le_of_ble_eq_true rfl, Nat.le_of_ble_eq_true rfl⟩) (hc.swap.1.preV hk145 rfl (by decide)) rfl rfl hl.1 rfl (lv_room (Nat.le_of_ble_eq_true rfl)) dX11_add_44 hroom146) (fun _ _ z => z) hc (fun x147 m149 H locs hq hc => ?_)
  replace h := hq
  have hroom := hroom146
  refine lv_iload_n hx hb dX11_add_47 rfl (lv_at hl 0 rfl) ?_
  refine lv_icmp_eq (tgt := 53) hx hb dX11_add_48 (by decide) (fun c150 => ?_) (fun c150 => ?_)
  · have h := h.1 c150
    refine lv_iconst (v := 0) hx hb dX11_add_53 (by decide) ?_
    refine lv_istore_n (lv' := [(2, .int 0), (1, .int (gI g0 p0 3)), (0, .ref p0)]) hx hb dX11_add_54 rfl hl (by decide) rfl (fun ls hl => ?_)
    exact hb_55 p0 (gI g0 p0 3) g132 m149 (0 + 14) (0 + 131) 0 h hroom _ _ _ hc (lv_sub hl [2, 1, 0] rfl)
  · have h := h.2 c150
    refine lv_iconst (v := 0) hx hb dX11_add_51 (by decide) ?_
    refine W.widen (k := mc) (n := ms) hroom.1 hroom.2 ?_
    exact h_reti (r := 0) CF hr hlk hc (narrow_01 (by decide : (0 : Int32) = 0 ∨ (0 : Int32) = 1)) h dX11_add_52
def b_X11_flush_198 (g : gS) (gm : gS) (C : Nat) (S : Nat) (is0 : Int32) (b L : Nat) (xs : Nat → Int32) (mc ms : Nat) (Q : Int32 → gS → gS → Prop) : Prop :=
  (is0 = 0 ∨ is0 = 1) ∧ (Q is0 g gm)
def b_X11_flush_179 (g : gS) (gm : gS) (C : Nat) (S : Nat) (r0 : Nat) (o1 : Option Nat) (b L : Nat) (xs : Nat → Int32) (mc ms : Nat) (Q : Int32 → gS → gS → Prop) : Prop :=
  gK g r0 = 12 ∧ (∃ y3, gR g r0 0 = some y3 ∧ (gK gm y3 = 11 ∧ (w_X10_flush gm y3 (fun x6 m8 => (∃ y9, o1 = some y9 ∧ (gK g y9 = 21 ∧ ((x6 = ((nI (gN g y9)) - 1) → (b_X11_flush_198 g m8 C S 1 b L xs mc ms Q)) ∧ (¬ x6 = ((nI (gN g y9)) - 1) → (b_X11_flush_198 g m8 C S 0 b L xs mc ms Q)))))))))
def l_X11_flush_100 (gm : gS) (r0 : Nat) (o1 : Option Nat) (b L : Nat) (xs : Nat → Int32) (mc ms : Nat) (Q : Int32 → gS → gS → Prop) (g : gS) (C : Nat) (S : Nat) (i2 : Int32) (k100 : gS → Nat → Nat → Int32 → Prop) : Prop :=
  (i2 ≤ 2 → (b_X11_flush_179 g gm C S r0 o1 b L xs mc ms Q)) ∧ (¬ i2 ≤ 2 → (gK g r0 = 12 ∧ (∃ y16, gR g r0 12 = some y16 ∧ (gK g y16 = 24 ∧ (vp_in (i2 - 1) (gN g y16) ∧ (∃ y20, gR g y16 (Int32.toNatClampNeg (i2 - 1)) = some y20 ∧ (gK g y20 = 21 ∧ (vp_in 0 (gN g y20) ∧ (∃ y24, gR g r0 12 = some y24 ∧ (gK g y24 = 24 ∧ (vp_in (i2 - 2) (gN g y24) ∧ (∃ y28, gR g y24 (Int32.toNatClampNeg (i2 - 2)) = some y28 ∧ (gK g y28 = 21 ∧ (vp_in 0 (gN g y28) ∧ (((gI g y20 (Int32.toNatClampNeg 0)) = (gI g y28 (Int32.toNatClampNeg 0)) → (∃ y33, gR g r0 12 = some y33 ∧ (gK g y33 = 24 ∧ (vp_in (i2 - 2) (gN g y33) ∧ (∃ y37, gR g y33 (Int32.toNatClampNeg (i2 - 2)) = some y37 ∧ (gK g y37 = 21 ∧ (vp_in 0 (gN g y37) ∧ (∃ y41, gR g r0 12 = some y41 ∧ (gK g y41 = 24 ∧ (vp_in (i2 - 3) (gN g y41) ∧ (∃ y45, gR g y41 (Int32.toNatClampNeg (i2 - 3)) = some y45 ∧ (gK g y45 = 21 ∧ (vp_in 0 (gN g y45) ∧ (((gI g y37 (Int32.toNatClampNeg 0)) = (gI g y45 (Int32.toNatClampNeg 0)) → (∃ y50, gR g r0 12 = some y50 ∧ (gK g y50 = 24 ∧ (vp_in (i2 - 1) (gN g y50) ∧ (∃ y54, gR g y50 (Int32.toNatClampNeg (i2 - 1)) = some y54 ∧ (gK g y54 = 21 ∧ (vp_in 0 (gN g y54) ∧ ((C + 20 ≤ mc ∧ S + 1300 ≤ ms) ∧ (w_X11_merge g gm r0 (i2 - 3) ((gI g y54 (Int32.toNatClampNeg 0)) + 1) 20 1300 (fun g60 m61 => (gK g60 r0 = 12 ∧ (∃ y63, gR g60 r0 12 = some y63 ∧ (gK g60 y63 = 24 ∧ (k100 g60 (C + 20) (S + 1300) (nI (gN g60 y63)))))))))))))))) ∧ (¬ (gI g y37 (Int32.toNatClampNeg 0)) = (gI g y45 (Int32.toNatClampNeg 0)) → (b_X11_flush_179 g gm C S r0 o1 b L xs mc ms Q)))))))))))))))) ∧ (¬ (gI g y20 (Int32.toNatClampNeg 0)) = (gI g y28 (Int32.toNatClampNeg 0)) → (b_X11_flush_179 g gm C S r0 o1 b L xs mc ms Q)))))))))))))))))
def b_X11_flush_94 (g : gS) (gm : gS) (C : Nat) (S : Nat) (r0 : Nat) (o1 : Option Nat) (b L : Nat) (xs : Nat → Int32) (mc ms : Nat) (Q : Int32 → gS → gS → Prop) : Prop :=
  gK g r0 = 12 ∧ (∃ y67, gR g r0 12 = some y67 ∧ (gK g y67 = 24 ∧ (lpx4 (l_X11_flush_100 gm r0 o1 b L xs mc ms Q) g C S (nI (gN g y67)))))
def b_X11_flush_43 (g : gS) (gm : gS) (C : Nat) (S : Nat) (r0 : Nat) (o1 : Option Nat) (i2 : Int32) (b L : Nat) (xs : Nat → Int32) (mc ms : Nat) (Q : Int32 → gS → gS → Prop) (k10 : gS → Nat → Nat → Option Nat → Int32 → Prop) : Prop :=
  k10 g C S o1 (i2 + 1)
def l_X11_flush_10 (gm : gS) (r0 : Nat) (b L : Nat) (xs : Nat → Int32) (mc ms : Nat) (Q : Int32 → gS → gS → Prop) (g : gS) (C : Nat) (S : Nat) (o1 : Option Nat) (i2 : Int32) (k10 : gS → Nat → Nat → Option Nat → Int32 → Prop) : Prop :=
  gK g r0 = 12 ∧ (((gI g r0 3) ≤ i2 → (∃ y72, o1 = some y72 ∧ (gK g y72 = 21 ∧ (((nI (gN g y72)) ≤ 1 → (b_X11_flush_94 g gm C S r0 (some y72) b L xs mc ms Q)) ∧ (¬ (nI (gN g y72)) ≤ 1 → (∃ y77, gR g r0 12 = some y77 ∧ (gK g y77 = 24 ∧ ((¬ ((nI (gN g y77)) + 1) < 0 ∧ (Int32.toNatClampNeg ((nI (gN g y77)) + 1)) ≤ 100000) ∧ ((C + 1 ≤ mc ∧ S + (Int32.toNatClampNeg ((nI (gN g y77)) + 1)) ≤ ms) ∧ (∀ q80, gK g q80 = 0 → (∀ g85, g85 = sNew g q80 24 (Int32.toNatClampNeg ((nI (gN g y77)) + 1)) → (gK g85 r0 = 12 ∧ (∃ y88, gR g85 r0 12 = some y88 ∧ (∃ y90, gR g85 r0 12 = some y90 ∧ (gK g85 y90 = 24 ∧ (gK g85 y88 = 24 ∧ (gK g85 q80 = 24 ∧ ((¬ (nI (gN g85 y90)) < 0 ∧ (Int32.toNatClampNeg 0) + (Int32.toNatClampNeg (nI (gN g85 y90))) ≤ gN g85 y88 ∧ (Int32.toNatClampNeg 0) + (Int32.toNatClampNeg (nI (gN g85 y90))) ≤ gN g85 q80 ∧ ∀ i : Nat, i < (Int32.toNatClampNeg (nI (gN g85 y90))) → ∀ y : Nat, gR g85 y88 ((Int32.toNatClampNeg 0) + i) = some y → gK g85 y = 21) ∧ (∀ g96, g96 = sR g85 q80 (va_cpy (gR g85 y88) (gR g85 q80) (Int32.toNatClampNeg 0) (Int32.toNatClampNeg 0) (Int32.toNatClampNeg (nI (gN g85 y90)))) → (gK g96 r0 = 12 ∧ (∃ y99, gR g96 r0 12 = some y99 ∧ (gK g96 y99 = 24 ∧ (gK g96 q80 = 24 ∧ (gK g96 y72 = 21 ∧ (vp_in (nI (gN g96 y99)) (gN g96 q80) ∧ (∀ g105, g105 = sV g96 q80 (Int32.toNatClampNeg (nI (gN g96 y99))) (some y72) → (gK g105 r0 = 12 ∧ (∀ g108, g108 = sV g105 r0 12 (some q80) → (b_X11_flush_94 g108 gm (C + 1) (S + (Int32.toNatClampNeg ((nI (gN g y77)) + 1))) r0 (some y72) b L xs mc ms Q))))))))))))))))))))))))))))) ∧ (¬ (gI g r0 3) ≤ i2 → (∃ y110, gR g r0 8 = some y110 ∧ (gK g y110 = 21 ∧ (vp_in i2 (gN g y110) ∧ (((gI g y110 (Int32.toNatClampNeg i2)) = 0 → (∃ y115, o1 = some y115 ∧ ((C + 1 ≤ mc ∧ S + 64 ≤ ms) ∧ (w_X11_with g gm y115 i2 1 64 (fun o119 g120 m121 => (gK g120 r0 = 12 ∧ (∃ y123, gR g120 r0 8 = some y123 ∧ (gK g120 y123 = 21 ∧ (vp_in i2 (gN g120 y123) ∧ (∀ g127, g127 = sU g120 y123 (Int32.toNatClampNeg i2) 1 → (b_X11_flush_43 g127 gm (C + 1) (S + 64) r0 o119 i2 b L xs mc ms Q k10))))))))))) ∧ (¬ (gI g y110 (Int32.toNatClampNeg i2)) = 0 → (b_X11_flush_43 g gm C S r0 o1 i2 b L xs mc ms Q k10))))))))
def w_X11_flush (g0 m0 : gS) (p0 : Nat) (b L : Nat) (xs : Nat → Int32) (mc ms : Nat) (Q : Int32 → gS → gS → Prop) : Prop :=
  (0 + 1 ≤ mc ∧ 0 + 1 ≤ ms) ∧ (∀ q129, gK g0 q129 = 0 → (∀ g133, g133 = sNew g0 q129 21 1 → (gK g133 q129 = 21 ∧ (vp_in 0 (gN g133 q129) ∧ (∀ g137, g137 = sU g133 q129 (Int32.toNatClampNeg 0) 0 → (lpx5 (l_X11_flush_10 m0 p0 b L xs mc ms Q) g137 (0 + 1) (0 + 1) (some q129) 0))))))
abbrev r_X11_flush (mc ms : Nat) : Room := { frames := 6, cells := mc, slots := ms, locals := 131 }
set_option maxHeartbeats 8000000 in
set_option maxRecDepth 100000 in
theorem c_X11_flush {l : Launch} {D : va_G} {cA : Nat → ClassId} {sz b L : Nat} {xs : Nat → Int32} {g0 m0 : gS} {p0 : Nat} {mc ms : Nat} {Q : Int32 → gS → gS → Prop} (h : w_X11_flush g0 m0 p0 b L xs mc ms Q) : Met l yX11_flush wsX11_flush (r_X11_flush mc ms) (va_Pc [.ref p0] (hPre D cA b L xs g0 m0 sz)) (hQi D cA g0 m0 sz Q) mc ms (hA g0 m0 sz) := by
  refine h_met (cc := cX11_flush) (maxL := 3) (ret := (some .boolean)) (own := RX11) (by decide) rfl rfl (Nat.le_of_ble_eq_true rfl) ?_
  intro p e s m args below meth c ls CF hr hlk hnm hc hl
  obtain ⟨hx, hb, hml, hown, hts⟩ := id CF
  have hl : lv_has ls 3 [(0, .ref p0)] := hl
  have hroom : 0 ≤ mc ∧ 0 ≤ ms := ⟨Nat.zero_le _, Nat.zero_le _⟩
  show W p l e (r_X11_flush mc ms) s m args below meth c s.heap [] 0 0 (MQ below (hQi D cA g0 m0 sz Q) args s mc ms (hA g0 m0 sz)) (F0 m 0 ls [])
  have hb_198 : ∀ (g : gS) (gm : gS) (C : Nat) (S : Nat) (is0 : Int32), b_X11_flush_198 g gm C S is0 b L xs mc ms Q → (C ≤ mc ∧ S ≤ ms) → ∀ (H : Heap) (locs : List Loc) (ls : Array Slot), hC D cA (hA g0 m0 sz) s b L xs g gm H locs → lv_has ls 3 [] → W p l e (r_X11_flush mc ms) s m args below meth c H locs C S (MQ below (hQi D cA g0 m0 sz Q) args s mc ms (hA g0 m0 sz)) (F0 m 198 ls [.int is0]) := by
    intro g gm C S is0 h hroom H locs ls hc hl
    unfold b_X11_flush_198 at h
    refine W.widen (k := mc) (n := ms) hroom.1 hroom.2 ?_
    obtain ⟨hz1, h⟩ := h
    exact h_reti (r := is0) CF hr hlk hc (narrow_01 hz1) h dX11_flush_198
  have hb_179 : ∀ (g : gS) (gm : gS) (C : Nat) (S : Nat) (r0 : Nat) (o1 : Option Nat), b_X11_flush_179 g gm C S r0 o1 b L xs mc ms Q → (C ≤ mc ∧ S ≤ ms) → ∀ (H : Heap) (locs : List Loc) (ls : Array Slot), hC D cA (hA g0 m0 sz) s b L xs g gm H locs → lv_has ls 3 [(0, .ref r0), (1, va_rf o1)] → W p l e (r_X11_flush mc ms) s m args below meth c H locs C S (MQ below (hQi D cA g0 m0 sz Q) args s mc ms (hA g0 m0 sz)) (F0 m 179 ls []) := by
    intro g gm C S r0 o1 h hroom H locs ls hc hl
    unfold b_X11_flush_179 at h
    refine lv_aload_n hx hb dX11_flush_179 rfl (lv_at hl 0 rfl) ?_
    obtain ⟨hk2, h⟩ := h
    obtain ⟨y3, e4, h⟩ := h
    refine g_getr CF hc.1 hk2 rfl (by decide) (fun _ h9 => List.mem_cons_of_mem _ (List.mem_append_left _ (List.mem_append_left _ (List.mem_append_left _ (List.mem_append_left _ (List.mem_append_left _ (List.mem_append_right _ (h9)))))))) (k := 0) (by decide) (List.mem_cons_of_mem _ (List.mem_append_left _ (List.mem_append_left _ (List.mem_append_left _ (List.mem_append_left _ (List.mem_append_left _ (List.mem_append_left _ (List.mem_append_left _ (List.mem_of_getElem? (i := 9) rfl))))))))) e4 rfl dX11_flush_180 ?_
    obtain ⟨hk5, h⟩ := h
    refine h_calli (va_runV (As := []) (rest := []) CF (c_X10_flush h) (cwV 0 hts gX11_flush_X10_flush rfl rfl rfl (by decide +kernel) ⟨Nat.le_of_ble_eq_true rfl, Nat.le_of_ble_eq_true rfl⟩) (hc.swap.1.preV hk5 rfl (by decide)) rfl rfl hl.1 rfl (lv_room (Nat.le_of_ble_eq_true rfl)) dX11_flush_183 hroom) hc (fun x6 m8 H locs hq hc => ?_)
    replace h := hq
    refine g_aload_nq CF dX11_flush_186 rfl (lv_at hl 1 rfl) ?_
    obtain ⟨y9, e10, hu11⟩ := h
    subst e10
    have h := hu11
    obtain ⟨hk12, h⟩ := h
    refine g_alen CF hc.1 (j := 0) hk12 (by decide) dX11_flush_187 ?_
    refine lv_iconst (v := 1) hx hb dX11_flush_188 (by decide) ?_
    refine lv_isub hx hb dX11_flush_189 ?_
    refine lv_icmp_ne (tgt := 197) hx hb dX11_flush_190 (by decide) (fun c13 => ?_) (fun c13 => ?_)
    · have h := h.2 c13
      refine lv_iconst (v := 0) hx hb dX11_flush_197 (by decide) ?_
      exact hb_198 g m8 C S 0 h hroom _ _ _ hc (lv_sub hl [] rfl)
    · have h := h.1 c13
      refine lv_iconst (v := 1) hx hb dX11_flush_193 (by decide) ?_
      refine lv_goto (tgt := 198) hx hb dX11_flush_194 (by decide) ?_
      exact hb_198 g m8 C S 1 h hroom _ _ _ hc (lv_sub hl [] rfl)
  have hb_100 : ∀ (gm : gS) (r0 : Nat) (o1 : Option Nat), ∀ (g : gS) (C : Nat) (S : Nat) (i2 : Int32), lpx4 (l_X11_flush_100 gm r0 o1 b L xs mc ms Q) g C S i2 → (C ≤ mc ∧ S ≤ ms) → ∀ (H : Heap) (locs : List Loc) (ls : Array Slot), hC D cA (hA g0 m0 sz) s b L xs g gm H locs → lv_has ls 3 [(0, .ref r0), (1, va_rf o1), (2, .int i2)] → W p l e (r_X11_flush mc ms) s m args below meth c H locs C S (MQ below (hQi D cA g0 m0 sz Q) args s mc ms (hA g0 m0 sz)) (F0 m 100 ls []) := by
    intro gm r0 o1
    refine lpx4_run (P := fun (g : gS) (C : Nat) (S : Nat) (i2 : Int32) => (C ≤ mc ∧ S ≤ ms) → ∀ (H : Heap) (locs : List Loc) (ls : Array Slot), hC D cA (hA g0 m0 sz) s b L xs g gm H locs → lv_has ls 3 [(0, .ref r0), (1, va_rf o1), (2, .int i2)] → W p l e (r_X11_flush mc ms) s m args below meth c H locs C S (MQ below (hQi D cA g0 m0 sz Q) args s mc ms (hA g0 m0 sz)) (F0 m 100 ls [])) ?_
    intro k100 hk_100 g C S i2 h hroom H locs ls hc hl
    unfold l_X11_flush_100 at h
    refine lv_iload_n hx hb dX11_flush_100 rfl (lv_at hl 2 rfl) ?_
    refine lv_iconst (v := 2) hx hb dX11_flush_101 (by decide) ?_
    refine lv_icmp_le (tgt := 179) hx hb dX11_flush_102 (by decide) (fun c14 => ?_) (fun c14 => ?_)
    · have h := h.1 c14
      exact hb_179 g gm C S r0 o1 h hroom _ _ _ hc (lv_sub hl [0, 1] rfl)
    · have h := h.2 c14
      refine lv_aload_n hx hb dX11_flush_105 rfl (lv_at hl 0 rfl) ?_
      obtain ⟨hk15, h⟩ := h
      obtain ⟨y16, e17, h⟩ := h
      refine g_getr CF hc.1 hk15 rfl (by decide) (fun _ h9 => List.mem_cons_of_mem _ (List.mem_append_left _ (List.mem_append_left _ (List.mem_append_left _ (List.mem_append_left _ (List.mem_append_left _ (List.mem_append_right _ (h9)))))))) (k := 12) (by decide) (List.mem_cons_of_mem _ (List.mem_append_left _ (List.mem_append_left _ (List.mem_append_left _ (List.mem_append_left _ (List.mem_append_left _ (List.mem_append_left _ (List.mem_append_left _ (List.mem_of_getElem? (i := 3) rfl))))))))) e17 rfl dX11_flush_106 ?_
      refine lv_iload_n hx hb dX11_flush_109 rfl (lv_at hl 2 rfl) ?_
      refine lv_iconst (v := 1) hx hb dX11_flush_110 (by decide) ?_
      refine lv_isub hx hb dX11_flush_111 ?_
      obtain ⟨hk19, h⟩ := h
      obtain ⟨hi18, h⟩ := h
      obtain ⟨y20, e21, h⟩ := h
      refine h_aald CF hc hk19 (by decide) hi18 e21 dX11_flush_112 ?_
      refine lv_iconst (v := 0) hx hb dX11_flush_113 (by decide) ?_
      obtain ⟨hk23, h⟩ := h
      obtain ⟨hi22, h⟩ := h
      refine g_iald CF hc.1 hk23 hi22 dX11_flush_114 ?_
      refine lv_aload_n hx hb dX11_flush_115 rfl (lv_at hl 0 rfl) ?_
      obtain ⟨y24, e25, h⟩ := h
      refine g_getr CF hc.1 hk15 rfl (by decide) (fun _ h9 => List.mem_cons_of_mem _ (List.mem_append_left _ (List.mem_append_left _ (List.mem_append_left _ (List.mem_append_left _ (List.mem_append_left _ (List.mem_append_right _ (h9)))))))) (k := 12) (by decide) (List.mem_cons_of_mem _ (List.mem_append_left _ (List.mem_append_left _ (List.mem_append_left _ (List.mem_append_left _ (List.mem_append_left _ (List.mem_append_left _ (List.mem_append_left _ (List.mem_of_getElem? (i := 3) rfl))))))))) e25 rfl dX11_flush_116 ?_
      refine lv_iload_n hx hb dX11_flush_119 rfl (lv_at hl 2 rfl) ?_
      refine lv_iconst (v := 2) hx hb dX11_flush_120 (by decide) ?_
      refine lv_isub hx hb dX11_flush_121 ?_
      obtain ⟨hk27, h⟩ := h
      obtain ⟨hi26, h⟩ := h
      obtain ⟨y28, e29, h⟩ := h
      refine h_aald CF hc hk27 (by decide) hi26 e29 dX11_flush_122 ?_
      refine lv_iconst (v := 0) hx hb dX11_flush_123 (by decide) ?_
      obtain ⟨hk31, h⟩ := h
      obtain ⟨hi30, h⟩ := h
      refine g_iald CF hc.1 hk31 hi30 dX11_flush_124 ?_
      refine lv_icmp_ne (tgt := 179) hx hb dX11_flush_125 (by decide) (fun c32 => ?_) (fun c32 => ?_)
      · have h := h.2 c32
        exact hb_179 g gm C S r0 o1 h hroom _ _ _ hc (lv_sub hl [0, 1] rfl)
      · have h := h.1 c32
        refine lv_aload_n hx hb dX11_flush_128 rfl (lv_at hl 0 rfl) ?_
        obtain ⟨y33, e34, h⟩ := h
        refine g_getr CF hc.1 hk15 rfl (by decide) (fun _ h9 => List.mem_cons_of_mem _ (List.mem_append_left _ (List.mem_append_left _ (List.mem_append_left _ (List.mem_append_left _ (List.mem_append_left _ (List.mem_append_right _ (h9)))))))) (k := 12) (by decide) (List.mem_cons_of_mem _ (List.mem_append_left _ (List.mem_append_left _ (List.mem_append_left _ (List.mem_append_left _ (List.mem_append_left _ (List.mem_append_left _ (List.mem_append_left _ (List.mem_of_getElem? (i := 3) rfl))))))))) e34 rfl dX11_flush_129 ?_
        refine lv_iload_n hx hb dX11_flush_132 rfl (lv_at hl 2 rfl) ?_
        refine lv_iconst (v := 2) hx hb dX11_flush_133 (by decide) ?_
        refine lv_isub hx hb dX11_flush_134 ?_
        obtain ⟨hk36, h⟩ := h
        obtain ⟨hi35, h⟩ := h
        obtain ⟨y37, e38, h⟩ := h
        refine h_aald CF hc hk36 (by decide) hi35 e38 dX11_flush_135 ?_
        refine lv_iconst (v := 0) hx hb dX11_flush_136 (by decide) ?_
        obtain ⟨hk40, h⟩ := h
        obtain ⟨hi39, h⟩ := h
        refine g_iald CF hc.1 hk40 hi39 dX11_flush_137 ?_
        refine lv_aload_n hx hb dX11_flush_138 rfl (lv_at hl 0 rfl) ?_
        obtain ⟨y41, e42, h⟩ := h
        refine g_getr CF hc.1 hk15 rfl (by decide) (fun _ h9 => List.mem_cons_of_mem _ (List.mem_append_left _ (List.mem_append_left _ (List.mem_append_left _ (List.mem_append_left _ (List.mem_append_left _ (List.mem_append_right _ (h9)))))))) (k := 12) (by decide) (List.mem_cons_of_mem _ (List.mem_append_left _ (List.mem_append_left _ (List.mem_append_left _ (List.mem_append_left _ (List.mem_append_left _ (List.mem_append_left _ (List.mem_append_left _ (List.mem_of_getElem? (i := 3) rfl))))))))) e42 rfl dX11_flush_139 ?_
        refine lv_iload_n hx hb dX11_flush_142 rfl (lv_at hl 2 rfl) ?_
        refine lv_iconst (v := 3) hx hb dX11_flush_143 (by decide) ?_
        refine lv_isub hx hb dX11_flush_144 ?_
        obtain ⟨hk44, h⟩ := h
        obtain ⟨hi43, h⟩ := h
        obtain ⟨y45, e46, h⟩ := h
        refine h_aald CF hc hk44 (by decide) hi43 e46 dX11_flush_145 ?_
        refine lv_iconst (v := 0) hx hb dX11_flush_146 (by decide) ?_
        obtain ⟨hk48, h⟩ := h
        obtain ⟨hi47, h⟩ := h
        refine g_iald CF hc.1 hk48 hi47 dX11_flush_147 ?_
        refine lv_icmp_ne (tgt := 179) hx hb dX11_flush_148 (by decide) (fun c49 => ?_) (fun c49 => ?_)
        · have h := h.2 c49
          exact hb_179 g gm C S r0 o1 h hroom _ _ _ hc (lv_sub hl [0, 1] rfl)
        · have h := h.1 c49
          refine lv_aload_n hx hb dX11_flush_151 rfl (lv_at hl 0 rfl) ?_
          refine lv_iload_n hx hb dX11_flush_152 rfl (lv_at hl 2 rfl) ?_
          refine lv_iconst (v := 3) hx hb dX11_flush_153 (by decide) ?_
          refine lv_isub hx hb dX11_flush_154 ?_
          refine lv_aload_n hx hb dX11_flush_155 rfl (lv_at hl 0 rfl) ?_
          obtain ⟨y50, e51, h⟩ := h
          refine g_getr CF hc.1 hk15 rfl (by decide) (fun _ h9 => List.mem_cons_of_mem _ (List.mem_append_left _ (List.mem_append_left _ (List.mem_append_left _ (List.mem_append_left _ (List.mem_append_left _ (List.mem_append_right _ (h9)))))))) (k := 12) (by decide) (List.mem_cons_of_mem _ (List.mem_append_left _ (List.mem_append_left _ (List.mem_append_left _ (List.mem_append_left _ (List.mem_append_left _ (List.mem_append_left _ (List.mem_append_left _ (List.mem_of_getElem? (i := 3) rfl))))))))) e51 rfl dX11_flush_156 ?_
          refine lv_iload_n hx hb dX11_flush_159 rfl (lv_at hl 2 rfl) ?_
          refine lv_iconst (v := 1) hx hb dX11_flush_160 (by decide) ?_
          refine lv_isub hx hb dX11_flush_161 ?_
          obtain ⟨hk53, h⟩ := h
          obtain ⟨hi52, h⟩ := h
          obtain ⟨y54, e55, h⟩ := h
          refine h_aald CF hc hk53 (by decide) hi52 e55 dX11_flush_162 ?_
          refine lv_iconst (v := 0) hx hb dX11_flush_163 (by decide) ?_
          obtain ⟨hk57, h⟩ := h
          obtain ⟨hi56, h⟩ := h
          refine g_iald CF hc.1 hk57 hi56 dX11_flush_164 ?_
          refine lv_iconst (v := 1) hx hb dX11_flush_165 (by decide) ?_
          refine lv_iadd hx hb dX11_flush_166 ?_
          obtain ⟨hroom58, h⟩ := h
          replace h := wm_X11_merge h
          refine hh_callv (va_runV (As := [.int (i2 - 3), .int ((gI g y54 (Int32.toNatClampNeg 0)) + 1)]) (rest := []) CF (c_X11_merge (mc := 20) (ms := 1300) h) (cwV 2 hts gX11_flush_X11_merge rfl rfl rfl (by decide +kernel) ⟨Nat.le_of_ble_eq_true rfl, Nat.le_of_ble_eq_true rfl⟩) (hc.preV hk15 rfl (by decide)) rfl rfl hl.1 rfl (lv_room (Nat.le_of_ble_eq_true rfl)) dX11_flush_167 hroom58) hc (fun g60 m61 H locs hq hc => ?_)
          obtain ⟨rfl, h⟩ := hq
          have hroom := hroom58
          refine lv_aload_n hx hb dX11_flush_170 rfl (lv_at hl 0 rfl) ?_
          obtain ⟨hk62, h⟩ := h
          obtain ⟨y63, e64, h⟩ := h
          refine g_getr CF hc.1 hk62 rfl (by decide) (fun _ h9 => List.mem_cons_of_mem _ (List.mem_append_left _ (List.mem_append_left _ (List.mem_append_left _ (List.mem_append_left _ (List.mem_append_left _ (List.mem_append_right _ (h9)))))))) (k := 12) (by decide) (List.mem_cons_of_mem _ (List.mem_append_left _ (List.mem_append_left _ (List.mem_append_left _ (List.mem_append_left _ (List.mem_append_left _ (List.mem_append_left _ (List.mem_append_left _ (List.mem_of_getElem? (i := 3) rfl))))))))) e64 rfl dX11_flush_171 ?_
          obtain ⟨hk65, h⟩ := h
          refine g_alen CF hc.1 (j := 3) hk65 (by decide) dX11_flush_174 ?_
          refine lv_istore_n (lv' := [(2, .int (nI (gN g60 y63))), (0, .ref r0), (1, va_rf o1)]) hx hb dX11_flush_175 rfl hl (by decide) (by cases o1 <;> rfl) (fun ls hl => ?_)
          refine lv_goto (tgt := 100) hx hb dX11_flush_176 (by decide) ?_
          exact hk_100 g60 (C + 20) (S + 1300) (nI (gN g60 y63)) h hroom _ _ _ hc (lv_sub hl [1, 2, 0] rfl)
  have hb_94 : ∀ (g : gS) (gm : gS) (C : Nat) (S : Nat) (r0 : Nat) (o1 : Option Nat), b_X11_flush_94 g gm C S r0 o1 b L xs mc ms Q → (C ≤ mc ∧ S ≤ ms) → ∀ (H : Heap) (locs : List Loc) (ls : Array Slot), hC D cA (hA g0 m0 sz) s b L xs g gm H locs → lv_has ls 3 [(0, .ref r0), (1, va_rf o1)] → W p l e (r_X11_flush mc ms) s m args below meth c H locs C S (MQ below (hQi D cA g0 m0 sz Q) args s mc ms (hA g0 m0 sz)) (F0 m 94 ls []) := by
    intro g gm C S r0 o1 h hroom H locs ls hc hl
    unfold b_X11_flush_94 at h
    refine lv_aload_n hx hb dX11_flush_94 rfl (lv_at hl 0 rfl) ?_
    obtain ⟨hk66, h⟩ := h
    obtain ⟨y67, e68, h⟩ := h
    refine g_getr CF hc.1 hk66 rfl (by decide) (fun _ h9 => List.mem_cons_of_mem _ (List.mem_append_left _ (List.mem_append_left _ (List.mem_append_left _ (List.mem_append_left _ (List.mem_append_left _ (List.mem_append_right _ (h9)))))))) (k := 12) (by decide) (List.mem_cons_of_mem _ (List.mem_append_left _ (List.mem_append_left _ (List.mem_append_left _ (List.mem_append_left _ (List.mem_append_left _ (List.mem_append_left _ (List.mem_append_left _ (List.mem_of_getElem? (i := 3) rfl))))))))) e68 rfl dX11_flush_95 ?_
    obtain ⟨hk69, h⟩ := h
    refine g_alen CF hc.1 (j := 3) hk69 (by decide) dX11_flush_98 ?_
    refine lv_istore_n (lv' := [(2, .int (nI (gN g y67))), (0, .ref r0), (1, va_rf o1)]) hx hb dX11_flush_99 rfl hl (by decide) (by cases o1 <;> rfl) (fun ls hl => ?_)
    exact hb_100 gm r0 o1 g C S (nI (gN g y67)) h hroom _ _ _ hc (lv_sub hl [1, 2, 0] rfl)
  have hb_10 : ∀ (gm : gS) (r0 : Nat), ∀ (g : gS) (C : Nat) (S : Nat) (o1 : Option Nat) (i2 : Int32), lpx5 (l_X11_flush_10 gm r0 b L xs mc ms Q) g C S o1 i2 → (C ≤ mc ∧ S ≤ ms) → ∀ (H : Heap) (locs : List Loc) (ls : Array Slot), hC D cA (hA g0 m0 sz) s b L xs g gm H locs → lv_has ls 3 [(0, .ref r0), (1, va_rf o1), (2, .int i2)] → W p l e (r_X11_flush mc ms) s m args below meth c H locs C S (MQ below (hQi D cA g0 m0 sz Q) args s mc ms (hA g0 m0 sz)) (F0 m 10 ls []) := by
    intro gm r0
    refine lpx5_run (P := fun (g : gS) (C : Nat) (S : Nat) (o1 : Option Nat) (i2 : Int32) => (C ≤ mc ∧ S ≤ ms) → ∀ (H : Heap) (locs : List Loc) (ls : Array Slot), hC D cA (hA g0 m0 sz) s b L xs g gm H locs → lv_has ls 3 [(0, .ref r0), (1, va_rf o1), (2, .int i2)] → W p l e (r_X11_flush mc ms) s m args below meth c H locs C S (MQ below (hQi D cA g0 m0 sz Q) args s mc ms (hA g0 m0 sz)) (F0 m 10 ls [])) ?_
    intro k10 hk_10 g C S o1 i2 h hroom H locs ls hc hl
    have hb_43 : ∀ (g : gS) (C : Nat) (S : Nat) (o1 : Option Nat) (i2 : Int32), b_X11_flush_43 g gm C S r0 o1 i2 b L xs mc ms Q k10 → (C ≤ mc ∧ S ≤ ms) → ∀ (H : Heap) (locs : List Loc) (ls : Array Slot), hC D cA (hA g0 m0 sz) s b L xs g gm H locs → lv_has ls 3 [(0, .ref r0), (1, va_rf o1), (2, .int i2)] → W p l e (r_X11_flush mc ms) s m args below meth c H locs C S (MQ below (hQi D cA g0 m0 sz Q) args s mc ms (hA g0 m0 sz)) (F0 m 43 ls []) := by
      intro g C S o1 i2 h hroom H locs ls hc hl
      unfold b_X11_flush_43 at h
      refine lv_iinc (v := (i2 + 1)) (lv' := [(2, .int (i2 + 1)), (0, .ref r0), (1, va_rf o1)]) hx hb dX11_flush_43 hl (k := 2) rfl rfl (by decide) (by cases o1 <;> rfl) (fun ls hl => ?_)
      refine lv_goto (tgt := 10) hx hb dX11_flush_46 (by decide) ?_
      exact hk_10 g C S o1 (i2 + 1) h hroom _ _ _ hc (lv_sub hl [1, 2, 0] rfl)
    unfold l_X11_flush_10 at h
    refine lv_iload_n hx hb dX11_flush_10 rfl (lv_at hl 2 rfl) ?_
    refine lv_aload_n hx hb dX11_flush_11 rfl (lv_at hl 0 rfl) ?_
    obtain ⟨hk70, h⟩ := h
    refine g_get CF hc.1 hk70 rfl (by decide) (fun _ h9 => List.mem_cons_of_mem _ (List.mem_append_left _ (List.mem_append_left _ (List.mem_append_left _ (List.mem_append_left _ (List.mem_append_left _ (List.mem_append_right _ (h9)))))))) (k := 3) (by decide) (List.mem_cons_of_mem _ (List.mem_append_left _ (List.mem_append_left _ (List.mem_append_left _ (List.mem_append_left _ (List.mem_append_left _ (List.mem_append_left _ (List.mem_append_left _ (List.mem_of_getElem? (i := 1) rfl))))))))) rfl dX11_flush_12 ?_
    refine lv_icmp_ge (tgt := 49) hx hb dX11_flush_15 (by decide) (fun c71 => ?_) (fun c71 => ?_)
    · have h := h.1 c71
      refine g_aload_nq CF dX11_flush_49 rfl (lv_at hl 1 rfl) ?_
      obtain ⟨y72, e73, hu74⟩ := h
      subst e73
      have h := hu74
      obtain ⟨hk75, h⟩ := h
      refine g_alen CF hc.1 (j := 0) hk75 (by decide) dX11_flush_50 ?_
      refine lv_iconst (v := 1) hx hb dX11_flush_51 (by decide) ?_
      refine lv_icmp_le (tgt := 94) hx hb dX11_flush_52 (by decide) (fun c76 => ?_) (fun c76 => ?_)
      · have h := h.1 c76
        exact hb_94 g gm C S r0 (some y72) h hroom _ _ _ hc (lv_sub hl [0, 1] rfl)
      · have h := h.2 c76
        refine lv_aload_n hx hb dX11_flush_55 rfl (lv_at hl 0 rfl) ?_
        obtain ⟨y77, e78, h⟩ := h
        refine g_getr CF hc.1 hk70 rfl (by decide) (fun _ h9 => List.mem_cons_of_mem _ (List.mem_append_left _ (List.mem_append_left _ (List.mem_append_left _ (List.mem_append_left _ (List.mem_append_left _ (List.mem_append_right _ (h9)))))))) (k := 12) (by decide) (List.mem_cons_of_mem _ (List.mem_append_left _ (List.mem_append_left _ (List.mem_append_left _ (List.mem_append_left _ (List.mem_append_left _ (List.mem_append_left _ (List.mem_append_left _ (List.mem_of_getElem? (i := 3) rfl))))))))) e78 rfl dX11_flush_56 ?_
        obtain ⟨hk79, h⟩ := h
        refine g_alen CF hc.1 (j := 3) hk79 (by decide) dX11_flush_59 ?_
        refine lv_iconst (v := 1) hx hb dX11_flush_60 (by decide) ?_
        refine lv_iadd hx hb dX11_flush_61 ?_
        obtain ⟨hn82, h⟩ := h
        obtain ⟨hroom83, h⟩ := h
        refine g_newr CF hc.join (List.mem_cons_of_mem _ (List.mem_append_left _ (List.mem_append_left _ (List.mem_append_left _ (List.mem_append_left _ (List.mem_append_left _ (List.mem_append_left _ (List.mem_append_left _ (List.mem_of_getElem? (i := 4) rfl))))))))) (n := ((nI (gN g y77)) + 1)) (N := (Int32.toNatClampNeg ((nI (gN g y77)) + 1))) hn82.1 rfl (by have := hn82.2; omega) hroom83.1 hroom83.2 dX11_flush_62 (fun q80 H locs hq81 hc1 => ?_)
        obtain ⟨hf84, hf84m, hc⟩ := hc.made hq81 (by decide) hc1
        replace h := h q80 hf84
        have hroom := hroom83
        have hc := hc
        obtain ⟨g85, eg86⟩ : ∃ z, z = sNew g q80 24 (Int32.toNatClampNeg ((nI (gN g y77)) + 1)) := ⟨_, rfl⟩
        have hc : hC D cA (hA g0 m0 sz) s b L xs g85 gm H locs := by rw [eg86]; exact hc
        replace h := h g85 eg86
        refine lv_astore_n (lv' := [(2, .ref q80), (0, .ref r0), (1, .ref y72)]) hx hb dX11_flush_65 rfl hl (by decide) rfl (fun ls hl => ?_)
        refine lv_aload_n hx hb dX11_flush_66 rfl (lv_at hl 1 rfl) ?_
        obtain ⟨hk87, h⟩ := h
        obtain ⟨y88, e89, h⟩ := h
        refine g_getr CF hc.1 hk87 rfl (by decide) (fun _ h9 => List.mem_cons_of_mem _ (List.mem_append_left _ (List.mem_append_left _ (List.mem_append_left _ (List.mem_append_left _ (List.mem_append_left _ (List.mem_append_right _ (h9)))))))) (k := 12) (by decide) (List.mem_cons_of_mem _ (List.mem_append_left _ (List.mem_append_left _ (List.mem_append_left _ (List.mem_append_left _ (List.mem_append_left _ (List.mem_append_left _ (List.mem_append_left _ (List.mem_of_getElem? (i := 3) rfl))))))))) e89 rfl dX11_flush_67 ?_
        refine lv_iconst (v := 0) hx hb dX11_flush_70 (by decide) ?_
        refine lv_aload_n hx hb dX11_flush_71 rfl (lv_at hl 0 rfl) ?_
        refine lv_iconst (v := 0) hx hb dX11_flush_72 (by decide) ?_
        refine lv_aload_n hx hb dX11_flush_73 rfl (lv_at hl 1 rfl) ?_
        obtain ⟨y90, e91, h⟩ := h
        refine g_getr CF hc.1 hk87 rfl (by decide) (fun _ h9 => List.mem_cons_of_mem _ (List.mem_append_left _ (List.mem_append_left _ (List.mem_append_left _ (List.mem_append_left _ (List.mem_append_left _ (List.mem_append_right _ (h9)))))))) (k := 12) (by decide) (List.mem_cons_of_mem _ (List.mem_append_left _ (List.mem_append_left _ (List.mem_append_left _ (List.mem_append_left _ (List.mem_append_left _ (List.mem_append_left _ (List.mem_append_left _ (List.mem_of_getElem? (i := 3) rfl))))))))) e91 rfl dX11_flush_74 ?_
        obtain ⟨hk92, h⟩ := h
        refine g_alen CF hc.1 (j := 3) hk92 (by decide) dX11_flush_77 ?_
        obtain ⟨hk93, h⟩ := h
        obtain ⟨hk94, h⟩ := h
        obtain ⟨hn95, h⟩ := h
        refine g_copyr CF hc.join hl.1 (List.mem_cons_of_mem _ (List.mem_append_left _ (List.mem_append_left _ (List.mem_append_left _ (List.mem_append_left _ (List.mem_append_left _ (List.mem_append_left _ (List.mem_append_left _ (List.mem_of_getElem? (i := 5) rfl))))))))) (List.mem_cons_of_mem _ (List.mem_append_left _ (List.mem_append_left _ (List.mem_append_left _ (List.mem_append_left _ (List.mem_append_left _ (List.mem_append_left _ (List.mem_append_left _ (List.mem_of_getElem? (i := 6) rfl))))))))) (List.mem_cons_of_mem _ (List.mem_append_left _ (List.mem_append_left _ (List.mem_append_left _ (List.mem_append_left _ (List.mem_append_left _ (List.mem_append_left _ (List.mem_append_left _ (List.mem_of_getElem? (i := 7) rfl))))))))) (List.mem_cons_of_mem _ (List.mem_append_left _ (List.mem_append_left _ (List.mem_append_left _ (List.mem_append_left _ (List.mem_append_left _ (List.mem_append_left _ (List.mem_append_left _ (List.mem_of_getElem? (i := 8) rfl))))))))) (hc.jk hk93 (by decide)) (hc.jk hk94 (by decide)) (sp := 0) (dp := 0) (n := (nI (gN g85 y90))) (by decide) (by decide) hn95.1 (by rw [hc.jn (by rw [hk93]; decide)]; exact hn95.2.1) (by rw [hc.jn (by rw [hk94]; decide)]; exact hn95.2.2.1) (fun i hi y hy => by rw [gR_jl (hc.ap (by rw [hk93]; decide))] at hy; exact hc.jk (hn95.2.2.2 i hi y hy) (by decide)) (Nat.le_of_ble_eq_true rfl) (by show (List.map (fun v : Value => v.category) []).sum + (nativeFrameWords "java/lang/System" "arraycopy" 5 + 11) ≤ 131; decide +kernel) dX11_flush_78 (fun H locs hc1 => ?_)
        rw [gR_jl (hc.ap (by rw [hk93]; decide)), gR_jl (hc.ap (by rw [hk94]; decide))] at hc1
        have hc := hc.putR (by rw [hk94]; decide) hc1
        obtain ⟨g96, eg97⟩ : ∃ z, z = sR g85 q80 (va_cpy (gR g85 y88) (gR g85 q80) (Int32.toNatClampNeg 0) (Int32.toNatClampNeg 0) (Int32.toNatClampNeg (nI (gN g85 y90)))) := ⟨_, rfl⟩
        have hc : hC D cA (hA g0 m0 sz) s b L xs g96 gm H locs := by rw [eg97]; exact hc
        replace h := h g96 eg97
        refine lv_aload_n hx hb dX11_flush_81 rfl (lv_at hl 0 rfl) ?_
        refine lv_aload_n hx hb dX11_flush_82 rfl (lv_at hl 1 rfl) ?_
        obtain ⟨hk98, h⟩ := h
        obtain ⟨y99, e100, h⟩ := h
        refine g_getr CF hc.1 hk98 rfl (by decide) (fun _ h9 => List.mem_cons_of_mem _ (List.mem_append_left _ (List.mem_append_left _ (List.mem_append_left _ (List.mem_append_left _ (List.mem_append_left _ (List.mem_append_right _ (h9)))))))) (k := 12) (by decide) (List.mem_cons_of_mem _ (List.mem_append_left _ (List.mem_append_left _ (List.mem_append_left _ (List.mem_append_left _ (List.mem_append_left _ (List.mem_append_left _ (List.mem_append_left _ (List.mem_of_getElem? (i := 3) rfl))))))))) e100 rfl dX11_flush_83 ?_
        obtain ⟨hk101, h⟩ := h
        refine g_alen CF hc.1 (j := 3) hk101 (by decide) dX11_flush_86 ?_
        refine lv_aload_n hx hb dX11_flush_87 rfl (lv_at hl 2 rfl) ?_
        obtain ⟨hk102, h⟩ := h
        obtain ⟨hk104, h⟩ := h
        obtain ⟨hi103, h⟩ := h
        refine g_aastr CF hc.join (hc.jk hk102 (by decide)) (hc.jk hk104 (by decide)) (by rw [hc.jn (by rw [hk102]; decide)]; exact hi103) dX11_flush_88 (fun H locs hc1 => ?_)
        have hc := hc.putV (by rw [hk102]; decide) hc1
        obtain ⟨g105, eg106⟩ : ∃ z, z = sV g96 q80 (Int32.toNatClampNeg (nI (gN g96 y99))) (some y72) := ⟨_, rfl⟩
        have hc : hC D cA (hA g0 m0 sz) s b L xs g105 gm H locs := by rw [eg106]; exact hc
        replace h := h g105 eg106
        refine lv_aload_n hx hb dX11_flush_89 rfl (lv_at hl 1 rfl) ?_
        refine lv_aload_n hx hb dX11_flush_90 rfl (lv_at hl 0 rfl) ?_
        obtain ⟨hk107, h⟩ := h
        refine g_putr CF hc.join (hc.jk hk107 (by decide)) rfl (by decide) (fun _ h9 => List.mem_cons_of_mem _ (List.mem_append_left _ (List.mem_append_left _ (List.mem_append_left _ (List.mem_append_left _ (List.mem_append_left _ (List.mem_append_right _ (h9)))))))) tyX11 tyX11_ok nmX11 (k := 12) (by decide) (List.mem_cons_of_mem _ (List.mem_append_left _ (List.mem_append_left _ (List.mem_append_left _ (List.mem_append_left _ (List.mem_append_left _ (List.mem_append_left _ (List.mem_append_left _ (List.mem_of_getElem? (i := 3) rfl))))))))) rfl (some q80) narrow_ra fits_ra rfl dX11_flush_91 (fun H locs hc1 => ?_)
        have hc := hc.putV (by rw [hk107]; decide) hc1
        obtain ⟨g108, eg109⟩ : ∃ z, z = sV g105 r0 12 (some q80) := ⟨_, rfl⟩
        have hc : hC D cA (hA g0 m0 sz) s b L xs g108 gm H locs := by rw [eg109]; exact hc
        replace h := h g108 eg109
        exact hb_94 g108 gm (C + 1) (S + (Int32.toNatClampNeg ((nI (gN g y77)) + 1))) r0 (some y72) h hroom _ _ _ hc (lv_sub hl [1, 2] rfl)
    · have h := h.2 c71
      refine lv_aload_n hx hb dX11_flush_18 rfl (lv_at hl 0 rfl) ?_
      obtain ⟨y110, e111, h⟩ := h
      refine g_getr CF hc.1 hk70 rfl (by decide) (fun _ h9 => List.mem_cons_of_mem _ (List.mem_append_left _ (List.mem_append_left _ (List.mem_append_left _ (List.mem_append_left _ (List.mem_append_left _ (List.mem_append_right _ (h9)))))))) (k := 8) (by decide) (List.mem_cons_of_mem _ (List.mem_append_left _ (List.mem_append_left _ (List.mem_append_left _ (List.mem_append_left _ (List.mem_append_left _ (List.mem_append_left _ (List.mem_append_left _ (List.mem_of_getElem? (i := 2) rfl))))))))) e111 rfl dX11_flush_19 ?_
      refine lv_iload_n hx hb dX11_flush_22 rfl (lv_at hl 2 rfl) ?_
      obtain ⟨hk113, h⟩ := h
      obtain ⟨hi112, h⟩ := h
      refine g_iald CF hc.1 hk113 hi112 dX11_flush_23 ?_
      refine lv_if_eq (tgt := 30) hx hb dX11_flush_24 (by decide) (fun c114 => ?_) (fun c114 => ?_)
      · have h := h.1 c114
        refine g_aload_nq CF dX11_flush_30 rfl (lv_at hl 1 rfl) ?_
        refine lv_iload_n hx hb dX11_flush_31 rfl (lv_at hl 2 rfl) ?_
        obtain ⟨y115, e116, hu117⟩ := h
        subst e116
        have h := hu117
        obtain ⟨hroom118, h⟩ := h
        replace h := wm_X11_with h
        refine hh_callq (va_runS (As := [.ref y115, .int i2]) (rest := []) CF (c_X11_with (mc := 1) (ms := 64) h) (va_cwS 2 hts gX11_flush_X11_with rfl rfl rfl (by decide +kernel) ⟨Nat.le_of_ble_eq_true rfl, Nat.le_of_ble_eq_true rfl⟩) hc.preS rfl rfl hl.1 rfl (lv_room (Nat.le_of_ble_eq_true rfl)) dX11_flush_32 hroom118) hc (fun o119 g120 m121 H locs hq hc => ?_)
        obtain ⟨rfl, h⟩ := hq
        have hroom := hroom118
        refine g_astore_nq (lv' := [(1, va_rf o119), (0, .ref r0), (2, .int i2)]) CF dX11_flush_35 rfl hl (by decide) rfl (fun ls hl => ?_)
        refine lv_aload_n hx hb dX11_flush_36 rfl (lv_at hl 1 rfl) ?_
        obtain ⟨hk122, h⟩ := h
        obtain ⟨y123, e124, h⟩ := h
        refine g_getr CF hc.1 hk122 rfl (by decide) (fun _ h9 => List.mem_cons_of_mem _ (List.mem_append_left _ (List.mem_append_left _ (List.mem_append_left _ (List.mem_append_left _ (List.mem_append_left _ (List.mem_append_right _ (h9)))))))) (k := 8) (by decide) (List.mem_cons_of_mem _ (List.mem_append_left _ (List.mem_append_left _ (List.mem_append_left _ (List.mem_append_left _ (List.mem_append_left _ (List.mem_append_left _ (List.mem_append_left _ (List.mem_of_getElem? (i := 2) rfl))))))))) e124 rfl dX11_flush_37 ?_
        refine lv_iload_n hx hb dX11_flush_40 rfl (lv_at hl 2 rfl) ?_
        refine lv_iconst (v := 1) hx hb dX11_flush_41 (by decide) ?_
        obtain ⟨hk125, h⟩ := h
        obtain ⟨hi126, h⟩ := h
        refine g_iast CF hc.join (hc.jk hk125 (by decide)) (x := 1) (by rw [hc.jn (by rw [hk125]; decide)]; exact hi126) dX11_flush_42 (fun H locs hc1 => ?_)
        have hc := hc.putU (by rw [hk125]; decide) hc1
        obtain ⟨g127, eg128⟩ : ∃ z, z = sU g120 y123 (Int32.toNatClampNeg i2) 1 := ⟨_, rfl⟩
        have hc : hC D cA (hA g0 m0 sz) s b L xs g127 gm H locs := by rw [eg128]; exact hc
        replace h := h g127 eg128
        exact hb_43 g127 (C + 1) (S + 64) o119 i2 h hroom _ _ _ hc (lv_sub hl [1, 0, 2] rfl)
      · have h := h.2 c114
        refine lv_goto (tgt := 43) hx hb dX11_flush_27 (by decide) ?_
        exact hb_43 g C S o1 i2 h hroom _ _ _ hc (lv_sub hl [0, 1, 2] rfl)
  unfold w_X11_flush at h
  obtain ⟨H, hH0⟩ : ∃ z, z = s.heap := ⟨_, rfl⟩
  rw [← hH0] at hc ⊢
  obtain ⟨locs, hlc0⟩ : ∃ z : List Loc, z = [] := ⟨_, rfl⟩
  rw [← hlc0] at hc ⊢
  refine lv_iconst (v := 1) hx hb dX11_flush_0 (by decide) ?_
  obtain ⟨hroom131, h⟩ := h
  refine g_newi CF hc.join (List.mem_cons_of_mem _ (List.mem_append_left _ (List.mem_append_left _ (List.mem_append_left _ (List.mem_append_left _ (List.mem_append_left _ (List.mem_append_left _ (List.mem_append_left _ (List.mem_of_getElem? (i := 0) rfl))))))))) (n := 1) (N := 1) (by decide) (by decide) (by decide) hroom131.1 hroom131.2 dX11_flush_1 (fun q129 H locs hq130 hc1 => ?_)
  obtain ⟨hf132, hf132m, hc⟩ := hc.made hq130 (by decide) hc1
  replace h := h q129 hf132
  have hroom := hroom131
  have hc := hc
  obtain ⟨g133, eg134⟩ : ∃ z, z = sNew g0 q129 21 1 := ⟨_, rfl⟩
  have hc : hC D cA (hA g0 m0 sz) s b L xs g133 m0 H locs := by rw [eg134]; exact hc
  replace h := h g133 eg134
  refine lv_dup hx hb dX11_flush_3 rfl ?_
  refine lv_iconst (v := 0) hx hb dX11_flush_4 (by decide) ?_
  refine lv_iconst (v := 0) hx hb dX11_flush_5 (by decide) ?_
  obtain ⟨hk135, h⟩ := h
  obtain ⟨hi136, h⟩ := h
  refine g_iast CF hc.join (hc.jk hk135 (by decide)) (x := 0) (by rw [hc.jn (by rw [hk135]; decide)]; exact hi136) dX11_flush_6 (fun H locs hc1 => ?_)
  have hc := hc.putU (by rw [hk135]; decide) hc1
  obtain ⟨g137, eg138⟩ : ∃ z, z = sU g133 q129 (Int32.toNatClampNeg 0) 0 := ⟨_, rfl⟩
  have hc : hC D cA (hA g0 m0 sz) s b L xs g137 m0 H locs := by rw [eg138]; exact hc
  replace h := h g137 eg138
  refine lv_astore_n (lv' := [(1, .ref q129), (0, .ref p0)]) hx hb dX11_flush_7 rfl hl (by decide) rfl (fun ls hl => ?_)
  refine lv_iconst (v := 0) hx hb dX11_flush_8 (by decide) ?_
  refine lv_istore_n (lv' := [(2, .int 0), (1, .ref q129), (0, .ref p0)]) hx hb dX11_flush_9 rfl hl (by decide) rfl (fun ls hl => ?_)
  exact hb_10 m0 p0 g137 (0 + 1) (0 + 1) (some q129) 0 h hroom _ _ _ hc (lv_sub hl [2, 1, 0] rfl)
def b_X11_compact_121 (g : gS) (gm : gS) (C : Nat) (S : Nat) (is0 : Int32) (b L : Nat) (xs : Nat → Int32) (mc ms : Nat) (Q : Int32 → gS → gS → Prop) : Prop :=
  (is0 = 0 ∨ is0 = 1) ∧ (Q is0 g gm)
def l_X11_compact_78 (g : gS) (gm : gS) (C : Nat) (S : Nat) (r0 : Nat) (r3 : Nat) (i4 : Int32) (b L : Nat) (xs : Nat → Int32) (mc ms : Nat) (Q : Int32 → gS → gS → Prop) (i2 : Int32) (i5 : Int32) (k78 : Int32 → Int32 → Prop) : Prop :=
  (i4 ≤ i5 → (gK g r0 = 12 ∧ (∃ y4, gR g r0 0 = some y4 ∧ (gK gm y4 = 11 ∧ (w_X10_compact gm y4 (fun x7 m9 => ((x7 = i2 → (b_X11_compact_121 g m9 C S 1 b L xs mc ms Q)) ∧ (¬ x7 = i2 → (b_X11_compact_121 g m9 C S 0 b L xs mc ms Q))))))))) ∧ (¬ i4 ≤ i5 → (gK g r3 = 24 ∧ (vp_in i5 (gN g r3) ∧ (∃ y13, gR g r3 (Int32.toNatClampNeg i5) = some y13 ∧ (gK g y13 = 21 ∧ (k78 (i2 - ((nI (gN g y13)) - 1)) (i5 + 1)))))))
def b_X11_compact_66 (g : gS) (gm : gS) (C : Nat) (S : Nat) (r0 : Nat) (i2 : Int32) (b L : Nat) (xs : Nat → Int32) (mc ms : Nat) (Q : Int32 → gS → gS → Prop) : Prop :=
  gK g r0 = 12 ∧ (∃ y17, gR g r0 12 = some y17 ∧ (gK g y17 = 24 ∧ (lpx2 (l_X11_compact_78 g gm C S r0 y17 (nI (gN g y17)) b L xs mc ms Q) i2 0)))
def l_X11_compact_16 (g : gS) (gm : gS) (C : Nat) (S : Nat) (r0 : Nat) (r3 : Nat) (i4 : Int32) (b L : Nat) (xs : Nat → Int32) (mc ms : Nat) (Q : Int32 → gS → gS → Prop) (i1 : Int32) (i2 : Int32) (i5 : Int32) (k16 : Int32 → Int32 → Int32 → Prop) : Prop :=
  (i4 ≤ i5 → (gK g r0 = 12 ∧ (∃ y22, gR g r0 12 = some y22 ∧ (gK g y22 = 24 ∧ (((nI (gN g y22)) ≤ 0 → (b_X11_compact_66 g gm C S r0 i2 b L xs mc ms Q)) ∧ (¬ (nI (gN g y22)) ≤ 0 → ((C + 20 ≤ mc ∧ S + 1300 ≤ ms) ∧ (w_X11_merge g gm r0 0 i1 20 1300 (fun g28 m29 => (b_X11_compact_66 g28 gm (C + 20) (S + 1300) r0 i2 b L xs mc ms Q)))))))))) ∧ (¬ i4 ≤ i5 → (gK g r3 = 24 ∧ (vp_in i5 (gN g r3) ∧ (∃ y32, gR g r3 (Int32.toNatClampNeg i5) = some y32 ∧ (gK g y32 = 21 ∧ (vp_in 0 (gN g y32) ∧ (k16 (if i1 < (gI g y32 (Int32.toNatClampNeg 0)) then (gI g y32 (Int32.toNatClampNeg 0)) else i1) (i2 + ((nI (gN g y32)) - 1)) (i5 + 1))))))))
def w_X11_compact (g0 m0 : gS) (p0 : Nat) (b L : Nat) (xs : Nat → Int32) (mc ms : Nat) (Q : Int32 → gS → gS → Prop) : Prop :=
  gK g0 p0 = 12 ∧ (∃ y37, gR g0 p0 12 = some y37 ∧ (gK g0 y37 = 24 ∧ (lpx3 (l_X11_compact_16 g0 m0 0 0 p0 y37 (nI (gN g0 y37)) b L xs mc ms Q) 0 0 0)))
abbrev r_X11_compact (mc ms : Nat) : Room := { frames := 6, cells := mc, slots := ms, locals := 131 }
set_option maxHeartbeats 8000000 in
set_option maxRecDepth 100000 in
theorem c_X11_compact {l : Launch} {D : va_G} {cA : Nat → ClassId} {sz b L : Nat} {xs : Nat → Int32} {g0 m0 : gS} {p0 : Nat} {mc ms : Nat} {Q : Int32 → gS → gS → Prop} (h : w_X11_compact g0 m0 p0 b L xs mc ms Q) : Met l yX11_compact wsX11_compact (r_X11_compact mc ms) (va_Pc [.ref p0] (hPre D cA b L xs g0 m0 sz)) (hQi D cA g0 m0 sz Q) mc ms (hA g0 m0 sz) := by
  refine h_met (cc := cX11_compact) (maxL := 7) (ret := (some .boolean)) (own := RX11) (by decide) rfl rfl (Nat.le_of_ble_eq_true rfl) ?_
  intro p e s m args below meth c ls CF hr hlk hnm hc hl
  obtain ⟨hx, hb, hml, hown, hts⟩ := id CF
  have hl : lv_has ls 7 [(0, .ref p0)] := hl
  have hroom : 0 ≤ mc ∧ 0 ≤ ms := ⟨Nat.zero_le _, Nat.zero_le _⟩
  show W p l e (r_X11_compact mc ms) s m args below meth c s.heap [] 0 0 (MQ below (hQi D cA g0 m0 sz Q) args s mc ms (hA g0 m0 sz)) (F0 m 0 ls [])
  have hb_121 : ∀ (g : gS) (gm : gS) (C : Nat) (S : Nat) (is0 : Int32), b_X11_compact_121 g gm C S is0 b L xs mc ms Q → (C ≤ mc ∧ S ≤ ms) → ∀ (H : Heap) (locs : List Loc) (ls : Array Slot), hC D cA (hA g0 m0 sz) s b L xs g gm H locs → lv_has ls 7 [] → W p l e (r_X11_compact mc ms) s m args below meth c H locs C S (MQ below (hQi D cA g0 m0 sz Q) args s mc ms (hA g0 m0 sz)) (F0 m 121 ls [.int is0]) := by
    intro g gm C S is0 h hroom H locs ls hc hl
    unfold b_X11_compact_121 at h
    refine W.widen (k := mc) (n := ms) hroom.1 hroom.2 ?_
    obtain ⟨hz1, h⟩ := h
    exact h_reti (r := is0) CF hr hlk hc (narrow_01 hz1) h dX11_compact_121
  have hb_78 : ∀ (g : gS) (gm : gS) (C : Nat) (S : Nat) (r0 : Nat) (r3 : Nat) (i4 : Int32), ∀ (i2 : Int32) (i5 : Int32), lpx2 (l_X11_compact_78 g gm C S r0 r3 i4 b L xs mc ms Q) i2 i5 → (C ≤ mc ∧ S ≤ ms) → ∀ (H : Heap) (locs : List Loc) (ls : Array Slot), hC D cA (hA g0 m0 sz) s b L xs g gm H locs → lv_has ls 7 [(0, .ref r0), (2, .int i2), (3, .ref r3), (4, .int i4), (5, .int i5)] → W p l e (r_X11_compact mc ms) s m args below meth c H locs C S (MQ below (hQi D cA g0 m0 sz Q) args s mc ms (hA g0 m0 sz)) (F0 m 78 ls []) := by
    intro g gm C S r0 r3 i4
    refine lpx2_run (P := fun (i2 : Int32) (i5 : Int32) => (C ≤ mc ∧ S ≤ ms) → ∀ (H : Heap) (locs : List Loc) (ls : Array Slot), hC D cA (hA g0 m0 sz) s b L xs g gm H locs → lv_has ls 7 [(0, .ref r0), (2, .int i2), (3, .ref r3), (4, .int i4), (5, .int i5)] → W p l e (r_X11_compact mc ms) s m args below meth c H locs C S (MQ below (hQi D cA g0 m0 sz Q) args s mc ms (hA g0 m0 sz)) (F0 m 78 ls [])) ?_
    intro k78 hk_78 i2 i5 h hroom H locs ls hc hl
    unfold l_X11_compact_78 at h
    refine lv_iload hx hb dX11_compact_78 (lv_at hl 4 rfl) ?_
    refine lv_iload hx hb dX11_compact_80 (lv_at hl 3 rfl) ?_
    refine lv_icmp_ge (tgt := 105) hx hb dX11_compact_82 (by decide) (fun c2 => ?_) (fun c2 => ?_)
    · have h := h.1 c2
      refine lv_aload_n hx hb dX11_compact_105 rfl (lv_at hl 0 rfl) ?_
      obtain ⟨hk3, h⟩ := h
      obtain ⟨y4, e5, h⟩ := h
      refine g_getr CF hc.1 hk3 rfl (by decide) (fun _ h9 => List.mem_cons_of_mem _ (List.mem_append_left _ (List.mem_append_left _ (List.mem_append_left _ (List.mem_append_left _ (List.mem_append_left _ (List.mem_append_right _ (h9)))))))) (k := 0) (by decide) (List.mem_cons_of_mem _ (List.mem_append_left _ (List.mem_append_left _ (List.mem_append_left _ (List.mem_append_left _ (List.mem_append_left _ (List.mem_append_left _ (List.mem_append_left _ (List.mem_of_getElem? (i := 5) rfl))))))))) e5 rfl dX11_compact_106 ?_
      obtain ⟨hk6, h⟩ := h
      refine h_calli (va_runV (As := []) (rest := []) CF (c_X10_compact h) (cwV 0 hts gX11_compact_X10_compact rfl rfl rfl (by decide +kernel) ⟨Nat.le_of_ble_eq_true rfl, Nat.le_of_ble_eq_true rfl⟩) (hc.swap.1.preV hk6 rfl (by decide)) rfl rfl hl.1 rfl (lv_room (Nat.le_of_ble_eq_true rfl)) dX11_compact_109 hroom) hc (fun x7 m9 H locs hq hc => ?_)
      replace h := hq
      refine lv_iload_n hx hb dX11_compact_112 rfl (lv_at hl 1 rfl) ?_
      refine lv_icmp_ne (tgt := 120) hx hb dX11_compact_113 (by decide) (fun c10 => ?_) (fun c10 => ?_)
      · have h := h.2 c10
        refine lv_iconst (v := 0) hx hb dX11_compact_120 (by decide) ?_
        exact hb_121 g m9 C S 0 h hroom _ _ _ hc (lv_sub hl [] rfl)
      · have h := h.1 c10
        refine lv_iconst (v := 1) hx hb dX11_compact_116 (by decide) ?_
        refine lv_goto (tgt := 121) hx hb dX11_compact_117 (by decide) ?_
        exact hb_121 g m9 C S 1 h hroom _ _ _ hc (lv_sub hl [] rfl)
    · have h := h.2 c2
      refine lv_aload_n hx hb dX11_compact_85 rfl (lv_at hl 2 rfl) ?_
      refine lv_iload hx hb dX11_compact_86 (lv_at hl 4 rfl) ?_
      obtain ⟨hk12, h⟩ := h
      obtain ⟨hi11, h⟩ := h
      obtain ⟨y13, e14, h⟩ := h
      refine h_aald CF hc hk12 (by decide) hi11 e14 dX11_compact_88 ?_
      refine lv_astore (lv' := [(6, .ref y13), (0, .ref r0), (2, .int i2), (3, .ref r3), (4, .int i4), (5, .int i5)]) hx hb dX11_compact_89 hl (by decide) rfl (fun ls hl => ?_)
      refine lv_iload_n hx hb dX11_compact_91 rfl (lv_at hl 2 rfl) ?_
      refine lv_aload hx hb dX11_compact_92 (lv_at hl 0 rfl) ?_
      obtain ⟨hk15, h⟩ := h
      refine g_alen CF hc.1 (j := 0) hk15 (by decide) dX11_compact_94 ?_
      refine lv_iconst (v := 1) hx hb dX11_compact_95 (by decide) ?_
      refine lv_isub hx hb dX11_compact_96 ?_
      refine lv_isub hx hb dX11_compact_97 ?_
      refine lv_istore_n (lv' := [(2, .int (i2 - ((nI (gN g y13)) - 1))), (6, .ref y13), (0, .ref r0), (3, .ref r3), (4, .int i4), (5, .int i5)]) hx hb dX11_compact_98 rfl hl (by decide) rfl (fun ls hl => ?_)
      refine lv_iinc (v := (i5 + 1)) (lv' := [(5, .int (i5 + 1)), (2, .int (i2 - ((nI (gN g y13)) - 1))), (6, .ref y13), (0, .ref r0), (3, .ref r3), (4, .int i4)]) hx hb dX11_compact_99 hl (k := 5) rfl rfl (by decide) rfl (fun ls hl => ?_)
      refine lv_goto (tgt := 78) hx hb dX11_compact_102 (by decide) ?_
      exact hk_78 (i2 - ((nI (gN g y13)) - 1)) (i5 + 1) h hroom _ _ _ hc (lv_sub hl [3, 1, 4, 5, 0] rfl)
  have hb_66 : ∀ (g : gS) (gm : gS) (C : Nat) (S : Nat) (r0 : Nat) (i2 : Int32), b_X11_compact_66 g gm C S r0 i2 b L xs mc ms Q → (C ≤ mc ∧ S ≤ ms) → ∀ (H : Heap) (locs : List Loc) (ls : Array Slot), hC D cA (hA g0 m0 sz) s b L xs g gm H locs → lv_has ls 7 [(0, .ref r0), (2, .int i2)] → W p l e (r_X11_compact mc ms) s m args below meth c H locs C S (MQ below (hQi D cA g0 m0 sz Q) args s mc ms (hA g0 m0 sz)) (F0 m 66 ls []) := by
    intro g gm C S r0 i2 h hroom H locs ls hc hl
    unfold b_X11_compact_66 at h
    refine lv_aload_n hx hb dX11_compact_66 rfl (lv_at hl 0 rfl) ?_
    obtain ⟨hk16, h⟩ := h
    obtain ⟨y17, e18, h⟩ := h
    refine g_getr CF hc.1 hk16 rfl (by decide) (fun _ h9 => List.mem_cons_of_mem _ (List.mem_append_left _ (List.mem_append_left _ (List.mem_append_left _ (List.mem_append_left _ (List.mem_append_left _ (List.mem_append_right _ (h9)))))))) (k := 12) (by decide) (List.mem_cons_of_mem _ (List.mem_append_left _ (List.mem_append_left _ (List.mem_append_left _ (List.mem_append_left _ (List.mem_append_left _ (List.mem_append_left _ (List.mem_append_left _ (List.mem_of_getElem? (i := 0) rfl))))))))) e18 rfl dX11_compact_67 ?_
    refine lv_astore_n (lv' := [(3, .ref y17), (0, .ref r0), (2, .int i2)]) hx hb dX11_compact_70 rfl hl (by decide) rfl (fun ls hl => ?_)
    refine lv_aload_n hx hb dX11_compact_71 rfl (lv_at hl 0 rfl) ?_
    obtain ⟨hk19, h⟩ := h
    refine g_alen CF hc.1 (j := 3) hk19 (by decide) dX11_compact_72 ?_
    refine lv_istore (lv' := [(4, .int (nI (gN g y17))), (3, .ref y17), (0, .ref r0), (2, .int i2)]) hx hb dX11_compact_73 hl (by decide) rfl (fun ls hl => ?_)
    refine lv_iconst (v := 0) hx hb dX11_compact_75 (by decide) ?_
    refine lv_istore (lv' := [(5, .int 0), (4, .int (nI (gN g y17))), (3, .ref y17), (0, .ref r0), (2, .int i2)]) hx hb dX11_compact_76 hl (by decide) rfl (fun ls hl => ?_)
    exact hb_78 g gm C S r0 y17 (nI (gN g y17)) i2 0 h hroom _ _ _ hc (lv_sub hl [3, 4, 2, 1, 0] rfl)
  have hb_16 : ∀ (g : gS) (gm : gS) (C : Nat) (S : Nat) (r0 : Nat) (r3 : Nat) (i4 : Int32), ∀ (i1 : Int32) (i2 : Int32) (i5 : Int32), lpx3 (l_X11_compact_16 g gm C S r0 r3 i4 b L xs mc ms Q) i1 i2 i5 → (C ≤ mc ∧ S ≤ ms) → ∀ (H : Heap) (locs : List Loc) (ls : Array Slot), hC D cA (hA g0 m0 sz) s b L xs g gm H locs → lv_has ls 7 [(0, .ref r0), (1, .int i1), (2, .int i2), (3, .ref r3), (4, .int i4), (5, .int i5)] → W p l e (r_X11_compact mc ms) s m args below meth c H locs C S (MQ below (hQi D cA g0 m0 sz Q) args s mc ms (hA g0 m0 sz)) (F0 m 16 ls []) := by
    intro g gm C S r0 r3 i4
    refine lpx3_run (P := fun (i1 : Int32) (i2 : Int32) (i5 : Int32) => (C ≤ mc ∧ S ≤ ms) → ∀ (H : Heap) (locs : List Loc) (ls : Array Slot), hC D cA (hA g0 m0 sz) s b L xs g gm H locs → lv_has ls 7 [(0, .ref r0), (1, .int i1), (2, .int i2), (3, .ref r3), (4, .int i4), (5, .int i5)] → W p l e (r_X11_compact mc ms) s m args below meth c H locs C S (MQ below (hQi D cA g0 m0 sz Q) args s mc ms (hA g0 m0 sz)) (F0 m 16 ls [])) ?_
    intro k16 hk_16 i1 i2 i5 h hroom H locs ls hc hl
    unfold l_X11_compact_16 at h
    refine lv_iload hx hb dX11_compact_16 (lv_at hl 5 rfl) ?_
    refine lv_iload hx hb dX11_compact_18 (lv_at hl 4 rfl) ?_
    refine lv_icmp_ge (tgt := 52) hx hb dX11_compact_20 (by decide) (fun c20 => ?_) (fun c20 => ?_)
    · have h := h.1 c20
      refine lv_aload_n hx hb dX11_compact_52 rfl (lv_at hl 0 rfl) ?_
      obtain ⟨hk21, h⟩ := h
      obtain ⟨y22, e23, h⟩ := h
      refine g_getr CF hc.1 hk21 rfl (by decide) (fun _ h9 => List.mem_cons_of_mem _ (List.mem_append_left _ (List.mem_append_left _ (List.mem_append_left _ (List.mem_append_left _ (List.mem_append_left _ (List.mem_append_right _ (h9)))))))) (k := 12) (by decide) (List.mem_cons_of_mem _ (List.mem_append_left _ (List.mem_append_left _ (List.mem_append_left _ (List.mem_append_left _ (List.mem_append_left _ (List.mem_append_left _ (List.mem_append_left _ (List.mem_of_getElem? (i := 0) rfl))))))))) e23 rfl dX11_compact_53 ?_
      obtain ⟨hk24, h⟩ := h
      refine g_alen CF hc.1 (j := 3) hk24 (by decide) dX11_compact_56 ?_
      refine lv_if_le (tgt := 66) hx hb dX11_compact_57 (by decide) (fun c25 => ?_) (fun c25 => ?_)
      · have h := h.1 c25
        exact hb_66 g gm C S r0 i2 h hroom _ _ _ hc (lv_sub hl [0, 2] rfl)
      · have h := h.2 c25
        refine lv_aload_n hx hb dX11_compact_60 rfl (lv_at hl 0 rfl) ?_
        refine lv_iconst (v := 0) hx hb dX11_compact_61 (by decide) ?_
        refine lv_iload_n hx hb dX11_compact_62 rfl (lv_at hl 1 rfl) ?_
        obtain ⟨hroom26, h⟩ := h
        replace h := wm_X11_merge h
        refine hh_callv (va_runV (As := [.int 0, .int i1]) (rest := []) CF (c_X11_merge (mc := 20) (ms := 1300) h) (cwV 2 hts gX11_compact_X11_merge rfl rfl rfl (by decide +kernel) ⟨Nat.le_of_ble_eq_true rfl, Nat.le_of_ble_eq_true rfl⟩) (hc.preV hk21 rfl (by decide)) rfl rfl hl.1 rfl (lv_room (Nat.le_of_ble_eq_true rfl)) dX11_compact_63 hroom26) hc (fun g28 m29 H locs hq hc => ?_)
        obtain ⟨rfl, h⟩ := hq
        have hroom := hroom26
        exact hb_66 g28 gm (C + 20) (S + 1300) r0 i2 h hroom _ _ _ hc (lv_sub hl [0, 2] rfl)
    · have h := h.2 c20
      refine lv_aload_n hx hb dX11_compact_23 rfl (lv_at hl 3 rfl) ?_
      refine lv_iload hx hb dX11_compact_24 (lv_at hl 5 rfl) ?_
      obtain ⟨hk31, h⟩ := h
      obtain ⟨hi30, h⟩ := h
      obtain ⟨y32, e33, h⟩ := h
      refine h_aald CF hc hk31 (by decide) hi30 e33 dX11_compact_26 ?_
      refine lv_astore (lv' := [(6, .ref y32), (0, .ref r0), (1, .int i1), (2, .int i2), (3, .ref r3), (4, .int i4), (5, .int i5)]) hx hb dX11_compact_27 hl (by decide) rfl (fun ls hl => ?_)
      refine lv_iload_n hx hb dX11_compact_29 rfl (lv_at hl 2 rfl) ?_
      refine lv_aload hx hb dX11_compact_30 (lv_at hl 0 rfl) ?_
      refine lv_iconst (v := 0) hx hb dX11_compact_32 (by decide) ?_
      obtain ⟨hk35, h⟩ := h
      obtain ⟨hi34, h⟩ := h
      refine g_iald CF hc.1 hk35 hi34 dX11_compact_33 ?_
      refine va_mmax hx hb (hml.trans hl.1.symm) hown (hts _ (List.mem_cons_of_mem _ (List.mem_append_left _ (List.mem_append_left _ (List.mem_append_left _ (List.mem_append_left _ (List.mem_append_left _ (List.mem_append_left _ (List.mem_append_left _ (List.mem_of_getElem? (i := 1) rfl)))))))))) (hts _ (List.mem_cons_of_mem _ (List.mem_append_left _ (List.mem_append_left _ (List.mem_append_left _ (List.mem_append_left _ (List.mem_append_left _ (List.mem_append_left _ (List.mem_append_left _ (List.mem_of_getElem? (i := 2) rfl)))))))))) (hts _ (List.mem_cons_of_mem _ (List.mem_append_left _ (List.mem_append_left _ (List.mem_append_left _ (List.mem_append_left _ (List.mem_append_left _ (List.mem_append_left _ (List.mem_append_left _ (List.mem_of_getElem? (i := 3) rfl)))))))))) (hts _ (List.mem_cons_of_mem _ (List.mem_append_left _ (List.mem_append_left _ (List.mem_append_left _ (List.mem_append_left _ (List.mem_append_left _ (List.mem_append_left _ (List.mem_append_left _ (List.mem_of_getElem? (i := 4) rfl)))))))))) (Nat.le_of_ble_eq_true rfl) (Nat.le_of_ble_eq_true rfl) (by first | exact hroom.1 | exact Nat.le_of_ble_eq_true rfl) (by first | exact hroom.2 | exact Nat.le_of_ble_eq_true rfl) dX11_compact_34 ?_
      refine lv_istore_n (lv' := [(1, .int (if i1 < (gI g y32 (Int32.toNatClampNeg 0)) then (gI g y32 (Int32.toNatClampNeg 0)) else i1)), (6, .ref y32), (0, .ref r0), (2, .int i2), (3, .ref r3), (4, .int i4), (5, .int i5)]) hx hb dX11_compact_37 rfl hl (by decide) rfl (fun ls hl => ?_)
      refine lv_iload_n hx hb dX11_compact_38 rfl (lv_at hl 3 rfl) ?_
      refine lv_aload hx hb dX11_compact_39 (lv_at hl 1 rfl) ?_
      refine g_alen CF hc.1 (j := 0) hk35 (by decide) dX11_compact_41 ?_
      refine lv_iconst (v := 1) hx hb dX11_compact_42 (by decide) ?_
      refine lv_isub hx hb dX11_compact_43 ?_
      refine lv_iadd hx hb dX11_compact_44 ?_
      refine lv_istore_n (lv' := [(2, .int (i2 + ((nI (gN g y32)) - 1))), (1, .int (if i1 < (gI g y32 (Int32.toNatClampNeg 0)) then (gI g y32 (Int32.toNatClampNeg 0)) else i1)), (6, .ref y32), (0, .ref r0), (3, .ref r3), (4, .int i4), (5, .int i5)]) hx hb dX11_compact_45 rfl hl (by decide) rfl (fun ls hl => ?_)
      refine lv_iinc (v := (i5 + 1)) (lv' := [(5, .int (i5 + 1)), (2, .int (i2 + ((nI (gN g y32)) - 1))), (1, .int (if i1 < (gI g y32 (Int32.toNatClampNeg 0)) then (gI g y32 (Int32.toNatClampNeg 0)) else i1)), (6, .ref y32), (0, .ref r0), (3, .ref r3), (4, .int i4)]) hx hb dX11_compact_46 hl (k := 6) rfl rfl (by decide) rfl (fun ls hl => ?_)
      refine lv_goto (tgt := 16) hx hb dX11_compact_49 (by decide) ?_
      exact hk_16 (if i1 < (gI g y32 (Int32.toNatClampNeg 0)) then (gI g y32 (Int32.toNatClampNeg 0)) else i1) (i2 + ((nI (gN g y32)) - 1)) (i5 + 1) h hroom _ _ _ hc (lv_sub hl [4, 2, 1, 5, 6, 0] rfl)
  unfold w_X11_compact at h
  obtain ⟨H, hH0⟩ : ∃ z, z = s.heap := ⟨_, rfl⟩
  rw [← hH0] at hc ⊢
  obtain ⟨locs, hlc0⟩ : ∃ z : List Loc, z = [] := ⟨_, rfl⟩
  rw [← hlc0] at hc ⊢
  refine lv_iconst (v := 0) hx hb dX11_compact_0 (by decide) ?_
  refine lv_istore_n (lv' := [(1, .int 0), (0, .ref p0)]) hx hb dX11_compact_1 rfl hl (by decide) rfl (fun ls hl => ?_)
  refine lv_iconst (v := 0) hx hb dX11_compact_2 (by decide) ?_
  refine lv_istore_n (lv' := [(2, .int 0), (1, .int 0), (0, .ref p0)]) hx hb dX11_compact_3 rfl hl (by decide) rfl (fun ls hl => ?_)
  refine lv_aload_n hx hb dX11_compact_4 rfl (lv_at hl 2 rfl) ?_
  obtain ⟨hk36, h⟩ := h
  obtain ⟨y37, e38, h⟩ := h
  refine g_getr CF hc.1 hk36 rfl (by decide) (fun _ h9 => List.mem_cons_of_mem _ (List.mem_append_left _ (List.mem_append_left _ (List.mem_append_left _ (List.mem_append_left _ (List.mem_append_left _ (List.mem_append_right _ (h9)))))))) (k := 12) (by decide) (List.mem_cons_of_mem _ (List.mem_append_left _ (List.mem_append_left _ (List.mem_append_left _ (List.mem_append_left _ (List.mem_append_left _ (List.mem_append_left _ (List.mem_append_left _ (List.mem_of_getElem? (i := 0) rfl))))))))) e38 rfl dX11_compact_5 ?_
  refine lv_astore_n (lv' := [(3, .ref y37), (2, .int 0), (1, .int 0), (0, .ref p0)]) hx hb dX11_compact_8 rfl hl (by decide) rfl (fun ls hl => ?_)
  refine lv_aload_n hx hb dX11_compact_9 rfl (lv_at hl 0 rfl) ?_
  obtain ⟨hk39, h⟩ := h
  refine g_alen CF hc.1 (j := 3) hk39 (by decide) dX11_compact_10 ?_
  refine lv_istore (lv' := [(4, .int (nI (gN g0 y37))), (3, .ref y37), (2, .int 0), (1, .int 0), (0, .ref p0)]) hx hb dX11_compact_11 hl (by decide) rfl (fun ls hl => ?_)
  refine lv_iconst (v := 0) hx hb dX11_compact_13 (by decide) ?_
  refine lv_istore (lv' := [(5, .int 0), (4, .int (nI (gN g0 y37))), (3, .ref y37), (2, .int 0), (1, .int 0), (0, .ref p0)]) hx hb dX11_compact_14 hl (by decide) rfl (fun ls hl => ?_)
  exact hb_16 g0 m0 0 0 p0 y37 (nI (gN g0 y37)) 0 0 0 h hroom _ _ _ hc (lv_sub hl [5, 4, 3, 2, 1, 0] rfl)
