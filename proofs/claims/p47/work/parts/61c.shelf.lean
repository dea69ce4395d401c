def b_X11_query_515 (g : gS) (gm : gS) (C : Nat) (S : Nat) (is0 : Int32) (b L : Nat) (xs : Nat → Int32) (mc ms : Nat) (Q : Int32 → gS → gS → Prop) : Prop :=
  (is0 = 0 ∨ is0 = 1) ∧ (Q is0 g gm)
def b_X11_query_514 (g : gS) (gm : gS) (C : Nat) (S : Nat) (b L : Nat) (xs : Nat → Int32) (mc ms : Nat) (Q : Int32 → gS → gS → Prop) : Prop :=
  b_X11_query_515 g gm C S 0 b L xs mc ms Q
def b_X11_query_472 (g : gS) (gm : gS) (C : Nat) (S : Nat) (r0 : Nat) (i1 : Int32) (r6 : Nat) (i7 : Int32) (b L : Nat) (xs : Nat → Int32) (mc ms : Nat) (Q : Int32 → gS → gS → Prop) : Prop :=
  gK g r0 = 12 ∧ (∃ y3, gR g r0 14 = some y3 ∧ (gK g y3 = 24 ∧ (gK g r6 = 21 ∧ (vp_in i1 (gN g y3) ∧ (∀ g8, g8 = sV g y3 (Int32.toNatClampNeg i1) (some r6) → (gK g8 r0 = 12 ∧ (∀ g11, g11 = sU g8 r0 13 ((gI g8 r0 13) + 1) → ((i7 = (gI g8 r0 13) → (gK g11 r0 = 12 ∧ (∃ y15, gR g11 r0 0 = some y15 ∧ (gK gm y15 = 11 ∧ (w_X10_nodes gm y15 (fun x18 => ((x18 = (gI g11 r0 13) → (b_X11_query_515 g11 gm C S 1 b L xs mc ms Q)) ∧ (¬ x18 = (gI g11 r0 13) → (b_X11_query_514 g11 gm C S b L xs mc ms Q))))))))) ∧ (¬ i7 = (gI g8 r0 13) → (b_X11_query_514 g11 gm C S b L xs mc ms Q))))))))))
def b_X11_query_333 (g : gS) (gm : gS) (C : Nat) (S : Nat) (r0 : Nat) (i1 : Int32) (r6 : Nat) (rs0 : Nat) (is1 : Int32) (is2 : Int32) (b L : Nat) (xs : Nat → Int32) (mc ms : Nat) (Q : Int32 → gS → gS → Prop) : Prop :=
  gK g rs0 = 21 ∧ (vp_in is1 (gN g rs0) ∧ (∀ g24, g24 = sU g rs0 (Int32.toNatClampNeg is1) is2 → (gK g24 r0 = 12 ∧ (∃ y27, gR g24 r0 0 = some y27 ∧ (gK g24 r6 = 21 ∧ (vp_in 1 (gN g24 r6) ∧ (vp_in 2 (gN g24 r6) ∧ (gK gm y27 = 11 ∧ ((C + 1 ≤ mc ∧ S + 13 ≤ ms) ∧ (w_X10_dated gm y27 (gI g24 r6 (Int32.toNatClampNeg 1)) (gI g24 r6 (Int32.toNatClampNeg 2)) (fun x34 m36 => (b_X11_query_472 g24 m36 (C + 1) (S + 13) r0 i1 r6 x34 b L xs mc ms Q)) (fun _ _ => False)))))))))))
def b_X11_query_281 (g : gS) (gm : gS) (C : Nat) (S : Nat) (r0 : Nat) (i1 : Int32) (r6 : Nat) (rs0 : Nat) (is1 : Int32) (is2 : Int32) (is3 : Int32) (is4 : Int32) (b L : Nat) (xs : Nat → Int32) (mc ms : Nat) (Q : Int32 → gS → gS → Prop) : Prop :=
  gK gm rs0 = 11 ∧ ((C + 1 ≤ mc ∧ S + 13 ≤ ms) ∧ (w_X10_near gm rs0 is1 is2 is3 is4 (fun x39 m41 => (b_X11_query_472 g m41 (C + 1) (S + 13) r0 i1 r6 x39 b L xs mc ms Q)) (fun _ _ => False)))
def b_X11_query_48 (g : gS) (gm : gS) (C : Nat) (S : Nat) (r0 : Nat) (i1 : Int32) (i2 : Int32) (i3 : Int32) (is0 : Int32) (b L : Nat) (xs : Nat → Int32) (mc ms : Nat) (Q : Int32 → gS → gS → Prop) : Prop :=
  gK g r0 = 12 ∧ (w_X11_draw g gm r0 2 b L xs (fun x43 g44 m45 => ((C + 1 ≤ mc ∧ S + 5 ≤ ms) ∧ (∀ q46, gK g44 q46 = 0 → (∀ g50, g50 = sNew g44 q46 21 5 → (gK g50 q46 = 21 ∧ (vp_in 0 (gN g50 q46) ∧ (∀ g54, g54 = sU g50 q46 (Int32.toNatClampNeg 0) i2 → (gK g54 q46 = 21 ∧ (vp_in 1 (gN g54 q46) ∧ (∀ g58, g58 = sU g54 q46 (Int32.toNatClampNeg 1) i3 → (gK g58 q46 = 21 ∧ (vp_in 2 (gN g58 q46) ∧ (∀ g62, g62 = sU g58 q46 (Int32.toNatClampNeg 2) is0 → (gK g62 q46 = 21 ∧ (vp_in 3 (gN g62 q46) ∧ (∀ g66, g66 = sU g62 q46 (Int32.toNatClampNeg 3) 0 → (gK g66 q46 = 21 ∧ (vp_in 4 (gN g66 q46) ∧ (∀ g70, g70 = sU g66 q46 (Int32.toNatClampNeg 4) 0 → ((i2.toInt < 0 ∨ 7 < i2.toInt → (gK g70 r0 = 12 ∧ (w_X11_draw g70 gm r0 2 b L xs (fun x74 g75 m76 => (gK g75 q46 = 21 ∧ (vp_in 2 (gN g75 q46) ∧ (∀ g79, g79 = sU g75 q46 (Int32.toNatClampNeg 2) (2 + x74) → (gK g79 q46 = 21 ∧ (vp_in 2 (gN g79 q46) ∧ (gK g79 r0 = 12 ∧ (w_X11_draw g79 gm r0 ((i1 - (gI g79 q46 (Int32.toNatClampNeg 2))) + 1) b L xs (fun x84 g85 m86 => (gK g85 q46 = 21 ∧ (vp_in 1 (gN g85 q46) ∧ (∀ g89, g89 = sU g85 q46 (Int32.toNatClampNeg 1) x84 → (gK g89 q46 = 21 ∧ (vp_in 2 (gN g89 q46) ∧ (gK g89 r0 = 12 ∧ (w_X11_draw g89 gm r0 (gI g89 q46 (Int32.toNatClampNeg 2)) b L xs (fun x94 g95 m96 => (gK g95 q46 = 21 ∧ (vp_in 3 (gN g95 q46) ∧ (∀ g99, g99 = sU g95 q46 (Int32.toNatClampNeg 3) (1 + x94) → (gK g99 r0 = 12 ∧ (∃ y102, gR g99 r0 0 = some y102 ∧ (gK g99 q46 = 21 ∧ (vp_in 1 (gN g99 q46) ∧ (vp_in 2 (gN g99 q46) ∧ (vp_in 3 (gN g99 q46) ∧ (gK gm y102 = 11 ∧ (((C + 1) + 1 ≤ mc ∧ (S + 5) + 13 ≤ ms) ∧ (w_X10_most gm y102 (gI g99 q46 (Int32.toNatClampNeg 1)) (gI g99 q46 (Int32.toNatClampNeg 2)) (gI g99 q46 (Int32.toNatClampNeg 3)) (fun x110 m112 => (b_X11_query_472 g99 m112 ((C + 1) + 1) ((S + 5) + 13) r0 i1 q46 x110 b L xs mc ms Q)) (fun _ _ => False))))))))))))))))))))))))))))))))) ∧ (i2.toInt = 0 → (gK g70 r0 = 12 ∧ (w_X11_draw g70 gm r0 6 b L xs (fun x114 g115 m116 => (gK g115 q46 = 21 ∧ (vp_in 1 (gN g115 q46) ∧ (∀ g119, g119 = sU g115 q46 (Int32.toNatClampNeg 1) x114 → (gK g119 r0 = 12 ∧ (w_X11_draw g119 gm r0 7 b L xs (fun x122 g123 m124 => (gK g123 q46 = 21 ∧ (vp_in 2 (gN g123 q46) ∧ (∀ g127, g127 = sU g123 q46 (Int32.toNatClampNeg 2) (1 + x122) → (gK g127 r0 = 12 ∧ (∃ y130, gR g127 r0 0 = some y130 ∧ (gK g127 q46 = 21 ∧ (vp_in 1 (gN g127 q46) ∧ (vp_in 2 (gN g127 q46) ∧ (gK gm y130 = 11 ∧ (((C + 1) + 1 ≤ mc ∧ (S + 5) + 13 ≤ ms) ∧ (w_X10_term gm y130 (gI g127 q46 (Int32.toNatClampNeg 1)) (gI g127 q46 (Int32.toNatClampNeg 2)) (fun x137 m139 => (b_X11_query_472 g127 m139 ((C + 1) + 1) ((S + 5) + 13) r0 i1 q46 x137 b L xs mc ms Q)) (fun _ _ => False)))))))))))))))))))))) ∧ (i2.toInt = 1 → (gK g70 r0 = 12 ∧ (∃ y141, gR g70 r0 0 = some y141 ∧ (gK gm y141 = 11 ∧ (((C + 1) + 1 ≤ mc ∧ (S + 5) + 13 ≤ ms) ∧ (w_X10_and gm y141 i3 is0 (fun x145 m147 => (b_X11_query_472 g70 m147 ((C + 1) + 1) ((S + 5) + 13) r0 i1 q46 x145 b L xs mc ms Q)) (fun _ _ => False))))))) ∧ (i2.toInt = 2 → (gK g70 r0 = 12 ∧ (∃ y149, gR g70 r0 0 = some y149 ∧ (gK gm y149 = 11 ∧ (((C + 1) + 1 ≤ mc ∧ (S + 5) + 13 ≤ ms) ∧ (w_X10_or gm y149 i3 is0 (fun x153 m155 => (b_X11_query_472 g70 m155 ((C + 1) + 1) ((S + 5) + 13) r0 i1 q46 x153 b L xs mc ms Q)) (fun _ _ => False))))))) ∧ (i2.toInt = 3 → (gK g70 r0 = 12 ∧ (∃ y157, gR g70 r0 0 = some y157 ∧ (gK gm y157 = 11 ∧ (((C + 1) + 1 ≤ mc ∧ (S + 5) + 13 ≤ ms) ∧ (w_X10_not gm y157 i3 is0 (fun x161 m163 => (b_X11_query_472 g70 m163 ((C + 1) + 1) ((S + 5) + 13) r0 i1 q46 x161 b L xs mc ms Q)) (fun _ _ => False))))))) ∧ (i2.toInt = 4 → (gK g70 r0 = 12 ∧ (w_X11_draw g70 gm r0 3 b L xs (fun x165 g166 m167 => (gK g166 q46 = 21 ∧ (vp_in 1 (gN g166 q46) ∧ (∀ g170, g170 = sU g166 q46 (Int32.toNatClampNeg 1) x165 → (gK g170 r0 = 12 ∧ (w_X11_draw g170 gm r0 3 b L xs (fun x173 g174 m175 => (gK g174 q46 = 21 ∧ (vp_in 2 (gN g174 q46) ∧ (∀ g178, g178 = sU g174 q46 (Int32.toNatClampNeg 2) x173 → (gK g178 r0 = 12 ∧ (w_X11_draw g178 gm r0 4 b L xs (fun x181 g182 m183 => (gK g182 q46 = 21 ∧ (vp_in 3 (gN g182 q46) ∧ (∀ g186, g186 = sU g182 q46 (Int32.toNatClampNeg 3) (1 + x181) → (gK g186 q46 = 21 ∧ (vp_in 4 (gN g186 q46) ∧ (∀ g190, g190 = sU g186 q46 (Int32.toNatClampNeg 4) x43 → (gK g190 r0 = 12 ∧ (∃ y193, gR g190 r0 0 = some y193 ∧ (gK g190 q46 = 21 ∧ (vp_in 1 (gN g190 q46) ∧ (vp_in 2 (gN g190 q46) ∧ (vp_in 3 (gN g190 q46) ∧ ((x43 = 1 → (b_X11_query_281 g190 gm (C + 1) (S + 5) r0 i1 q46 y193 (gI g190 q46 (Int32.toNatClampNeg 1)) (gI g190 q46 (Int32.toNatClampNeg 2)) (gI g190 q46 (Int32.toNatClampNeg 3)) 1 b L xs mc ms Q)) ∧ (¬ x43 = 1 → (b_X11_query_281 g190 gm (C + 1) (S + 5) r0 i1 q46 y193 (gI g190 q46 (Int32.toNatClampNeg 1)) (gI g190 q46 (Int32.toNatClampNeg 2)) (gI g190 q46 (Int32.toNatClampNeg 3)) 0 b L xs mc ms Q))))))))))))))))))))))))))))))) ∧ (i2.toInt = 5 → (gK g70 r0 = 12 ∧ (w_X11_draw g70 gm r0 20 b L xs (fun x201 g202 m203 => (gK g202 q46 = 21 ∧ (vp_in 1 (gN g202 q46) ∧ (∀ g206, g206 = sU g202 q46 (Int32.toNatClampNeg 1) x201 → (gK g206 q46 = 21 ∧ (vp_in 1 (gN g206 q46) ∧ (gK g206 r0 = 12 ∧ (w_X11_draw g206 gm r0 12 b L xs (fun x211 g212 m213 => ((0 ≤ (((gI g206 q46 (Int32.toNatClampNeg 1)) + x211) - 2) → (gK g212 q46 = 21 ∧ (vp_in 1 (gN g212 q46) ∧ (gK g212 r0 = 12 ∧ (w_X11_draw g212 gm r0 12 b L xs (fun x218 g219 m220 => (b_X11_query_333 g219 gm (C + 1) (S + 5) r0 i1 q46 q46 2 ((gI g212 q46 (Int32.toNatClampNeg 1)) + x218) b L xs mc ms Q))))))) ∧ (¬ 0 ≤ (((gI g206 q46 (Int32.toNatClampNeg 1)) + x211) - 2) → (b_X11_query_333 g212 gm (C + 1) (S + 5) r0 i1 q46 q46 2 0 b L xs mc ms Q))))))))))))))) ∧ (i2.toInt = 6 → (gK g70 r0 = 12 ∧ (w_X11_draw g70 gm r0 7 b L xs (fun x222 g223 m224 => (gK g223 q46 = 21 ∧ (vp_in 1 (gN g223 q46) ∧ (∀ g227, g227 = sU g223 q46 (Int32.toNatClampNeg 1) (1 + x222) → (gK g227 r0 = 12 ∧ (∃ y230, gR g227 r0 0 = some y230 ∧ (gK g227 q46 = 21 ∧ (vp_in 1 (gN g227 q46) ∧ (gK gm y230 = 11 ∧ (((C + 1) + 1 ≤ mc ∧ (S + 5) + 13 ≤ ms) ∧ (w_X10_kind gm y230 (gI g227 q46 (Int32.toNatClampNeg 1)) (fun x236 m238 => (b_X11_query_472 g227 m238 ((C + 1) + 1) ((S + 5) + 13) r0 i1 q46 x236 b L xs mc ms Q)) (fun _ _ => False))))))))))))))) ∧ (i2.toInt = 7 → (gK g70 r0 = 12 ∧ (w_X11_draw g70 gm r0 501 b L xs (fun x240 g241 m242 => (gK g241 q46 = 21 ∧ (vp_in 2 (gN g241 q46) ∧ (∀ g245, g245 = sU g241 q46 (Int32.toNatClampNeg 2) x240 → (gK g245 r0 = 12 ∧ (∃ y248, gR g245 r0 0 = some y248 ∧ (gK g245 q46 = 21 ∧ (vp_in 2 (gN g245 q46) ∧ (gK gm y248 = 11 ∧ (((C + 1) + 1 ≤ mc ∧ (S + 5) + 13 ≤ ms) ∧ (w_X10_scaled gm y248 i3 (gI g245 q46 (Int32.toNatClampNeg 2)) (fun x254 m256 => (b_X11_query_472 g245 m256 ((C + 1) + 1) ((S + 5) + 13) r0 i1 q46 x254 b L xs mc ms Q)) (fun _ _ => False))))))))))))))))))))))))))))))))))))
def b_X11_query_34 (g : gS) (gm : gS) (C : Nat) (S : Nat) (r0 : Nat) (i1 : Int32) (i2 : Int32) (is0 : Int32) (b L : Nat) (xs : Nat → Int32) (mc ms : Nat) (Q : Int32 → gS → gS → Prop) : Prop :=
  (i1 = 0 → (b_X11_query_48 g gm C S r0 i1 i2 is0 0 b L xs mc ms Q)) ∧ (¬ i1 = 0 → (gK g r0 = 12 ∧ (w_X11_draw g gm r0 i1 b L xs (fun x259 g260 m261 => (b_X11_query_48 g260 gm C S r0 i1 i2 is0 x259 b L xs mc ms Q)))))
def b_X11_query_20 (g : gS) (gm : gS) (C : Nat) (S : Nat) (r0 : Nat) (i1 : Int32) (is0 : Int32) (b L : Nat) (xs : Nat → Int32) (mc ms : Nat) (Q : Int32 → gS → gS → Prop) : Prop :=
  (i1 = 0 → (b_X11_query_34 g gm C S r0 i1 is0 0 b L xs mc ms Q)) ∧ (¬ i1 = 0 → (gK g r0 = 12 ∧ (w_X11_draw g gm r0 i1 b L xs (fun x264 g265 m266 => (b_X11_query_34 g265 gm C S r0 i1 is0 x264 b L xs mc ms Q)))))
def w_X11_query (g0 m0 : gS) (p0 : Nat) (b L : Nat) (xs : Nat → Int32) (mc ms : Nat) (Q : Int32 → gS → gS → Prop) : Prop :=
  gK g0 p0 = 12 ∧ ((3 ≤ (gI g0 p0 13) → (w_X11_draw g0 m0 p0 9 b L xs (fun x269 g270 m271 => (b_X11_query_20 g270 m0 0 0 p0 (gI g0 p0 13) x269 b L xs mc ms Q)))) ∧ (¬ 3 ≤ (gI g0 p0 13) → (b_X11_query_20 g0 m0 0 0 p0 (gI g0 p0 13) 0 b L xs mc ms Q)))
abbrev r_X11_query (mc ms : Nat) : Room := { frames := 8, cells := mc, slots := ms, locals := 128 }
set_option maxHeartbeats 8000000 in
set_option maxRecDepth 100000 in
theorem c_X11_query {l : Launch} {D : va_G} {cA : Nat → ClassId} {sz b L : Nat} {xs : Nat → Int32} {g0 m0 : gS} {p0 : Nat} {mc ms : Nat} {Q : Int32 → gS → gS → Prop} (hflags : l.stackTraces = false) (h : w_X11_query g0 m0 p0 b L xs mc ms Q) : Met l yX11_query wsX11_query (r_X11_query mc ms) (va_Pc [.ref p0] (hPre D cA b L xs g0 m0 sz)) (hQi D cA g0 m0 sz Q) mc ms (hA g0 m0 sz) := by
  refine h_met (cc := cX11_query) (maxL := 8) (ret := (some .boolean)) (own := RX11) (by decide) rfl rfl (Nat.le_of_ble_eq_true rfl) ?_
  intro p e s m args below meth c ls CF hr hlk hnm hc hl
  obtain ⟨hx, hb, hml, hown, hts⟩ := id CF
  have hl : lv_has ls 8 [(0, .ref p0)] := hl
  have hroom : 0 ≤ mc ∧ 0 ≤ ms := ⟨Nat.zero_le _, Nat.zero_le _⟩
  show W p l e (r_X11_query mc ms) s m args below meth c s.heap [] 0 0 (MQ below (hQi D cA g0 m0 sz Q) args s mc ms (hA g0 m0 sz)) (F0 m 0 ls [])
  have hb_515 : ∀ (g : gS) (gm : gS) (C : Nat) (S : Nat) (is0 : Int32), b_X11_query_515 g gm C S is0 b L xs mc ms Q → (C ≤ mc ∧ S ≤ ms) → ∀ (H : Heap) (locs : List Loc) (ls : Array Slot), hC D cA (hA g0 m0 sz) s b L xs g gm H locs → lv_has ls 8 [] → W p l e (r_X11_query mc ms) s m args below meth c H locs C S (MQ below (hQi D cA g0 m0 sz Q) args s mc ms (hA g0 m0 sz)) (F0 m 515 ls [.int is0]) := by
    intro g gm C S is0 h hroom H locs ls hc hl
    unfold b_X11_query_515 at h
    refine W.widen (k := mc) (n := ms) hroom.1 hroom.2 ?_
    obtain ⟨hz1, h⟩ := h
    exact h_reti (r := is0) CF hr hlk hc (narrow_01 hz1) h dX11_query_515
  have hb_514 : ∀ (g : gS) (gm : gS) (C : Nat) (S : Nat), b_X11_query_514 g gm C S b L xs mc ms Q → (C ≤ mc ∧ S ≤ ms) → ∀ (H : Heap) (locs : List Loc) (ls : Array Slot), hC D cA (hA g0 m0 sz) s b L xs g gm H locs → lv_has ls 8 [] → W p l e (r_X11_query mc ms) s m args below meth c H locs C S (MQ below (hQi D cA g0 m0 sz Q) args s mc ms (hA g0 m0 sz)) (F0 m 514 ls []) := by
    intro g gm C S h hroom H locs ls hc hl
    unfold b_X11_query_514 at h
    refine lv_iconst (v := 0) hx hb dX11_query_514 (by decide) ?_
    exact hb_515 g gm C S 0 h hroom _ _ _ hc (lv_sub hl [] rfl)
  have hb_472 : ∀ (g : gS) (gm : gS) (C : Nat) (S : Nat) (r0 : Nat) (i1 : Int32) (r6 : Nat) (i7 : Int32), b_X11_query_472 g gm C S r0 i1 r6 i7 b L xs mc ms Q → (C ≤ mc ∧ S ≤ ms) → ∀ (H : Heap) (locs : List Loc) (ls : Array Slot), hC D cA (hA g0 m0 sz) s b L xs g gm H locs → lv_has ls 8 [(0, .ref r0), (1, .int i1), (6, .ref r6), (7, .int i7)] → W p l e (r_X11_query mc ms) s m args below meth c H locs C S (MQ below (hQi D cA g0 m0 sz Q) args s mc ms (hA g0 m0 sz)) (F0 m 472 ls []) := by
    intro g gm C S r0 i1 r6 i7 h hroom H locs ls hc hl
    unfold b_X11_query_472 at h
    refine lv_aload_n hx hb dX11_query_472 rfl (lv_at hl 0 rfl) ?_
    obtain ⟨hk2, h⟩ := h
    obtain ⟨y3, e4, h⟩ := h
    refine g_getr CF hc.1 hk2 rfl (by decide) (fun _ h9 => List.mem_cons_of_mem _ (List.mem_append_left _ (List.mem_append_left _ (List.mem_append_left _ (List.mem_append_left _ (List.mem_append_left _ (List.mem_append_left _ (List.mem_append_right _ (h9))))))))) (k := 14) (by decide) (List.mem_cons_of_mem _ (List.mem_append_left _ (List.mem_append_left _ (List.mem_append_left _ (List.mem_append_left _ (List.mem_append_left _ (List.mem_append_left _ (List.mem_append_left _ (List.mem_append_left _ (List.mem_of_getElem? (i := 3) rfl)))))))))) e4 rfl dX11_query_473 ?_
    refine lv_iload_n hx hb dX11_query_476 rfl (lv_at hl 1 rfl) ?_
    refine lv_aload hx hb dX11_query_477 (lv_at hl 2 rfl) ?_
    obtain ⟨hk5, h⟩ := h
    obtain ⟨hk7, h⟩ := h
    obtain ⟨hi6, h⟩ := h
    refine g_aastr CF hc.join (hc.jk hk5 (by decide)) (hc.jk hk7 (by decide)) (by rw [hc.jn (by rw [hk5]; decide)]; exact hi6) dX11_query_479 (fun H locs hc1 => ?_)
    have hc := hc.putV (by rw [hk5]; decide) hc1
    obtain ⟨g8, eg9⟩ : ∃ z, z = sV g y3 (Int32.toNatClampNeg i1) (some r6) := ⟨_, rfl⟩
    have hc : hC D cA (hA g0 m0 sz) s b L xs g8 gm H locs := by rw [eg9]; exact hc
    replace h := h g8 eg9
    refine lv_iload hx hb dX11_query_480 (lv_at hl 3 rfl) ?_
    refine lv_aload_n hx hb dX11_query_482 rfl (lv_at hl 0 rfl) ?_
    refine lv_dup hx hb dX11_query_483 rfl ?_
    obtain ⟨hk10, h⟩ := h
    refine g_get CF hc.1 hk10 rfl (by decide) (fun _ h9 => List.mem_cons_of_mem _ (List.mem_append_left _ (List.mem_append_left _ (List.mem_append_left _ (List.mem_append_left _ (List.mem_append_left _ (List.mem_append_left _ (List.mem_append_right _ (h9))))))))) (k := 13) (by decide) (List.mem_cons_of_mem _ (List.mem_append_left _ (List.mem_append_left _ (List.mem_append_left _ (List.mem_append_left _ (List.mem_append_left _ (List.mem_append_left _ (List.mem_append_left _ (List.mem_append_left _ (List.mem_of_getElem? (i := 0) rfl)))))))))) rfl dX11_query_484 ?_
    refine lv_dup_x1 hx hb dX11_query_487 rfl rfl ?_
    refine lv_iconst (v := 1) hx hb dX11_query_488 (by decide) ?_
    refine lv_iadd hx hb dX11_query_489 ?_
    refine g_puti CF hc.join (hc.jk hk10 (by decide)) rfl (by decide) (fun _ h9 => List.mem_cons_of_mem _ (List.mem_append_left _ (List.mem_append_left _ (List.mem_append_left _ (List.mem_append_left _ (List.mem_append_left _ (List.mem_append_left _ (List.mem_append_right _ (h9))))))))) tyX11 tyX11_ok nmX11 (k := 13) (by decide) (List.mem_cons_of_mem _ (List.mem_append_left _ (List.mem_append_left _ (List.mem_append_left _ (List.mem_append_left _ (List.mem_append_left _ (List.mem_append_left _ (List.mem_append_left _ (List.mem_append_left _ (List.mem_of_getElem? (i := 0) rfl)))))))))) rfl (v := ((gI g8 r0 13) + 1)) rfl rfl rfl dX11_query_490 (fun H locs hc1 => ?_)
    have hc := hc.putU (by rw [hk10]; decide) hc1
    obtain ⟨g11, eg12⟩ : ∃ z, z = sU g8 r0 13 ((gI g8 r0 13) + 1) := ⟨_, rfl⟩
    have hc : hC D cA (hA g0 m0 sz) s b L xs g11 gm H locs := by rw [eg12]; exact hc
    replace h := h g11 eg12
    refine lv_icmp_ne (tgt := 514) hx hb dX11_query_493 (by decide) (fun c13 => ?_) (fun c13 => ?_)
    · have h := h.2 c13
      exact hb_514 g11 gm C S h hroom _ _ _ hc (lv_sub hl [] rfl)
    · have h := h.1 c13
      refine lv_aload_n hx hb dX11_query_496 rfl (lv_at hl 0 rfl) ?_
      obtain ⟨hk14, h⟩ := h
      obtain ⟨y15, e16, h⟩ := h
      refine g_getr CF hc.1 hk14 rfl (by decide) (fun _ h9 => List.mem_cons_of_mem _ (List.mem_append_left _ (List.mem_append_left _ (List.mem_append_left _ (List.mem_append_left _ (List.mem_append_left _ (List.mem_append_left _ (List.mem_append_right _ (h9))))))))) (k := 0) (by decide) (List.mem_cons_of_mem _ (List.mem_append_left _ (List.mem_append_left _ (List.mem_append_left _ (List.mem_append_left _ (List.mem_append_left _ (List.mem_append_left _ (List.mem_append_left _ (List.mem_append_left _ (List.mem_of_getElem? (i := 2) rfl)))))))))) e16 rfl dX11_query_497 ?_
      obtain ⟨hk17, h⟩ := h
      refine h_calli (va_runV (As := []) (rest := []) CF (c_X10_nodes h) (cwV 0 hts gX11_query_X10_nodes rfl rfl rfl (by decide +kernel) ⟨Nat.le_of_ble_eq_true rfl, Nat.le_of_ble_eq_true rfl⟩) (hc.swap.1.preV hk17 rfl (by decide)) rfl rfl hl.1 rfl (lv_room (Nat.le_of_ble_eq_true rfl)) dX11_query_500 hroom) hc (fun x18 m20 H locs hq hc => ?_)
      obtain ⟨rfl, h⟩ := hq
      refine lv_aload_n hx hb dX11_query_503 rfl (lv_at hl 0 rfl) ?_
      refine g_get CF hc.1 hk14 rfl (by decide) (fun _ h9 => List.mem_cons_of_mem _ (List.mem_append_left _ (List.mem_append_left _ (List.mem_append_left _ (List.mem_append_left _ (List.mem_append_left _ (List.mem_append_left _ (List.mem_append_right _ (h9))))))))) (k := 13) (by decide) (List.mem_cons_of_mem _ (List.mem_append_left _ (List.mem_append_left _ (List.mem_append_left _ (List.mem_append_left _ (List.mem_append_left _ (List.mem_append_left _ (List.mem_append_left _ (List.mem_append_left _ (List.mem_of_getElem? (i := 0) rfl)))))))))) rfl dX11_query_504 ?_
      refine lv_icmp_ne (tgt := 514) hx hb dX11_query_507 (by decide) (fun c21 => ?_) (fun c21 => ?_)
      · have h := h.2 c21
        exact hb_514 g11 gm C S h hroom _ _ _ hc (lv_sub hl [] rfl)
      · have h := h.1 c21
        refine lv_iconst (v := 1) hx hb dX11_query_510 (by decide) ?_
        refine lv_goto (tgt := 515) hx hb dX11_query_511 (by decide) ?_
        exact hb_515 g11 gm C S 1 h hroom _ _ _ hc (lv_sub hl [] rfl)
  have hb_333 : ∀ (g : gS) (gm : gS) (C : Nat) (S : Nat) (r0 : Nat) (i1 : Int32) (r6 : Nat) (rs0 : Nat) (is1 : Int32) (is2 : Int32), b_X11_query_333 g gm C S r0 i1 r6 rs0 is1 is2 b L xs mc ms Q → (C ≤ mc ∧ S ≤ ms) → ∀ (H : Heap) (locs : List Loc) (ls : Array Slot), hC D cA (hA g0 m0 sz) s b L xs g gm H locs → lv_has ls 8 [(0, .ref r0), (1, .int i1), (6, .ref r6)] → W p l e (r_X11_query mc ms) s m args below meth c H locs C S (MQ below (hQi D cA g0 m0 sz Q) args s mc ms (hA g0 m0 sz)) (F0 m 333 ls [.int is2, .int is1, .ref rs0]) := by
    intro g gm C S r0 i1 r6 rs0 is1 is2 h hroom H locs ls hc hl
    unfold b_X11_query_333 at h
    obtain ⟨hk22, h⟩ := h
    obtain ⟨hi23, h⟩ := h
    refine g_iast CF hc.join (hc.jk hk22 (by decide)) (x := is2) (by rw [hc.jn (by rw [hk22]; decide)]; exact hi23) dX11_query_333 (fun H locs hc1 => ?_)
    have hc := hc.putU (by rw [hk22]; decide) hc1
    obtain ⟨g24, eg25⟩ : ∃ z, z = sU g rs0 (Int32.toNatClampNeg is1) is2 := ⟨_, rfl⟩
    have hc : hC D cA (hA g0 m0 sz) s b L xs g24 gm H locs := by rw [eg25]; exact hc
    replace h := h g24 eg25
    refine lv_aload_n hx hb dX11_query_334 rfl (lv_at hl 0 rfl) ?_
    obtain ⟨hk26, h⟩ := h
    obtain ⟨y27, e28, h⟩ := h
    refine g_getr CF hc.1 hk26 rfl (by decide) (fun _ h9 => List.mem_cons_of_mem _ (List.mem_append_left _ (List.mem_append_left _ (List.mem_append_left _ (List.mem_append_left _ (List.mem_append_left _ (List.mem_append_left _ (List.mem_append_right _ (h9))))))))) (k := 0) (by decide) (List.mem_cons_of_mem _ (List.mem_append_left _ (List.mem_append_left _ (List.mem_append_left _ (List.mem_append_left _ (List.mem_append_left _ (List.mem_append_left _ (List.mem_append_left _ (List.mem_append_left _ (List.mem_of_getElem? (i := 2) rfl)))))))))) e28 rfl dX11_query_335 ?_
    refine lv_aload hx hb dX11_query_338 (lv_at hl 2 rfl) ?_
    refine lv_iconst (v := 1) hx hb dX11_query_340 (by decide) ?_
    obtain ⟨hk30, h⟩ := h
    obtain ⟨hi29, h⟩ := h
    refine g_iald CF hc.1 hk30 hi29 dX11_query_341 ?_
    refine lv_aload hx hb dX11_query_342 (lv_at hl 2 rfl) ?_
    refine lv_iconst (v := 2) hx hb dX11_query_344 (by decide) ?_
    obtain ⟨hi31, h⟩ := h
    refine g_iald CF hc.1 hk30 hi31 dX11_query_345 ?_
    obtain ⟨hk32, h⟩ := h
    obtain ⟨hroom33, h⟩ := h
    refine h_xcalli (vx_runV (As := [.int (gI g24 r6 (Int32.toNatClampNeg 1)), .int (gI g24 r6 (Int32.toNatClampNeg 2))]) (rest := []) CF (c_X10_dated hflags h) (cwV 2 hts gX11_query_X10_dated rfl rfl rfl (by decide +kernel) ⟨Nat.le_of_ble_eq_true rfl, Nat.le_of_ble_eq_true rfl⟩) (hc.swap.1.preV hk32 rfl (by decide)) rfl rfl hl.1 rfl (lv_room (Nat.le_of_ble_eq_true rfl)) dX11_query_346 hroom33) (fun _ _ z => z) hc (fun x34 m36 H locs hq hc => ?_)
    replace h := hq
    have hroom := hroom33
    refine lv_istore (lv' := [(7, .int x34), (0, .ref r0), (1, .int i1), (6, .ref r6)]) hx hb dX11_query_349 hl (by decide) rfl (fun ls hl => ?_)
    refine lv_goto (tgt := 472) hx hb dX11_query_351 (by decide) ?_
    exact hb_472 g24 m36 (C + 1) (S + 13) r0 i1 r6 x34 h hroom _ _ _ hc (lv_sub hl [1, 2, 3, 0] rfl)
  have hb_281 : ∀ (g : gS) (gm : gS) (C : Nat) (S : Nat) (r0 : Nat) (i1 : Int32) (r6 : Nat) (rs0 : Nat) (is1 : Int32) (is2 : Int32) (is3 : Int32) (is4 : Int32), b_X11_query_281 g gm C S r0 i1 r6 rs0 is1 is2 is3 is4 b L xs mc ms Q → (C ≤ mc ∧ S ≤ ms) → ∀ (H : Heap) (locs : List Loc) (ls : Array Slot), hC D cA (hA g0 m0 sz) s b L xs g gm H locs → lv_has ls 8 [(0, .ref r0), (1, .int i1), (6, .ref r6)] → W p l e (r_X11_query mc ms) s m args below meth c H locs C S (MQ below (hQi D cA g0 m0 sz Q) args s mc ms (hA g0 m0 sz)) (F0 m 281 ls [.int is4, .int is3, .int is2, .int is1, .ref rs0]) := by
    intro g gm C S r0 i1 r6 rs0 is1 is2 is3 is4 h hroom H locs ls hc hl
    unfold b_X11_query_281 at h
    obtain ⟨hk37, h⟩ := h
    obtain ⟨hroom38, h⟩ := h
    refine h_xcalli (vx_runV (As := [.int is1, .int is2, .int is3, .int is4]) (rest := []) CF (c_X10_near hflags h) (cwV 4 hts gX11_query_X10_near rfl rfl rfl (by decide +kernel) ⟨Nat.le_of_ble_eq_true rfl, Nat.le_of_ble_eq_true rfl⟩) (hc.swap.1.preV hk37 rfl (by decide)) rfl rfl hl.1 rfl (lv_room (Nat.le_of_ble_eq_true rfl)) dX11_query_281 hroom38) (fun _ _ z => z) hc (fun x39 m41 H locs hq hc => ?_)
    replace h := hq
    have hroom := hroom38
    refine lv_istore (lv' := [(7, .int x39), (0, .ref r0), (1, .int i1), (6, .ref r6)]) hx hb dX11_query_284 hl (by decide) rfl (fun ls hl => ?_)
    refine lv_goto (tgt := 472) hx hb dX11_query_286 (by decide) ?_
    exact hb_472 g m41 (C + 1) (S + 13) r0 i1 r6 x39 h hroom _ _ _ hc (lv_sub hl [1, 2, 3, 0] rfl)
  have hb_48 : ∀ (g : gS) (gm : gS) (C : Nat) (S : Nat) (r0 : Nat) (i1 : Int32) (i2 : Int32) (i3 : Int32) (is0 : Int32), b_X11_query_48 g gm C S r0 i1 i2 i3 is0 b L xs mc ms Q → (C ≤ mc ∧ S ≤ ms) → ∀ (H : Heap) (locs : List Loc) (ls : Array Slot), hC D cA (hA g0 m0 sz) s b L xs g gm H locs → lv_has ls 8 [(0, .ref r0), (1, .int i1), (2, .int i2), (3, .int i3)] → W p l e (r_X11_query mc ms) s m args below meth c H locs C S (MQ below (hQi D cA g0 m0 sz Q) args s mc ms (hA g0 m0 sz)) (F0 m 48 ls [.int is0]) := by
    intro g gm C S r0 i1 i2 i3 is0 h hroom H locs ls hc hl
    unfold b_X11_query_48 at h
    refine lv_istore (lv' := [(4, .int is0), (0, .ref r0), (1, .int i1), (2, .int i2), (3, .int i3)]) hx hb dX11_query_48 hl (by decide) rfl (fun ls hl => ?_)
    refine lv_aload_n hx hb dX11_query_50 rfl (lv_at hl 1 rfl) ?_
    refine lv_iconst (v := 2) hx hb dX11_query_51 (by decide) ?_
    obtain ⟨hk42, h⟩ := h
    replace h := wm_X11_draw h
    refine hh_calli (va_runV (As := [.int 2]) (rest := []) CF (c_X11_draw h) (cwV 1 hts gX11_query_X11_draw rfl rfl rfl (by decide +kernel) ⟨Nat.le_of_ble_eq_true rfl, Nat.le_of_ble_eq_true rfl⟩) (hc.preV hk42 rfl (by decide)) rfl rfl hl.1 rfl (lv_room (Nat.le_of_ble_eq_true rfl)) dX11_query_52 hroom) hc (fun x43 g44 m45 H locs hq hc => ?_)
    obtain ⟨rfl, h⟩ := hq
    refine lv_istore (lv' := [(5, .int x43), (4, .int is0), (0, .ref r0), (1, .int i1), (2, .int i2), (3, .int i3)]) hx hb dX11_query_55 hl (by decide) rfl (fun ls hl => ?_)
    refine lv_iconst (v := 5) hx hb dX11_query_57 (by decide) ?_
    obtain ⟨hroom48, h⟩ := h
    refine g_newi CF hc.join (List.mem_cons_of_mem _ (List.mem_append_left _ (List.mem_append_left _ (List.mem_append_left _ (List.mem_append_left _ (List.mem_append_left _ (List.mem_append_left _ (List.mem_append_left _ (List.mem_append_left _ (List.mem_of_getElem? (i := 1) rfl)))))))))) (n := 5) (N := 5) (by decide) (by decide) (by decide) hroom48.1 hroom48.2 dX11_query_58 (fun q46 H locs hq47 hc1 => ?_)
    obtain ⟨hf49, hf49m, hc⟩ := hc.made hq47 (by decide) hc1
    replace h := h q46 hf49
    have hroom := hroom48
    have hc := hc
    obtain ⟨g50, eg51⟩ : ∃ z, z = sNew g44 q46 21 5 := ⟨_, rfl⟩
    have hc : hC D cA (hA g0 m0 sz) s b L xs g50 gm H locs := by rw [eg51]; exact hc
    replace h := h g50 eg51
    refine lv_dup hx hb dX11_query_60 rfl ?_
    refine lv_iconst (v := 0) hx hb dX11_query_61 (by decide) ?_
    refine lv_iload_n hx hb dX11_query_62 rfl (lv_at hl 4 rfl) ?_
    obtain ⟨hk52, h⟩ := h
    obtain ⟨hi53, h⟩ := h
    refine g_iast CF hc.join (hc.jk hk52 (by decide)) (x := i2) (by rw [hc.jn (by rw [hk52]; decide)]; exact hi53) dX11_query_63 (fun H locs hc1 => ?_)
    have hc := hc.putU (by rw [hk52]; decide) hc1
    obtain ⟨g54, eg55⟩ : ∃ z, z = sU g50 q46 (Int32.toNatClampNeg 0) i2 := ⟨_, rfl⟩
    have hc : hC D cA (hA g0 m0 sz) s b L xs g54 gm H locs := by rw [eg55]; exact hc
    replace h := h g54 eg55
    refine lv_dup hx hb dX11_query_64 rfl ?_
    refine lv_iconst (v := 1) hx hb dX11_query_65 (by decide) ?_
    refine lv_iload_n hx hb dX11_query_66 rfl (lv_at hl 5 rfl) ?_
    obtain ⟨hk56, h⟩ := h
    obtain ⟨hi57, h⟩ := h
    refine g_iast CF hc.join (hc.jk hk56 (by decide)) (x := i3) (by rw [hc.jn (by rw [hk56]; decide)]; exact hi57) dX11_query_67 (fun H locs hc1 => ?_)
    have hc := hc.putU (by rw [hk56]; decide) hc1
    obtain ⟨g58, eg59⟩ : ∃ z, z = sU g54 q46 (Int32.toNatClampNeg 1) i3 := ⟨_, rfl⟩
    have hc : hC D cA (hA g0 m0 sz) s b L xs g58 gm H locs := by rw [eg59]; exact hc
    replace h := h g58 eg59
    refine lv_dup hx hb dX11_query_68 rfl ?_
    refine lv_iconst (v := 2) hx hb dX11_query_69 (by decide) ?_
    refine lv_iload hx hb dX11_query_70 (lv_at hl 1 rfl) ?_
    obtain ⟨hk60, h⟩ := h
    obtain ⟨hi61, h⟩ := h
    refine g_iast CF hc.join (hc.jk hk60 (by decide)) (x := is0) (by rw [hc.jn (by rw [hk60]; decide)]; exact hi61) dX11_query_72 (fun H locs hc1 => ?_)
    have hc := hc.putU (by rw [hk60]; decide) hc1
    obtain ⟨g62, eg63⟩ : ∃ z, z = sU g58 q46 (Int32.toNatClampNeg 2) is0 := ⟨_, rfl⟩
    have hc : hC D cA (hA g0 m0 sz) s b L xs g62 gm H locs := by rw [eg63]; exact hc
    replace h := h g62 eg63
    refine lv_dup hx hb dX11_query_73 rfl ?_
    refine lv_iconst (v := 3) hx hb dX11_query_74 (by decide) ?_
    refine lv_iconst (v := 0) hx hb dX11_query_75 (by decide) ?_
    obtain ⟨hk64, h⟩ := h
    obtain ⟨hi65, h⟩ := h
    refine g_iast CF hc.join (hc.jk hk64 (by decide)) (x := 0) (by rw [hc.jn (by rw [hk64]; decide)]; exact hi65) dX11_query_76 (fun H locs hc1 => ?_)
    have hc := hc.putU (by rw [hk64]; decide) hc1
    obtain ⟨g66, eg67⟩ : ∃ z, z = sU g62 q46 (Int32.toNatClampNeg 3) 0 := ⟨_, rfl⟩
    have hc : hC D cA (hA g0 m0 sz) s b L xs g66 gm H locs := by rw [eg67]; exact hc
    replace h := h g66 eg67
    refine lv_dup hx hb dX11_query_77 rfl ?_
    refine lv_iconst (v := 4) hx hb dX11_query_78 (by decide) ?_
    refine lv_iconst (v := 0) hx hb dX11_query_79 (by decide) ?_
    obtain ⟨hk68, h⟩ := h
    obtain ⟨hi69, h⟩ := h
    refine g_iast CF hc.join (hc.jk hk68 (by decide)) (x := 0) (by rw [hc.jn (by rw [hk68]; decide)]; exact hi69) dX11_query_80 (fun H locs hc1 => ?_)
    have hc := hc.putU (by rw [hk68]; decide) hc1
    obtain ⟨g70, eg71⟩ : ∃ z, z = sU g66 q46 (Int32.toNatClampNeg 4) 0 := ⟨_, rfl⟩
    have hc : hC D cA (hA g0 m0 sz) s b L xs g70 gm H locs := by rw [eg71]; exact hc
    replace h := h g70 eg71
    refine lv_astore (lv' := [(6, .ref q46), (5, .int x43), (4, .int is0), (0, .ref r0), (1, .int i1), (2, .int i2), (3, .int i3)]) hx hb dX11_query_81 hl (by decide) rfl (fun ls hl => ?_)
    refine lv_iload_n hx hb dX11_query_83 rfl (lv_at hl 5 rfl) ?_
    by_cases hd72 : i2.toInt < 0 ∨ 7 < i2.toInt
    · replace h := h.1 hd72
      refine lv_tableOut (tgt := 410) hx hb dX11_query_84 hd72 (by decide) ?_
      refine lv_aload hx hb dX11_query_410 (lv_at hl 0 rfl) ?_
      refine lv_iconst (v := 2) hx hb dX11_query_412 (by decide) ?_
      refine lv_iconst (v := 2) hx hb dX11_query_413 (by decide) ?_
      refine lv_aload_n hx hb dX11_query_414 rfl (lv_at hl 3 rfl) ?_
      refine lv_iconst (v := 2) hx hb dX11_query_415 (by decide) ?_
      obtain ⟨hk73, h⟩ := h
      replace h := wm_X11_draw h
      refine hh_calli (va_runV (As := [.int 2]) (rest := [.int 2, .int 2, .ref q46]) CF (c_X11_draw h) (cwV 1 hts gX11_query_X11_draw rfl rfl rfl (by decide +kernel) ⟨Nat.le_of_ble_eq_true rfl, Nat.le_of_ble_eq_true rfl⟩) (hc.preV hk73 rfl (by decide)) rfl rfl hl.1 rfl (lv_room (Nat.le_of_ble_eq_true rfl)) dX11_query_416 hroom) hc (fun x74 g75 m76 H locs hq hc => ?_)
      obtain ⟨rfl, h⟩ := hq
      refine lv_iadd hx hb dX11_query_419 ?_
      obtain ⟨hk77, h⟩ := h
      obtain ⟨hi78, h⟩ := h
      refine g_iast CF hc.join (hc.jk hk77 (by decide)) (x := (2 + x74)) (by rw [hc.jn (by rw [hk77]; decide)]; exact hi78) dX11_query_420 (fun H locs hc1 => ?_)
      have hc := hc.putU (by rw [hk77]; decide) hc1
      obtain ⟨g79, eg80⟩ : ∃ z, z = sU g75 q46 (Int32.toNatClampNeg 2) (2 + x74) := ⟨_, rfl⟩
      have hc : hC D cA (hA g0 m0 sz) s b L xs g79 gm H locs := by rw [eg80]; exact hc
      replace h := h g79 eg80
      refine lv_aload hx hb dX11_query_421 (lv_at hl 0 rfl) ?_
      refine lv_iconst (v := 1) hx hb dX11_query_423 (by decide) ?_
      refine lv_aload_n hx hb dX11_query_424 rfl (lv_at hl 3 rfl) ?_
      refine lv_iload_n hx hb dX11_query_425 rfl (lv_at hl 4 rfl) ?_
      refine lv_aload hx hb dX11_query_426 (lv_at hl 0 rfl) ?_
      refine lv_iconst (v := 2) hx hb dX11_query_428 (by decide) ?_
      obtain ⟨hk82, h⟩ := h
      obtain ⟨hi81, h⟩ := h
      refine g_iald CF hc.1 hk82 hi81 dX11_query_429 ?_
      refine lv_isub hx hb dX11_query_430 ?_
      refine lv_iconst (v := 1) hx hb dX11_query_431 (by decide) ?_
      refine lv_iadd hx hb dX11_query_432 ?_
      obtain ⟨hk83, h⟩ := h
      replace h := wm_X11_draw h
      refine hh_calli (va_runV (As := [.int ((i1 - (gI g79 q46 (Int32.toNatClampNeg 2))) + 1)]) (rest := [.int 1, .ref q46]) CF (c_X11_draw h) (cwV 1 hts gX11_query_X11_draw rfl rfl rfl (by decide +kernel) ⟨Nat.le_of_ble_eq_true rfl, Nat.le_of_ble_eq_true rfl⟩) (hc.preV hk83 rfl (by decide)) rfl rfl hl.1 rfl (lv_room (Nat.le_of_ble_eq_true rfl)) dX11_query_433 hroom) hc (fun x84 g85 m86 H locs hq hc => ?_)
      obtain ⟨rfl, h⟩ := hq
      obtain ⟨hk87, h⟩ := h
      obtain ⟨hi88, h⟩ := h
      refine g_iast CF hc.join (hc.jk hk87 (by decide)) (x := x84) (by rw [hc.jn (by rw [hk87]; decide)]; exact hi88) dX11_query_436 (fun H locs hc1 => ?_)
      have hc := hc.putU (by rw [hk87]; decide) hc1
      obtain ⟨g89, eg90⟩ : ∃ z, z = sU g85 q46 (Int32.toNatClampNeg 1) x84 := ⟨_, rfl⟩
      have hc : hC D cA (hA g0 m0 sz) s b L xs g89 gm H locs := by rw [eg90]; exact hc
      replace h := h g89 eg90
      refine lv_aload hx hb dX11_query_437 (lv_at hl 0 rfl) ?_
      refine lv_iconst (v := 3) hx hb dX11_query_439 (by decide) ?_
      refine lv_iconst (v := 1) hx hb dX11_query_440 (by decide) ?_
      refine lv_aload_n hx hb dX11_query_441 rfl (lv_at hl 3 rfl) ?_
      refine lv_aload hx hb dX11_query_442 (lv_at hl 0 rfl) ?_
      refine lv_iconst (v := 2) hx hb dX11_query_444 (by decide) ?_
      obtain ⟨hk92, h⟩ := h
      obtain ⟨hi91, h⟩ := h
      refine g_iald CF hc.1 hk92 hi91 dX11_query_445 ?_
      obtain ⟨hk93, h⟩ := h
      replace h := wm_X11_draw h
      refine hh_calli (va_runV (As := [.int (gI g89 q46 (Int32.toNatClampNeg 2))]) (rest := [.int 1, .int 3, .ref q46]) CF (c_X11_draw h) (cwV 1 hts gX11_query_X11_draw rfl rfl rfl (by decide +kernel) ⟨Nat.le_of_ble_eq_true rfl, Nat.le_of_ble_eq_true rfl⟩) (hc.preV hk93 rfl (by decide)) rfl rfl hl.1 rfl (lv_room (Nat.le_of_ble_eq_true rfl)) dX11_query_446 hroom) hc (fun x94 g95 m96 H locs hq hc => ?_)
      obtain ⟨rfl, h⟩ := hq
      refine lv_iadd hx hb dX11_query_449 ?_
      obtain ⟨hk97, h⟩ := h
      obtain ⟨hi98, h⟩ := h
      refine g_iast CF hc.join (hc.jk hk97 (by decide)) (x := (1 + x94)) (by rw [hc.jn (by rw [hk97]; decide)]; exact hi98) dX11_query_450 (fun H locs hc1 => ?_)
      have hc := hc.putU (by rw [hk97]; decide) hc1
      obtain ⟨g99, eg100⟩ : ∃ z, z = sU g95 q46 (Int32.toNatClampNeg 3) (1 + x94) := ⟨_, rfl⟩
      have hc : hC D cA (hA g0 m0 sz) s b L xs g99 gm H locs := by rw [eg100]; exact hc
      replace h := h g99 eg100
      refine lv_aload_n hx hb dX11_query_451 rfl (lv_at hl 3 rfl) ?_
      obtain ⟨hk101, h⟩ := h
      obtain ⟨y102, e103, h⟩ := h
      refine g_getr CF hc.1 hk101 rfl (by decide) (fun _ h9 => List.mem_cons_of_mem _ (List.mem_append_left _ (List.mem_append_left _ (List.mem_append_left _ (List.mem_append_left _ (List.mem_append_left _ (List.mem_append_left _ (List.mem_append_right _ (h9))))))))) (k := 0) (by decide) (List.mem_cons_of_mem _ (List.mem_append_left _ (List.mem_append_left _ (List.mem_append_left _ (List.mem_append_left _ (List.mem_append_left _ (List.mem_append_left _ (List.mem_append_left _ (List.mem_append_left _ (List.mem_of_getElem? (i := 2) rfl)))))))))) e103 rfl dX11_query_452 ?_
      refine lv_aload hx hb dX11_query_455 (lv_at hl 0 rfl) ?_
      refine lv_iconst (v := 1) hx hb dX11_query_457 (by decide) ?_
      obtain ⟨hk105, h⟩ := h
      obtain ⟨hi104, h⟩ := h
      refine g_iald CF hc.1 hk105 hi104 dX11_query_458 ?_
      refine lv_aload hx hb dX11_query_459 (lv_at hl 0 rfl) ?_
      refine lv_iconst (v := 2) hx hb dX11_query_461 (by decide) ?_
      obtain ⟨hi106, h⟩ := h
      refine g_iald CF hc.1 hk105 hi106 dX11_query_462 ?_
      refine lv_aload hx hb dX11_query_463 (lv_at hl 0 rfl) ?_
      refine lv_iconst (v := 3) hx hb dX11_query_465 (by decide) ?_
      obtain ⟨hi107, h⟩ := h
      refine g_iald CF hc.1 hk105 hi107 dX11_query_466 ?_
      obtain ⟨hk108, h⟩ := h
      obtain ⟨hroom109, h⟩ := h
      refine h_xcalli (vx_runV (As := [.int (gI g99 q46 (Int32.toNatClampNeg 1)), .int (gI g99 q46 (Int32.toNatClampNeg 2)), .int (gI g99 q46 (Int32.toNatClampNeg 3))]) (rest := []) CF (c_X10_most hflags h) (cwV 3 hts gX11_query_X10_most rfl rfl rfl (by decide +kernel) ⟨Nat.le_of_ble_eq_true rfl, Nat.le_of_ble_eq_true rfl⟩) (hc.swap.1.preV hk108 rfl (by decide)) rfl rfl hl.1 rfl (lv_room (Nat.le_of_ble_eq_true rfl)) dX11_query_467 hroom109) (fun _ _ z => z) hc (fun x110 m112 H locs hq hc => ?_)
      replace h := hq
      have hroom := hroom109
      refine lv_istore (lv' := [(7, .int x110), (6, .ref q46), (5, .int x43), (4, .int is0), (0, .ref r0), (1, .int i1), (2, .int i2), (3, .int i3)]) hx hb dX11_query_470 hl (by decide) rfl (fun ls hl => ?_)
      exact hb_472 g99 m112 ((C + 1) + 1) ((S + 5) + 13) r0 i1 q46 x110 h hroom _ _ _ hc (lv_sub hl [4, 5, 1, 0] rfl)
    · replace h := h.2
      rcases (show i2.toInt = 0 ∨ i2.toInt = 1 ∨ i2.toInt = 2 ∨ i2.toInt = 3 ∨ i2.toInt = 4 ∨ i2.toInt = 5 ∨ i2.toInt = 6 ∨ i2.toInt = 7 by omega) with hs | hs | hs | hs | hs | hs | hs | hs
      · have h := h.1 hs
        refine lv_tableIn (off := 48) (tgt := 132) hx hb dX11_query_84 (by omega) (by omega) (by rw [hs]; rfl) (by decide) ?_
        refine lv_aload hx hb dX11_query_132 (lv_at hl 0 rfl) ?_
        refine lv_iconst (v := 1) hx hb dX11_query_134 (by decide) ?_
        refine lv_aload_n hx hb dX11_query_135 rfl (lv_at hl 3 rfl) ?_
        refine lv_bipush (v := 6) hx hb dX11_query_136 (by decide) ?_
        obtain ⟨hk113, h⟩ := h
        replace h := wm_X11_draw h
        refine hh_calli (va_runV (As := [.int 6]) (rest := [.int 1, .ref q46]) CF (c_X11_draw h) (cwV 1 hts gX11_query_X11_draw rfl rfl rfl (by decide +kernel) ⟨Nat.le_of_ble_eq_true rfl, Nat.le_of_ble_eq_true rfl⟩) (hc.preV hk113 rfl (by decide)) rfl rfl hl.1 rfl (lv_room (Nat.le_of_ble_eq_true rfl)) dX11_query_138 hroom) hc (fun x114 g115 m116 H locs hq hc => ?_)
        obtain ⟨rfl, h⟩ := hq
        obtain ⟨hk117, h⟩ := h
        obtain ⟨hi118, h⟩ := h
        refine g_iast CF hc.join (hc.jk hk117 (by decide)) (x := x114) (by rw [hc.jn (by rw [hk117]; decide)]; exact hi118) dX11_query_141 (fun H locs hc1 => ?_)
        have hc := hc.putU (by rw [hk117]; decide) hc1
        obtain ⟨g119, eg120⟩ : ∃ z, z = sU g115 q46 (Int32.toNatClampNeg 1) x114 := ⟨_, rfl⟩
        have hc : hC D cA (hA g0 m0 sz) s b L xs g119 gm H locs := by rw [eg120]; exact hc
        replace h := h g119 eg120
        refine lv_aload hx hb dX11_query_142 (lv_at hl 0 rfl) ?_
        refine lv_iconst (v := 2) hx hb dX11_query_144 (by decide) ?_
        refine lv_iconst (v := 1) hx hb dX11_query_145 (by decide) ?_
        refine lv_aload_n hx hb dX11_query_146 rfl (lv_at hl 3 rfl) ?_
        refine lv_bipush (v := 7) hx hb dX11_query_147 (by decide) ?_
        obtain ⟨hk121, h⟩ := h
        replace h := wm_X11_draw h
        refine hh_calli (va_runV (As := [.int 7]) (rest := [.int 1, .int 2, .ref q46]) CF (c_X11_draw h) (cwV 1 hts gX11_query_X11_draw rfl rfl rfl (by decide +kernel) ⟨Nat.le_of_ble_eq_true rfl, Nat.le_of_ble_eq_true rfl⟩) (hc.preV hk121 rfl (by decide)) rfl rfl hl.1 rfl (lv_room (Nat.le_of_ble_eq_true rfl)) dX11_query_149 hroom) hc (fun x122 g123 m124 H locs hq hc => ?_)
        obtain ⟨rfl, h⟩ := hq
        refine lv_iadd hx hb dX11_query_152 ?_
        obtain ⟨hk125, h⟩ := h
        obtain ⟨hi126, h⟩ := h
        refine g_iast CF hc.join (hc.jk hk125 (by decide)) (x := (1 + x122)) (by rw [hc.jn (by rw [hk125]; decide)]; exact hi126) dX11_query_153 (fun H locs hc1 => ?_)
        have hc := hc.putU (by rw [hk125]; decide) hc1
        obtain ⟨g127, eg128⟩ : ∃ z, z = sU g123 q46 (Int32.toNatClampNeg 2) (1 + x122) := ⟨_, rfl⟩
        have hc : hC D cA (hA g0 m0 sz) s b L xs g127 gm H locs := by rw [eg128]; exact hc
        replace h := h g127 eg128
        refine lv_aload_n hx hb dX11_query_154 rfl (lv_at hl 3 rfl) ?_
        obtain ⟨hk129, h⟩ := h
        obtain ⟨y130, e131, h⟩ := h
        refine g_getr CF hc.1 hk129 rfl (by decide) (fun _ h9 => List.mem_cons_of_mem _ (List.mem_append_left _ (List.mem_append_left _ (List.mem_append_left _ (List.mem_append_left _ (List.mem_append_left _ (List.mem_append_left _ (List.mem_append_right _ (h9))))))))) (k := 0) (by decide) (List.mem_cons_of_mem _ (List.mem_append_left _ (List.mem_append_left _ (List.mem_append_left _ (List.mem_append_left _ (List.mem_append_left _ (List.mem_append_left _ (List.mem_append_left _ (List.mem_append_left _ (List.mem_of_getElem? (i := 2) rfl)))))))))) e131 rfl dX11_query_155 ?_
        refine lv_aload hx hb dX11_query_158 (lv_at hl 0 rfl) ?_
        refine lv_iconst (v := 1) hx hb dX11_query_160 (by decide) ?_
        obtain ⟨hk133, h⟩ := h
        obtain ⟨hi132, h⟩ := h
        refine g_iald CF hc.1 hk133 hi132 dX11_query_161 ?_
        refine lv_aload hx hb dX11_query_162 (lv_at hl 0 rfl) ?_
        refine lv_iconst (v := 2) hx hb dX11_query_164 (by decide) ?_
        obtain ⟨hi134, h⟩ := h
        refine g_iald CF hc.1 hk133 hi134 dX11_query_165 ?_
        obtain ⟨hk135, h⟩ := h
        obtain ⟨hroom136, h⟩ := h
        refine h_xcalli (vx_runV (As := [.int (gI g127 q46 (Int32.toNatClampNeg 1)), .int (gI g127 q46 (Int32.toNatClampNeg 2))]) (rest := []) CF (c_X10_term hflags h) (cwV 2 hts gX11_query_X10_term rfl rfl rfl (by decide +kernel) ⟨Nat.le_of_ble_eq_true rfl, Nat.le_of_ble_eq_true rfl⟩) (hc.swap.1.preV hk135 rfl (by decide)) rfl rfl hl.1 rfl (lv_room (Nat.le_of_ble_eq_true rfl)) dX11_query_166 hroom136) (fun _ _ z => z) hc (fun x137 m139 H locs hq hc => ?_)
        replace h := hq
        have hroom := hroom136
        refine lv_istore (lv' := [(7, .int x137), (6, .ref q46), (5, .int x43), (4, .int is0), (0, .ref r0), (1, .int i1), (2, .int i2), (3, .int i3)]) hx hb dX11_query_169 hl (by decide) rfl (fun ls hl => ?_)
        refine lv_goto (tgt := 472) hx hb dX11_query_171 (by decide) ?_
        exact hb_472 g127 m139 ((C + 1) + 1) ((S + 5) + 13) r0 i1 q46 x137 h hroom _ _ _ hc (lv_sub hl [4, 5, 1, 0] rfl)
      · have h := h.2.1 hs
        refine lv_tableIn (off := 90) (tgt := 174) hx hb dX11_query_84 (by omega) (by omega) (by rw [hs]; rfl) (by decide) ?_
        refine lv_aload_n hx hb dX11_query_174 rfl (lv_at hl 3 rfl) ?_
        obtain ⟨hk140, h⟩ := h
        obtain ⟨y141, e142, h⟩ := h
        refine g_getr CF hc.1 hk140 rfl (by decide) (fun _ h9 => List.mem_cons_of_mem _ (List.mem_append_left _ (List.mem_append_left _ (List.mem_append_left _ (List.mem_append_left _ (List.mem_append_left _ (List.mem_append_left _ (List.mem_append_right _ (h9))))))))) (k := 0) (by decide) (List.mem_cons_of_mem _ (List.mem_append_left _ (List.mem_append_left _ (List.mem_append_left _ (List.mem_append_left _ (List.mem_append_left _ (List.mem_append_left _ (List.mem_append_left _ (List.mem_append_left _ (List.mem_of_getElem? (i := 2) rfl)))))))))) e142 rfl dX11_query_175 ?_
        refine lv_iload_n hx hb dX11_query_178 rfl (lv_at hl 6 rfl) ?_
        refine lv_iload hx hb dX11_query_179 (lv_at hl 2 rfl) ?_
        obtain ⟨hk143, h⟩ := h
        obtain ⟨hroom144, h⟩ := h
        refine h_xcalli (vx_runV (As := [.int i3, .int is0]) (rest := []) CF (c_X10_and hflags h) (cwV 2 hts gX11_query_X10_and rfl rfl rfl (by decide +kernel) ⟨Nat.le_of_ble_eq_true rfl, Nat.le_of_ble_eq_true rfl⟩) (hc.swap.1.preV hk143 rfl (by decide)) rfl rfl hl.1 rfl (lv_room (Nat.le_of_ble_eq_true rfl)) dX11_query_181 hroom144) (fun _ _ z => z) hc (fun x145 m147 H locs hq hc => ?_)
        replace h := hq
        have hroom := hroom144
        refine lv_istore (lv' := [(7, .int x145), (6, .ref q46), (5, .int x43), (4, .int is0), (0, .ref r0), (1, .int i1), (2, .int i2), (3, .int i3)]) hx hb dX11_query_184 hl (by decide) rfl (fun ls hl => ?_)
        refine lv_goto (tgt := 472) hx hb dX11_query_186 (by decide) ?_
        exact hb_472 g70 m147 ((C + 1) + 1) ((S + 5) + 13) r0 i1 q46 x145 h hroom _ _ _ hc (lv_sub hl [4, 5, 1, 0] rfl)
      · have h := h.2.2.1 hs
        refine lv_tableIn (off := 105) (tgt := 189) hx hb dX11_query_84 (by omega) (by omega) (by rw [hs]; rfl) (by decide) ?_
        refine lv_aload_n hx hb dX11_query_189 rfl (lv_at hl 3 rfl) ?_
        obtain ⟨hk148, h⟩ := h
        obtain ⟨y149, e150, h⟩ := h
        refine g_getr CF hc.1 hk148 rfl (by decide) (fun _ h9 => List.mem_cons_of_mem _ (List.mem_append_left _ (List.mem_append_left _ (List.mem_append_left _ (List.mem_append_left _ (List.mem_append_left _ (List.mem_append_left _ (List.mem_append_right _ (h9))))))))) (k := 0) (by decide) (List.mem_cons_of_mem _ (List.mem_append_left _ (List.mem_append_left _ (List.mem_append_left _ (List.mem_append_left _ (List.mem_append_left _ (List.mem_append_left _ (List.mem_append_left _ (List.mem_append_left _ (List.mem_of_getElem? (i := 2) rfl)))))))))) e150 rfl dX11_query_190 ?_
        refine lv_iload_n hx hb dX11_query_193 rfl (lv_at hl 6 rfl) ?_
        refine lv_iload hx hb dX11_query_194 (lv_at hl 2 rfl) ?_
        obtain ⟨hk151, h⟩ := h
        obtain ⟨hroom152, h⟩ := h
        refine h_xcalli (vx_runV (As := [.int i3, .int is0]) (rest := []) CF (c_X10_or hflags h) (cwV 2 hts gX11_query_X10_or rfl rfl rfl (by decide +kernel) ⟨Nat.le_of_ble_eq_true rfl, Nat.le_of_ble_eq_true rfl⟩) (hc.swap.1.preV hk151 rfl (by decide)) rfl rfl hl.1 rfl (lv_room (Nat.le_of_ble_eq_true rfl)) dX11_query_196 hroom152) (fun _ _ z => z) hc (fun x153 m155 H locs hq hc => ?_)
        replace h := hq
        have hroom := hroom152
        refine lv_istore (lv' := [(7, .int x153), (6, .ref q46), (5, .int x43), (4, .int is0), (0, .ref r0), (1, .int i1), (2, .int i2), (3, .int i3)]) hx hb dX11_query_199 hl (by decide) rfl (fun ls hl => ?_)
        refine lv_goto (tgt := 472) hx hb dX11_query_201 (by decide) ?_
        exact hb_472 g70 m155 ((C + 1) + 1) ((S + 5) + 13) r0 i1 q46 x153 h hroom _ _ _ hc (lv_sub hl [4, 5, 1, 0] rfl)
      · have h := h.2.2.2.1 hs
        refine lv_tableIn (off := 120) (tgt := 204) hx hb dX11_query_84 (by omega) (by omega) (by rw [hs]; rfl) (by decide) ?_
        refine lv_aload_n hx hb dX11_query_204 rfl (lv_at hl 3 rfl) ?_
        obtain ⟨hk156, h⟩ := h
        obtain ⟨y157, e158, h⟩ := h
        refine g_getr CF hc.1 hk156 rfl (by decide) (fun _ h9 => List.mem_cons_of_mem _ (List.mem_append_left _ (List.mem_append_left _ (List.mem_append_left _ (List.mem_append_left _ (List.mem_append_left _ (List.mem_append_left _ (List.mem_append_right _ (h9))))))))) (k := 0) (by decide) (List.mem_cons_of_mem _ (List.mem_append_left _ (List.mem_append_left _ (List.mem_append_left _ (List.mem_append_left _ (List.mem_append_left _ (List.mem_append_left _ (List.mem_append_left _ (List.mem_append_left _ (List.mem_of_getElem? (i := 2) rfl)))))))))) e158 rfl dX11_query_205 ?_
        refine lv_iload_n hx hb dX11_query_208 rfl (lv_at hl 6 rfl) ?_
        refine lv_iload hx hb dX11_query_209 (lv_at hl 2 rfl) ?_
        obtain ⟨hk159, h⟩ := h
        obtain ⟨hroom160, h⟩ := h
        refine h_xcalli (vx_runV (As := [.int i3, .int is0]) (rest := []) CF (c_X10_not hflags h) (cwV 2 hts gX11_query_X10_not rfl rfl rfl (by decide +kernel) ⟨Nat.le_of_ble_eq_true rfl, Nat.le_of_ble_eq_true rfl⟩) (hc.swap.1.preV hk159 rfl (by decide)) rfl rfl hl.1 rfl (lv_room (Nat.le_of_ble_eq_true rfl)) dX11_query_211 hroom160) (fun _ _ z => z) hc (fun x161 m163 H locs hq hc => ?_)
        replace h := hq
        have hroom := hroom160
        refine lv_istore (lv' := [(7, .int x161), (6, .ref q46), (5, .int x43), (4, .int is0), (0, .ref r0), (1, .int i1), (2, .int i2), (3, .int i3)]) hx hb dX11_query_214 hl (by decide) rfl (fun ls hl => ?_)
        refine lv_goto (tgt := 472) hx hb dX11_query_216 (by decide) ?_
        exact hb_472 g70 m163 ((C + 1) + 1) ((S + 5) + 13) r0 i1 q46 x161 h hroom _ _ _ hc (lv_sub hl [4, 5, 1, 0] rfl)
      · have h := h.2.2.2.2.1 hs
        refine lv_tableIn (off := 135) (tgt := 219) hx hb dX11_query_84 (by omega) (by omega) (by rw [hs]; rfl) (by decide) ?_
        refine lv_aload hx hb dX11_query_219 (lv_at hl 0 rfl) ?_
        refine lv_iconst (v := 1) hx hb dX11_query_221 (by decide) ?_
        refine lv_aload_n hx hb dX11_query_222 rfl (lv_at hl 3 rfl) ?_
        refine lv_iconst (v := 3) hx hb dX11_query_223 (by decide) ?_
        obtain ⟨hk164, h⟩ := h
        replace h := wm_X11_draw h
        refine hh_calli (va_runV (As := [.int 3]) (rest := [.int 1, .ref q46]) CF (c_X11_draw h) (cwV 1 hts gX11_query_X11_draw rfl rfl rfl (by decide +kernel) ⟨Nat.le_of_ble_eq_true rfl, Nat.le_of_ble_eq_true rfl⟩) (hc.preV hk164 rfl (by decide)) rfl rfl hl.1 rfl (lv_room (Nat.le_of_ble_eq_true rfl)) dX11_query_224 hroom) hc (fun x165 g166 m167 H locs hq hc => ?_)
        obtain ⟨rfl, h⟩ := hq
        obtain ⟨hk168, h⟩ := h
        obtain ⟨hi169, h⟩ := h
        refine g_iast CF hc.join (hc.jk hk168 (by decide)) (x := x165) (by rw [hc.jn (by rw [hk168]; decide)]; exact hi169) dX11_query_227 (fun H locs hc1 => ?_)
        have hc := hc.putU (by rw [hk168]; decide) hc1
        obtain ⟨g170, eg171⟩ : ∃ z, z = sU g166 q46 (Int32.toNatClampNeg 1) x165 := ⟨_, rfl⟩
        have hc : hC D cA (hA g0 m0 sz) s b L xs g170 gm H locs := by rw [eg171]; exact hc
        replace h := h g170 eg171
        refine lv_aload hx hb dX11_query_228 (lv_at hl 0 rfl) ?_
        refine lv_iconst (v := 2) hx hb dX11_query_230 (by decide) ?_
        refine lv_aload_n hx hb dX11_query_231 rfl (lv_at hl 3 rfl) ?_
        refine lv_iconst (v := 3) hx hb dX11_query_232 (by decide) ?_
        obtain ⟨hk172, h⟩ := h
        replace h := wm_X11_draw h
        refine hh_calli (va_runV (As := [.int 3]) (rest := [.int 2, .ref q46]) CF (c_X11_draw h) (cwV 1 hts gX11_query_X11_draw rfl rfl rfl (by decide +kernel) ⟨Nat.le_of_ble_eq_true rfl, Nat.le_of_ble_eq_true rfl⟩) (hc.preV hk172 rfl (by decide)) rfl rfl hl.1 rfl (lv_room (Nat.le_of_ble_eq_true rfl)) dX11_query_233 hroom) hc (fun x173 g174 m175 H locs hq hc => ?_)
        obtain ⟨rfl, h⟩ := hq
        obtain ⟨hk176, h⟩ := h
        obtain ⟨hi177, h⟩ := h
        refine g_iast CF hc.join (hc.jk hk176 (by decide)) (x := x173) (by rw [hc.jn (by rw [hk176]; decide)]; exact hi177) dX11_query_236 (fun H locs hc1 => ?_)
        have hc := hc.putU (by rw [hk176]; decide) hc1
        obtain ⟨g178, eg179⟩ : ∃ z, z = sU g174 q46 (Int32.toNatClampNeg 2) x173 := ⟨_, rfl⟩
        have hc : hC D cA (hA g0 m0 sz) s b L xs g178 gm H locs := by rw [eg179]; exact hc
        replace h := h g178 eg179
        refine lv_aload hx hb dX11_query_237 (lv_at hl 0 rfl) ?_
        refine lv_iconst (v := 3) hx hb dX11_query_239 (by decide) ?_
        refine lv_iconst (v := 1) hx hb dX11_query_240 (by decide) ?_
        refine lv_aload_n hx hb dX11_query_241 rfl (lv_at hl 3 rfl) ?_
        refine lv_iconst (v := 4) hx hb dX11_query_242 (by decide) ?_
        obtain ⟨hk180, h⟩ := h
        replace h := wm_X11_draw h
        refine hh_calli (va_runV (As := [.int 4]) (rest := [.int 1, .int 3, .ref q46]) CF (c_X11_draw h) (cwV 1 hts gX11_query_X11_draw rfl rfl rfl (by decide +kernel) ⟨Nat.le_of_ble_eq_true rfl, Nat.le_of_ble_eq_true rfl⟩) (hc.preV hk180 rfl (by decide)) rfl rfl hl.1 rfl (lv_room (Nat.le_of_ble_eq_true rfl)) dX11_query_243 hroom) hc (fun x181 g182 m183 H locs hq hc => ?_)
        obtain ⟨rfl, h⟩ := hq
        refine lv_iadd hx hb dX11_query_246 ?_
        obtain ⟨hk184, h⟩ := h
        obtain ⟨hi185, h⟩ := h
        refine g_iast CF hc.join (hc.jk hk184 (by decide)) (x := (1 + x181)) (by rw [hc.jn (by rw [hk184]; decide)]; exact hi185) dX11_query_247 (fun H locs hc1 => ?_)
        have hc := hc.putU (by rw [hk184]; decide) hc1
        obtain ⟨g186, eg187⟩ : ∃ z, z = sU g182 q46 (Int32.toNatClampNeg 3) (1 + x181) := ⟨_, rfl⟩
        have hc : hC D cA (hA g0 m0 sz) s b L xs g186 gm H locs := by rw [eg187]; exact hc
        replace h := h g186 eg187
        refine lv_aload hx hb dX11_query_248 (lv_at hl 0 rfl) ?_
        refine lv_iconst (v := 4) hx hb dX11_query_250 (by decide) ?_
        refine lv_iload hx hb dX11_query_251 (lv_at hl 1 rfl) ?_
        obtain ⟨hk188, h⟩ := h
        obtain ⟨hi189, h⟩ := h
        refine g_iast CF hc.join (hc.jk hk188 (by decide)) (x := x43) (by rw [hc.jn (by rw [hk188]; decide)]; exact hi189) dX11_query_253 (fun H locs hc1 => ?_)
        have hc := hc.putU (by rw [hk188]; decide) hc1
        obtain ⟨g190, eg191⟩ : ∃ z, z = sU g186 q46 (Int32.toNatClampNeg 4) x43 := ⟨_, rfl⟩
        have hc : hC D cA (hA g0 m0 sz) s b L xs g190 gm H locs := by rw [eg191]; exact hc
        replace h := h g190 eg191
        refine lv_aload_n hx hb dX11_query_254 rfl (lv_at hl 3 rfl) ?_
        obtain ⟨hk192, h⟩ := h
        obtain ⟨y193, e194, h⟩ := h
        refine g_getr CF hc.1 hk192 rfl (by decide) (fun _ h9 => List.mem_cons_of_mem _ (List.mem_append_left _ (List.mem_append_left _ (List.mem_append_left _ (List.mem_append_left _ (List.mem_append_left _ (List.mem_append_left _ (List.mem_append_right _ (h9))))))))) (k := 0) (by decide) (List.mem_cons_of_mem _ (List.mem_append_left _ (List.mem_append_left _ (List.mem_append_left _ (List.mem_append_left _ (List.mem_append_left _ (List.mem_append_left _ (List.mem_append_left _ (List.mem_append_left _ (List.mem_of_getElem? (i := 2) rfl)))))))))) e194 rfl dX11_query_255 ?_
        refine lv_aload hx hb dX11_query_258 (lv_at hl 0 rfl) ?_
        refine lv_iconst (v := 1) hx hb dX11_query_260 (by decide) ?_
        obtain ⟨hk196, h⟩ := h
        obtain ⟨hi195, h⟩ := h
        refine g_iald CF hc.1 hk196 hi195 dX11_query_261 ?_
        refine lv_aload hx hb dX11_query_262 (lv_at hl 0 rfl) ?_
        refine lv_iconst (v := 2) hx hb dX11_query_264 (by decide) ?_
        obtain ⟨hi197, h⟩ := h
        refine g_iald CF hc.1 hk196 hi197 dX11_query_265 ?_
        refine lv_aload hx hb dX11_query_266 (lv_at hl 0 rfl) ?_
        refine lv_iconst (v := 3) hx hb dX11_query_268 (by decide) ?_
        obtain ⟨hi198, h⟩ := h
        refine g_iald CF hc.1 hk196 hi198 dX11_query_269 ?_
        refine lv_iload hx hb dX11_query_270 (lv_at hl 1 rfl) ?_
        refine lv_iconst (v := 1) hx hb dX11_query_272 (by decide) ?_
        refine lv_icmp_ne (tgt := 280) hx hb dX11_query_273 (by decide) (fun c199 => ?_) (fun c199 => ?_)
        · have h := h.2 c199
          refine lv_iconst (v := 0) hx hb dX11_query_280 (by decide) ?_
          exact hb_281 g190 gm (C + 1) (S + 5) r0 i1 q46 y193 (gI g190 q46 (Int32.toNatClampNeg 1)) (gI g190 q46 (Int32.toNatClampNeg 2)) (gI g190 q46 (Int32.toNatClampNeg 3)) 0 h hroom _ _ _ hc (lv_sub hl [3, 4, 0] rfl)
        · have h := h.1 c199
          refine lv_iconst (v := 1) hx hb dX11_query_276 (by decide) ?_
          refine lv_goto (tgt := 281) hx hb dX11_query_277 (by decide) ?_
          exact hb_281 g190 gm (C + 1) (S + 5) r0 i1 q46 y193 (gI g190 q46 (Int32.toNatClampNeg 1)) (gI g190 q46 (Int32.toNatClampNeg 2)) (gI g190 q46 (Int32.toNatClampNeg 3)) 1 h hroom _ _ _ hc (lv_sub hl [3, 4, 0] rfl)
      · have h := h.2.2.2.2.2.1 hs
        refine lv_tableIn (off := 205) (tgt := 289) hx hb dX11_query_84 (by omega) (by omega) (by rw [hs]; rfl) (by decide) ?_
        refine lv_aload hx hb dX11_query_289 (lv_at hl 0 rfl) ?_
        refine lv_iconst (v := 1) hx hb dX11_query_291 (by decide) ?_
        refine lv_aload_n hx hb dX11_query_292 rfl (lv_at hl 3 rfl) ?_
        refine lv_bipush (v := 20) hx hb dX11_query_293 (by decide) ?_
        obtain ⟨hk200, h⟩ := h
        replace h := wm_X11_draw h
        refine hh_calli (va_runV (As := [.int 20]) (rest := [.int 1, .ref q46]) CF (c_X11_draw h) (cwV 1 hts gX11_query_X11_draw rfl rfl rfl (by decide +kernel) ⟨Nat.le_of_ble_eq_true rfl, Nat.le_of_ble_eq_true rfl⟩) (hc.preV hk200 rfl (by decide)) rfl rfl hl.1 rfl (lv_room (Nat.le_of_ble_eq_true rfl)) dX11_query_295 hroom) hc (fun x201 g202 m203 H locs hq hc => ?_)
        obtain ⟨rfl, h⟩ := hq
        obtain ⟨hk204, h⟩ := h
        obtain ⟨hi205, h⟩ := h
        refine g_iast CF hc.join (hc.jk hk204 (by decide)) (x := x201) (by rw [hc.jn (by rw [hk204]; decide)]; exact hi205) dX11_query_298 (fun H locs hc1 => ?_)
        have hc := hc.putU (by rw [hk204]; decide) hc1
        obtain ⟨g206, eg207⟩ : ∃ z, z = sU g202 q46 (Int32.toNatClampNeg 1) x201 := ⟨_, rfl⟩
        have hc : hC D cA (hA g0 m0 sz) s b L xs g206 gm H locs := by rw [eg207]; exact hc
        replace h := h g206 eg207
        refine lv_aload hx hb dX11_query_299 (lv_at hl 0 rfl) ?_
        refine lv_iconst (v := 2) hx hb dX11_query_301 (by decide) ?_
        refine lv_aload hx hb dX11_query_302 (lv_at hl 0 rfl) ?_
        refine lv_iconst (v := 1) hx hb dX11_query_304 (by decide) ?_
        obtain ⟨hk209, h⟩ := h
        obtain ⟨hi208, h⟩ := h
        refine g_iald CF hc.1 hk209 hi208 dX11_query_305 ?_
        refine lv_aload_n hx hb dX11_query_306 rfl (lv_at hl 3 rfl) ?_
        refine lv_bipush (v := 12) hx hb dX11_query_307 (by decide) ?_
        obtain ⟨hk210, h⟩ := h
        replace h := wm_X11_draw h
        refine hh_calli (va_runV (As := [.int 12]) (rest := [.int (gI g206 q46 (Int32.toNatClampNeg 1)), .int 2, .ref q46]) CF (c_X11_draw h) (cwV 1 hts gX11_query_X11_draw rfl rfl rfl (by decide +kernel) ⟨Nat.le_of_ble_eq_true rfl, Nat.le_of_ble_eq_true rfl⟩) (hc.preV hk210 rfl (by decide)) rfl rfl hl.1 rfl (lv_room (Nat.le_of_ble_eq_true rfl)) dX11_query_309 hroom) hc (fun x211 g212 m213 H locs hq hc => ?_)
        obtain ⟨rfl, h⟩ := hq
        refine lv_iadd hx hb dX11_query_312 ?_
        refine lv_iconst (v := 2) hx hb dX11_query_313 (by decide) ?_
        refine lv_isub hx hb dX11_query_314 ?_
        refine lv_if_ge (tgt := 322) hx hb dX11_query_315 (by decide) (fun c214 => ?_) (fun c214 => ?_)
        · have h := h.1 c214
          refine lv_aload hx hb dX11_query_322 (lv_at hl 0 rfl) ?_
          refine lv_iconst (v := 1) hx hb dX11_query_324 (by decide) ?_
          obtain ⟨hk216, h⟩ := h
          obtain ⟨hi215, h⟩ := h
          refine g_iald CF hc.1 hk216 hi215 dX11_query_325 ?_
          refine lv_aload_n hx hb dX11_query_326 rfl (lv_at hl 3 rfl) ?_
          refine lv_bipush (v := 12) hx hb dX11_query_327 (by decide) ?_
          obtain ⟨hk217, h⟩ := h
          replace h := wm_X11_draw h
          refine hh_calli (va_runV (As := [.int 12]) (rest := [.int (gI g212 q46 (Int32.toNatClampNeg 1)), .int 2, .ref q46]) CF (c_X11_draw h) (cwV 1 hts gX11_query_X11_draw rfl rfl rfl (by decide +kernel) ⟨Nat.le_of_ble_eq_true rfl, Nat.le_of_ble_eq_true rfl⟩) (hc.preV hk217 rfl (by decide)) rfl rfl hl.1 rfl (lv_room (Nat.le_of_ble_eq_true rfl)) dX11_query_329 hroom) hc (fun x218 g219 m220 H locs hq hc => ?_)
          obtain ⟨rfl, h⟩ := hq
          refine lv_iadd hx hb dX11_query_332 ?_
          exact hb_333 g219 gm (C + 1) (S + 5) r0 i1 q46 q46 2 ((gI g212 q46 (Int32.toNatClampNeg 1)) + x218) h hroom _ _ _ hc (lv_sub hl [3, 4, 0] rfl)
        · have h := h.2 c214
          refine lv_iconst (v := 0) hx hb dX11_query_318 (by decide) ?_
          refine lv_goto (tgt := 333) hx hb dX11_query_319 (by decide) ?_
          exact hb_333 g212 gm (C + 1) (S + 5) r0 i1 q46 q46 2 0 h hroom _ _ _ hc (lv_sub hl [3, 4, 0] rfl)
      · have h := h.2.2.2.2.2.2.1 hs
        refine lv_tableIn (off := 270) (tgt := 354) hx hb dX11_query_84 (by omega) (by omega) (by rw [hs]; rfl) (by decide) ?_
        refine lv_aload hx hb dX11_query_354 (lv_at hl 0 rfl) ?_
        refine lv_iconst (v := 1) hx hb dX11_query_356 (by decide) ?_
        refine lv_iconst (v := 1) hx hb dX11_query_357 (by decide) ?_
        refine lv_aload_n hx hb dX11_query_358 rfl (lv_at hl 3 rfl) ?_
        refine lv_bipush (v := 7) hx hb dX11_query_359 (by decide) ?_
        obtain ⟨hk221, h⟩ := h
        replace h := wm_X11_draw h
        refine hh_calli (va_runV (As := [.int 7]) (rest := [.int 1, .int 1, .ref q46]) CF (c_X11_draw h) (cwV 1 hts gX11_query_X11_draw rfl rfl rfl (by decide +kernel) ⟨Nat.le_of_ble_eq_true rfl, Nat.le_of_ble_eq_true rfl⟩) (hc.preV hk221 rfl (by decide)) rfl rfl hl.1 rfl (lv_room (Nat.le_of_ble_eq_true rfl)) dX11_query_361 hroom) hc (fun x222 g223 m224 H locs hq hc => ?_)
        obtain ⟨rfl, h⟩ := hq
        refine lv_iadd hx hb dX11_query_364 ?_
        obtain ⟨hk225, h⟩ := h
        obtain ⟨hi226, h⟩ := h
        refine g_iast CF hc.join (hc.jk hk225 (by decide)) (x := (1 + x222)) (by rw [hc.jn (by rw [hk225]; decide)]; exact hi226) dX11_query_365 (fun H locs hc1 => ?_)
        have hc := hc.putU (by rw [hk225]; decide) hc1
        obtain ⟨g227, eg228⟩ : ∃ z, z = sU g223 q46 (Int32.toNatClampNeg 1) (1 + x222) := ⟨_, rfl⟩
        have hc : hC D cA (hA g0 m0 sz) s b L xs g227 gm H locs := by rw [eg228]; exact hc
        replace h := h g227 eg228
        refine lv_aload_n hx hb dX11_query_366 rfl (lv_at hl 3 rfl) ?_
        obtain ⟨hk229, h⟩ := h
        obtain ⟨y230, e231, h⟩ := h
        refine g_getr CF hc.1 hk229 rfl (by decide) (fun _ h9 => List.mem_cons_of_mem _ (List.mem_append_left _ (List.mem_append_left _ (List.mem_append_left _ (List.mem_append_left _ (List.mem_append_left _ (List.mem_append_left _ (List.mem_append_right _ (h9))))))))) (k := 0) (by decide) (List.mem_cons_of_mem _ (List.mem_append_left _ (List.mem_append_left _ (List.mem_append_left _ (List.mem_append_left _ (List.mem_append_left _ (List.mem_append_left _ (List.mem_append_left _ (List.mem_append_left _ (List.mem_of_getElem? (i := 2) rfl)))))))))) e231 rfl dX11_query_367 ?_
        refine lv_aload hx hb dX11_query_370 (lv_at hl 0 rfl) ?_
        refine lv_iconst (v := 1) hx hb dX11_query_372 (by decide) ?_
        obtain ⟨hk233, h⟩ := h
        obtain ⟨hi232, h⟩ := h
        refine g_iald CF hc.1 hk233 hi232 dX11_query_373 ?_
        obtain ⟨hk234, h⟩ := h
        obtain ⟨hroom235, h⟩ := h
        refine h_xcalli (vx_runV (As := [.int (gI g227 q46 (Int32.toNatClampNeg 1))]) (rest := []) CF (c_X10_kind hflags h) (cwV 1 hts gX11_query_X10_kind rfl rfl rfl (by decide +kernel) ⟨Nat.le_of_ble_eq_true rfl, Nat.le_of_ble_eq_true rfl⟩) (hc.swap.1.preV hk234 rfl (by decide)) rfl rfl hl.1 rfl (lv_room (Nat.le_of_ble_eq_true rfl)) dX11_query_374 hroom235) (fun _ _ z => z) hc (fun x236 m238 H locs hq hc => ?_)
        replace h := hq
        have hroom := hroom235
        refine lv_istore (lv' := [(7, .int x236), (6, .ref q46), (5, .int x43), (4, .int is0), (0, .ref r0), (1, .int i1), (2, .int i2), (3, .int i3)]) hx hb dX11_query_377 hl (by decide) rfl (fun ls hl => ?_)
        refine lv_goto (tgt := 472) hx hb dX11_query_379 (by decide) ?_
        exact hb_472 g227 m238 ((C + 1) + 1) ((S + 5) + 13) r0 i1 q46 x236 h hroom _ _ _ hc (lv_sub hl [4, 5, 1, 0] rfl)
      · have h := h.2.2.2.2.2.2.2 hs
        refine lv_tableIn (off := 298) (tgt := 382) hx hb dX11_query_84 (by omega) (by omega) (by rw [hs]; rfl) (by decide) ?_
        refine lv_aload hx hb dX11_query_382 (lv_at hl 0 rfl) ?_
        refine lv_iconst (v := 2) hx hb dX11_query_384 (by decide) ?_
        refine lv_aload_n hx hb dX11_query_385 rfl (lv_at hl 3 rfl) ?_
        refine lv_sipush (v := 501) hx hb dX11_query_386 (by decide) ?_
        obtain ⟨hk239, h⟩ := h
        replace h := wm_X11_draw h
        refine hh_calli (va_runV (As := [.int 501]) (rest := [.int 2, .ref q46]) CF (c_X11_draw h) (cwV 1 hts gX11_query_X11_draw rfl rfl rfl (by decide +kernel) ⟨Nat.le_of_ble_eq_true rfl, Nat.le_of_ble_eq_true rfl⟩) (hc.preV hk239 rfl (by decide)) rfl rfl hl.1 rfl (lv_room (Nat.le_of_ble_eq_true rfl)) dX11_query_389 hroom) hc (fun x240 g241 m242 H locs hq hc => ?_)
        obtain ⟨rfl, h⟩ := hq
        obtain ⟨hk243, h⟩ := h
        obtain ⟨hi244, h⟩ := h
        refine g_iast CF hc.join (hc.jk hk243 (by decide)) (x := x240) (by rw [hc.jn (by rw [hk243]; decide)]; exact hi244) dX11_query_392 (fun H locs hc1 => ?_)
        have hc := hc.putU (by rw [hk243]; decide) hc1
        obtain ⟨g245, eg246⟩ : ∃ z, z = sU g241 q46 (Int32.toNatClampNeg 2) x240 := ⟨_, rfl⟩
        have hc : hC D cA (hA g0 m0 sz) s b L xs g245 gm H locs := by rw [eg246]; exact hc
        replace h := h g245 eg246
        refine lv_aload_n hx hb dX11_query_393 rfl (lv_at hl 3 rfl) ?_
        obtain ⟨hk247, h⟩ := h
        obtain ⟨y248, e249, h⟩ := h
        refine g_getr CF hc.1 hk247 rfl (by decide) (fun _ h9 => List.mem_cons_of_mem _ (List.mem_append_left _ (List.mem_append_left _ (List.mem_append_left _ (List.mem_append_left _ (List.mem_append_left _ (List.mem_append_left _ (List.mem_append_right _ (h9))))))))) (k := 0) (by decide) (List.mem_cons_of_mem _ (List.mem_append_left _ (List.mem_append_left _ (List.mem_append_left _ (List.mem_append_left _ (List.mem_append_left _ (List.mem_append_left _ (List.mem_append_left _ (List.mem_append_left _ (List.mem_of_getElem? (i := 2) rfl)))))))))) e249 rfl dX11_query_394 ?_
        refine lv_iload_n hx hb dX11_query_397 rfl (lv_at hl 6 rfl) ?_
        refine lv_aload hx hb dX11_query_398 (lv_at hl 0 rfl) ?_
        refine lv_iconst (v := 2) hx hb dX11_query_400 (by decide) ?_
        obtain ⟨hk251, h⟩ := h
        obtain ⟨hi250, h⟩ := h
        refine g_iald CF hc.1 hk251 hi250 dX11_query_401 ?_
        obtain ⟨hk252, h⟩ := h
        obtain ⟨hroom253, h⟩ := h
        refine h_xcalli (vx_runV (As := [.int i3, .int (gI g245 q46 (Int32.toNatClampNeg 2))]) (rest := []) CF (c_X10_scaled hflags h) (cwV 2 hts gX11_query_X10_scaled rfl rfl rfl (by decide +kernel) ⟨Nat.le_of_ble_eq_true rfl, Nat.le_of_ble_eq_true rfl⟩) (hc.swap.1.preV hk252 rfl (by decide)) rfl rfl hl.1 rfl (lv_room (Nat.le_of_ble_eq_true rfl)) dX11_query_402 hroom253) (fun _ _ z => z) hc (fun x254 m256 H locs hq hc => ?_)
        replace h := hq
        have hroom := hroom253
        refine lv_istore (lv' := [(7, .int x254), (6, .ref q46), (5, .int x43), (4, .int is0), (0, .ref r0), (1, .int i1), (2, .int i2), (3, .int i3)]) hx hb dX11_query_405 hl (by decide) rfl (fun ls hl => ?_)
        refine lv_goto (tgt := 472) hx hb dX11_query_407 (by decide) ?_
        exact hb_472 g245 m256 ((C + 1) + 1) ((S + 5) + 13) r0 i1 q46 x254 h hroom _ _ _ hc (lv_sub hl [4, 5, 1, 0] rfl)
  have hb_34 : ∀ (g : gS) (gm : gS) (C : Nat) (S : Nat) (r0 : Nat) (i1 : Int32) (i2 : Int32) (is0 : Int32), b_X11_query_34 g gm C S r0 i1 i2 is0 b L xs mc ms Q → (C ≤ mc ∧ S ≤ ms) → ∀ (H : Heap) (locs : List Loc) (ls : Array Slot), hC D cA (hA g0 m0 sz) s b L xs g gm H locs → lv_has ls 8 [(0, .ref r0), (1, .int i1), (2, .int i2)] → W p l e (r_X11_query mc ms) s m args below meth c H locs C S (MQ below (hQi D cA g0 m0 sz Q) args s mc ms (hA g0 m0 sz)) (F0 m 34 ls [.int is0]) := by
    intro g gm C S r0 i1 i2 is0 h hroom H locs ls hc hl
    unfold b_X11_query_34 at h
    refine lv_istore_n (lv' := [(3, .int is0), (0, .ref r0), (1, .int i1), (2, .int i2)]) hx hb dX11_query_34 rfl hl (by decide) rfl (fun ls hl => ?_)
    refine lv_iload_n hx hb dX11_query_35 rfl (lv_at hl 2 rfl) ?_
    refine lv_if_ne (tgt := 43) hx hb dX11_query_36 (by decide) (fun c257 => ?_) (fun c257 => ?_)
    · have h := h.2 c257
      refine lv_aload_n hx hb dX11_query_43 rfl (lv_at hl 1 rfl) ?_
      refine lv_iload_n hx hb dX11_query_44 rfl (lv_at hl 2 rfl) ?_
      obtain ⟨hk258, h⟩ := h
      replace h := wm_X11_draw h
      refine hh_calli (va_runV (As := [.int i1]) (rest := []) CF (c_X11_draw h) (cwV 1 hts gX11_query_X11_draw rfl rfl rfl (by decide +kernel) ⟨Nat.le_of_ble_eq_true rfl, Nat.le_of_ble_eq_true rfl⟩) (hc.preV hk258 rfl (by decide)) rfl rfl hl.1 rfl (lv_room (Nat.le_of_ble_eq_true rfl)) dX11_query_45 hroom) hc (fun x259 g260 m261 H locs hq hc => ?_)
      obtain ⟨rfl, h⟩ := hq
      exact hb_48 g260 gm C S r0 i1 i2 is0 x259 h hroom _ _ _ hc (lv_sub hl [1, 2, 3, 0] rfl)
    · have h := h.1 c257
      refine lv_iconst (v := 0) hx hb dX11_query_39 (by decide) ?_
      refine lv_goto (tgt := 48) hx hb dX11_query_40 (by decide) ?_
      exact hb_48 g gm C S r0 i1 i2 is0 0 h hroom _ _ _ hc (lv_sub hl [1, 2, 3, 0] rfl)
  have hb_20 : ∀ (g : gS) (gm : gS) (C : Nat) (S : Nat) (r0 : Nat) (i1 : Int32) (is0 : Int32), b_X11_query_20 g gm C S r0 i1 is0 b L xs mc ms Q → (C ≤ mc ∧ S ≤ ms) → ∀ (H : Heap) (locs : List Loc) (ls : Array Slot), hC D cA (hA g0 m0 sz) s b L xs g gm H locs → lv_has ls 8 [(0, .ref r0), (1, .int i1)] → W p l e (r_X11_query mc ms) s m args below meth c H locs C S (MQ below (hQi D cA g0 m0 sz Q) args s mc ms (hA g0 m0 sz)) (F0 m 20 ls [.int is0]) := by
    intro g gm C S r0 i1 is0 h hroom H locs ls hc hl
    unfold b_X11_query_20 at h
    refine lv_istore_n (lv' := [(2, .int is0), (0, .ref r0), (1, .int i1)]) hx hb dX11_query_20 rfl hl (by decide) rfl (fun ls hl => ?_)
    refine lv_iload_n hx hb dX11_query_21 rfl (lv_at hl 2 rfl) ?_
    refine lv_if_ne (tgt := 29) hx hb dX11_query_22 (by decide) (fun c262 => ?_) (fun c262 => ?_)
    · have h := h.2 c262
      refine lv_aload_n hx hb dX11_query_29 rfl (lv_at hl 1 rfl) ?_
      refine lv_iload_n hx hb dX11_query_30 rfl (lv_at hl 2 rfl) ?_
      obtain ⟨hk263, h⟩ := h
      replace h := wm_X11_draw h
      refine hh_calli (va_runV (As := [.int i1]) (rest := []) CF (c_X11_draw h) (cwV 1 hts gX11_query_X11_draw rfl rfl rfl (by decide +kernel) ⟨Nat.le_of_ble_eq_true rfl, Nat.le_of_ble_eq_true rfl⟩) (hc.preV hk263 rfl (by decide)) rfl rfl hl.1 rfl (lv_room (Nat.le_of_ble_eq_true rfl)) dX11_query_31 hroom) hc (fun x264 g265 m266 H locs hq hc => ?_)
      obtain ⟨rfl, h⟩ := hq
      exact hb_34 g265 gm C S r0 i1 is0 x264 h hroom _ _ _ hc (lv_sub hl [1, 2, 0] rfl)
    · have h := h.1 c262
      refine lv_iconst (v := 0) hx hb dX11_query_25 (by decide) ?_
      refine lv_goto (tgt := 34) hx hb dX11_query_26 (by decide) ?_
      exact hb_34 g gm C S r0 i1 is0 0 h hroom _ _ _ hc (lv_sub hl [1, 2, 0] rfl)
  unfold w_X11_query at h
  obtain ⟨H, hH0⟩ : ∃ z, z = s.heap := ⟨_, rfl⟩
  rw [← hH0] at hc ⊢
  obtain ⟨locs, hlc0⟩ : ∃ z : List Loc, z = [] := ⟨_, rfl⟩
  rw [← hlc0] at hc ⊢
  refine lv_aload_n hx hb dX11_query_0 rfl (lv_at hl 0 rfl) ?_
  obtain ⟨hk267, h⟩ := h
  refine g_get CF hc.1 hk267 rfl (by decide) (fun _ h9 => List.mem_cons_of_mem _ (List.mem_append_left _ (List.mem_append_left _ (List.mem_append_left _ (List.mem_append_left _ (List.mem_append_left _ (List.mem_append_left _ (List.mem_append_right _ (h9))))))))) (k := 13) (by decide) (List.mem_cons_of_mem _ (List.mem_append_left _ (List.mem_append_left _ (List.mem_append_left _ (List.mem_append_left _ (List.mem_append_left _ (List.mem_append_left _ (List.mem_append_left _ (List.mem_append_left _ (List.mem_of_getElem? (i := 0) rfl)))))))))) rfl dX11_query_1 ?_
  refine lv_istore_n (lv' := [(1, .int (gI g0 p0 13)), (0, .ref p0)]) hx hb dX11_query_4 rfl hl (by decide) rfl (fun ls hl => ?_)
  refine lv_iload_n hx hb dX11_query_5 rfl (lv_at hl 0 rfl) ?_
  refine lv_iconst (v := 3) hx hb dX11_query_6 (by decide) ?_
  refine lv_icmp_ge (tgt := 14) hx hb dX11_query_7 (by decide) (fun c268 => ?_) (fun c268 => ?_)
  · have h := h.1 c268
    refine lv_aload_n hx hb dX11_query_14 rfl (lv_at hl 1 rfl) ?_
    refine lv_bipush (v := 9) hx hb dX11_query_15 (by decide) ?_
    replace h := wm_X11_draw h
    refine hh_calli (va_runV (As := [.int 9]) (rest := []) CF (c_X11_draw h) (cwV 1 hts gX11_query_X11_draw rfl rfl rfl (by decide +kernel) ⟨Nat.le_of_ble_eq_true rfl, Nat.le_of_ble_eq_true rfl⟩) (hc.preV hk267 rfl (by decide)) rfl rfl hl.1 rfl (lv_room (Nat.le_of_ble_eq_true rfl)) dX11_query_17 hroom) hc (fun x269 g270 m271 H locs hq hc => ?_)
    obtain ⟨rfl, h⟩ := hq
    exact hb_20 g270 m0 0 0 p0 (gI g0 p0 13) x269 h hroom _ _ _ hc (lv_sub hl [1, 0] rfl)
  · have h := h.2 c268
    refine lv_iconst (v := 0) hx hb dX11_query_10 (by decide) ?_
    refine lv_goto (tgt := 20) hx hb dX11_query_11 (by decide) ?_
    exact hb_20 g0 m0 0 0 p0 (gI g0 p0 13) 0 h hroom _ _ _ hc (lv_sub hl [1, 0] rfl)
