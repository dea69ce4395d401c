/-! THE SHELF ASKS FOR A NODE -/
section SQUERY
variable {A : Nat → Nat} {U : Nat × (Nat → Int32)} {mA b vm y : Nat} {σ σ' : Rows} {n bf ns nn nr dr : Nat} {wh v : Nat → Int32} {g g' gm : gS}
/-- a row of the shelf's nodes set -/
theorem SA.node7 (h : SA A mA b vm U σ n ns nn dr wh g) {k : Nat} {z : Option Nat} : SA A mA b vm U σ n ns nn dr wh (sV g (A 7) k z) := by
  obtain ⟨r, ⟨l0, lf, lr, ls⟩, nnl, v0, hb⟩ := h
  have q7 : SKd ns 7 ≠ 0 := k1 (by decide)
  have R := fun x (hx : SKd ns x ≠ 0) (e : x ≠ 7) => (Kp.sV (g := g) (q := A 7) (k := k) (v := z) (A x) (r.ne hx q7 e)).2.2.2
  refine ⟨r, ⟨by rw [R 0 (k1 (by decide)) (by decide)]; exact l0, fun d hd => by rw [R 1 (k1 (by decide)) (by decide)]; exact lf d hd, fun d f hd hf => by rw [R (10 + d) (kn10 hd) (by omega)]; exact lr d f hd hf, fun j hj => by rw [R 6 (k1 (by decide)) (by decide)]; exact ls j hj⟩, nnl, v0, hb⟩
/-- the row of five that is being filled -/
def YQ (A : Nat → Nat) (mA b vm : Nat) (U : Nat × (Nat → Int32)) (σ : Rows) (n ns nn dr : Nat) (wh : Nat → Int32) (y : Nat) (v : Nat → Int32) (g : gS) : Prop := SA A mA b vm U σ n ns nn dr wh g ∧ (∀ l, SKd ns l ≠ 0 → A l ≠ y) ∧ gK g y = 21 ∧ gN g y = 5 ∧ ∀ i, i < 5 → gI g y i = v i
theorem YQ.wr (h : YQ A mA b vm U σ n ns nn dr wh y v g) {c x : Int32} {i : Nat} (e : g' = sU g y (Int32.toNatClampNeg c) x) (hc : Int32.toNatClampNeg c = i) : YQ A mA b vm U σ n ns nn dr wh y (fun k => if k = i then x else v k) g' := by
  obtain ⟨h1, h2, h3, h4, h5⟩ := h
  rw [hc] at e
  subst e
  refine ⟨h1.keep Kp.sU h2, h2, h3, h4, fun k hk => ?_⟩
  rw [gI_sU]
  show (if k = i then x else gI g y k) = if k = i then x else v k
  by_cases z : k = i
  · rw [if_pos z, if_pos z]
  · rw [if_neg z, if_neg z]; exact h5 k hk
theorem YQ.vp (h : YQ A mA b vm U σ n ns nn dr wh y v g) {c : Nat} (hc : c < 5) : vp_in (nI c) (gN g y) := by
  rw [h.2.2.2.1]; exact vp_in_nI hc (by decide)
theorem YQ.drw (h : YQ A mA b vm U σ n ns nn dr wh y v g) {L N : Nat} {xs : Nat → Int32} (hL : L ≤ 260) (h0 : 0 < N) (hN : N < 2 ^ 31) (hdr : dr + 1 < 2 ^ 24) {Q : Int32 → gS → gS → Prop} (hQ : ∀ r g', r < N → YQ A mA b vm U σ n ns nn (dr + 1) wh y v g' → Q (nI r) g' gm) : w_X11_draw g gm (A 0) (nI N) b L xs Q := by
  obtain ⟨h1, h2, h3, h4, h5⟩ := h
  refine x_draw h1 hL h0 hN hdr (fun r g' hr h6 hk => hQ r g' hr ?_)
  have := hk y (fun e => h2 0 (k1 (by decide)) e.symm)
  exact ⟨h6, h2, this.1.trans h3, this.2.1.trans h4, fun i hi => by rw [this.2.2.1]; exact h5 i hi⟩
theorem nI_1a {f : Nat} : (1 : Int32) + nI f = nI (1 + f) := nI_add (a := 1) (b := f)
theorem nI_2a {f : Nat} : (2 : Int32) + nI f = nI (2 + f) := nI_add (a := 2) (b := f)
/-- the answer, and the node kept -/
theorem x_q472 {L C S mc ms : Nat} {xs : Nat → Int32} {s : Int32} (h : YQ A mA b vm U σ n ns nn dr wh y v g) (hE : EE mA σ' n bf (nn + 1) nr ns gm) (hR : QryR nn s σ σ') (hnn : nn < 30) {Q : Int32 → gS → gS → Prop} (hQ : ∀ g', SA A mA b vm U σ' n ns (nn + 1) dr wh g' → Q 1 g' gm) : b_X11_query_472 g gm C S (A 0) (nI nn) y (nI nn) b L xs mc ms Q := by
  obtain ⟨h1, h2, h3, h4, h5⟩ := h
  have hr := hR.1
  have h6 : SA A mA b vm U σ' n ns nn dr wh g := h1.rows (hr 3 (by decide) (by decide) (by decide) (by decide) (by decide) (by decide)) (hr 5 (by decide) (by decide) (by decide) (by decide) (by decide) (by decide)) (hr 14 (by decide) (by decide) (by decide) (by decide) (by decide) (by decide)) (hr 15 (by decide) (by decide) (by decide) (by decide) (by decide) (by decide))
  unfold b_X11_query_472 b_X11_query_514 b_X11_query_515
  refine ⟨h6.f.1, A 7, h6.r.2.2.2.2.2.2.2.2, h6.f.2.2.2.2.2.2.2, h3, by rw [h6.l.2.2.2.2.2.2]; exact vp_in_nI hnn (by decide), fun g8 e8 => ?_⟩
  subst e8
  have h7 := h6.node7 (k := Int32.toNatClampNeg (nI nn)) (z := some y)
  have e13 := h7.2.2.2.1.1.2.2
  refine ⟨h7.f.1, fun g9 e9 => ?_⟩
  rw [e13, nI_1] at e9
  rw [e13]
  have h8 : SA A mA b vm U σ' n ns (nn + 1) dr wh g9 := by rw [e9]; exact h7.nodes
  have e14 := h8.2.2.2.1.1.2.2
  refine ⟨fun _ => ⟨h8.f.1, mA, h8.r.1, hE.kind, q_nodes hE ⟨fun _ => ⟨Or.inr rfl, hQ _ h8⟩, fun c => absurd e14.symm c⟩⟩, fun c => absurd rfl c⟩
/-- one of nine -/
theorem x_q48 {L k a c : Nat} {xs : Nat → Int32} (h : SA A mA b vm U σ n ns nn dr wh g) (hE : EE mA σ n bf nn nr ns gm) (hL : L ≤ 260) (hnn : nn < 30) (hdr : dr + 20 < 2 ^ 24) (hk : k < 9) (hk3 : nn < 3 → k = 0) (ha : 3 ≤ nn → a < nn) (hc : 3 ≤ nn → c < nn) (hT : ∀ j, j < 3 → j < nn → σ 17 j = 0) {Q : Int32 → gS → gS → Prop}
    (hQ : ∀ g' gm' σ' dr' s, dr' ≤ dr + 6 → QryR nn s σ σ' → (nn < 3 → s = 0) → SA A mA b vm U σ' n ns (nn + 1) dr' wh g' → EE mA σ' n bf (nn + 1) nr ns gm' → Q 1 g' gm') : b_X11_query_48 g gm 0 0 (A 0) (nI nn) (nI k) (nI a) (nI c) b L xs 4 60 Q := by
  unfold b_X11_query_48
  refine ⟨h.f.1, x_draw (N := 2) h hL (by decide) (by decide) (by omega) (fun o g1 ho h1 _ => ⟨⟨by decide, by decide⟩, fun y hy0 g2 e2 => ?_⟩)⟩
  have hy : ∀ l, SKd ns l ≠ 0 → A l ≠ y := fun l hl => h1.1.new hy0 hl
  have Y0 : YQ A mA b vm U σ n ns nn (dr + 1) wh y (fun _ => 0) g2 := by
    subst e2
    exact ⟨h1.keep Kp.new hy, hy, gK_new, gN_new, fun i _ => by rw [gI_new]⟩
  refine ⟨Y0.2.2.1, Y0.vp (c := 0) (by decide), fun g3 e3 => ?_⟩
  have Y1 := Y0.wr (i := 0) e3 rfl
  refine ⟨Y1.2.2.1, Y1.vp (c := 1) (by decide), fun g4 e4 => ?_⟩
  have Y2 := Y1.wr (i := 1) e4 rfl
  refine ⟨Y2.2.2.1, Y2.vp (c := 2) (by decide), fun g5 e5 => ?_⟩
  have Y3 := Y2.wr (i := 2) e5 rfl
  refine ⟨Y3.2.2.1, Y3.vp (c := 3) (by decide), fun g6 e6 => ?_⟩
  have Y4 := Y3.wr (i := 3) e6 rfl
  refine ⟨Y4.2.2.1, Y4.vp (c := 4) (by decide), fun g7 e7 => ?_⟩
  have Y := Y4.wr (i := 4) e7 rfl
  have tk : (nI k).toInt = (k : Int) := nI_toInt (by omega)
  have fin : ∀ {g8 gm8 : gS} {σ8 : Rows} {d8 : Nat} {v8 : Nat → Int32} {s : Int32} {C8 S8 : Nat}, YQ A mA b vm U σ n ns nn d8 wh y v8 g8 → d8 ≤ dr + 6 → QryR nn s σ σ8 → (nn < 3 → s = 0) → EE mA σ8 n bf (nn + 1) nr ns gm8 → b_X11_query_472 g8 gm8 C8 S8 (A 0) (nI nn) y (nI nn) b L xs 4 60 Q := fun hY hd hR hs hE' => x_q472 hY hE' hR hnn (fun g' hA => hQ g' _ _ _ _ hd hR hs hA hE')
  refine ⟨fun z => ?_, fun z => ?_, fun z => ?_, fun z => ?_, fun z => ?_, fun z => ?_, fun z => ?_, fun z => ?_, fun z => ?_⟩
  · -- most
    rw [tk] at z
    have hk8 : k = 8 := by omega
    have h3 : 3 ≤ nn := by
      rcases Nat.lt_or_ge nn 3 with w | w
      · have := hk3 w; omega
      · exact w
    refine ⟨Y.1.f.1, Y.drw (N := 2) hL (by decide) (by decide) (by omega) (fun r1 g8 hr1 Z1 => ⟨Z1.2.2.1, Z1.vp (c := 2) (by decide), fun g9 e9 => ?_⟩)⟩
    have Z2 := Z1.wr (i := 2) e9 rfl
    have w2 : gI g9 y (Int32.toNatClampNeg 2) = nI (2 + r1) := (Z2.2.2.2.2 2 (by decide)).trans nI_2a
    refine ⟨Z2.2.2.1, Z2.vp (c := 2) (by decide), Z2.1.f.1, ?_⟩
    rw [w2, nI_sb (show 2 + r1 ≤ nn by omega), nI_1]
    refine Z2.drw hL (by omega) (by omega) (by omega) (fun r2 g10 hr2 Z3 => ⟨Z3.2.2.1, Z3.vp (c := 1) (by decide), fun g11 e11 => ?_⟩)
    have Z4 := Z3.wr (i := 1) e11 rfl
    have w3 : gI g11 y (Int32.toNatClampNeg 2) = nI (2 + r1) := (Z4.2.2.2.2 2 (by decide)).trans nI_2a
    refine ⟨Z4.2.2.1, Z4.vp (c := 2) (by decide), Z4.1.f.1, ?_⟩
    rw [w3]
    refine Z4.drw hL (by omega) (by omega) (by omega) (fun r3 g12 hr3 Z5 => ⟨Z5.2.2.1, Z5.vp (c := 3) (by decide), fun g13 e13 => ?_⟩)
    have Z6 := Z5.wr (i := 3) e13 rfl
    have u1 : gI g13 y (Int32.toNatClampNeg 1) = nI r2 := Z6.2.2.2.2 1 (by decide)
    have u2 : gI g13 y (Int32.toNatClampNeg 2) = nI (2 + r1) := (Z6.2.2.2.2 2 (by decide)).trans nI_2a
    have u3 : gI g13 y (Int32.toNatClampNeg 3) = nI (1 + r3) := (Z6.2.2.2.2 3 (by decide)).trans nI_1a
    refine ⟨Z6.1.f.1, mA, Z6.1.r.1, Z6.2.2.1, Z6.vp (c := 1) (by decide), Z6.vp (c := 2) (by decide), Z6.vp (c := 3) (by decide), hE.kind, ⟨by decide, by decide⟩, ?_⟩
    rw [u1, u2, u3]
    exact q_most hE hnn (by omega) (by omega) (by omega) (by omega) (by omega) (fun gm' σ' hR hE' => fin Z6 (by omega) hR (fun w => by omega) hE')
  · -- term
    refine ⟨Y.1.f.1, Y.drw (N := 6) hL (by decide) (by decide) (by omega) (fun r1 g8 hr1 Z1 => ⟨Z1.2.2.1, Z1.vp (c := 1) (by decide), fun g9 e9 => ?_⟩)⟩
    have Z2 := Z1.wr (i := 1) e9 rfl
    refine ⟨Z2.1.f.1, Z2.drw (N := 7) hL (by decide) (by decide) (by omega) (fun r2 g10 hr2 Z3 => ⟨Z3.2.2.1, Z3.vp (c := 2) (by decide), fun g11 e11 => ?_⟩)⟩
    have Z4 := Z3.wr (i := 2) e11 rfl
    have u1 : gI g11 y (Int32.toNatClampNeg 1) = nI r1 := Z4.2.2.2.2 1 (by decide)
    have u2 : gI g11 y (Int32.toNatClampNeg 2) = nI (1 + r2) := (Z4.2.2.2.2 2 (by decide)).trans nI_1a
    refine ⟨Z4.1.f.1, mA, Z4.1.r.1, Z4.2.2.1, Z4.vp (c := 1) (by decide), Z4.vp (c := 2) (by decide), hE.kind, ⟨by decide, by decide⟩, ?_⟩
    rw [u1, u2]
    exact q_term hE hnn (by omega) (by omega) (by omega) (fun gm' σ' hR hE' => fin Z4 (by omega) hR (fun _ => rfl) hE')
  · rw [tk] at z
    have h3 : 3 ≤ nn := by
      rcases Nat.lt_or_ge nn 3 with w | w
      · have := hk3 w; omega
      · exact w
    unfold w_X10_and
    exact ⟨Y.1.f.1, mA, Y.1.r.1, hE.kind, ⟨by decide, by decide⟩, hE.kind, q_pair hE hnn (Or.inl rfl) (ha h3) (hc h3) (fun gm' σ' hR hE' => fin Y (by omega) hR (fun w => by omega) hE')⟩
  · rw [tk] at z
    have h3 : 3 ≤ nn := by
      rcases Nat.lt_or_ge nn 3 with w | w
      · have := hk3 w; omega
      · exact w
    unfold w_X10_or
    exact ⟨Y.1.f.1, mA, Y.1.r.1, hE.kind, ⟨by decide, by decide⟩, hE.kind, q_pair hE hnn (Or.inr (Or.inl rfl)) (ha h3) (hc h3) (fun gm' σ' hR hE' => fin Y (by omega) hR (fun w => by omega) hE')⟩
  · rw [tk] at z
    have h3 : 3 ≤ nn := by
      rcases Nat.lt_or_ge nn 3 with w | w
      · have := hk3 w; omega
      · exact w
    unfold w_X10_not
    exact ⟨Y.1.f.1, mA, Y.1.r.1, hE.kind, ⟨by decide, by decide⟩, hE.kind, q_pair hE hnn (Or.inr (Or.inr rfl)) (ha h3) (hc h3) (fun gm' σ' hR hE' => fin Y (by omega) hR (fun w => by omega) hE')⟩
  · -- near
    rw [tk] at z
    have h3 : 3 ≤ nn := by
      rcases Nat.lt_or_ge nn 3 with w | w
      · have := hk3 w; omega
      · exact w
    refine ⟨Y.1.f.1, Y.drw (N := 3) hL (by decide) (by decide) (by omega) (fun r1 g8 hr1 Z1 => ⟨Z1.2.2.1, Z1.vp (c := 1) (by decide), fun g9 e9 => ?_⟩)⟩
    have Z2 := Z1.wr (i := 1) e9 rfl
    refine ⟨Z2.1.f.1, Z2.drw (N := 3) hL (by decide) (by decide) (by omega) (fun r2 g10 hr2 Z3 => ⟨Z3.2.2.1, Z3.vp (c := 2) (by decide), fun g11 e11 => ?_⟩)⟩
    have Z4 := Z3.wr (i := 2) e11 rfl
    refine ⟨Z4.1.f.1, Z4.drw (N := 4) hL (by decide) (by decide) (by omega) (fun r3 g12 hr3 Z5 => ⟨Z5.2.2.1, Z5.vp (c := 3) (by decide), fun g13 e13 => ?_⟩)⟩
    have Z6 := Z5.wr (i := 3) e13 rfl
    refine ⟨Z6.2.2.1, Z6.vp (c := 4) (by decide), fun g14 e14 => ?_⟩
    have Z7 := Z6.wr (i := 4) e14 rfl
    have u1 : gI g14 y (Int32.toNatClampNeg 1) = nI r1 := Z7.2.2.2.2 1 (by decide)
    have u2 : gI g14 y (Int32.toNatClampNeg 2) = nI r2 := Z7.2.2.2.2 2 (by decide)
    have u3 : gI g14 y (Int32.toNatClampNeg 3) = nI (1 + r3) := (Z7.2.2.2.2 3 (by decide)).trans nI_1a
    unfold b_X11_query_281
    refine ⟨Z7.1.f.1, mA, Z7.1.r.1, Z7.2.2.1, Z7.vp (c := 1) (by decide), Z7.vp (c := 2) (by decide), Z7.vp (c := 3) (by decide), fun _ => ⟨hE.kind, ⟨by decide, by decide⟩, ?_⟩, fun _ => ⟨hE.kind, ⟨by decide, by decide⟩, ?_⟩⟩
    · rw [u1, u2, u3]
      exact q_near hE hnn (Or.inr rfl) (by omega) (by omega) (by omega) (by omega) (hT r1 hr1 (by omega)) (hT r2 hr2 (by omega)) (fun gm' σ' hR hE' => fin Z7 (by omega) hR (fun w => by omega) hE')
    · rw [u1, u2, u3]
      exact q_near hE hnn (Or.inl rfl) (by omega) (by omega) (by omega) (by omega) (hT r1 hr1 (by omega)) (hT r2 hr2 (by omega)) (fun gm' σ' hR hE' => fin Z7 (by omega) hR (fun w => by omega) hE')
  · -- dated
    rw [tk] at z
    have h3 : 3 ≤ nn := by
      rcases Nat.lt_or_ge nn 3 with w | w
      · have := hk3 w; omega
      · exact w
    refine ⟨Y.1.f.1, Y.drw (N := 20) hL (by decide) (by decide) (by omega) (fun r1 g8 hr1 Z1 => ⟨Z1.2.2.1, Z1.vp (c := 1) (by decide), fun g9 e9 => ?_⟩)⟩
    have Z2 := Z1.wr (i := 1) e9 rfl
    have last : ∀ {g10 gm0 : gS} {d8 e8 : Nat} {v8 : Nat → Int32}, YQ A mA b vm U σ n ns nn d8 wh y v8 g10 → d8 ≤ dr + 6 → v8 1 = nI r1 → e8 < 10000 → EE mA σ n bf nn nr ns gm0 → b_X11_query_333 g10 gm0 (0 + 1) (0 + 5) (A 0) (nI nn) y y 2 (nI e8) b L xs 4 60 Q := by
      intro g10 gm0 d8 e8 v8 W hd8 hv8 he8 hE0
      unfold b_X11_query_333
      refine ⟨W.2.2.1, W.vp (c := 2) (by decide), fun g11 e11 => ?_⟩
      have W2 := W.wr (i := 2) e11 rfl
      have u1 : gI g11 y (Int32.toNatClampNeg 1) = nI r1 := (W2.2.2.2.2 1 (by decide)).trans hv8
      have u2 : gI g11 y (Int32.toNatClampNeg 2) = nI e8 := W2.2.2.2.2 2 (by decide)
      refine ⟨W2.1.f.1, mA, W2.1.r.1, W2.2.2.1, W2.vp (c := 1) (by decide), W2.vp (c := 2) (by decide), hE0.kind, ⟨by decide, by decide⟩, ?_⟩
      rw [u1, u2]
      exact q_dated hE0 hnn (by omega) he8 (fun gm' σ' hR hE' => fin W2 hd8 hR (fun w => by omega) hE')
    refine ⟨Z2.2.2.1, Z2.vp (c := 1) (by decide), Z2.1.f.1, Z2.drw (N := 12) hL (by decide) (by decide) (by omega) (fun r2 g10 hr2 Z3 => ⟨fun _ => ⟨Z3.2.2.1, Z3.vp (c := 1) (by decide), Z3.1.f.1, Z3.drw (N := 12) hL (by decide) (by decide) (by omega) (fun r3 g12 hr3 Z4 => ?_)⟩, fun _ => last (e8 := 0) Z3 (by omega) rfl (by decide) hE⟩)⟩
    have u1 : gI g10 y (Int32.toNatClampNeg 1) = nI r1 := Z3.2.2.2.2 1 (by decide)
    rw [u1, nI_add]
    exact last Z4 (by omega) rfl (by omega) hE
  · -- kind
    rw [tk] at z
    have h3 : 3 ≤ nn := by
      rcases Nat.lt_or_ge nn 3 with w | w
      · have := hk3 w; omega
      · exact w
    refine ⟨Y.1.f.1, Y.drw (N := 7) hL (by decide) (by decide) (by omega) (fun r1 g8 hr1 Z1 => ⟨Z1.2.2.1, Z1.vp (c := 1) (by decide), fun g9 e9 => ?_⟩)⟩
    have Z2 := Z1.wr (i := 1) e9 rfl
    have u1 : gI g9 y (Int32.toNatClampNeg 1) = nI (1 + r1) := (Z2.2.2.2.2 1 (by decide)).trans nI_1a
    refine ⟨Z2.1.f.1, mA, Z2.1.r.1, Z2.2.2.1, Z2.vp (c := 1) (by decide), hE.kind, ⟨by decide, by decide⟩, ?_⟩
    rw [u1]
    exact q_kind hE hnn (by omega) (by omega) (fun gm' σ' hR hE' => fin Z2 (by omega) hR (fun w => by omega) hE')
  · -- scaled
    rw [tk] at z
    have h3 : 3 ≤ nn := by
      rcases Nat.lt_or_ge nn 3 with w | w
      · have := hk3 w; omega
      · exact w
    refine ⟨Y.1.f.1, Y.drw (N := 501) hL (by decide) (by decide) (by omega) (fun r1 g8 hr1 Z1 => ⟨Z1.2.2.1, Z1.vp (c := 2) (by decide), fun g9 e9 => ?_⟩)⟩
    have Z2 := Z1.wr (i := 2) e9 rfl
    have u1 : gI g9 y (Int32.toNatClampNeg 2) = nI r1 := Z2.2.2.2.2 2 (by decide)
    refine ⟨Z2.1.f.1, mA, Z2.1.r.1, Z2.2.2.1, Z2.vp (c := 2) (by decide), hE.kind, ⟨by decide, by decide⟩, ?_⟩
    rw [u1]
    exact q_scaled hE hnn (ha h3) (by omega) (fun gm' σ' hR hE' => fin Z2 (by omega) hR (fun w => by omega) hE')
/-- the method -/
theorem x_squery {L : Nat} {xs : Nat → Int32} (h : SA A mA b vm U σ n ns nn dr wh g) (hE : EE mA σ n bf nn nr ns gm) (hL : L ≤ 260) (hnn : nn < 30) (hdr : dr + 30 < 2 ^ 24) (hT : ∀ j, j < 3 → j < nn → σ 17 j = 0) {Q : Int32 → gS → gS → Prop}
    (hQ : ∀ g' gm' σ' dr' s, dr' ≤ dr + 9 → QryR nn s σ σ' → (nn < 3 → s = 0) → SA A mA b vm U σ' n ns (nn + 1) dr' wh g' → EE mA σ' n bf (nn + 1) nr ns gm' → Q 1 g' gm') : w_X11_query g gm (A 0) b L xs 4 60 Q := by
  have e13 := h.2.2.2.1.1.2.2
  have a2 : ∀ {k a : Nat} {g1 : gS} {d1 : Nat}, SA A mA b vm U σ n ns nn d1 wh g1 → d1 ≤ dr + 2 → k < 9 → (nn < 3 → k = 0) → (0 < nn → a < nn) → b_X11_query_34 g1 gm 0 0 (A 0) (nI nn) (nI k) (nI a) b L xs 4 60 Q := by
    intro k a g1 d1 h1 hd1 hk hk3 ha
    unfold b_X11_query_34
    refine ⟨fun _ => x_q48 (c := 0) h1 hE hL hnn (by omega) hk hk3 (fun _ => ha (by omega)) (fun _ => by omega) hT (fun g' gm' σ' dr' s q1 q2 q3 q4 q5 => hQ g' gm' σ' dr' s (by omega) q2 q3 q4 q5), fun c => ?_⟩
    have h0 : 0 < nn := by
      rcases Nat.eq_zero_or_pos nn with w | w
      · exact absurd (by rw [w]; rfl) c
      · exact w
    exact ⟨h1.f.1, x_draw h1 hL h0 (by omega) (by omega) (fun r g2 hr h2 _ => x_q48 h2 hE hL hnn (by omega) hk hk3 (fun _ => ha (by omega)) (fun _ => hr) hT (fun g' gm' σ' dr' s q1 q2 q3 q4 q5 => hQ g' gm' σ' dr' s (by omega) q2 q3 q4 q5))⟩
  have a1 : ∀ {k : Nat} {g1 : gS} {d1 : Nat}, SA A mA b vm U σ n ns nn d1 wh g1 → d1 ≤ dr + 1 → k < 9 → (nn < 3 → k = 0) → b_X11_query_20 g1 gm 0 0 (A 0) (nI nn) (nI k) b L xs 4 60 Q := by
    intro k g1 d1 h1 hd1 hk hk3
    unfold b_X11_query_20
    refine ⟨fun _ => a2 (a := 0) h1 (by omega) hk hk3 (fun q => q), fun c => ?_⟩
    have h0 : 0 < nn := by
      rcases Nat.eq_zero_or_pos nn with w | w
      · exact absurd (by rw [w]; rfl) c
      · exact w
    exact ⟨h1.f.1, x_draw h1 hL h0 (by omega) (by omega) (fun r g2 hr h2 _ => a2 h2 (by omega) hk hk3 (fun _ => hr))⟩
  unfold w_X11_query
  rw [e13]
  refine ⟨h.f.1, fun c => ?_, fun c => a1 (k := 0) h (by omega) (by decide) (fun _ => rfl)⟩
  have h3 : 3 ≤ nn := (nI_le_iff (a := 3) (show 3 < 2 ^ 31 by decide) (show nn < 2 ^ 31 by omega)).mp c
  exact x_draw (N := 9) h hL (by decide) (by decide) (by omega) (fun r g1 hr h1 _ => a1 h1 (by omega) hr (fun w => by omega))
end SQUERY
