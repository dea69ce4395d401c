/-! THE LAW'S CASES -/
theorem k_open {xs : Nat → Int32} {L r1 r2 r3 : Nat} {gc gm : gS} {i4 : Int32} {k : gS → gS → Int32 → Prop} (h : LI r1 r2 r3 gc gm) (hk : ∀ gc gm, LI r1 r2 r3 gc gm → k gc gm (i4 + 5)) (v1 : vp_in (i4 + 1) L) (v2 : vp_in (i4 + 2) L) (v3 : vp_in (i4 + 3) L) (v4 : vp_in (i4 + 4) L) : b_L_law_228 xs L r1 r2 r3 gc gm i4 k := by
  obtain ⟨A, D, V, σ, n, bf, nn, nr, ns, μ, T, rfl, rfl, hc, hm⟩ := h
  have hP := hc.2.2.1
  obtain ⟨hG, hN, hW, hS⟩ := hP
  have hn := hG.n
  unfold b_L_law_228
  exact ⟨v1, v2, l_open hc (fun x3 g4 hp => ⟨v1, v2, hm.k, mo_open hm hG (fun g9 h9 => tl_int hp so_open.2.1 (so_open.2.2.trans hG.d1) hn h9 hk)⟩)⟩
theorem k_write {xs : Nat → Int32} {L r1 r2 r3 : Nat} {gc gm : gS} {i4 : Int32} {k : gS → gS → Int32 → Prop} (h : LI r1 r2 r3 gc gm) (hk : ∀ gc gm, LI r1 r2 r3 gc gm → k gc gm (i4 + 5)) (v1 : vp_in (i4 + 1) L) (v2 : vp_in (i4 + 2) L) (v3 : vp_in (i4 + 3) L) (v4 : vp_in (i4 + 4) L) : b_L_law_296 xs L r1 r2 r3 gc gm i4 k := by
  obtain ⟨A, D, V, σ, n, bf, nn, nr, ns, μ, T, rfl, rfl, hc, hm⟩ := h
  have hP := hc.2.2.1
  obtain ⟨hG, hN, hW, hS⟩ := hP
  have hn := hG.n
  have ho : ¬ σ 0 2 = 0 → n < 60 := fun c => by have := hc.2.2.2.2.1 c; have := hc.1.1.D6; omega
  unfold b_L_law_296
  exact ⟨v1, v2, l_write hc (fun x3 g4 hp => ⟨v1, v2, hm.k, mo_write hm hG ho (fun g9 h9 => tl_int hp so_write.2.1 (so_write.2.2.trans hG.d1) hn h9 hk)⟩)⟩
theorem k_setAlias {xs : Nat → Int32} {L r1 r2 r3 : Nat} {gc gm : gS} {i4 : Int32} {k : gS → gS → Int32 → Prop} (h : LI r1 r2 r3 gc gm) (hk : ∀ gc gm, LI r1 r2 r3 gc gm → k gc gm (i4 + 5)) (v1 : vp_in (i4 + 1) L) (v2 : vp_in (i4 + 2) L) (v3 : vp_in (i4 + 3) L) (v4 : vp_in (i4 + 4) L) : b_L_law_562 xs L r1 r2 r3 gc gm i4 k := by
  obtain ⟨A, D, V, σ, n, bf, nn, nr, ns, μ, T, rfl, rfl, hc, hm⟩ := h
  have hP := hc.2.2.1
  obtain ⟨hG, hN, hW, hS⟩ := hP
  have hn := hG.n
  unfold b_L_law_562
  exact ⟨v1, v2, l_setAlias hc (fun x3 g4 hp => ⟨v1, v2, hm.k, mo_setAlias hm  (fun g9 h9 => tl_int hp so_setAlias.2.1 (so_setAlias.2.2.trans hG.d1) hn h9 hk)⟩)⟩
theorem k_setWeight {xs : Nat → Int32} {L r1 r2 r3 : Nat} {gc gm : gS} {i4 : Int32} {k : gS → gS → Int32 → Prop} (h : LI r1 r2 r3 gc gm) (hk : ∀ gc gm, LI r1 r2 r3 gc gm → k gc gm (i4 + 5)) (v1 : vp_in (i4 + 1) L) (v2 : vp_in (i4 + 2) L) (v3 : vp_in (i4 + 3) L) (v4 : vp_in (i4 + 4) L) : b_L_law_630 xs L r1 r2 r3 gc gm i4 k := by
  obtain ⟨A, D, V, σ, n, bf, nn, nr, ns, μ, T, rfl, rfl, hc, hm⟩ := h
  have hP := hc.2.2.1
  obtain ⟨hG, hN, hW, hS⟩ := hP
  have hn := hG.n
  unfold b_L_law_630
  exact ⟨v1, v2, l_setWeight hc (fun x3 g4 hp => ⟨v1, v2, hm.k, mo_setWeight hm  (fun g9 h9 => tl_int hp so_setWeight.2.1 (so_setWeight.2.2.trans hG.d1) hn h9 hk)⟩)⟩
theorem k_stateOf {xs : Nat → Int32} {L r1 r2 r3 : Nat} {gc gm : gS} {i4 : Int32} {k : gS → gS → Int32 → Prop} (h : LI r1 r2 r3 gc gm) (hk : ∀ gc gm, LI r1 r2 r3 gc gm → k gc gm (i4 + 5)) (v1 : vp_in (i4 + 1) L) (v2 : vp_in (i4 + 2) L) (v3 : vp_in (i4 + 3) L) (v4 : vp_in (i4 + 4) L) : b_L_law_711 xs L r1 r2 r3 gc gm i4 k := by
  obtain ⟨A, D, V, σ, n, bf, nn, nr, ns, μ, T, rfl, rfl, hc, hm⟩ := h
  have hP := hc.2.2.1
  obtain ⟨hG, hN, hW, hS⟩ := hP
  have hn := hG.n
  unfold b_L_law_711
  exact ⟨v1, l_stateOf hc (fun x3 g4 hp => ⟨v1, hm.k, mo_stateOf hm hG (fun g9 h9 => tl_int hp so_stateOf.2.1 (so_stateOf.2.2.trans hG.d1) hn h9 hk)⟩)⟩
theorem k_termAt {xs : Nat → Int32} {L r1 r2 r3 : Nat} {gc gm : gS} {i4 : Int32} {k : gS → gS → Int32 → Prop} (h : LI r1 r2 r3 gc gm) (hk : ∀ gc gm, LI r1 r2 r3 gc gm → k gc gm (i4 + 5)) (v1 : vp_in (i4 + 1) L) (v2 : vp_in (i4 + 2) L) (v3 : vp_in (i4 + 3) L) (v4 : vp_in (i4 + 4) L) : b_L_law_767 xs L r1 r2 r3 gc gm i4 k := by
  obtain ⟨A, D, V, σ, n, bf, nn, nr, ns, μ, T, rfl, rfl, hc, hm⟩ := h
  have hP := hc.2.2.1
  obtain ⟨hG, hN, hW, hS⟩ := hP
  have hn := hG.n
  unfold b_L_law_767
  exact ⟨v1, v2, v3, l_termAt hc (fun x3 g4 hp => ⟨v1, v2, v3, hm.k, mo_termAt hm hG (fun g9 h9 => tl_int hp so_termAt.2.1 (so_termAt.2.2.trans hG.d1) hn h9 hk)⟩)⟩
theorem k_tierOf {xs : Nat → Int32} {L r1 r2 r3 : Nat} {gc gm : gS} {i4 : Int32} {k : gS → gS → Int32 → Prop} (h : LI r1 r2 r3 gc gm) (hk : ∀ gc gm, LI r1 r2 r3 gc gm → k gc gm (i4 + 5)) (v1 : vp_in (i4 + 1) L) (v2 : vp_in (i4 + 2) L) (v3 : vp_in (i4 + 3) L) (v4 : vp_in (i4 + 4) L) : b_L_law_886 xs L r1 r2 r3 gc gm i4 k := by
  obtain ⟨A, D, V, σ, n, bf, nn, nr, ns, μ, T, rfl, rfl, hc, hm⟩ := h
  have hP := hc.2.2.1
  obtain ⟨hG, hN, hW, hS⟩ := hP
  have hn := hG.n
  unfold b_L_law_886
  exact ⟨v1, l_tierOf hc (fun x3 g4 hp => ⟨v1, hm.k, mo_tierOf hm hG (fun g9 h9 => tl_int hp so_tierOf.2.1 (so_tierOf.2.2.trans hG.d1) hn h9 hk)⟩)⟩
theorem k_sizeOf {xs : Nat → Int32} {L r1 r2 r3 : Nat} {gc gm : gS} {i4 : Int32} {k : gS → gS → Int32 → Prop} (h : LI r1 r2 r3 gc gm) (hk : ∀ gc gm, LI r1 r2 r3 gc gm → k gc gm (i4 + 5)) (v1 : vp_in (i4 + 1) L) (v2 : vp_in (i4 + 2) L) (v3 : vp_in (i4 + 3) L) (v4 : vp_in (i4 + 4) L) : b_L_law_942 xs L r1 r2 r3 gc gm i4 k := by
  obtain ⟨A, D, V, σ, n, bf, nn, nr, ns, μ, T, rfl, rfl, hc, hm⟩ := h
  have hP := hc.2.2.1
  obtain ⟨hG, hN, hW, hS⟩ := hP
  have hn := hG.n
  unfold b_L_law_942
  exact ⟨v1, l_sizeOf hc (fun x3 g4 hp => ⟨v1, hm.k, mo_sizeOf hm hG (fun g9 h9 => tl_int hp so_sizeOf.2.1 (so_sizeOf.2.2.trans hG.d1) hn h9 hk)⟩)⟩
theorem k_spread {xs : Nat → Int32} {L r1 r2 r3 : Nat} {gc gm : gS} {i4 : Int32} {k : gS → gS → Int32 → Prop} (h : LI r1 r2 r3 gc gm) (hk : ∀ gc gm, LI r1 r2 r3 gc gm → k gc gm (i4 + 5)) (v1 : vp_in (i4 + 1) L) (v2 : vp_in (i4 + 2) L) (v3 : vp_in (i4 + 3) L) (v4 : vp_in (i4 + 4) L) : b_L_law_998 xs L r1 r2 r3 gc gm i4 k := by
  obtain ⟨A, D, V, σ, n, bf, nn, nr, ns, μ, T, rfl, rfl, hc, hm⟩ := h
  have hP := hc.2.2.1
  obtain ⟨hG, hN, hW, hS⟩ := hP
  have hn := hG.n
  unfold b_L_law_998
  exact ⟨v1, v2, l_spread hc (fun x3 g4 hp => ⟨v1, v2, hm.k, mo_spread hm hG (fun g9 h9 => tl_int hp so_spread.2.1 (so_spread.2.2.trans hG.d1) hn h9 hk)⟩)⟩
theorem k_rare {xs : Nat → Int32} {L r1 r2 r3 : Nat} {gc gm : gS} {i4 : Int32} {k : gS → gS → Int32 → Prop} (h : LI r1 r2 r3 gc gm) (hk : ∀ gc gm, LI r1 r2 r3 gc gm → k gc gm (i4 + 5)) (v1 : vp_in (i4 + 1) L) (v2 : vp_in (i4 + 2) L) (v3 : vp_in (i4 + 3) L) (v4 : vp_in (i4 + 4) L) : b_L_law_1066 xs L r1 r2 r3 gc gm i4 k := by
  obtain ⟨A, D, V, σ, n, bf, nn, nr, ns, μ, T, rfl, rfl, hc, hm⟩ := h
  have hP := hc.2.2.1
  obtain ⟨hG, hN, hW, hS⟩ := hP
  have hn := hG.n
  unfold b_L_law_1066
  exact ⟨v1, v2, l_rare hc (fun x3 g4 hp => ⟨v1, v2, hm.k, mo_rare hm hG (fun g9 h9 => tl_int hp so_rare.2.1 (so_rare.2.2.trans hG.d1) hn h9 hk)⟩)⟩
theorem k_term {xs : Nat → Int32} {L r1 r2 r3 : Nat} {gc gm : gS} {i4 : Int32} {k : gS → gS → Int32 → Prop} (h : LI r1 r2 r3 gc gm) (hk : ∀ gc gm, LI r1 r2 r3 gc gm → k gc gm (i4 + 5)) (v1 : vp_in (i4 + 1) L) (v2 : vp_in (i4 + 2) L) (v3 : vp_in (i4 + 3) L) (v4 : vp_in (i4 + 4) L) : b_L_law_1134 xs L r1 r2 r3 gc gm i4 k := by
  obtain ⟨A, D, V, σ, n, bf, nn, nr, ns, μ, T, rfl, rfl, hc, hm⟩ := h
  have hP := hc.2.2.1
  obtain ⟨hG, hN, hW, hS⟩ := hP
  have hn := hG.n
  unfold b_L_law_1134
  exact ⟨v1, v2, l_term hc (fun x3 g4 hp => ⟨v1, v2, hm.k, mo_term hm hG (fun g9 h9 => tl_int hp so_term.2.1 (so_term.2.2.trans hG.d1) hn h9 hk)⟩)⟩
theorem k_and {xs : Nat → Int32} {L r1 r2 r3 : Nat} {gc gm : gS} {i4 : Int32} {k : gS → gS → Int32 → Prop} (h : LI r1 r2 r3 gc gm) (hk : ∀ gc gm, LI r1 r2 r3 gc gm → k gc gm (i4 + 5)) (v1 : vp_in (i4 + 1) L) (v2 : vp_in (i4 + 2) L) (v3 : vp_in (i4 + 3) L) (v4 : vp_in (i4 + 4) L) : b_L_law_1202 xs L r1 r2 r3 gc gm i4 k := by
  obtain ⟨A, D, V, σ, n, bf, nn, nr, ns, μ, T, rfl, rfl, hc, hm⟩ := h
  have hP := hc.2.2.1
  obtain ⟨hG, hN, hW, hS⟩ := hP
  have hn := hG.n
  unfold b_L_law_1202
  exact ⟨v1, v2, l_and hc (fun x3 g4 hp => ⟨v1, v2, hm.k, mo_and hm hG (fun g9 h9 => tl_int hp so_pair.2.1 (so_pair.2.2.trans hG.d1) hn h9 hk)⟩)⟩
theorem k_or {xs : Nat → Int32} {L r1 r2 r3 : Nat} {gc gm : gS} {i4 : Int32} {k : gS → gS → Int32 → Prop} (h : LI r1 r2 r3 gc gm) (hk : ∀ gc gm, LI r1 r2 r3 gc gm → k gc gm (i4 + 5)) (v1 : vp_in (i4 + 1) L) (v2 : vp_in (i4 + 2) L) (v3 : vp_in (i4 + 3) L) (v4 : vp_in (i4 + 4) L) : b_L_law_1270 xs L r1 r2 r3 gc gm i4 k := by
  obtain ⟨A, D, V, σ, n, bf, nn, nr, ns, μ, T, rfl, rfl, hc, hm⟩ := h
  have hP := hc.2.2.1
  obtain ⟨hG, hN, hW, hS⟩ := hP
  have hn := hG.n
  unfold b_L_law_1270
  exact ⟨v1, v2, l_or hc (fun x3 g4 hp => ⟨v1, v2, hm.k, mo_or hm hG (fun g9 h9 => tl_int hp so_pair.2.1 (so_pair.2.2.trans hG.d1) hn h9 hk)⟩)⟩
theorem k_not {xs : Nat → Int32} {L r1 r2 r3 : Nat} {gc gm : gS} {i4 : Int32} {k : gS → gS → Int32 → Prop} (h : LI r1 r2 r3 gc gm) (hk : ∀ gc gm, LI r1 r2 r3 gc gm → k gc gm (i4 + 5)) (v1 : vp_in (i4 + 1) L) (v2 : vp_in (i4 + 2) L) (v3 : vp_in (i4 + 3) L) (v4 : vp_in (i4 + 4) L) : b_L_law_1338 xs L r1 r2 r3 gc gm i4 k := by
  obtain ⟨A, D, V, σ, n, bf, nn, nr, ns, μ, T, rfl, rfl, hc, hm⟩ := h
  have hP := hc.2.2.1
  obtain ⟨hG, hN, hW, hS⟩ := hP
  have hn := hG.n
  unfold b_L_law_1338
  exact ⟨v1, v2, l_not hc (fun x3 g4 hp => ⟨v1, v2, hm.k, mo_not hm hG (fun g9 h9 => tl_int hp so_pair.2.1 (so_pair.2.2.trans hG.d1) hn h9 hk)⟩)⟩
theorem k_dated {xs : Nat → Int32} {L r1 r2 r3 : Nat} {gc gm : gS} {i4 : Int32} {k : gS → gS → Int32 → Prop} (h : LI r1 r2 r3 gc gm) (hk : ∀ gc gm, LI r1 r2 r3 gc gm → k gc gm (i4 + 5)) (v1 : vp_in (i4 + 1) L) (v2 : vp_in (i4 + 2) L) (v3 : vp_in (i4 + 3) L) (v4 : vp_in (i4 + 4) L) : b_L_law_1514 xs L r1 r2 r3 gc gm i4 k := by
  obtain ⟨A, D, V, σ, n, bf, nn, nr, ns, μ, T, rfl, rfl, hc, hm⟩ := h
  have hP := hc.2.2.1
  obtain ⟨hG, hN, hW, hS⟩ := hP
  have hn := hG.n
  unfold b_L_law_1514
  exact ⟨v1, v2, l_dated hc (fun x3 g4 hp => ⟨v1, v2, hm.k, mo_dated hm hG (fun g9 h9 => tl_int hp so_dated.2.1 (so_dated.2.2.trans hG.d1) hn h9 hk)⟩)⟩
theorem k_kind {xs : Nat → Int32} {L r1 r2 r3 : Nat} {gc gm : gS} {i4 : Int32} {k : gS → gS → Int32 → Prop} (h : LI r1 r2 r3 gc gm) (hk : ∀ gc gm, LI r1 r2 r3 gc gm → k gc gm (i4 + 5)) (v1 : vp_in (i4 + 1) L) (v2 : vp_in (i4 + 2) L) (v3 : vp_in (i4 + 3) L) (v4 : vp_in (i4 + 4) L) : b_L_law_1582 xs L r1 r2 r3 gc gm i4 k := by
  obtain ⟨A, D, V, σ, n, bf, nn, nr, ns, μ, T, rfl, rfl, hc, hm⟩ := h
  have hP := hc.2.2.1
  obtain ⟨hG, hN, hW, hS⟩ := hP
  have hn := hG.n
  unfold b_L_law_1582
  exact ⟨v1, l_kind hc (fun x3 g4 hp => ⟨v1, hm.k, mo_kind hm hG (fun g9 h9 => tl_int hp so_kind.2.1 (so_kind.2.2.trans hG.d1) hn h9 hk)⟩)⟩
theorem k_scaled {xs : Nat → Int32} {L r1 r2 r3 : Nat} {gc gm : gS} {i4 : Int32} {k : gS → gS → Int32 → Prop} (h : LI r1 r2 r3 gc gm) (hk : ∀ gc gm, LI r1 r2 r3 gc gm → k gc gm (i4 + 5)) (v1 : vp_in (i4 + 1) L) (v2 : vp_in (i4 + 2) L) (v3 : vp_in (i4 + 3) L) (v4 : vp_in (i4 + 4) L) : b_L_law_1638 xs L r1 r2 r3 gc gm i4 k := by
  obtain ⟨A, D, V, σ, n, bf, nn, nr, ns, μ, T, rfl, rfl, hc, hm⟩ := h
  have hP := hc.2.2.1
  obtain ⟨hG, hN, hW, hS⟩ := hP
  have hn := hG.n
  unfold b_L_law_1638
  exact ⟨v1, v2, l_scaled hc (fun x3 g4 hp => ⟨v1, v2, hm.k, mo_scaled hm hG (fun g9 h9 => tl_int hp so_scaled.2.1 (so_scaled.2.2.trans hG.d1) hn h9 hk)⟩)⟩
theorem k_most {xs : Nat → Int32} {L r1 r2 r3 : Nat} {gc gm : gS} {i4 : Int32} {k : gS → gS → Int32 → Prop} (h : LI r1 r2 r3 gc gm) (hk : ∀ gc gm, LI r1 r2 r3 gc gm → k gc gm (i4 + 5)) (v1 : vp_in (i4 + 1) L) (v2 : vp_in (i4 + 2) L) (v3 : vp_in (i4 + 3) L) (v4 : vp_in (i4 + 4) L) : b_L_law_1706 xs L r1 r2 r3 gc gm i4 k := by
  obtain ⟨A, D, V, σ, n, bf, nn, nr, ns, μ, T, rfl, rfl, hc, hm⟩ := h
  have hP := hc.2.2.1
  obtain ⟨hG, hN, hW, hS⟩ := hP
  have hn := hG.n
  unfold b_L_law_1706
  exact ⟨v1, v2, v3, l_most hc (fun x3 g4 hp => ⟨v1, v2, v3, hm.k, mo_most hm hG (fun g9 h9 => tl_int hp so_most.2.1 (so_most.2.2.trans hG.d1) hn h9 hk)⟩)⟩
theorem k_score {xs : Nat → Int32} {L r1 r2 r3 : Nat} {gc gm : gS} {i4 : Int32} {k : gS → gS → Int32 → Prop} (h : LI r1 r2 r3 gc gm) (hk : ∀ gc gm, LI r1 r2 r3 gc gm → k gc gm (i4 + 5)) (v1 : vp_in (i4 + 1) L) (v2 : vp_in (i4 + 2) L) (v3 : vp_in (i4 + 3) L) (v4 : vp_in (i4 + 4) L) : b_L_law_1812 xs L r1 r2 r3 gc gm i4 k := by
  obtain ⟨A, D, V, σ, n, bf, nn, nr, ns, μ, T, rfl, rfl, hc, hm⟩ := h
  have hP := hc.2.2.1
  obtain ⟨hG, hN, hW, hS⟩ := hP
  have hn := hG.n
  unfold b_L_law_1812
  exact ⟨v1, v2, l_score hc (fun x3 g4 hp => ⟨v1, v2, hm.k, mo_score hm hG hN (fun g9 T' h9 => tl_int hp so_score.2.1 (so_score.2.2.trans hG.d1) hn h9 hk)⟩)⟩
theorem k_found {xs : Nat → Int32} {L r1 r2 r3 : Nat} {gc gm : gS} {i4 : Int32} {k : gS → gS → Int32 → Prop} (h : LI r1 r2 r3 gc gm) (hk : ∀ gc gm, LI r1 r2 r3 gc gm → k gc gm (i4 + 5)) (v1 : vp_in (i4 + 1) L) (v2 : vp_in (i4 + 2) L) (v3 : vp_in (i4 + 3) L) (v4 : vp_in (i4 + 4) L) : b_L_law_1880 xs L r1 r2 r3 gc gm i4 k := by
  obtain ⟨A, D, V, σ, n, bf, nn, nr, ns, μ, T, rfl, rfl, hc, hm⟩ := h
  have hP := hc.2.2.1
  obtain ⟨hG, hN, hW, hS⟩ := hP
  have hn := hG.n
  unfold b_L_law_1880
  exact ⟨v1, l_found hc (fun x3 g4 hp => ⟨v1, hm.k, mo_found hm hG hN (fun g9 T' h9 => tl_int hp so_found.2.1 (so_found.2.2.trans hG.d1) hn h9 hk)⟩)⟩
theorem k_search {xs : Nat → Int32} {L r1 r2 r3 : Nat} {gc gm : gS} {i4 : Int32} {k : gS → gS → Int32 → Prop} (h : LI r1 r2 r3 gc gm) (hk : ∀ gc gm, LI r1 r2 r3 gc gm → k gc gm (i4 + 5)) (v1 : vp_in (i4 + 1) L) (v2 : vp_in (i4 + 2) L) (v3 : vp_in (i4 + 3) L) (v4 : vp_in (i4 + 4) L) : b_L_law_1936 xs L r1 r2 r3 gc gm i4 k := by
  obtain ⟨A, D, V, σ, n, bf, nn, nr, ns, μ, T, rfl, rfl, hc, hm⟩ := h
  have hP := hc.2.2.1
  obtain ⟨hG, hN, hW, hS⟩ := hP
  have hn := hG.n
  unfold b_L_law_1936
  exact ⟨v1, l_search hc (fun x3 g4 hp => ⟨v1, hm.k, mo_search hm hG hN (fun g9 T' h9 => tl_int hp so_search.2.1 (so_search.2.2.trans hG.d1) hn h9 hk)⟩)⟩
theorem k_resultAt {xs : Nat → Int32} {L r1 r2 r3 : Nat} {gc gm : gS} {i4 : Int32} {k : gS → gS → Int32 → Prop} (h : LI r1 r2 r3 gc gm) (hk : ∀ gc gm, LI r1 r2 r3 gc gm → k gc gm (i4 + 5)) (v1 : vp_in (i4 + 1) L) (v2 : vp_in (i4 + 2) L) (v3 : vp_in (i4 + 3) L) (v4 : vp_in (i4 + 4) L) : b_L_law_2005 xs L r1 r2 r3 gc gm i4 k := by
  obtain ⟨A, D, V, σ, n, bf, nn, nr, ns, μ, T, rfl, rfl, hc, hm⟩ := h
  have hP := hc.2.2.1
  obtain ⟨hG, hN, hW, hS⟩ := hP
  have hn := hG.n
  unfold b_L_law_2005
  exact ⟨v1, l_resultAt hc (fun x3 g4 hp => ⟨v1, hm.k, mo_resultAt hm hG (fun g9 h9 => tl_int hp so_resultAt.2.1 (so_resultAt.2.2.trans hG.d1) hn h9 hk)⟩)⟩
theorem k_scoreAt {xs : Nat → Int32} {L r1 r2 r3 : Nat} {gc gm : gS} {i4 : Int32} {k : gS → gS → Int32 → Prop} (h : LI r1 r2 r3 gc gm) (hk : ∀ gc gm, LI r1 r2 r3 gc gm → k gc gm (i4 + 5)) (v1 : vp_in (i4 + 1) L) (v2 : vp_in (i4 + 2) L) (v3 : vp_in (i4 + 3) L) (v4 : vp_in (i4 + 4) L) : b_L_law_2061 xs L r1 r2 r3 gc gm i4 k := by
  obtain ⟨A, D, V, σ, n, bf, nn, nr, ns, μ, T, rfl, rfl, hc, hm⟩ := h
  have hP := hc.2.2.1
  obtain ⟨hG, hN, hW, hS⟩ := hP
  have hn := hG.n
  unfold b_L_law_2061
  exact ⟨v1, l_scoreAt hc (fun x3 g4 hp => ⟨v1, hm.k, mo_scoreAt hm hG (fun g9 h9 => tl_int hp so_scoreAt.2.1 (so_scoreAt.2.2.trans hG.d1) hn h9 hk)⟩)⟩
theorem k_ofKind {xs : Nat → Int32} {L r1 r2 r3 : Nat} {gc gm : gS} {i4 : Int32} {k : gS → gS → Int32 → Prop} (h : LI r1 r2 r3 gc gm) (hk : ∀ gc gm, LI r1 r2 r3 gc gm → k gc gm (i4 + 5)) (v1 : vp_in (i4 + 1) L) (v2 : vp_in (i4 + 2) L) (v3 : vp_in (i4 + 3) L) (v4 : vp_in (i4 + 4) L) : b_L_law_2117 xs L r1 r2 r3 gc gm i4 k := by
  obtain ⟨A, D, V, σ, n, bf, nn, nr, ns, μ, T, rfl, rfl, hc, hm⟩ := h
  have hP := hc.2.2.1
  obtain ⟨hG, hN, hW, hS⟩ := hP
  have hn := hG.n
  have hR : RG σ n nr := fun p hp => by obtain ⟨d, hd, e, _⟩ := hc.1.2.2.2.2.2.2.2.1 p hp; exact ⟨d, hd, e⟩
  unfold b_L_law_2117
  exact ⟨v1, l_ofKind hc (fun x3 g4 hp => ⟨v1, hm.k, mo_ofKind hm hG hR (fun g9 h9 => tl_int hp so_ofKind.2.1 (so_ofKind.2.2.trans hG.d1) hn h9 hk)⟩)⟩
theorem k_ofDates {xs : Nat → Int32} {L r1 r2 r3 : Nat} {gc gm : gS} {i4 : Int32} {k : gS → gS → Int32 → Prop} (h : LI r1 r2 r3 gc gm) (hk : ∀ gc gm, LI r1 r2 r3 gc gm → k gc gm (i4 + 5)) (v1 : vp_in (i4 + 1) L) (v2 : vp_in (i4 + 2) L) (v3 : vp_in (i4 + 3) L) (v4 : vp_in (i4 + 4) L) : b_L_law_2173 xs L r1 r2 r3 gc gm i4 k := by
  obtain ⟨A, D, V, σ, n, bf, nn, nr, ns, μ, T, rfl, rfl, hc, hm⟩ := h
  have hP := hc.2.2.1
  obtain ⟨hG, hN, hW, hS⟩ := hP
  have hn := hG.n
  have hR : RG σ n nr := fun p hp => by obtain ⟨d, hd, e, _⟩ := hc.1.2.2.2.2.2.2.2.1 p hp; exact ⟨d, hd, e⟩
  unfold b_L_law_2173
  exact ⟨v1, v2, l_ofDates hc (fun x3 g4 hp => ⟨v1, v2, hm.k, mo_ofDates hm hG hR (fun g9 h9 => tl_int hp so_ofDates.2.1 (so_ofDates.2.2.trans hG.d1) hn h9 hk)⟩)⟩
theorem k_window {xs : Nat → Int32} {L r1 r2 r3 : Nat} {gc gm : gS} {i4 : Int32} {k : gS → gS → Int32 → Prop} (h : LI r1 r2 r3 gc gm) (hk : ∀ gc gm, LI r1 r2 r3 gc gm → k gc gm (i4 + 5)) (v1 : vp_in (i4 + 1) L) (v2 : vp_in (i4 + 2) L) (v3 : vp_in (i4 + 3) L) (v4 : vp_in (i4 + 4) L) : b_L_law_2241 xs L r1 r2 r3 gc gm i4 k := by
  obtain ⟨A, D, V, σ, n, bf, nn, nr, ns, μ, T, rfl, rfl, hc, hm⟩ := h
  have hP := hc.2.2.1
  obtain ⟨hG, hN, hW, hS⟩ := hP
  have hn := hG.n
  unfold b_L_law_2241
  exact ⟨v1, v2, v3, v4, l_window hc (fun x3 g4 hp => ⟨v1, v2, v3, v4, hm.k, mo_window hm hG hN (fun g9 h9 => tl_int hp so_window.2.1 (so_window.2.2.trans hG.d1) hn h9 hk)⟩)⟩
theorem k_like {xs : Nat → Int32} {L r1 r2 r3 : Nat} {gc gm : gS} {i4 : Int32} {k : gS → gS → Int32 → Prop} (h : LI r1 r2 r3 gc gm) (hk : ∀ gc gm, LI r1 r2 r3 gc gm → k gc gm (i4 + 5)) (v1 : vp_in (i4 + 1) L) (v2 : vp_in (i4 + 2) L) (v3 : vp_in (i4 + 3) L) (v4 : vp_in (i4 + 4) L) : b_L_law_2333 xs L r1 r2 r3 gc gm i4 k := by
  obtain ⟨A, D, V, σ, n, bf, nn, nr, ns, μ, T, rfl, rfl, hc, hm⟩ := h
  have hP := hc.2.2.1
  obtain ⟨hG, hN, hW, hS⟩ := hP
  have hn := hG.n
  unfold b_L_law_2333
  exact ⟨v1, l_like hc (fun x3 g4 hp => ⟨v1, hm.k, mo_like hm hG (fun g9 h9 => tl_int hp so_like.2.1 (so_like.2.2.trans hG.d1) hn h9 hk)⟩)⟩
theorem k_mate {xs : Nat → Int32} {L r1 r2 r3 : Nat} {gc gm : gS} {i4 : Int32} {k : gS → gS → Int32 → Prop} (h : LI r1 r2 r3 gc gm) (hk : ∀ gc gm, LI r1 r2 r3 gc gm → k gc gm (i4 + 5)) (v1 : vp_in (i4 + 1) L) (v2 : vp_in (i4 + 2) L) (v3 : vp_in (i4 + 3) L) (v4 : vp_in (i4 + 4) L) : b_L_law_2389 xs L r1 r2 r3 gc gm i4 k := by
  obtain ⟨A, D, V, σ, n, bf, nn, nr, ns, μ, T, rfl, rfl, hc, hm⟩ := h
  have hP := hc.2.2.1
  obtain ⟨hG, hN, hW, hS⟩ := hP
  have hn := hG.n
  unfold b_L_law_2389
  exact ⟨v1, l_mate hc (fun x3 g4 hp => ⟨v1, hm.k, mo_mate hm hG (fun g9 h9 => tl_int hp so_mate.2.1 (so_mate.2.2.trans hG.d1) hn h9 hk)⟩)⟩
theorem k_cost {xs : Nat → Int32} {L r1 r2 r3 : Nat} {gc gm : gS} {i4 : Int32} {k : gS → gS → Int32 → Prop} (h : LI r1 r2 r3 gc gm) (hk : ∀ gc gm, LI r1 r2 r3 gc gm → k gc gm (i4 + 5)) (v1 : vp_in (i4 + 1) L) (v2 : vp_in (i4 + 2) L) (v3 : vp_in (i4 + 3) L) (v4 : vp_in (i4 + 4) L) : b_L_law_2445 xs L r1 r2 r3 gc gm i4 k := by
  obtain ⟨A, D, V, σ, n, bf, nn, nr, ns, μ, T, rfl, rfl, hc, hm⟩ := h
  have hP := hc.2.2.1
  obtain ⟨hG, hN, hW, hS⟩ := hP
  have hn := hG.n
  unfold b_L_law_2445
  exact ⟨v1, l_cost hc (fun x3 g4 hp => ⟨v1, hm.k, mo_cost hm hG hN (fun g9 h9 => tl_int hp so_cost.2.1 (so_cost.2.2.trans hG.d1) hn h9 hk)⟩)⟩
theorem k_byAlias {xs : Nat → Int32} {L r1 r2 r3 : Nat} {gc gm : gS} {i4 : Int32} {k : gS → gS → Int32 → Prop} (h : LI r1 r2 r3 gc gm) (hk : ∀ gc gm, LI r1 r2 r3 gc gm → k gc gm (i4 + 5)) (v1 : vp_in (i4 + 1) L) (v2 : vp_in (i4 + 2) L) (v3 : vp_in (i4 + 3) L) (v4 : vp_in (i4 + 4) L) : b_L_law_2501 xs L r1 r2 r3 gc gm i4 k := by
  obtain ⟨A, D, V, σ, n, bf, nn, nr, ns, μ, T, rfl, rfl, hc, hm⟩ := h
  have hP := hc.2.2.1
  obtain ⟨hG, hN, hW, hS⟩ := hP
  have hn := hG.n
  unfold b_L_law_2501
  exact ⟨v1, l_byAlias hc (fun x3 g4 hp => ⟨v1, hm.k, mo_byAlias hm hG hN (fun g9 T' h9 => tl_int hp so_byAlias.2.1 (so_byAlias.2.2.trans hG.d1) hn h9 hk)⟩)⟩
theorem k_wouldScore {xs : Nat → Int32} {L r1 r2 r3 : Nat} {gc gm : gS} {i4 : Int32} {k : gS → gS → Int32 → Prop} (h : LI r1 r2 r3 gc gm) (hk : ∀ gc gm, LI r1 r2 r3 gc gm → k gc gm (i4 + 5)) (v1 : vp_in (i4 + 1) L) (v2 : vp_in (i4 + 2) L) (v3 : vp_in (i4 + 3) L) (v4 : vp_in (i4 + 4) L) : b_L_law_2557 xs L r1 r2 r3 gc gm i4 k := by
  obtain ⟨A, D, V, σ, n, bf, nn, nr, ns, μ, T, rfl, rfl, hc, hm⟩ := h
  have hP := hc.2.2.1
  obtain ⟨hG, hN, hW, hS⟩ := hP
  have hn := hG.n
  unfold b_L_law_2557
  exact ⟨v1, v2, l_wouldScore hc (fun x3 g4 hp => ⟨v1, v2, hm.k, mo_wouldScore hm hG hN (fun g9 T' h9 => tl_int hp so_wouldScore.2.1 (so_wouldScore.2.2.trans hG.d1) hn h9 hk)⟩)⟩
theorem k_documents {xs : Nat → Int32} {L r1 r2 r3 : Nat} {gc gm : gS} {i4 : Int32} {k : gS → gS → Int32 → Prop} (h : LI r1 r2 r3 gc gm) (hk : ∀ gc gm, LI r1 r2 r3 gc gm → k gc gm (i4 + 5)) (v1 : vp_in (i4 + 1) L) (v2 : vp_in (i4 + 2) L) (v3 : vp_in (i4 + 3) L) (v4 : vp_in (i4 + 4) L) : b_L_law_698 xs L r1 r2 r3 gc gm i4 k := by
  obtain ⟨A, D, V, σ, n, bf, nn, nr, ns, μ, T, rfl, rfl, hc, hm⟩ := h
  have hP := hc.2.2.1
  obtain ⟨hG, hN, hW, hS⟩ := hP
  have hn := hG.n
  unfold b_L_law_698
  exact ⟨hc.1.1.k0, p_documents hc ⟨hm.k, mo_documents hm (fun g9 h9 => ⟨fun _ => hk _ _ (li_of (hc.tz 0).cs h9 (by rw [tz_0 (by decide)]; exact hG.d1) hn), fun c => absurd rfl c⟩)⟩⟩
theorem k_segments {xs : Nat → Int32} {L r1 r2 r3 : Nat} {gc gm : gS} {i4 : Int32} {k : gS → gS → Int32 → Prop} (h : LI r1 r2 r3 gc gm) (hk : ∀ gc gm, LI r1 r2 r3 gc gm → k gc gm (i4 + 5)) (v1 : vp_in (i4 + 1) L) (v2 : vp_in (i4 + 2) L) (v3 : vp_in (i4 + 3) L) (v4 : vp_in (i4 + 4) L) : b_L_law_873 xs L r1 r2 r3 gc gm i4 k := by
  obtain ⟨A, D, V, σ, n, bf, nn, nr, ns, μ, T, rfl, rfl, hc, hm⟩ := h
  have hP := hc.2.2.1
  obtain ⟨hG, hN, hW, hS⟩ := hP
  have hn := hG.n
  unfold b_L_law_873
  exact ⟨hc.1.1.k0, p_segments hc ⟨hm.k, mo_segments hm (fun g9 h9 => ⟨fun _ => hk _ _ (li_of (hc.tz 0).cs h9 (by rw [tz_0 (by decide)]; exact hG.d1) hn), fun c => absurd rfl c⟩)⟩⟩
theorem k_nodes {xs : Nat → Int32} {L r1 r2 r3 : Nat} {gc gm : gS} {i4 : Int32} {k : gS → gS → Int32 → Prop} (h : LI r1 r2 r3 gc gm) (hk : ∀ gc gm, LI r1 r2 r3 gc gm → k gc gm (i4 + 5)) (v1 : vp_in (i4 + 1) L) (v2 : vp_in (i4 + 2) L) (v3 : vp_in (i4 + 3) L) (v4 : vp_in (i4 + 4) L) : b_L_law_1799 xs L r1 r2 r3 gc gm i4 k := by
  obtain ⟨A, D, V, σ, n, bf, nn, nr, ns, μ, T, rfl, rfl, hc, hm⟩ := h
  have hP := hc.2.2.1
  obtain ⟨hG, hN, hW, hS⟩ := hP
  have hn := hG.n
  unfold b_L_law_1799
  exact ⟨hc.1.1.k0, p_nodes hc ⟨hm.k, mo_nodes hm (fun g9 h9 => ⟨fun _ => hk _ _ (li_of (hc.tz 0).cs h9 (by rw [tz_0 (by decide)]; exact hG.d1) hn), fun c => absurd rfl c⟩)⟩⟩
theorem k_results {xs : Nat → Int32} {L r1 r2 r3 : Nat} {gc gm : gS} {i4 : Int32} {k : gS → gS → Int32 → Prop} (h : LI r1 r2 r3 gc gm) (hk : ∀ gc gm, LI r1 r2 r3 gc gm → k gc gm (i4 + 5)) (v1 : vp_in (i4 + 1) L) (v2 : vp_in (i4 + 2) L) (v3 : vp_in (i4 + 3) L) (v4 : vp_in (i4 + 4) L) : b_L_law_1992 xs L r1 r2 r3 gc gm i4 k := by
  obtain ⟨A, D, V, σ, n, bf, nn, nr, ns, μ, T, rfl, rfl, hc, hm⟩ := h
  have hP := hc.2.2.1
  obtain ⟨hG, hN, hW, hS⟩ := hP
  have hn := hG.n
  unfold b_L_law_1992
  exact ⟨hc.1.1.k0, p_results hc ⟨hm.k, mo_results hm (fun g9 h9 => ⟨fun _ => hk _ _ (li_of (hc.tz 0).cs h9 (by rw [tz_0 (by decide)]; exact hG.d1) hn), fun c => absurd rfl c⟩)⟩⟩
theorem k_flush {xs : Nat → Int32} {L r1 r2 r3 : Nat} {gc gm : gS} {i4 : Int32} {k : gS → gS → Int32 → Prop} (h : LI r1 r2 r3 gc gm) (hk : ∀ gc gm, LI r1 r2 r3 gc gm → k gc gm (i4 + 5)) (v1 : vp_in (i4 + 1) L) (v2 : vp_in (i4 + 2) L) (v3 : vp_in (i4 + 3) L) (v4 : vp_in (i4 + 4) L) : b_L_law_847 xs L r1 r2 r3 gc gm i4 k := by
  obtain ⟨A, D, V, σ, n, bf, nn, nr, ns, μ, T, rfl, rfl, hc, hm⟩ := h
  have hP := hc.2.2.1
  obtain ⟨hG, hN, hW, hS⟩ := hP
  have hn := hG.n
  have hns : bf < n → ns < 60 := fun c => by have := hS.nsb hn hG.ns6; omega
  unfold b_L_law_847
  exact ⟨hc.1.1.k0, p_flush hc (fun g3 h3 => ⟨hm.k, mo_flush hm hG hns (fun g9 h9 => ⟨fun _ => hk _ _ (li_u h3 h9), fun c => absurd rfl c⟩)⟩)⟩
theorem k_compact {xs : Nat → Int32} {L r1 r2 r3 : Nat} {gc gm : gS} {i4 : Int32} {k : gS → gS → Int32 → Prop} (h : LI r1 r2 r3 gc gm) (hk : ∀ gc gm, LI r1 r2 r3 gc gm → k gc gm (i4 + 5)) (v1 : vp_in (i4 + 1) L) (v2 : vp_in (i4 + 2) L) (v3 : vp_in (i4 + 3) L) (v4 : vp_in (i4 + 4) L) : b_L_law_860 xs L r1 r2 r3 gc gm i4 k := by
  obtain ⟨A, D, V, σ, n, bf, nn, nr, ns, μ, T, rfl, rfl, hc, hm⟩ := h
  have hP := hc.2.2.1
  obtain ⟨hG, hN, hW, hS⟩ := hP
  have hn := hG.n
  have e01 : (S_compact σ).2.2 0 1 = nI n := by
    unfold S_compact
    split
    · show tz σ 0 0 1 = _
      rw [tz_0 (by decide)]; exact hG.d1
    · show mergeR (tz σ 0) (nF σ) 0 (mxF σ (cl (σ 0 13))) 0 1 = _
      rw [merge_0 (by decide), tz_0 (by decide)]; exact hG.d1
  unfold b_L_law_860
  exact ⟨hc.1.1.k0, p_compact hc (fun g3 h3 => ⟨hm.k, mo_compact hm hG (fun g9 h9 => ⟨fun _ => hk _ _ (li_of h3 h9 e01 hn), fun c => absurd rfl c⟩)⟩)⟩
theorem k_clear {xs : Nat → Int32} {L r1 r2 r3 : Nat} {gc gm : gS} {i4 : Int32} {k : gS → gS → Int32 → Prop} (h : LI r1 r2 r3 gc gm) (hk : ∀ gc gm, LI r1 r2 r3 gc gm → k gc gm (i4 + 5)) (v1 : vp_in (i4 + 1) L) (v2 : vp_in (i4 + 2) L) (v3 : vp_in (i4 + 3) L) (v4 : vp_in (i4 + 4) L) : b_L_law_1786 xs L r1 r2 r3 gc gm i4 k := by
  obtain ⟨A, D, V, σ, n, bf, nn, nr, ns, μ, T, rfl, rfl, hc, hm⟩ := h
  have hP := hc.2.2.1
  obtain ⟨hG, hN, hW, hS⟩ := hP
  have hn := hG.n
  have e01 : (S_clear σ).2.2 0 1 = nI n := by
    show su (tz σ 0) 0 16 0 0 1 = _
    rw [su_at, if_neg (by decide), tz_0 (by decide)]; exact hG.d1
  unfold b_L_law_1786
  exact ⟨hc.1.1.k0, p_clear hc (fun g3 h3 => ⟨hm.k, mo_clear hm (fun g9 h9 => ⟨fun _ => hk _ _ (li_of h3 h9 e01 hn), fun c => absurd rfl c⟩)⟩)⟩
theorem k_close {xs : Nat → Int32} {L r1 r2 r3 : Nat} {gc gm : gS} {i4 : Int32} {k : gS → gS → Int32 → Prop} (h : LI r1 r2 r3 gc gm) (hk : ∀ gc gm, LI r1 r2 r3 gc gm → k gc gm (i4 + 5)) (v1 : vp_in (i4 + 1) L) (v2 : vp_in (i4 + 2) L) (v3 : vp_in (i4 + 3) L) (v4 : vp_in (i4 + 4) L) : b_L_law_364 xs L r1 r2 r3 gc gm i4 k := by
  obtain ⟨A, D, V, σ, n, bf, nn, nr, ns, μ, T, rfl, rfl, hc, hm⟩ := h
  have hP := hc.2.2.1
  obtain ⟨hG, hN, hW, hS⟩ := hP
  have hn := hG.n
  have ho : ¬ σ 0 2 = 0 → n < 60 := fun c => by have := hc.2.2.2.2.1 c; have := hc.1.1.D6; omega
  have h00 : (S_close σ).2.2 0 0 = (S_close σ).1 := by
    unfold S_close
    split
    · exact so_bad.2.1
    · show su (su (tz σ 0) 0 2 0) 0 1 (σ 0 1 + 1) 0 0 = 0
      simp [su_at, tz]
  have e01 : (S_close σ).2.2 0 1 = nI (if σ 0 2 = 0 then n else n + 1) := by
    by_cases c : σ 0 2 = 0
    · rw [if_pos c]
      have : (S_close σ).2.2 = tz σ 1 := by unfold S_close; rw [if_pos c]; rfl
      rw [this, tz_0 (by decide)]; exact hG.d1
    · rw [if_neg c]
      have : (S_close σ).2.2 = su (su (tz σ 0) 0 2 0) 0 1 (σ 0 1 + 1) := by unfold S_close; rw [if_neg c]
      rw [this, su_at, if_pos rfl, hG.d1, nI_1]
  have h6 : (if σ 0 2 = 0 then n else n + 1) ≤ 60 := by
    by_cases c : σ 0 2 = 0
    · rw [if_pos c]; exact hn
    · rw [if_neg c]; have := ho c; omega
  unfold b_L_law_364
  exact l_close hc (fun x3 g4 hp => ⟨hm.k, mo_close hm hG (fun c => hS.2.2.1 n (Nat.le_refl _) c) ho (fun g9 h9 => tl_int hp h00 e01 h6 h9 hk)⟩)
theorem k_remove {xs : Nat → Int32} {L r1 r2 r3 : Nat} {gc gm : gS} {i4 : Int32} {k : gS → gS → Int32 → Prop} (h : LI r1 r2 r3 gc gm) (hk : ∀ gc gm, LI r1 r2 r3 gc gm → k gc gm (i4 + 5)) (v1 : vp_in (i4 + 1) L) (v2 : vp_in (i4 + 2) L) (v3 : vp_in (i4 + 3) L) (v4 : vp_in (i4 + 4) L) : b_L_law_408 xs L r1 r2 r3 gc gm i4 k := by
  obtain ⟨A, D, V, σ, n, bf, nn, nr, ns, μ, T, rfl, rfl, hc, hm⟩ := h
  have hP := hc.2.2.1
  obtain ⟨hG, hN, hW, hS⟩ := hP
  have hn := hG.n
  unfold b_L_law_408
  exact ⟨v1, l_remove hc (fun x3 g4 hp => ⟨v1, hm.k, mo_remove hm hG (fun g9 h9 => tl_boo hp so_remove.2.1 (so_remove.2.2.trans hG.d1) hn h9 hk)⟩)⟩
theorem k_setMute {xs : Nat → Int32} {L r1 r2 r3 : Nat} {gc gm : gS} {i4 : Int32} {k : gS → gS → Int32 → Prop} (h : LI r1 r2 r3 gc gm) (hk : ∀ gc gm, LI r1 r2 r3 gc gm → k gc gm (i4 + 5)) (v1 : vp_in (i4 + 1) L) (v2 : vp_in (i4 + 2) L) (v3 : vp_in (i4 + 3) L) (v4 : vp_in (i4 + 4) L) : b_L_law_471 xs L r1 r2 r3 gc gm i4 k := by
  obtain ⟨A, D, V, σ, n, bf, nn, nr, ns, μ, T, rfl, rfl, hc, hm⟩ := h
  have hP := hc.2.2.1
  obtain ⟨hG, hN, hW, hS⟩ := hP
  have hn := hG.n
  unfold b_L_law_471
  exact ⟨v1, v2, fun c => l_setMute hc (Or.inl rfl) (fun x3 g4 hp => ⟨v1, v2, fun _ => ⟨hm.k, mo_setMute hm hG (Or.inl rfl) (fun g9 h9 => tl_boo hp so_setMute.2.1 (so_setMute.2.2.trans hG.d1) hn h9 hk)⟩, fun c2 => absurd c c2⟩), fun c => l_setMute hc (Or.inr rfl) (fun x3 g4 hp => ⟨v1, v2, fun c2 => absurd c2 c, fun _ => ⟨hm.k, mo_setMute hm hG (Or.inr rfl) (fun g9 h9 => tl_boo hp so_setMute.2.1 (so_setMute.2.2.trans hG.d1) hn h9 hk)⟩⟩)⟩
theorem k_near {xs : Nat → Int32} {L r1 r2 r3 : Nat} {gc gm : gS} {i4 : Int32} {k : gS → gS → Int32 → Prop} (h : LI r1 r2 r3 gc gm) (hk : ∀ gc gm, LI r1 r2 r3 gc gm → k gc gm (i4 + 5)) (v1 : vp_in (i4 + 1) L) (v2 : vp_in (i4 + 2) L) (v3 : vp_in (i4 + 3) L) (v4 : vp_in (i4 + 4) L) : b_L_law_1406 xs L r1 r2 r3 gc gm i4 k := by
  obtain ⟨A, D, V, σ, n, bf, nn, nr, ns, μ, T, rfl, rfl, hc, hm⟩ := h
  have hP := hc.2.2.1
  obtain ⟨hG, hN, hW, hS⟩ := hP
  have hn := hG.n
  unfold b_L_law_1406
  exact ⟨v1, v2, v3, v4, fun c => l_near hc (Or.inl rfl) (fun x3 g4 hp => ⟨v1, v2, v3, v4, fun _ => ⟨hm.k, mo_near hm hG (Or.inl rfl) (fun g9 h9 => tl_int hp so_near.2.1 (so_near.2.2.trans hG.d1) hn h9 hk)⟩, fun c2 => absurd c c2⟩), fun c => l_near hc (Or.inr rfl) (fun x3 g4 hp => ⟨v1, v2, v3, v4, fun c2 => absurd c2 c, fun _ => ⟨hm.k, mo_near hm hG (Or.inr rfl) (fun g9 h9 => tl_int hp so_near.2.1 (so_near.2.2.trans hG.d1) hn h9 hk)⟩⟩)⟩
theorem k_waste {xs : Nat → Int32} {L r1 r2 r3 : Nat} {gc gm : gS} {i4 : Int32} {k : gS → gS → Int32 → Prop} (h : LI r1 r2 r3 gc gm) (hk : ∀ gc gm, LI r1 r2 r3 gc gm → k gc gm (i4 + 5)) (v1 : vp_in (i4 + 1) L) (v2 : vp_in (i4 + 2) L) (v3 : vp_in (i4 + 3) L) (v4 : vp_in (i4 + 4) L) : b_L_law_2625 xs L r1 r2 r3 gc gm i4 k := by
  obtain ⟨A, D, V, σ, n, bf, nn, nr, ns, μ, T, rfl, rfl, hc, hm⟩ := h
  have hP := hc.2.2.1
  obtain ⟨hG, hN, hW, hS⟩ := hP
  have hn := hG.n
  have hnan : ¬ lyF σ n = 0 → vf_n64 (FP.ddiv (FP.i2d (nI (goneN σ n))) (FP.i2d (lyF σ n))) := fun c => by
    have el : lyF σ n = nI (cnt (fun d => !decide (σ 6 d = 0)) n) := by
      unfold lyF
      rw [← isum_cnt]
      refine isum_congr (fun d _ => ?_)
      by_cases c : σ 6 d = 0
      · simp [c]
      · simp [c]
    have h1 : cnt (fun d => !decide (σ 6 d = 0)) n ≤ n := cnt_le _ _
    have h2 : goneN σ n ≤ n := cnt_le _ _
    rw [el] at c ⊢
    exact (nan64 _ (by omega) _ (by omega)).resolve_left (fun e => c (by rw [e]; rfl))
  unfold b_L_law_2625
  exact ⟨hc.1.1.k0, p_waste hc hnan ⟨hm.k, mo_waste hm hG hnan (fun g9 h9 =>
    have kk := hk _ _ (li_of (hc.tz 0).cs h9 (by rw [tz_0 (by decide)]; exact hG.d1) hn)
    ⟨fun _ => kk, fun c => ⟨fun c2 => absurd c2 c, fun _ => ⟨fun c2 => absurd c2 c, fun _ => kk⟩⟩⟩)⟩⟩
theorem k_digest {xs : Nat → Int32} {L r1 r2 r3 : Nat} {gc gm : gS} {i4 : Int32} {k : gS → gS → Int32 → Prop} (h : LI r1 r2 r3 gc gm) (hk : ∀ gc gm, LI r1 r2 r3 gc gm → k gc gm (i4 + 5)) (v1 : vp_in (i4 + 1) L) (v2 : vp_in (i4 + 2) L) (v3 : vp_in (i4 + 3) L) (v4 : vp_in (i4 + 4) L) : b_L_law_2666 xs L r1 r2 r3 gc gm i4 k := by
  obtain ⟨A, D, V, σ, n, bf, nn, nr, ns, μ, T, rfl, rfl, hc, hm⟩ := h
  have hP := hc.2.2.1
  obtain ⟨hG, hN, hW, hS⟩ := hP
  have hn := hG.n
  have hR : RG σ n nr := fun p hp => by obtain ⟨d, hd, e, _⟩ := hc.1.2.2.2.2.2.2.2.1 p hp; exact ⟨d, hd, e⟩
  unfold b_L_law_2666
  exact ⟨hc.1.1.k0, p_digest (hc.tz 0) (fun g3 h3 => ⟨hm.k, mo_digest hm hG hN hR (fun g9 T' h9 => ⟨fun _ => hk _ _ (li_of h3 h9 (by rw [tz_0 (by decide)]; exact hG.d1) hn), fun c => absurd (lg_self _) c⟩)⟩)⟩
