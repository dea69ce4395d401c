/-! THE SHELF ADDS a document -/
section SADD
variable {A : Nat → Nat} {U : Nat × (Nat → Int32)} {mA b vm p0 : Nat} {σ σ' σ0 : Rows} {n bf ns nn nnE nr dr : Nat} {wh : Nat → Int32} {g g' m0 gm : gS} {q : Nat}
/-- labels with another row of a field -/
def lbF (A : Nat → Nat) (n f q l : Nat) : Nat := if l = 60 + 3 * n + f then q else A l
theorem SA.field (h : SA A mA b (n + 1) U σ n ns nn dr wh g) {f : Nat} {g1 : gS} (hd : n < 40) (hf : f < 3) (hq : ∀ l, SKd ns l ≠ 0 → A l ≠ q) (hk : Kp g g1 q) (hq1 : gK g1 q = 21) : SA (lbF A n f q) mA b (n + 1) U σ n ns nn dr wh (sV g1 (A (10 + n)) f (some q)) := by
  obtain ⟨r, ⟨l0, lf, lr, ls⟩, ⟨n0, nr⟩, ⟨v0, vd, vg, vw, vf, vs⟩, hb1, hb2, hb3, u1, u2⟩ := h.keep hk hq
  have qd : SKd ns (10 + n) ≠ 0 := kn10 hd
  have K2 : ∀ l, SKd ns l ≠ 0 → l ≠ 10 + n → gR (sV g1 (A (10 + n)) f (some q)) (A l) = gR g1 (A l) := fun l hl e => (Kp.sV (g := g1) (q := A (10 + n)) (k := f) (v := some q) (A l) (r.ne hl qd e)).2.2.2
  have lb : ∀ l, l ≠ 60 + 3 * n + f → lbF A n f q l = A l := fun l e => if_neg e
  have lbs : lbF A n f q (60 + 3 * n + f) = q := if_pos rfl
  have c0 := lb 0 (by omega)
  have c1 := lb 1 (by omega)
  have c2 := lb 2 (by omega)
  have c3 := lb 3 (by omega)
  have c4 := lb 4 (by omega)
  have c5 := lb 5 (by omega)
  have c6 := lb 6 (by omega)
  have c7 := lb 7 (by omega)
  refine ⟨⟨fun l hl => ?_, fun l u hl hu e => ?_⟩, ⟨?_, fun d hd' => ?_, fun d f' hd' hf' => ?_, fun k hk' => ?_⟩, ⟨?_, fun d hd' => ?_⟩, ⟨?_, fun d hd' => ?_, fun d hd' => ?_, fun d hd' => ?_, fun d f' h1 hd' hf' => ?_, fun k hk' => ?_⟩, hb1, hb2, hb3, by rw [lb 8 (by omega)]; exact u1, by rw [lb 8 (by omega)]; exact u2⟩
  · by_cases e : l = 60 + 3 * n + f
    · rw [e, lbs, k60 hd hf]; exact hq1
    · rw [lb l e]; exact r.1 l hl
  · by_cases e1 : l = 60 + 3 * n + f <;> by_cases e2 : u = 60 + 3 * n + f
    · rw [e1, e2]
    · rw [e1, lbs, lb u e2] at e; exact absurd e.symm (hq u hu)
    · rw [e2, lbs, lb l e1] at e; exact absurd e (hq l hl)
    · rw [lb l e1, lb u e2] at e; exact r.2 l u hl hu e
  · rw [c0, c1, c2, c3, c4, c5, c6, c7, K2 0 (k1 (by decide)) (by omega)]; exact l0
  · rw [c1, lb (10 + d) (by omega), K2 1 (k1 (by decide)) (by omega)]; exact lf d hd'
  · rw [lb (10 + d) (by omega)]
    by_cases e : d = n
    · subst e
      rw [gR_sVs]
      by_cases e2 : f' = f
      · subst e2; rw [if_pos rfl, lbs]
      · rw [if_neg e2, lb (60 + 3 * d + f') (by omega)]; exact lr d f' hd' hf'
    · rw [K2 (10 + d) (kn10 hd') (by omega), lb (60 + 3 * d + f') (by omega)]; exact lr d f' hd' hf'
  · rw [c6, lb (200 + k) (by omega), K2 6 (k1 (by decide)) (by omega)]; exact ls k hk'
  · rw [c1, c2, c3, c4, c5, c6, c7]; exact n0
  · rw [lb (10 + d) (by omega)]; exact nr d hd'
  · rw [c0]; exact v0
  · rw [c2]; exact vd d hd'
  · rw [c4]; exact vg d hd'
  · rw [c5]; exact vw d hd'
  · rw [lb (60 + 3 * d + f') (by omega)]; exact vf d f' h1 hd' hf'
  · rw [lb (200 + k) (by omega)]; exact vs k hk'
/-- what an add changes of the rows -/
def ShAd (n : Nat) (σ σ' : Rows) : Prop := (∀ t, t ≠ 0 → t ≠ 3 → t ≠ 4 → t ≠ 7 → t ≠ 8 → σ' t = σ t) ∧ (∀ d, d ≠ n → σ' 3 d = σ 3 d ∧ σ' 4 d = σ 4 d) ∧ (∀ i, i ≠ 0 → i ≠ 1 → i ≠ 2 → σ' 0 i = σ 0 i) ∧ (∃ k, k < 8 ∧ σ' 4 n = nI k) ∧ ∃ t, t < 10000 ∧ σ' 3 n = nI t
theorem ShAd.wr (h : ShAd n σ0 σ) {f l : Nat} {x : Int32} : ShAd n σ0 (wrR σ n f l x) := by
  obtain ⟨h1, h2, h3, h4, h5⟩ := h
  have e3 : wrR σ n f l x 3 = σ 3 := wrR_r (by decide) (by decide) (by decide)
  have e4 : wrR σ n f l x 4 = σ 4 := wrR_r (by decide) (by decide) (by decide)
  refine ⟨fun t a0 a3 a4 a7 a8 => (wrR_r a0 a7 a8).trans (h1 t a0 a3 a4 a7 a8), fun d hd => by rw [e3, e4]; exact h2 d hd, fun i i0 i1 i2 => (wrR_0 i0).trans (h3 i i0 i1 i2), by rw [e4]; exact h4, by rw [e3]; exact h5⟩
theorem ShAd.cl (h : ShAd n σ0 σ) {k : Nat} : ShAd n σ0 (clR σ k) := by
  obtain ⟨h1, h2, h3, h4, h5⟩ := h
  have e3 : clR σ k 3 = σ 3 := clR_r (by decide)
  have e4 : clR σ k 4 = σ 4 := clR_r (by decide)
  refine ⟨fun t a0 a3 a4 a7 a8 => (clR_r a0).trans (h1 t a0 a3 a4 a7 a8), fun d hd => by rw [e3, e4]; exact h2 d hd, fun i i0 i1 i2 => (clR_0 i0 i1 i2).trans (h3 i i0 i1 i2), by rw [e4]; exact h4, by rw [e3]; exact h5⟩
/-- while a document is written -/
def AB (p0 mA b : Nat) (U : Nat × (Nat → Int32)) (σ0 : Rows) (n bf nn nnE nr ns F f l m : Nat) (g gm : gS) : Prop := ∃ A σ dr, A 0 = p0 ∧ SA A mA b (n + 1) U σ n ns nn dr (whF σ0 bf) g ∧ EE mA σ n bf nnE nr ns gm ∧ ShAd n σ0 σ ∧ gI g (A 2) n = σ 3 n ∧ σ 0 2 = 1 ∧ gN g (A (60 + 3 * n + f)) = l ∧ σ 7 (n * 3 + f) = nI l ∧ (∀ u, F ≤ u → u < 3 → gN g (A (60 + 3 * n + u)) = 0 ∧ σ 7 (n * 3 + u) = 0) ∧ dr ≤ m
theorem SA.kp2 (h : SA A mA b vm U σ n ns nn dr wh g) (hk : Kp g g' (A 0)) {l : Nat} (hl : SKd ns l ≠ 0) (h0 : l ≠ 0) : gN g' (A l) = gN g (A l) ∧ gI g' (A l) = gI g (A l) := by
  have := hk (A l) (h.1.ne hl (k1 (by decide)) h0)
  exact ⟨this.2.1, this.2.2.1⟩
/-- one more word in a field -/
theorem x_put {L f l m C S : Nat} {xs : Nat → Int32} {i3 : Int32} {N : Nat} {Q : Int32 → gS → gS → Prop} {K55 K76 : gS → gS → Nat → Nat → Int32 → Prop} (hL : L ≤ 260) (hn : n < 16) (hf : f < 3) (hl : l < 12) (hN0 : 0 < N) (hN : N ≤ 200) (hm : m + 1 < 2 ^ 24) (hC : C + 2 ≤ 60) (hS : S + 70 ≤ 3000)
    (e0 : A 0 = p0) (hA : SA A mA b (n + 1) U σ n ns nn dr (whF σ0 bf) g) (hE : EE mA σ n bf nnE nr ns gm) (hR : ShAd n σ0 σ) (hd : gI g (A 2) n = σ 3 n) (h2 : σ 0 2 = 1) (hNl : gN g (A (60 + 3 * n + f)) = l) (e7 : σ 7 (n * 3 + f) = nI l) (hU : ∀ u, f + 1 ≤ u → u < 3 → gN g (A (60 + 3 * n + u)) = 0 ∧ σ 7 (n * 3 + u) = 0) (hdr : dr ≤ m)
    (hK : ∀ g' gm', AB p0 mA b U σ0 n bf nn nnE nr ns (f + 1) f (l + 1) (m + 1) g' gm' → K76 g' gm' (C + 1 + 1) (S + 64 + 6) (i3 + (-1))) : b_X11_add_110 g gm C S p0 (nI n) (nI f) i3 (A (10 + n)) (nI f) (A (60 + 3 * n + f)) p0 (nI N) b L xs 60 3000 Q K55 K76 := by
  have hn40 : n < 40 := by omega
  have qf : SKd ns (60 + 3 * n + f) ≠ 0 := kn60 hn40 hf
  have qn : SKd ns (10 + n) ≠ 0 := kn10 hn40
  subst e0
  unfold b_X11_add_110
  refine ⟨hA.f.1, x_draw hA hL hN0 (by omega) (by omega) (fun r g1 hr h1 hk1 => ⟨⟨by omega, by omega⟩, ?_⟩)⟩
  obtain ⟨a1, a2⟩ := hA.kp2 hk1 qf (by omega)
  have k21 : gK g1 (A (60 + 3 * n + f)) = 21 := (h1.1.1 _ qf).trans (k60 hn40 hf)
  refine x_with k21 (a1.trans hNl) (by omega) (fun q g2 hq0 hk2 b1 b2 b3 b4 => ?_)
  have hq : ∀ l, SKd ns l ≠ 0 → A l ≠ q := fun l hl => h1.1.new hq0 hl
  have h2' := h1.keep hk2 hq
  have kd : gK g2 (A (10 + n)) = 24 := (h2'.1.1 _ qn).trans (k10 hn40)
  have nd : gN g2 (A (10 + n)) = 3 := h2'.2.2.1.2 n hn40
  have cf : Int32.toNatClampNeg (nI f) = f := cl_nI (by omega)
  have cn : Int32.toNatClampNeg (nI n) = n := cl_nI (by omega)
  refine ⟨kd, q, rfl, b1, by rw [nd]; exact vp_in_nI (by omega) (by decide), fun g3 e3 => ?_⟩
  rw [cf] at e3
  subst e3
  have h3 := h1.field (f := f) hn40 hf hq hk2 b1
  have c0 : lbF A n f q 0 = A 0 := if_neg (by omega)
  have c1 : lbF A n f q 1 = A 1 := if_neg (by omega)
  have c2 : lbF A n f q 2 = A 2 := if_neg (by omega)
  have cd : lbF A n f q (10 + n) = A (10 + n) := if_neg (by omega)
  have cs : lbF A n f q (60 + 3 * n + f) = q := if_pos rfl
  have f0 := h3.f.1
  have f1 := h3.f.2.1
  have r0 := h3.r.1
  have r4 := h3.r.2.2.1
  have l1 := h3.l.1
  have t1 : gR (sV g2 (A (10 + n)) f (some q)) (A 1) n = some (A (10 + n)) := by
    have := h3.2.1.2.1 n hn40
    rw [c1, cd] at this
    exact this
  have t2 : gR (sV g2 (A (10 + n)) f (some q)) (A (10 + n)) f = some q := by rw [gR_sVs, if_pos rfl]
  have kq : gK (sV g2 (A (10 + n)) f (some q)) q = 21 := b1
  have nq : gN (sV g2 (A (10 + n)) f (some q)) q = l + 1 := b2
  rw [c0] at f0 r0 r4
  rw [c1] at f1 r4 l1
  have v1 : vp_in (nI n) (gN (sV g2 (A (10 + n)) f (some q)) (A 1)) := by rw [l1]; exact vp_in_nI (by omega) (by decide)
  have v2 : vp_in (nI f) (gN (sV g2 (A (10 + n)) f (some q)) (A (10 + n))) := by
    show vp_in (nI f) (gN g2 (A (10 + n)))
    rw [nd]; exact vp_in_nI (by omega) (by decide)
  rw [cn, cf]
  have e1 : nI (l + 1) - 1 = nI l := by
    have := nI_sb (a := l + 1) (b := 1) (by omega)
    rw [show l + 1 - 1 = l by omega] at this
    exact this
  refine ⟨f0, mA, r0, A 1, r4, f1, v1, A (10 + n), t1, kd, v2, q, t2, A 1, r4, f1, v1, A (10 + n), t1, kd, v2, q, t2, kq, kq, ?_, hE.kind, ⟨by omega, by omega⟩, ?_⟩
  · rw [nq, e1]; exact vp_in_nI (by omega) (by omega)
  · have ev : gI (sV g2 (A (10 + n)) f (some q)) q l = nI r := b4
    rw [nq, e1, cl_nI (show l < 2 ^ 31 by omega), ev]
    refine q_write hE h2 hf (show r < 200 by omega) hl e7 (fun gm' hE' => ⟨A 1, r4, f1, v1, A (10 + n), t1, kd, v2, q, t2, kq, fun _ => ?_, fun c => absurd ?_ c⟩)
    · refine hK _ _ ⟨lbF A n f q, wrR σ n f l (nI r), dr + 1, c0, h3.rows3 (fun d hd' => congrFun (wrR_r (by decide) (by decide) (by decide)) d) (wrR_r (by decide) (by decide) (by decide)) (wrR_r (by decide) (by decide) (by decide)) (wrR_r (by decide) (by decide) (by decide)), hE', hR.wr, ?_, ?_, ?_, ?_, fun u hu1 hu2 => ?_, by omega⟩
      · rw [c2]
        have k2 := hk2 (A 2) (hq 2 (k1 (by decide)))
        show gI g2 (A 2) n = _
        rw [k2.2.2.1, (hA.kp2 hk1 (k1 (l := 2) (by decide)) (by decide)).2, hd]
        exact congrFun (wrR_r (by decide) (by decide) (by decide)).symm n
      · exact (wrR_0 (by decide)).trans h2
      · rw [cs]; exact b2
      · rw [wrR_7, if_pos rfl]
      · have cu : lbF A n f q (60 + 3 * n + u) = A (60 + 3 * n + u) := if_neg (by omega)
        have k2 := hk2 (A (60 + 3 * n + u)) (hq _ (kn60 hn40 hu2))
        rw [cu, wrR_7, if_neg (by omega)]
        refine ⟨?_, (hU u hu1 hu2).2⟩
        show gN g2 (A (60 + 3 * n + u)) = 0
        rw [k2.2.1, (hA.kp2 hk1 (kn60 hn40 hu2) (by omega)).1]
        exact (hU u hu1 hu2).1
    · rw [nq]
/-- a field -/
theorem x_afield {L F C S D0 : Nat} {xs : Nat → Int32} {Q : Int32 → gS → gS → Prop} {K : gS → gS → Nat → Nat → Int32 → Prop} (hL : L ≤ 260) (hn : n < 16) (hF : F < 3) (hD : D0 + 40 < 2 ^ 24) (hC : C ≤ 14 + 10 * F) (hS : S ≤ 131 + 350 * F)
    (h : AB p0 mA b U σ0 n bf nn nnE nr ns F F 0 (D0 + 11 * F) g gm) (hK : ∀ g' gm' C' S' l, AB p0 mA b U σ0 n bf nn nnE nr ns (F + 1) F l (D0 + 11 * (F + 1)) g' gm' → C' ≤ 14 + 10 * (F + 1) → S' ≤ 131 + 350 * (F + 1) → K g' gm' C' S' (nI (F + 1))) {N : Nat} (hN0 : 0 < N) (hN : N ≤ 6) : b_X11_add_72 g gm C S p0 (nI n) (nI F) p0 (nI N) b L xs 60 3000 Q K := by
  obtain ⟨A, σ, dr, rfl, hA, hE, hR, hd, h2, hNl, e7, hU, hdr⟩ := h
  have hn40 : n < 40 := by omega
  unfold b_X11_add_72
  refine ⟨hA.f.1, x_draw hA hL hN0 (by omega) (by omega) (fun c g1 hc h1 hk1 => ?_)⟩
  have start : AB (A 0) mA b U σ0 n bf nn nnE nr ns (F + 1) F 0 (D0 + 11 * F + 1) g1 gm := by
    refine ⟨A, σ, dr + 1, rfl, h1, hE, hR, ?_, h2, ?_, e7, fun u hu1 hu2 => ⟨?_, (hU u (by omega) hu2).2⟩, by omega⟩
    · rw [(hA.kp2 hk1 (k1 (l := 2) (by decide)) (by decide)).2]; exact hd
    · rw [(hA.kp2 hk1 (kn60 hn40 hF) (by omega)).1]; exact hNl
    · rw [(hA.kp2 hk1 (kn60 hn40 hu2) (by omega)).1]; exact (hU u (by omega) hu2).1
  refine lpx5_i c (fun k g gm C1 S1 i => i = nI (c - k) ∧ C1 ≤ C + 2 * k ∧ S1 ≤ S + 70 * k ∧ AB (A 0) mA b U σ0 n bf nn nnE nr ns (F + 1) F k (D0 + 11 * F + 1 + 2 * k) g gm) (fun k g2 gm2 C2 S2 i2 hk hI K76 hK76 => ?_) (fun g2 gm2 C2 S2 i2 hI K76 => ?_) _ _ _ _ _ ⟨rfl, by omega, by omega, start⟩
  · obtain ⟨rfl, hC2, hS2, A2, σ2, dr2, e02, hA2, hE2, hR2, hd2, h22, hNl2, e72, hU2, hdr2⟩ := hI
    unfold l_X11_add_76
    refine ⟨fun z => ?_, fun _ => ?_⟩
    · have := (nI_le_iff (b := 0) (show c - k < 2 ^ 31 by omega) (by decide)).mp z
      omega
    · have f0 := hA2.f.1
      have f1 := hA2.f.2.1
      have r4 := hA2.r.2.2.1
      have l1 := hA2.l.1
      have t1 := hA2.2.1.2.1 n hn40
      have t2 := hA2.2.1.2.2.1 n F hn40 hF
      have kd : gK g2 (A2 (10 + n)) = 24 := (hA2.1.1 _ (kn10 hn40)).trans (k10 hn40)
      have nd : gN g2 (A2 (10 + n)) = 3 := hA2.2.2.1.2 n hn40
      have cF : Int32.toNatClampNeg (nI F) = F := cl_nI (by omega)
      have cn : Int32.toNatClampNeg (nI n) = n := cl_nI (by omega)
      have v1 : vp_in (nI n) (gN g2 (A2 1)) := by rw [l1]; exact vp_in_nI (by omega) (by decide)
      have v2 : vp_in (nI F) (gN g2 (A2 (10 + n))) := by rw [nd]; exact vp_in_nI (by omega) (by decide)
      rw [cn, cF, ← e02]
      refine ⟨f0, A2 1, r4, f1, v1, A2 (10 + n), t1, A2 1, r4, f1, v1, A2 (10 + n), t1, kd, v2, A2 (60 + 3 * n + F), t2, ?_⟩
      refine x_draw (N := 2) hA2 hL (by decide) (by decide) (by omega) (fun r g3 hr h3 hk3 => ?_)
      have hd3 : gI g3 (A2 2) n = σ2 3 n := by rw [(hA2.kp2 hk3 (k1 (l := 2) (by decide)) (by decide)).2]; exact hd2
      have hN3 : gN g3 (A2 (60 + 3 * n + F)) = k := by rw [(hA2.kp2 hk3 (kn60 hn40 hF) (by omega)).1]; exact hNl2
      have hU3 : ∀ u, F + 1 ≤ u → u < 3 → gN g3 (A2 (60 + 3 * n + u)) = 0 ∧ σ2 7 (n * 3 + u) = 0 := fun u hu1 hu2 => ⟨by rw [(hA2.kp2 hk3 (kn60 hn40 hu2) (by omega)).1]; exact (hU2 u hu1 hu2).1, (hU2 u hu1 hu2).2⟩
      have fin : ∀ g' gm', AB (A2 0) mA b U σ0 n bf nn nnE nr ns (F + 1) F (k + 1) (D0 + 11 * F + 1 + 2 * k + 1 + 1) g' gm' → K76 g' gm' (C2 + 1 + 1) (S2 + 64 + 6) (nI (c - k) + (-1)) := fun g' gm' hB => by
        rw [e02] at hB
        have e1 : nI (c - k) + (-1) = nI (c - (k + 1)) := by
          have := nI_sb (a := c - k) (b := 1) (by omega)
          rw [show c - k - 1 = c - (k + 1) by omega, Int32.sub_eq_add_neg] at this
          exact this
        rw [e1]
        refine hK76 _ _ _ _ _ ⟨rfl, by omega, by omega, ?_⟩
        rw [show D0 + 11 * F + 1 + 2 * (k + 1) = D0 + 11 * F + 1 + 2 * k + 1 + 1 by omega]
        exact hB
      refine ⟨fun _ => ?_, fun _ => ?_⟩
      · exact x_put (N := 4) hL hn hF (by omega) (by decide) (by decide) (by omega) (by omega) (by omega) rfl h3 hE2 hR2 hd3 h22 hN3 e72 hU3 (show dr2 + 1 ≤ D0 + 11 * F + 1 + 2 * k + 1 by omega) fin
      · exact x_put (N := 10) hL hn hF (by omega) (by decide) (by decide) (by omega) (by omega) (by omega) rfl h3 hE2 hR2 hd3 h22 hN3 e72 hU3 (show dr2 + 1 ≤ D0 + 11 * F + 1 + 2 * k + 1 by omega) fin
  · obtain ⟨rfl, hC2, hS2, A2, σ2, dr2, e02, hA2, hE2, hR2, hd2, h22, hNl2, e72, hU2, hdr2⟩ := hI
    unfold l_X11_add_76
    rw [Nat.sub_self]
    refine ⟨fun _ => ?_, fun z => absurd (Int32.le_refl _) z⟩
    rw [nI_1]
    exact hK _ _ _ _ c ⟨A2, σ2, dr2, e02, hA2, hE2, hR2, hd2, h22, hNl2, e72, hU2, by omega⟩ (by omega) (by omega)
/-- the document is closed -/
theorem x_aclose {L C S : Nat} {xs : Nat → Int32} {Q : Int32 → gS → gS → Prop} (hs : SG σ0 n bf ns) (hn : n < 16) (e0 : A 0 = p0) (hA : SA A mA b (n + 1) U σ n ns nn dr (whF σ0 bf) g) (hE : EE mA σ n bf nnE nr ns gm) (hR : ShAd n σ0 σ) (hd : gI g (A 2) n = σ 3 n) (h2 : σ 0 2 = 1) (hC : C + 1 ≤ 60) (hS : S + 6 ≤ 3000)
    (hQ : ∀ g' gm', SA A mA b (n + 1) U (clR σ n) (n + 1) ns nn dr (whF (clR σ n) bf) g' → EE mA (clR σ n) (n + 1) bf nnE nr ns gm' → Q 1 g' gm') : lpx2 (l_X11_add_185 (sU g (A 0) 3 (gI g (A 0) 3 + 1)) gm C S (A 0) b L xs 60 3000 Q) 0 0 := by
  have hb := hE.gi.1.2.1
  have e6 : clR σ n 6 = σ0 6 := (clR_r (by decide)).trans (hR.1 6 (by decide) (by decide) (by decide) (by decide) (by decide))
  have e15 : clR σ n 15 = σ 15 := clR_r (by decide)
  have e14 : clR σ n 14 = σ 14 := clR_r (by decide)
  have e5 : clR σ n 5 = σ 5 := clR_r (by decide)
  have e3 : clR σ n 3 = σ 3 := clR_r (by decide)
  have s15 : σ 15 = σ0 15 := hR.1 15 (by decide) (by decide) (by decide) (by decide) (by decide)
  have hA' : SA A mA b (n + 1) U (clR σ n) (n + 1) ns nn dr (whF (clR σ n) bf) (sU g (A 0) 3 (gI g (A 0) 3 + 1)) := by
    obtain ⟨r, l, nnl, ⟨⟨v2, v3, v13⟩, vd, vg, vw, vf, vs⟩, hb1, hb2, hb3, u1, u2⟩ := hA
    have I := fun u (hu : SKd ns u ≠ 0) (e : u ≠ 0) => (Kp.sU (g := g) (q := A 0) (k := 3) (v := gI g (A 0) 3 + 1) (A u) (r.ne hu (k1 (by decide)) e)).2.2.1
    refine ⟨r, l, nnl, ⟨⟨?_, ?_, ?_⟩, fun d hd' => ?_, fun d hd' => ?_, fun d hd' => ?_, vf, fun k hk => ?_⟩, by omega, hb2, hb3, u1, by rw [I 8 (k1 (by decide)) (by decide)]; exact u2⟩
    · rw [gI_sU, if_neg (by decide)]; exact v2
    · rw [gI_sU, if_pos rfl, v3, nI_1]
    · rw [gI_sU, if_neg (by decide)]; exact v13
    · rw [I 2 (k1 (by decide)) (by decide), e3]
      rcases Nat.lt_or_ge d n with z | z
      · exact vd d z
      · rw [show d = n by omega]; exact hd
    · rw [I 4 (k1 (by decide)) (by decide), e5]; exact vg d hd'
    · rw [I 5 (k1 (by decide)) (by decide), vw d hd']
      unfold whF
      rw [e6]
    · have := vs k hk
      have es : sizeF (clR σ n) (n + 1) (nI k) = sizeF σ n (nI k) := by
        unfold sizeF
        rw [e15]
        refine cnt_f (p := fun d => decide (σ 15 d = nI k)) ?_
        show decide (σ 15 n = nI k) = false
        rw [s15]
        exact decide_eq_false (fun z => by
          rw [hs.2.1 n (hs.2.2.1 n (Nat.le_refl n) (by omega)) (by omega)] at z
          exact absurd z.symm (nI_nm1 (show k < 2 ^ 31 by omega)))
      rw [e14, e15, es]
      unfold isL at this ⊢
      rw [I _ (kn200 hk) (by omega)]
      exact this
  obtain ⟨f0, f1, f2, f3, f4, f5, f6, f7⟩ := hA'.f
  obtain ⟨r0, r1, r4, r5, r6, r7, r8, r12, r14⟩ := hA'.r
  obtain ⟨l1, l2, l3, l4, l5, l6, l7⟩ := hA'.l
  have n3 := hA'.n3
  have hw := hA'.2.2.2.1.2.2.2.1
  generalize sU g (A 0) 3 (gI g (A 0) 3 + 1) = g2 at *
  refine lpx2_s (n + 1) (fun d => nI (cnt (fun e => decide (bf ≤ e)) d)) (fun d => nI d) rfl rfl (fun d hdn K hK => ?_) (fun K => ?_)
  · unfold l_X11_add_185 b_X11_add_208
    have wd : gI g2 (A 5) d = whF (clR σ n) bf d := hw d (by omega)
    refine ⟨f0, fun c => ?_, fun _ => ⟨A 5, r8, f5, by rw [l5]; exact vp_in_nI (by omega) (by decide), ?_, ?_⟩⟩
    · rw [n3] at c; exact absurd c (nI_ge hdn (by omega))
    · intro c
      rw [cl_nI (by omega), wd] at c
      have hbd := whF_0.mp c
      have hK : K (nI (cnt (fun e => decide (bf ≤ e)) (d + 1))) (nI (d + 1)) := hK
      rw [cnt_t (p := fun e => decide (bf ≤ e)) (decide_eq_true hbd), ← nI_1, ← nI_1] at hK
      exact hK
    · intro c
      rw [cl_nI (by omega), wd] at c
      have hbd : ¬ bf ≤ d := fun z => c (whF_0.mpr z)
      have hK : K (nI (cnt (fun e => decide (bf ≤ e)) (d + 1))) (nI (d + 1)) := hK
      rw [cnt_f (p := fun e => decide (bf ≤ e)) (decide_eq_false hbd), ← nI_1] at hK
      rw [Int32.add_zero]
      exact hK
  · unfold l_X11_add_185 b_X11_add_246 b_X11_add_245 b_X11_add_246
    refine ⟨f0, fun _ => ⟨mA, r0, hE.kind, ⟨hC, hS⟩, q_close hE h2 (by omega) (fun gm' hE' => ⟨fun _ => ⟨mA, r0, hE'.kind, q_documents hE' ⟨fun _ => ⟨Or.inr rfl, hQ _ _ hA' hE'⟩, fun c => absurd ?_ c⟩⟩, fun c => absurd ?_ c⟩)⟩, fun c => absurd ?_ c⟩
    · exact n3.symm
    · rw [cnt_from (show bf ≤ n + 1 by omega)]
    · rw [n3]; exact Int32.le_refl _
/-- the method -/
theorem x_sadd {L : Nat} {xs : Nat → Int32} {Q : Int32 → gS → gS → Prop} (hL : L ≤ 260) (hn : n < 16) (h : SA A mA b n U σ n ns nn dr (whF σ bf) g) (hE : EE mA σ n bf nnE nr ns gm) (h2 : σ 0 2 = 0) (hdr : dr + 50 < 2 ^ 24)
    (hQ : ∀ A' g' gm' σ' dr', A' 0 = A 0 → dr' ≤ dr + 35 → ShAd n σ σ' → σ' 0 2 = 0 → SA A' mA b (n + 1) U σ' (n + 1) ns nn dr' (whF σ' bf) g' → EE mA σ' (n + 1) bf nnE nr ns gm' → Q 1 g' gm') : w_X11_add g gm (A 0) b L xs 60 3000 Q := by
  have hn40 : n < 40 := by omega
  have cn : Int32.toNatClampNeg (nI n) = n := cl_nI (by omega)
  have n3 := h.n3
  have hs := hE.pk.2.2.2
  have k2 : SKd ns 2 ≠ 0 := k1 (by decide)
  have k3 : SKd ns 3 ≠ 0 := k1 (by decide)
  have k0 : SKd ns 0 ≠ 0 := k1 (by decide)
  -- a write into one's own dates or kinds
  have own : ∀ (u : Nat) (v : Int32) (d' : Nat) (g1 : gS), (u = 2 ∨ u = 3) → SA A mA b n U σ n ns nn d' (whF σ bf) g1 → SA A mA b n U σ n ns nn d' (whF σ bf) (sU g1 (A u) n v) := by
    intro u v d' g1 hu h1
    obtain ⟨r, l, nnl, ⟨v0, vd, vg, vw, vf, vs⟩, hb1, hb2, hb3, u1, u2⟩ := h1
    have qu : SKd ns u ≠ 0 := k1 (by omega)
    have I := fun x (hx : SKd ns x ≠ 0) (e : x ≠ u) => (Kp.sU (g := g1) (q := A u) (k := n) (v := v) (A x) (r.ne hx qu e)).2.2.1
    refine ⟨r, l, nnl, ⟨by rw [I 0 k0 (by omega)]; exact v0, fun d hd => ?_, fun d hd => by rw [I 4 (k1 (by decide)) (by omega)]; exact vg d hd, fun d hd => by rw [I 5 (k1 (by decide)) (by omega)]; exact vw d hd, vf, fun k hk => ?_⟩, hb1, hb2, hb3, u1, by rw [I 8 (k1 (by decide)) (by omega)]; exact u2⟩
    · by_cases e : u = 2
      · subst e
        rw [gI_sU, if_neg (by omega)]; exact vd d hd
      · rw [I 2 k2 (fun z => e z.symm)]; exact vd d hd
    · have := vs k hk
      unfold isL at this ⊢
      rw [I _ (kn200 hk) (by omega)]
      exact this
  unfold w_X11_add
  rw [n3, cn]
  refine ⟨h.f.1, A 2, h.r.2.2.2.1, x_draw (N := 20) h hL (by decide) (by decide) (by omega) (fun t g1 ht h1 hk1 => ?_)⟩
  refine ⟨h1.f.2.2.1, by rw [h1.l.2.1]; exact vp_in_nI (by omega) (by decide), fun g2 e2 => ?_⟩
  subst e2
  have h2' := own 2 (nI t) _ g1 (Or.inl rfl) h1
  refine ⟨h2'.f.1, A 3, h2'.r.2.2.2.2.1, x_draw (N := 3) h2' hL (by decide) (by decide) (by omega) (fun k g3 hk h3 hk3 => ?_)⟩
  refine ⟨h3.f.2.2.2.1, by rw [h3.l.2.2.1]; exact vp_in_nI (by omega) (by decide), fun g4 e4 => ?_⟩
  subst e4
  have h4 := own 3 (nI k) _ g3 (Or.inr rfl) h3
  have d2 : gI (sU g3 (A 3) n (nI k)) (A 2) n = nI t := by
    rw [(Kp.sU (g := g3) (q := A 3) (k := n) (v := nI k) (A 2) (h3.1.ne k2 k3 (by decide))).2.2.1, (h2'.kp2 hk3 k2 (by decide)).2, gI_sU, if_pos rfl]
  have d3 : gI (sU g3 (A 3) n (nI k)) (A 3) n = nI k := by rw [gI_sU, if_pos rfl]
  have v2 : vp_in (nI n) (gN (sU g3 (A 3) n (nI k)) (A 2)) := by rw [h4.l.2.1]; exact vp_in_nI (by omega) (by decide)
  have v3 : vp_in (nI n) (gN (sU g3 (A 3) n (nI k)) (A 3)) := by rw [h4.l.2.2.1]; exact vp_in_nI (by omega) (by decide)
  refine ⟨h4.f.1, mA, h4.r.1, A 2, h4.r.2.2.2.1, h4.f.2.2.1, v2, A 3, h4.r.2.2.2.2.1, h4.f.2.2.2.1, v3, hE.kind, ⟨by decide, by decide⟩, ?_⟩
  rw [d2, d3]
  refine q_open hE h2 (by omega) (by omega) (by omega) (fun gm1 hE1 => ⟨fun _ => ?_, fun c => absurd rfl c⟩)
  have hR : ShAd n σ (opR σ n (nI t) (nI k)) := ⟨fun u a0 a3 a4 a7 a8 => opR_r a0 a3 a4, fun d hd => by rw [opR_3, opR_4, if_neg hd, if_neg hd]; exact ⟨rfl, rfl⟩, fun i i0 i1 i2 => opR_0 i0 i2, ⟨k, by omega, by rw [opR_4, if_pos rfl]⟩, ⟨t, by omega, by rw [opR_3, if_pos rfl]⟩⟩
  have h5 : SA A mA b n U (opR σ n (nI t) (nI k)) n ns nn (dr + 1 + 1) (whF σ bf) (sU g3 (A 3) n (nI k)) := h4.rows3 (fun d hd => (hR.2.1 d (by omega)).1) (opR_r (by decide) (by decide) (by decide)) (opR_r (by decide) (by decide) (by decide)) (opR_r (by decide) (by decide) (by decide))
  have e7 : ∀ u, u < 3 → opR σ n (nI t) (nI k) 7 (n * 3 + u) = 0 := fun u hu => by
    rw [show opR σ n (nI t) (nI k) 7 = σ 7 from opR_r (by decide) (by decide) (by decide)]
    exact hE.ex.1 h2 n u (Nat.le_refl n) (by omega) hu
  have h6 : SA A mA b (n + 1) U (opR σ n (nI t) (nI k)) n ns nn (dr + 1 + 1) (whF σ bf) (sU g3 (A 3) n (nI k)) := by
    obtain ⟨r, l, nnl, ⟨v0, vd, vg, vw, vf, vs⟩, hb⟩ := h5
    exact ⟨r, l, nnl, ⟨v0, vd, vg, vw, fun d f hd => vf d f (by omega), vs⟩, hb⟩
  have hvf := h5.2.2.2.1.2.2.2.2.1
  refine lpx5_i 3 (fun F g gm C S i => i = nI F ∧ C ≤ 14 + 10 * F ∧ S ≤ 131 + 350 * F ∧ ∃ f l, f < 3 ∧ AB (A 0) mA b U σ n bf nn nnE nr ns F f l (dr + 2 + 11 * F) g gm) (fun F g2 gm2 C2 S2 i2 hF hI K hK => ?_) (fun g2 gm2 C2 S2 i2 hI K => ?_) _ _ _ _ _ ⟨rfl, by decide, by decide, 0, 0, by decide, A, _, _, rfl, h6, hE1, hR, ?_, opR_2, hvf n 0 (Nat.le_refl n) hn40 (by decide), e7 0 (by decide), fun u _ hu => ⟨hvf n u (Nat.le_refl n) hn40 hu, e7 u hu⟩, by omega⟩
  · obtain ⟨rfl, hC2, hS2, f, l, hf, A2, σ2, dr2, e02, hA2, hE2, hR2, hd2, h22, hNl2, e72, hU2, hdr2⟩ := hI
    have hB : AB (A 0) mA b U σ n bf nn nnE nr ns F F 0 (dr + 2 + 11 * F) g2 gm2 := ⟨A2, σ2, dr2, e02, hA2, hE2, hR2, hd2, h22, (hU2 F (Nat.le_refl F) hF).1, (hU2 F (Nat.le_refl F) hF).2, hU2, hdr2⟩
    have fin : ∀ g' gm' C' S' l, AB (A 0) mA b U σ n bf nn nnE nr ns (F + 1) F l (dr + 2 + 11 * (F + 1)) g' gm' → C' ≤ 14 + 10 * (F + 1) → S' ≤ 131 + 350 * (F + 1) → K g' gm' C' S' (nI (F + 1)) := fun g' gm' C' S' l hB' hC' hS' => hK _ _ _ _ _ ⟨rfl, hC', hS', F, l, hF, hB'⟩
    unfold l_X11_add_55
    refine ⟨fun c => ?_, fun _ => ⟨fun _ => ?_, fun _ => ?_⟩⟩
    · have := (nI_le_iff (a := 3) (show 3 < 2 ^ 31 by decide) (show F < 2 ^ 31 by omega)).mp c
      omega
    · exact x_afield (N := 2) hL hn hF (by omega) hC2 hS2 hB fin (by decide) (by decide)
    · exact x_afield (N := 6) hL hn hF (by omega) hC2 hS2 hB fin (by decide) (by decide)
  · obtain ⟨rfl, hC2, hS2, f, l, hf, A2, σ2, dr2, e02, hA2, hE2, hR2, hd2, h22, hNl2, e72, hU2, hdr2⟩ := hI
    unfold l_X11_add_55
    refine ⟨fun _ => ⟨by rw [← e02]; exact hA2.f.1, fun g9 e9 => ?_⟩, fun c => absurd (Int32.le_refl _) c⟩
    subst e9
    rw [← e02]
    exact x_aclose hs hn rfl hA2 hE2 hR2 hd2 h22 (by omega) (by omega) (fun g' gm' z1 z2 => hQ A2 g' gm' _ _ e02 (by omega) hR2.cl clR_2 z1 z2)
  · rw [d2, opR_3, if_pos rfl]
/-- a removal -/
theorem x_sremove {L : Nat} {xs : Nat → Int32} {Q : Int32 → gS → gS → Prop} (hL : L ≤ 260) (hn0 : 0 < n) (hn : n ≤ 16) (h : SA A mA b n U σ n ns nn dr (whF σ bf) g) (hE : EE mA σ n bf nnE nr ns gm) (hdr : dr + 1 < 2 ^ 24)
    (hQ : ∀ g' gm' d, d < n → SA A mA b n U (rmR σ d) n ns nn (dr + 1) (whF (rmR σ d) bf) g' → EE mA (rmR σ d) n bf nnE nr ns gm' → Q 1 g' gm') : w_X11_remove g gm (A 0) b L xs 2 12 Q := by
  unfold w_X11_remove b_X11_remove_40
  rw [h.n3]
  refine ⟨h.f.1, x_draw (N := n) h hL hn0 (by omega) hdr (fun d g1 hd h1 hk1 => ?_)⟩
  have cd : Int32.toNatClampNeg (nI d) = d := cl_nI (by omega)
  have v4 : vp_in (nI d) (gN g1 (A 4)) := by rw [h1.l.2.2.2.1]; exact vp_in_nI (by omega) (by decide)
  have e4 : gI g1 (A 4) d = σ 5 d := h1.2.2.2.1.2.2.1 d (by omega)
  refine ⟨h1.f.1, A 4, h1.r.2.2.2.2.2.1, h1.f.2.2.2.2.1, v4, A 4, h1.r.2.2.2.2.2.1, h1.f.2.2.2.2.1, v4, fun g2 e2 => ?_⟩
  rw [cd] at e2
  rw [cd, e4]
  have hA : SA A mA b n U (rmR σ d) n ns nn (dr + 1) (whF (rmR σ d) bf) g2 := by
    subst e2
    obtain ⟨r, l, nnl, ⟨v0, vd, vg, vw, vf, vs⟩, hb1, hb2, hb3, u1, u2⟩ := h1
    have q4 : SKd ns 4 ≠ 0 := k1 (by decide)
    have I := fun x (hx : SKd ns x ≠ 0) (e : x ≠ 4) => (Kp.sU (g := g1) (q := A 4) (k := d) (v := 1) (A x) (r.ne hx q4 e)).2.2.1
    have e3 : rmR σ d 3 = σ 3 := rmR_r (by decide) (by decide)
    have e14 : rmR σ d 14 = σ 14 := rmR_r (by decide) (by decide)
    have e15 : rmR σ d 15 = σ 15 := rmR_r (by decide) (by decide)
    have e6 : rmR σ d 6 = σ 6 := rmR_r (by decide) (by decide)
    refine ⟨r, l, nnl, ⟨by rw [I 0 (k1 (by decide)) (by decide)]; exact v0, fun e he => by rw [I 2 (k1 (by decide)) (by decide), e3]; exact vd e he, fun e he => ?_, fun e he => ?_, vf, fun k hk => ?_⟩, hb1, hb2, hb3, u1, by rw [I 8 (k1 (by decide)) (by decide)]; exact u2⟩
    · rw [gI_sU, rmR_5]
      by_cases c : e = d
      · rw [if_pos c, if_pos c]
      · rw [if_neg c, if_neg c]; exact vg e he
    · rw [I 5 (k1 (by decide)) (by decide), vw e he]
      unfold whF
      rw [e6]
    · have := vs k hk
      unfold isL sizeF at this ⊢
      rw [I _ (kn200 hk) (by omega), e14, e15]
      exact this
  refine ⟨hA.f.1, mA, hA.r.1, hE.kind, ⟨by decide, by decide⟩, q_remove hE hd (fun gm' hE' => ⟨fun c => ?_, fun _ => ⟨Or.inr rfl, hQ _ _ d hd hA hE'⟩⟩)⟩
  exfalso
  by_cases c5 : σ 5 d = 0
  · rw [if_pos c5, c5] at c; exact absurd c (by decide)
  · rw [if_neg c5] at c; exact c5 c.symm
end SADD
