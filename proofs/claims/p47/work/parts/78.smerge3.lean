/-! THE SHELF MERGES: its new row of segments -/
section SMERGE3
variable {A : Nat → Nat} {U : Nat × (Nat → Int32)} {mA b vm : Nat} {σ σ' : Rows} {n bf ns nn dr : Nat} {wh : Nat → Int32} {g g' g2 m0 : gS} {q : Nat}
/-- labels with another row of segments, and perhaps one more segment -/
def lbl (A : Nat → Nat) (q a y : Nat) (l : Nat) : Nat := if l = 6 then q else if l = 200 + a then y else A l
/-- the shelf with its first a segments, and one behind them if 'more' says so -/
theorem SA.cut (h : SA A mA b vm U σ n ns nn dr wh g) {a y q : Nat} {g1 : gS} {more : Bool} {ns' : Nat} (ha : a ≤ ns) (hns : ns' = if more = true then a + 1 else a) (hns6 : ns' ≤ 60) (hq : ∀ l, SKd ns l ≠ 0 → A l ≠ q) (hy : ∀ l, SKd ns l ≠ 0 → A l ≠ y) (hqy : y ≠ q)
    (h6 : Kp g g1 q) (k1' : gK g1 q = 24) (k2 : gN g1 q = ns') (k3 : ∀ k, k < a → gR g1 q k = gR g (A 6) k) (k4 : more = true → gR g1 q a = some y) (hr : ∀ t, t = 3 ∨ t = 5 → σ' t = σ t) (h14 : ∀ k, k < a → σ' 14 k = σ 14 k) (h15 : ∀ k, k < a → ∀ d, d < 40 → (σ' 15 d = nI k ↔ σ 15 d = nI k))
    (hL : more = true → isL g y (σ' 14 a) 40 (sizeF σ' n (nI a)) (fun d => decide (σ' 15 d = nI a))) : SA (lbl A q a y) mA b vm U σ' n ns' nn dr wh (sV g1 (A 0) 12 (some q)) := by
  obtain ⟨r, ⟨⟨l0, l1, l4, l5, l6, l7, l8, l12, l14⟩, lf, lr, ls⟩, ⟨⟨n1, n2, n3, n4, n5, n6, n7⟩, nr⟩, ⟨⟨v2, v3, v13⟩, vd, vg, vw, vf, vs⟩, hn, hns', hdr, u1, u2⟩ := id h
  have q0 : SKd ns 0 ≠ 0 := k1 (by decide)
  -- which labels are what
  have live : ∀ l, SKd ns' l ≠ 0 → (l = 6 ∨ (l = 200 + a ∧ more = true) ∨ (l ≠ 6 ∧ l ≠ 200 + a ∧ SKd ns l ≠ 0 ∧ SKd ns' l = SKd ns l)) := by
    intro l hl
    by_cases e6 : l = 6
    · exact Or.inl e6
    · by_cases e2 : l = 200 + a
      · cases hm : more with
        | true => exact Or.inr (Or.inl ⟨e2, rfl⟩)
        | false =>
          rw [hm] at hns
          simp at hns
          exfalso; apply hl
          unfold SKd
          rw [if_neg (by omega), if_neg (by omega), if_neg (by omega), if_neg (by omega), if_neg (by omega), if_neg (by omega), if_neg (by omega), if_neg (by omega)]
      · refine Or.inr (Or.inr ⟨e6, e2, ?_⟩)
        have hle : ns' ≤ a + 1 := by rw [hns]; split <;> omega
        by_cases c : 200 ≤ l
        · have hl2 : l < 200 + a := by
            rcases Nat.lt_or_ge l (200 + a) with z | z
            · exact z
            · exfalso; apply hl
              unfold SKd
              rw [if_neg (by omega), if_neg (by omega), if_neg (by omega), if_neg (by omega), if_neg (by omega), if_neg (by omega), if_neg (by omega), if_neg (by omega)]
          have hle2 : a ≤ ns' := by rw [hns]; split <;> omega
          have e1 : SKd ns l = 21 := by have := k200 (ns := ns) (show l - 200 < ns by omega); rw [show 200 + (l - 200) = l by omega] at this; exact this
          have e2' : SKd ns' l = 21 := by have := k200 (ns := ns') (show l - 200 < ns' by omega); rw [show 200 + (l - 200) = l by omega] at this; exact this
          rw [e1, e2']; exact ⟨by decide, rfl⟩
        · have e1 : SKd ns l = SKd ns' l := by
            unfold SKd
            by_cases c8 : 200 ≤ l ∧ l < 200 + ns
            · omega
            · have c9 : ¬ (200 ≤ l ∧ l < 200 + ns') := by omega
              rw [if_neg c8, if_neg c9]
          exact ⟨by rw [e1]; exact hl, e1.symm⟩
  have keep1 : ∀ l, SKd ns l ≠ 0 → l ≠ 0 → gK (sV g1 (A 0) 12 (some q)) (A l) = gK g (A l) ∧ gN (sV g1 (A 0) 12 (some q)) (A l) = gN g (A l) ∧ gI (sV g1 (A 0) 12 (some q)) (A l) = gI g (A l) ∧ gR (sV g1 (A 0) 12 (some q)) (A l) = gR g (A l) := fun l hl e => by
    obtain ⟨a1, a2, a3, a4⟩ := Kp.sV (g := g1) (q := A 0) (k := 12) (v := some q) (A l) (r.ne hl q0 e)
    obtain ⟨b1, b2, b3, b4⟩ := h6 (A l) (hq l hl)
    exact ⟨a1.trans b1, a2.trans b2, a3.trans b3, a4.trans b4⟩
  have keep0 := h6 (A 0) (hq 0 q0)
  have I0 : gI (sV g1 (A 0) 12 (some q)) (A 0) = gI g (A 0) := keep0.2.2.1
  have R0 : ∀ i, i ≠ 12 → gR (sV g1 (A 0) 12 (some q)) (A 0) i = gR g (A 0) i := fun i hi => by rw [gR_sVs, if_neg hi, keep0.2.2.2]
  have hq0 : q ≠ A 0 := fun e => hq 0 q0 e.symm
  have hy0 : y ≠ A 0 := fun e => hy 0 q0 e.symm
  have kq := Kp.sV (g := g1) (q := A 0) (k := 12) (v := some q) q hq0
  have ky := Kp.sV (g := g1) (q := A 0) (k := 12) (v := some q) y hy0
  have ky1 := h6 y hqy
  have lb0 : lbl A q a y 0 = A 0 := by unfold lbl; rw [if_neg (by decide), if_neg (by omega)]
  have lb : ∀ l, l ≠ 6 → l ≠ 200 + a → lbl A q a y l = A l := fun l h1 h2 => by unfold lbl; rw [if_neg h1, if_neg h2]
  have lb6 : lbl A q a y 6 = q := if_pos rfl
  have lba : lbl A q a y (200 + a) = y := by unfold lbl; rw [if_neg (by omega), if_pos rfl]
  refine ⟨⟨fun l hl => ?_, fun l u hl hu e => ?_⟩, ⟨?_, fun d hd => ?_, fun d f hd hf => ?_, fun k hk => ?_⟩, ⟨?_, fun d hd => ?_⟩, ⟨?_, fun d hd => ?_, fun d hd => ?_, fun d hd => ?_, fun d f h1 hd hf => ?_, fun k hk => ?_⟩, hn, hns6, hdr, by rw [lb 8 (by decide) (by omega), (keep1 8 (k1 (by decide)) (by decide)).2.1]; exact u1, by rw [lb 8 (by decide) (by omega), (keep1 8 (k1 (by decide)) (by decide)).2.2.1]; exact u2⟩
  · rcases live l hl with e | ⟨e, hm⟩ | ⟨e1, e2, e3, e4⟩
    · subst e; rw [lb6, kq.1, k1']; rfl
    · subst e
      rw [lba, ky.1, ky1.1, (hL hm).1, k200 (by rw [hns, if_pos hm]; omega)]
    · rw [lb l e1 e2, e4]
      by_cases e : l = 0
      · subst e
        show gK g1 (A 0) = _
        rw [keep0.1]; exact r.1 0 q0
      · rw [(keep1 l e3 e).1]; exact r.1 l e3
  · rcases live l hl with e1 | ⟨e1, hm⟩ | ⟨e1, e2, e3, e4⟩ <;> rcases live u hu with f1 | ⟨f1, hm'⟩ | ⟨f1, f2, f3, f4⟩
    · rw [e1, f1]
    · rw [e1, f1, lb6, lba] at e; exact absurd e.symm hqy
    · rw [e1, lb6, lb u f1 f2] at e; exact absurd e.symm (hq u f3)
    · rw [e1, f1, lb6, lba] at e; exact absurd e hqy
    · rw [e1, f1]
    · rw [e1, lba, lb u f1 f2] at e; exact absurd e.symm (hy u f3)
    · rw [f1, lb6, lb l e1 e2] at e; exact absurd e (hq l e3)
    · rw [f1, lba, lb l e1 e2] at e; exact absurd e (hy l e3)
    · rw [lb l e1 e2, lb u f1 f2] at e; exact r.2 l u e3 f3 e
  · rw [lb0, lb 1 (by decide) (by omega), lb 2 (by decide) (by omega), lb 3 (by decide) (by omega), lb 4 (by decide) (by omega), lb 5 (by decide) (by omega), lb6, lb 7 (by decide) (by omega), R0 0 (by decide), R0 1 (by decide), R0 4 (by decide), R0 5 (by decide), R0 6 (by decide), R0 7 (by decide), R0 8 (by decide), R0 14 (by decide), gR_sVs, if_pos rfl]
    exact ⟨l0, l1, l4, l5, l6, l7, l8, rfl, l14⟩
  · rw [lb 1 (by decide) (by omega), lb (10 + d) (by omega) (by omega), (keep1 1 (k1 (by decide)) (by decide)).2.2.2]; exact lf d hd
  · rw [lb (10 + d) (by omega) (by omega), lb (60 + 3 * d + f) (by omega) (by omega), (keep1 (10 + d) (kn10 hd) (by omega)).2.2.2]; exact lr d f hd hf
  · rw [lb6, kq.2.2.2]
    by_cases c : k = a
    · subst c
      have hm : more = true := by
        cases hm : more with
        | true => rfl
        | false => rw [hns, hm] at hk; simp at hk
      rw [lba]; exact k4 hm
    · have hka : k < a := by rw [hns] at hk; split at hk <;> omega
      rw [lb (200 + k) (by omega) (by omega), k3 k hka]
      exact ls k (by omega)
  · rw [lb 1 (by decide) (by omega), lb 2 (by decide) (by omega), lb 3 (by decide) (by omega), lb 4 (by decide) (by omega), lb 5 (by decide) (by omega), lb6, lb 7 (by decide) (by omega), (keep1 1 (k1 (by decide)) (by decide)).2.1, (keep1 2 (k1 (by decide)) (by decide)).2.1, (keep1 3 (k1 (by decide)) (by decide)).2.1, (keep1 4 (k1 (by decide)) (by decide)).2.1, (keep1 5 (k1 (by decide)) (by decide)).2.1, (keep1 7 (k1 (by decide)) (by decide)).2.1, kq.2.1]
    exact ⟨n1, n2, n3, n4, n5, k2, n7⟩
  · rw [lb (10 + d) (by omega) (by omega), (keep1 (10 + d) (kn10 hd) (by omega)).2.1]; exact nr d hd
  · rw [lb0, I0]; exact ⟨v2, v3, v13⟩
  · rw [lb 2 (by decide) (by omega), (keep1 2 (k1 (by decide)) (by decide)).2.2.1, hr 3 (Or.inl rfl)]; exact vd d hd
  · rw [lb 4 (by decide) (by omega), (keep1 4 (k1 (by decide)) (by decide)).2.2.1, hr 5 (Or.inr rfl)]; exact vg d hd
  · rw [lb 5 (by decide) (by omega), (keep1 5 (k1 (by decide)) (by decide)).2.2.1]; exact vw d hd
  · rw [lb (60 + 3 * d + f) (by omega) (by omega), (keep1 (60 + 3 * d + f) (kn60 hd hf) (by omega)).2.1]; exact vf d f h1 hd hf
  · by_cases c : k = a
    · subst c
      have hm : more = true := by
        cases hm : more with
        | true => rfl
        | false => rw [hns, hm] at hk; simp at hk
      rw [lba]
      have := hL hm
      unfold isL at this ⊢
      rw [ky.1, ky.2.1, ky.2.2.1, ky1.1, ky1.2.1, ky1.2.2.1]
      exact this
    · have hka : k < a := by rw [hns] at hk; split at hk <;> omega
      rw [lb (200 + k) (by omega) (by omega)]
      obtain ⟨a1, a2, a3, a4⟩ := keep1 (200 + k) (kn200 (by omega)) (by omega)
      have es : sizeF σ' n (nI k) = sizeF σ n (nI k) := by
        unfold sizeF
        exact cnt_congr fun d hd => decide_eq_decide.mpr (h15 k hka d (by omega))
      have := vs k (by omega)
      unfold isL at this ⊢
      rw [a1, a2, a3, es, h14 k hka]
      exact ⟨this.1, this.2.1, this.2.2.1, fun d hd => (this.2.2.2 d hd).trans (decide_eq_decide.mpr (h15 k hka d hd)).symm⟩
/-- the method -/
theorem x_smerge (h : SA A mA b vm U σ n ns nn dr (whF σ bf) g) (hs : SG σ n bf ns) (hn16 : n ≤ 16) {a : Nat} {t : Int32} (ha : a ≤ ns) (ha6 : a < 60) {Q : gS → gS → Prop}
    (hQ : ∀ A' g', A' 0 = A 0 → A' 8 = A 8 → ON g g' → SA A' mA b vm U (mergeR σ n a t) n (if mgL σ a n = 0 then a else a + 1) nn dr (whF (mergeR σ n a t) bf) g' → Q g' m0) : w_X11_merge g m0 (A 0) (nI a) t 20 1300 Q := by
  have hns := h.2.2.2.2.2.1
  unfold w_X11_merge
  refine ⟨⟨by decide, by decide⟩, fun y0 hy0 g88 e88 => ?_⟩
  subst e88
  refine ⟨gK_new, by rw [gN_new]; exact vp_in_nI (n := 0) (by decide) (by decide), fun g92 e92 => ?_⟩
  have e92 : g92 = sU (sNew g y0 21 1) y0 0 t := e92
  have hkp : Kp g g92 y0 := by rw [e92]; exact Kp.new.trans Kp.sU
  have hy : ∀ l, SKd ns l ≠ 0 → A l ≠ y0 := fun l hl => h.1.new hy0 hl
  refine lpx5_i n (MI A mA b vm U σ n bf ns nn dr a t g) (fun d g1 C1 S1 o1 i1 hd hI K hK => x_mstep hs hn16 ha hd hI hK) (fun g1 C1 S1 o1 i1 hI K => ?_) _ _ _ _ _ ⟨ON.rf.kp hy0 hkp, rfl, by decide, by decide, (h.keep hkp hy).whc (fun e he => ?_), y0, rfl, hy, ?_⟩
  · obtain ⟨hO, rfl, hC, hS, hA, y, rfl, hy, hL⟩ := hI
    obtain ⟨f0, f1, f2, f3, f4, f5, f6, f7⟩ := hA.f
    obtain ⟨r0, r1, r4, r5, r6, r7, r8, r12, r14⟩ := hA.r
    obtain ⟨l1, l2, l3, l4, l5, l6, l7⟩ := hA.l
    have mgl : mgL σ a n ≤ n := cnt_le _ _
    have q12 : gK g1 y = 21 := hL.1
    have body : ∀ (more : Bool) (N : Nat), (more = true ↔ ¬ mgL σ a n = 0) → N = (if more = true then a + 1 else a) → b_X11_merge_153 g1 m0 C1 S1 (A 0) (nI a) (some y) (nI N) 20 1300 Q := by
      intro more N hmore hN
      have hN61 : N ≤ 60 := by rw [hN]; split <;> omega
      have haN : a ≤ N := by rw [hN]; split <;> omega
      unfold b_X11_merge_153
      rw [cl_nI (show N < 2 ^ 31 by omega), cl_nI (show a < 2 ^ 31 by omega)]
      refine ⟨⟨not_lt0 (by omega), by omega⟩, ⟨by omega, by omega⟩, fun q4 hq4 g9 e9 => ?_⟩
      subst e9
      have hq : ∀ l, SKd ns l ≠ 0 → A l ≠ q4 := fun l hl => hA.1.new hq4 hl
      have hyq : y ≠ q4 := fun e => by rw [e, hq4] at q12; exact absurd q12 (by decide)
      have kp9 : Kp g1 (sNew g1 q4 24 N) q4 := Kp.new
      have k0 := kp9 (A 0) (hq 0 (k1 (by decide)))
      have k6 := kp9 (A 6) (hq 6 (k1 (by decide)))
      refine ⟨k0.1.trans f0, _, by rw [k0.2.2.2]; exact r12, k6.1.trans f6, gK_new, ⟨not_lt0 (by omega), ?_, ?_, fun i hi z hz => ?_⟩, fun g17 e17 => ?_⟩
      · rw [k6.2.1, l6]; show 0 + a ≤ ns; omega
      · rw [gN_new]; show 0 + a ≤ N; omega
      · have hz : gR (sNew g1 q4 24 N) (A 6) (0 + i) = some z := hz
        rw [k6.2.2.2, show 0 + i = i by omega, (hA.sg (show i < ns by omega)).1] at hz
        have hz' : A (200 + i) = z := Option.some.inj hz
        rw [← hz', (kp9 _ (hq _ (kn200 (show i < ns by omega)))).1]
        exact (hA.sg (show i < ns by omega)).2.1
      · have e17 : g17 = sR (sNew g1 q4 24 N) q4 (va_cpy (gR (sNew g1 q4 24 N) (A 6)) (gR (sNew g1 q4 24 N) q4) 0 0 a) := e17
        rw [k6.2.2.2, gR_new] at e17
        have kp17 : Kp g1 g17 q4 := by rw [e17]; exact kp9.trans Kp.sR
        have c1 : gK g17 q4 = 24 := by rw [e17]; exact gK_new (n := N)
        have c2 : gN g17 q4 = N := by rw [e17]; exact gN_new (k := 24)
        have c3 : ∀ k, k < a → gR g17 q4 k = gR g1 (A 6) k := fun k hk => by
          rw [e17, gR_sR_self]
          show (if 0 ≤ k ∧ k < 0 + a then gR g1 (A 6) (0 + (k - 0)) else none) = _
          rw [if_pos (by omega), show 0 + (k - 0) = k by omega]
        have ky := kp17 y hyq
        have hend : ∀ g26, Kp g1 g26 q4 → gK g26 q4 = 24 → gN g26 q4 = N → (∀ k, k < a → gR g26 q4 k = gR g1 (A 6) k) → (more = true → gR g26 q4 a = some y) → b_X11_merge_181 g26 m0 (C1 + 1) (S1 + N) (A 0) q4 20 1300 Q := by
          intro g26 z1 z2 z3 z4 z5
          unfold b_X11_merge_181
          refine ⟨(z1 _ (hq 0 (k1 (by decide)))).1.trans f0, fun g2 e2 => ?_⟩
          subst e2
          have hcut := hA.cut (σ' := mergeR σ n a t) (more := more) (ns' := N) ha hN (by omega) hq hy hyq z1 z2 z3 z4 z5 (fun u hu => by rcases hu with rfl | rfl <;> exact mergeR_r (by decide) (by decide) (by decide) (by decide)) (fun k hk => by rw [mergeR_14, if_neg (by omega)]) (fun k hk d hd => m_size hs (by omega) hns ha hk) (fun hm => ?_)
          · have e0 : N = if mgL σ a n = 0 then a else a + 1 := by
              rw [hN]
              by_cases c : mgL σ a n = 0
              · rw [if_pos c, if_neg (fun q => (hmore.mp q) c)]
              · rw [if_neg c, if_pos (hmore.mpr c)]
            rw [e0] at hcut
            exact hQ _ _ (by unfold lbl; rw [if_neg (by decide), if_neg (by omega)]) (by unfold lbl; rw [if_neg (by decide), if_neg (by omega)]) ((hO.kp hq4 z1).kn (fun _ => rfl) (fun _ => rfl)) (hcut.whc (fun d hd => whM_end hs (by omega) (by omega) (by omega)))
          · have e1 : sizeF (mergeR σ n a t) n (nI a) = mgL σ a n := by
              unfold sizeF mgL
              refine cnt_congr fun d hd => ?_
              rw [decide_eq_decide.mpr (m_sizea hs (show n ≤ 60 by omega) (show a ≤ 60 by omega) (show d < 60 by omega)), Bool.decide_and, decide_not]
            rw [e1, mergeR_14, if_pos rfl]
            refine hL.ext fun d hd => ?_
            rw [decide_eq_decide.mpr (m_sizea hs (show n ≤ 60 by omega) (show a ≤ 60 by omega) (show d < 60 by omega)), Bool.decide_and, decide_not]
            unfold mdP
            rcases Nat.lt_or_ge d n with hdn | hdn
            · rw [decide_eq_true hdn]; rfl
            · rw [decide_eq_false (Nat.not_lt.mpr hdn), hs.2.1 d (hs.2.2.1 d hdn (by omega)) (by omega), decide_eq_true (show (-1 : Int32) < nI a by
                rw [i32_lt, nI_toInt (show a < 2 ^ 31 by omega)]
                show (-1 : Int) < a
                omega)]
              rfl
        refine ⟨y, rfl, ky.1.trans q12, fun c => ?_, fun c => ⟨c1, ?_, fun g26 e26 => ?_⟩⟩
        · rw [ky.2.1, hL.2.1] at c
          have hm0 : mgL σ a n = 0 := by
            have := (nI_le_iff (show 1 + mgL σ a n < 2 ^ 31 by omega) (show 1 < 2 ^ 31 by decide)).mp c
            omega
          exact hend g17 kp17 c1 c2 c3 (fun hm => absurd hm0 (hmore.mp hm))
        · rw [c2]
          have hm : more = true := hmore.mpr (fun q => c (by
            rw [ky.2.1, hL.2.1, q]; exact Int32.le_refl 1))
          rw [hN, if_pos hm]
          exact vp_in_nI (by omega) (by omega)
        · subst e26
          refine hend _ (kp17.trans Kp.sV) c1 c2 (fun k hk => ?_) (fun _ => ?_)
          · rw [gR_sVs, if_neg (by omega)]; exact c3 k hk
          · rw [gR_sVs, if_pos rfl]
    unfold l_X11_merge_11
    refine ⟨f0, fun _ => ⟨y, rfl, q12, fun c => ?_, fun c => ?_⟩, fun c => absurd ?_ c⟩
    · rw [hL.2.1] at c
      have hm0 : mgL σ a n = 0 := by
        have := (nI_inj (show 1 + mgL σ a n < 2 ^ 31 by omega) (show 1 < 2 ^ 31 by decide)).mp c
        omega
      exact body false a ⟨fun q => (by cases q), fun q => absurd hm0 q⟩ rfl
    · rw [hL.2.1] at c
      rw [nI_1]
      exact body true (a + 1) ⟨fun _ q => c (by rw [q]; rfl), fun _ => rfl⟩ rfl
    · rw [hA.n3]
      exact Int32.le_refl _
  · unfold whM
    rw [if_neg (fun q => absurd q.1 (Nat.not_lt_zero _))]
  · refine ⟨by rw [e92]; exact gK_new (n := 1), by rw [e92]; exact gN_new (k := 21), by rw [e92, gI_sU, if_pos rfl], fun d hd => ?_⟩
    show false = mdP σ a 0 d
    unfold mdP
    rw [decide_eq_false (Nat.not_lt_zero d)]; rfl
end SMERGE3
