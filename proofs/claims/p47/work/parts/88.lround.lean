/-! THE LAW: its steps, its rounds, its shelves -/
section LROUND
variable {A : Nat → Nat} {U : Nat × (Nat → Int32)} {p0 mA b L n bf ns nn nnE nr dr j m : Nat} {xs : Nat → Int32} {σ σ' τ : Rows} {g gm : gS} {i1 i4 : Int32} {k2 k80 : gS → gS → Nat → Nat → Int32 → Prop}
/-- the engine's rows, between two of the law's steps -/
def LR (σ : Rows) (n nn : Nat) : Prop := σ 0 2 = 0 ∧ σ 11 = V0m 11 ∧ KD σ n ∧ ¬ c3 σ ∧ ∀ j, j < 3 → j < nn → σ 17 j = 0
def ShS (p0 mA b n nn m : Nat) (g gm : gS) : Prop := ∃ A U σ bf ns nr dr, A 0 = p0 ∧ SA A mA b n U σ n ns nn dr (whF σ bf) g ∧ EE mA σ n bf nn nr ns gm ∧ LR σ n nn ∧ dr ≤ m
theorem c3_same (h : ¬ c3 σ) (h13 : σ' 0 13 = σ 0 13) (h14 : σ' 14 = σ 14) : ¬ c3 σ' := by
  intro c
  apply h
  have c : 2 < cl (σ' 0 13) ∧ σ' 14 (cl (σ' 0 13) - 1) = σ' 14 (cl (σ' 0 13) - 2) ∧ σ' 14 (cl (σ' 0 13) - 2) = σ' 14 (cl (σ' 0 13) - 3) := c
  rw [h13, h14] at c
  exact c
theorem LR.add (h : LR σ n nn) (hR : ShAd n σ σ') (h2 : σ' 0 2 = 0) : LR σ' (n + 1) nn := by
  obtain ⟨a1, a2, a3, a4, a5⟩ := h
  obtain ⟨r1, r2, r3, r4, r5⟩ := hR
  refine ⟨h2, (r1 11 (by decide) (by decide) (by decide) (by decide) (by decide)).trans a2, fun d hd => ?_, c3_same a4 (r3 13 (by decide) (by decide) (by decide)) (r1 14 (by decide) (by decide) (by decide) (by decide) (by decide)), fun j h3 hj => ?_⟩
  · by_cases c : d = n
    · subst c; exact ⟨r4, r5⟩
    · rw [(r2 d c).1, (r2 d c).2]; exact a3 d (by omega)
  · rw [r1 17 (by decide) (by decide) (by decide) (by decide) (by decide)]; exact a5 j h3 hj
theorem LR.fl (h : LR σ n nn) (hG : GI σ n bf nnE nr ns) : LR (fl1 σ) n nn := by
  obtain ⟨a1, a2, a3, a4, a5⟩ := h
  have R : ∀ t, t ≠ 0 → t ≠ 6 → t ≠ 14 → t ≠ 15 → fl1 σ t = σ t := fl1_ce
  refine ⟨(fl1_0 (by decide) (by decide) (by decide)).trans a1, (R 11 (by decide) (by decide) (by decide) (by decide)).trans a2, fun d hd => ?_, fl1_c3 hG, fun j h3 hj => ?_⟩
  · rw [R 3 (by decide) (by decide) (by decide) (by decide), R 4 (by decide) (by decide) (by decide) (by decide)]; exact a3 d hd
  · rw [R 17 (by decide) (by decide) (by decide) (by decide)]; exact a5 j h3 hj
theorem LR.co {ns' : Nat} (h : LR σ n nn) (hP : PK σ n bf nnE nr ns) (hG : GI (co1 σ) n bf nnE nr ns') : LR (co1 σ) n nn := by
  obtain ⟨a1, a2, a3, a4, a5⟩ := h
  have R : ∀ t, t ≠ 0 → t ≠ 6 → t ≠ 14 → t ≠ 15 → co1 σ t = σ t := co1_ce
  refine ⟨(co1_0 (by decide) (by decide)).trans a1, (R 11 (by decide) (by decide) (by decide) (by decide)).trans a2, fun d hd => ?_, co1_c3 hG hP, fun j h3 hj => ?_⟩
  · rw [R 3 (by decide) (by decide) (by decide) (by decide), R 4 (by decide) (by decide) (by decide) (by decide)]; exact a3 d hd
  · rw [R 17 (by decide) (by decide) (by decide) (by decide)]; exact a5 j h3 hj
theorem LR.rm (h : LR σ n nn) {d : Nat} : LR (rmR σ d) n nn := by
  obtain ⟨a1, a2, a3, a4, a5⟩ := h
  refine ⟨(rmR_0 (by decide)).trans a1, (rmR_r (by decide) (by decide)).trans a2, fun e he => ?_, c3_same a4 (rmR_0 (by decide)) (rmR_r (by decide) (by decide)), fun j h3 hj => ?_⟩
  · rw [rmR_r (t := 3) (by decide) (by decide), rmR_r (t := 4) (by decide) (by decide)]; exact a3 e he
  · rw [rmR_r (t := 17) (by decide) (by decide)]; exact a5 j h3 hj
theorem LR.qry {s : Int32} (h : LR σ n nn) (hR : QryR nn s σ σ') (hs : nn < 3 → s = 0) : LR σ' n (nn + 1) := by
  obtain ⟨a1, a2, a3, a4, a5⟩ := h
  obtain ⟨r1, r2, r3, r4, r5⟩ := hR
  have R : ∀ t, t ≠ 0 → (t < 17 ∨ 21 < t) → σ' t = σ t := fun t h0 h => r1 t h0 (by omega) (by omega) (by omega) (by omega) (by omega)
  refine ⟨(r2 2 (by decide) (by decide)).trans a1, (R 11 (by decide) (by decide)).trans a2, fun d hd => ?_, c3_same a4 (r2 13 (by decide) (by decide)) (R 14 (by decide) (by decide)), fun j h3 hj => ?_⟩
  · rw [R 3 (by decide) (by decide), R 4 (by decide) (by decide)]; exact a3 d hd
  · by_cases c : j = nn
    · subst c; rw [r4]; exact hs h3
    · rw [r3 j c]; exact a5 j h3 (by omega)
theorem LR.sam (h : LR σ n nn) (hs : Sam σ τ) (h0 : ∀ i, i ≠ 0 → i ≠ 22 → τ 0 i = σ 0 i) : LR τ n nn := by
  obtain ⟨a1, a2, a3, a4, a5⟩ := h
  refine ⟨(h0 2 (by decide) (by decide)).trans a1, (hs 11 (by decide) (by decide) (by decide)).trans a2, fun d hd => ?_, c3_same a4 (h0 13 (by decide) (by decide)) (hs 14 (by decide) (by decide) (by decide)), fun j h3 hj => ?_⟩
  · rw [hs 3 (by decide) (by decide) (by decide), hs 4 (by decide) (by decide) (by decide)]; exact a3 d hd
  · rw [hs 17 (by decide) (by decide) (by decide)]; exact a5 j h3 hj
theorem ShS.k (h : ShS p0 mA b n nn m g gm) : gK g p0 = 12 := by
  obtain ⟨A, U, σ, bf, ns, nr, dr, rfl, hA, -⟩ := h
  exact hA.f.1
theorem ShS.i3 (h : ShS p0 mA b n nn m g gm) : gI g p0 3 = nI n ∧ gI g p0 13 = nI nn := by
  obtain ⟨A, U, σ, bf, ns, nr, dr, rfl, hA, -⟩ := h
  exact ⟨hA.n3, hA.2.2.2.1.1.2.2⟩
theorem ls_draw (h : ShS p0 mA b n nn m g gm) (hL : L ≤ 260) (hm : m + 1 < 2 ^ 24) {N : Nat} (h0 : 0 < N) (hN : N < 2 ^ 31) {Q : Int32 → gS → gS → Prop} (hQ : ∀ r g', r < N → ShS p0 mA b n nn (m + 1) g' gm → Q (nI r) g' gm) : w_X11_draw g gm p0 (nI N) b L xs Q := by
  obtain ⟨A, U, σ, bf, ns, nr, dr, rfl, hA, hE, hR, hd⟩ := h
  exact x_draw hA hL h0 hN (by omega) (fun r g' hr h1 _ => hQ r g' hr ⟨A, U, σ, bf, ns, nr, dr + 1, rfl, h1, hE, hR, by omega⟩)
theorem ls_add (h : ShS p0 mA b n nn m g gm) (hL : L ≤ 260) (hn : n < 16) (hm : m + 50 < 2 ^ 24) {Q : Int32 → gS → gS → Prop} (hQ : ∀ g' gm', ShS p0 mA b (n + 1) nn (m + 35) g' gm' → Q 1 g' gm') : w_X11_add g gm p0 b L xs 60 3000 Q := by
  obtain ⟨A, U, σ, bf, ns, nr, dr, rfl, hA, hE, hR, hd⟩ := h
  exact x_sadd hL hn hA hE hR.1 (by omega) (fun A' g' gm' σ' dr' e0 hd' hR' h2 hA' hE' => hQ g' gm' ⟨A', U, σ', bf, ns, nr, dr', e0, hA', hE', hR.add hR' h2, by omega⟩)
theorem ls_flush (h : ShS p0 mA b n nn m g gm) (hn : n ≤ 16) {Q : Int32 → gS → gS → Prop} (hQ : ∀ g' gm', ShS p0 mA b n nn m g' gm' → Q 1 g' gm') : w_X11_flush g gm p0 b L xs 220 14000 Q := by
  obtain ⟨A, U, σ, bf, ns, nr, dr, rfl, hA, hE, hR, hd⟩ := h
  exact x_sflush hA hE hn (fun A' g' m' ns' e0 _ hA' hE' => hQ g' m' ⟨A', U, fl1 σ, n, ns', nr, dr, e0, hA', hE', hR.fl hE.gi, hd⟩)
theorem ls_remove (h : ShS p0 mA b n nn m g gm) (hL : L ≤ 260) (hn0 : 0 < n) (hn : n ≤ 16) (hm : m + 1 < 2 ^ 24) {Q : Int32 → gS → gS → Prop} (hQ : ∀ g' gm', ShS p0 mA b n nn (m + 1) g' gm' → Q 1 g' gm') : w_X11_remove g gm p0 b L xs 2 12 Q := by
  obtain ⟨A, U, σ, bf, ns, nr, dr, rfl, hA, hE, hR, hd⟩ := h
  exact x_sremove hL hn0 hn hA hE (by omega) (fun g' gm' d _ hA' hE' => hQ g' gm' ⟨A, U, rmR σ d, bf, ns, nr, dr + 1, rfl, hA', hE', hR.rm, by omega⟩)
theorem ls_query (h : ShS p0 mA b n nn m g gm) (hL : L ≤ 260) (hnn : nn < 30) (hm : m + 30 < 2 ^ 24) {Q : Int32 → gS → gS → Prop} (hQ : ∀ g' gm', ShS p0 mA b n (nn + 1) (m + 9) g' gm' → Q 1 g' gm') : w_X11_query g gm p0 b L xs 4 60 Q := by
  obtain ⟨A, U, σ, bf, ns, nr, dr, rfl, hA, hE, hR, hd⟩ := h
  refine x_squery hA hE hL hnn (by omega) hR.2.2.2.2 (fun g' gm' σ' dr' s q1 q2 q3 hA' hE' => hQ g' gm' ⟨A, U, σ', bf, ns, nr, dr', rfl, hA'.whc (fun d _ => ?_), hE', hR.qry q2 q3, by omega⟩)
  unfold whF
  rw [q2.1 6 (by decide) (by decide) (by decide) (by decide) (by decide) (by decide)]
/-- the last part of a round -/
theorem ls_268 {C0 S0 : Nat} {i5 : Int32} (h : ShS p0 mA b n nn m g gm) (hn : n ≤ 16) (hj : j < nn) (hC : C0 + 570 ≤ 600104) (hS : S0 + 2950 ≤ 7301314) (hk : ∀ gm' C' S', ShS p0 mA b n nn m g gm' → C' ≤ C0 + 570 → S' ≤ S0 + 2950 → k80 g gm' C' S' (i4 + 1)) : b_L_law_268 g gm C0 S0 i1 p0 mA i4 i5 (nI j) b L xs k2 k80 := by
  obtain ⟨A, U, σ, bf, ns, nr, dr, rfl, hA, hE, hR, hd⟩ := h
  refine y_268 hA hn hj hE hR.2.2.1 hR.2.1 hR.2.2.2.1 hC hS (fun gm' C' S' τ r z0 z00 z1 z2 z3 => hk gm' C' S' ⟨A, U, τ, bf, ns, r, dr, rfl, ?_, z1, hR.sam z0 z00, hd⟩ z2 z3)
  refine (hA.rows (z0 3 (by decide) (by decide) (by decide)) (z0 5 (by decide) (by decide) (by decide)) (z0 14 (by decide) (by decide) (by decide)) (z0 15 (by decide) (by decide) (by decide))).whc (fun d _ => ?_)
  unfold whF
  rw [z0 6 (by decide) (by decide) (by decide)]
/-- what it would score is what it scores -/
theorem ls_152 {C0 S0 : Nat} {i5 : Int32} (h : ShS p0 mA b n nn m g gm) (hn : n ≤ 16) (hj : j < nn) (hC : C0 + 900 ≤ 600104) (hS : S0 + 20000 ≤ 7301314) (hk : ∀ g' gm' C' S', ShS p0 mA b n nn m g' gm' → C' ≤ C0 + 900 → S' ≤ S0 + 20000 → k80 g' gm' C' S' (i4 + 1)) : b_L_law_152 g gm C0 S0 i1 p0 mA i4 i5 (nI j) b L xs k2 k80 := by
  unfold b_L_law_152
  refine ⟨fun _ => ?_, fun _ => ls_268 h hn hj (by omega) (by omega) (fun gm' C' S' z1 z2 z3 => hk _ gm' C' S' z1 (by omega) (by omega))⟩
  obtain ⟨A, U, σ, bf, ns, nr, dr, rfl, hA, hE, hR, hd⟩ := h
  have cn : Int32.toNatClampNeg (nI n) = n := cl_nI (by omega)
  rw [hA.n3, cn]
  refine ⟨hA.f.1, ⟨not_lt0 (by omega), by omega⟩, ⟨by omega, by omega⟩, fun q hq0 g1 e1 => ?_⟩
  subst e1
  have hq : ∀ l, SKd ns l ≠ 0 → A l ≠ q := fun l hl => hA.1.new hq0 hl
  have h1 := (hA.keep Kp.new hq).re8 hq (show gK (sNew g q 21 n) q = 21 from gK_new)
  rw [gN_new] at h1
  generalize hAA : (fun l => if l = 8 then q else A l) = A1 at h1
  have a0 : A 0 = A1 0 := by rw [← hAA]; rfl
  have a8 : q = A1 8 := by rw [← hAA]; rfl
  rw [a0, a8]
  rw [a8] at h1
  refine lpx5_i n (fun d g gm C S i => i = nI d ∧ C ≤ C0 + 1 + d ∧ S ≤ S0 + n + 6 * d ∧ EE mA σ n bf nn nr ns gm ∧ ∃ U' : Nat × (Nat → Int32), SA A1 mA b n U' σ n ns nn dr (whF σ bf) g ∧ U'.1 = n ∧ ∀ e, e < d → U'.2 e = scoreNowF (fuR σ n) n e j) (fun d g2 gm2 C2 S2 i2 hdn hI K hKK => ?_) (fun g2 gm2 C2 S2 i2 hI K => ?_) _ _ _ _ _ ⟨rfl, by omega, by omega, hE, (n, _), h1, rfl, fun e he => absurd he (Nat.not_lt_zero e)⟩
  · obtain ⟨rfl, hC2, hS2, hE2, U', hA2, u1, u2⟩ := hI
    have q8 : SKd ns 8 ≠ 0 := k1 (by decide)
    unfold l_L_law_169
    refine ⟨hA2.f.1, fun c => ?_, fun _ => ⟨hE2.kind, ⟨by omega, by omega⟩, q_wouldScore hE2 hj hdn (fun gm3 hE3 => ⟨hA2.1.1 8 q8, ?_, fun g3 e3 => ?_⟩)⟩⟩
    · rw [hA2.n3] at c
      exact absurd c (nI_ge hdn (by omega))
    · rw [hA2.2.2.2.2.2.2.2.1, u1]; exact vp_in_nI hdn (by omega)
    · rw [cl_nI (show d < 2 ^ 31 by omega)] at e3
      subst e3
      rw [nI_1]
      refine hKK _ _ _ _ _ ⟨rfl, by omega, by omega, hE3, _, hA2.own8, u1, fun e he => ?_⟩
      show (if e = d then scoreNowF (fuR σ n) n d j else U'.2 e) = _
      by_cases c : e = d
      · subst c; rw [if_pos rfl]
      · rw [if_neg c]; exact u2 e (by omega)
  · obtain ⟨rfl, hC2, hS2, hE2, U', hA2, u1, u2⟩ := hI
    unfold l_L_law_169 b_L_law_230
    refine ⟨hA2.f.1, fun _ => ⟨hE2.kind, ⟨by omega, by omega⟩, q_found hE2 hj (fun gm3 hE3 => ⟨⟨by omega, by omega⟩, x_sflush hA2 hE3 hn (fun A4 g4 gm4 ns4 e40 e48 hA4 hE4 => ⟨fun c => absurd c (by decide), fun _ => ⟨by rw [← e40]; exact hA4.f.1, ⟨by omega, by omega⟩, ?_⟩⟩)⟩)⟩, fun c => absurd ?_ c⟩
    · rw [← e40]
      refine x_scompact hA4 hE4 hn (fun A5 g5 gm5 ns5 e50 e58 hA5 hE5 => ⟨fun c => absurd c (by decide), fun _ => ⟨hE5.kind, ⟨by omega, by omega⟩, q_found hE5 hj (fun gm6 hE6 => ⟨fun _ => ?_, fun c => absurd ?_ c⟩)⟩⟩)
      · have hLR := (hR.fl hE.gi).co hE4.pk hE5.gi
        have q8 : SKd ns5 8 ≠ 0 := k1 (by decide)
        rw [← e48, ← e58]
        have e00 : A5 0 = A4 0 := e50
        rw [← e50]
        refine lpx4_i n (fun d gm C S i => i = nI d ∧ C ≤ C0 + 300 + d ∧ S ≤ S0 + 15600 + 6 * d ∧ EE mA (co1 (fl1 σ)) n n nn nr ns5 gm) (fun d gm7 C7 S7 i7 hdn hI K7 hK7 => ?_) (fun gm7 C7 S7 i7 hI K7 => ?_) _ _ _ _ ⟨rfl, by omega, by omega, hE6⟩
        · obtain ⟨rfl, hC7, hS7, hE7⟩ := hI
          unfold l_L_law_235
          refine ⟨hA5.f.1, fun c => ?_, fun _ => ⟨hE7.kind, ⟨by omega, by omega⟩, q_score hE7 hj hdn (fun gm8 hE8 => ⟨hA5.1.1 8 q8, ?_, fun _ => ?_, fun c => absurd ?_ c⟩)⟩⟩
          · rw [hA5.n3] at c
            exact absurd c (nI_ge hdn (by omega))
          · rw [hA5.2.2.2.2.2.2.2.1, u1]; exact vp_in_nI hdn (by omega)
          · rw [nI_1]
            exact hK7 _ _ _ _ ⟨rfl, by omega, by omega, hE8⟩
          · rw [cl_nI (show d < 2 ^ 31 by omega), hA5.2.2.2.2.2.2.2.2, u2 d hdn]
            exact would_eq hE4.pk hE5.pk hdn
        · obtain ⟨rfl, hC7, hS7, hE7⟩ := hI
          unfold l_L_law_235
          refine ⟨hA5.f.1, fun _ => ?_, fun c => absurd ?_ c⟩
          · exact ls_268 ⟨A5, U', co1 (fl1 σ), n, ns5, nr, dr, rfl, hA5, hE7, hLR, hd⟩ hn hj (by omega) (by omega) (fun gm' C' S' z1 z2 z3 => hk _ gm' C' S' (by rw [e50, e40, ← a0] at z1; exact z1) (by omega) (by omega))
          · rw [hA5.n3]; exact Int32.le_refl _
      · have hf := found_le hE.pk hE5.pk (CE.trans fl1_ce co1_ce) (fun d hd' ht => there_fl hE.pk hE5.pk hd' ht) hj
        have b1 : foundF σ n j n ≤ n := cnt_le _ _
        have b2 : foundF (co1 (fl1 σ)) n j n ≤ n := cnt_le _ _
        exact (nI_le_iff (show foundF σ n j n < 2 ^ 31 by omega) (show foundF (co1 (fl1 σ)) n j n < 2 ^ 31 by omega)).mpr hf
    · rw [hA2.n3]; exact Int32.le_refl _
/-- a round -/
theorem ls_round {C0 S0 : Nat} (h : ShS p0 mA b n 8 m g gm) (hL : L ≤ 260) (hn0 : 0 < n) (hn : n < 16) (hm : m + 60 < 2 ^ 24) (hi : ∃ t, t < 10 ∧ i4 = nI t) (hC : C0 + 1300 ≤ 600104) (hS : S0 + 40000 ≤ 7301314) (hk : ∀ g' gm' C' S' n', n' ≤ n + 1 → n ≤ n' → ShS p0 mA b n' 8 (m + 40) g' gm' → C' ≤ C0 + 1300 → S' ≤ S0 + 40000 → k80 g' gm' C' S' (i4 + 1)) : l_L_law_80 i1 p0 mA b L xs k2 g gm C0 S0 i4 k80 := by
  obtain ⟨t, ht, rfl⟩ := hi
  -- behind the removal
  have a4 : ∀ {g gm : gS} {C S n' m' j x : Nat}, ShS p0 mA b n' 8 m' g gm → n' ≤ n + 1 → n ≤ n' → m' ≤ m + 39 → j < 8 → C ≤ C0 + 300 → S ≤ S0 + 18000 → b_L_law_137 g gm C S i1 p0 mA (nI t) (nI x) (nI j) b L xs k2 k80 := by
    intro g gm C S n' m' j x h1 hn1 hn2 hm1 hj hC1 hS1
    have up : ∀ {g gm : gS} {m2 : Nat}, ShS p0 mA b n' 8 m2 g gm → m2 ≤ m + 40 → ShS p0 mA b n' 8 (m + 40) g gm := by
      rintro g gm m2 ⟨A, U, σ, bf, ns, nr, dr, e0, hA, hE, hR, hd⟩ hm2
      exact ⟨A, U, σ, bf, ns, nr, dr, e0, hA, hE, hR, by omega⟩
    unfold b_L_law_137 b_L_law_150
    refine ⟨fun _ => ⟨h1.k, ⟨by omega, by omega⟩, ls_remove h1 hL (by omega) (by omega) (by omega) (fun g2 gm2 h2 => ⟨fun c => absurd c (by decide), fun _ => ?_⟩)⟩, fun _ => ?_⟩
    · exact ls_152 h2 (by omega) hj (by omega) (by omega) (fun g' gm' C' S' z1 z2 z3 => hk g' gm' C' S' n' hn1 hn2 (up z1 (by omega)) (by omega) (by omega))
    · exact ls_152 h1 (by omega) hj (by omega) (by omega) (fun g' gm' C' S' z1 z2 z3 => hk g' gm' C' S' n' hn1 hn2 (up z1 (by omega)) (by omega) (by omega))
  have a3 : ∀ {g gm : gS} {C S n' m' j x : Nat}, ShS p0 mA b n' 8 m' g gm → n' ≤ n + 1 → n ≤ n' → m' ≤ m + 39 → j < 8 → C ≤ C0 + 60 → S ≤ S0 + 3000 → b_L_law_118 g gm C S i1 p0 mA (nI t) (nI x) (nI j) b L xs k2 k80 := by
    intro g gm C S n' m' j x h1 hn1 hn2 hm1 hj hC1 hS1
    unfold b_L_law_118 b_L_law_150
    refine ⟨fun _ => a4 h1 hn1 hn2 hm1 hj (by omega) (by omega), fun _ => ⟨fun _ => a4 h1 hn1 hn2 hm1 hj (by omega) (by omega), fun _ => ⟨h1.k, ⟨by omega, by omega⟩, ls_flush h1 (by omega) (fun g2 gm2 h2 => ⟨fun c => absurd c (by decide), fun _ => ?_⟩)⟩⟩⟩
    exact a4 h2 hn1 hn2 hm1 hj (by omega) (by omega)
  unfold l_L_law_80 b_L_law_150
  refine ⟨fun c => ?_, fun _ => ⟨h.k, ls_draw (N := 6) h hL (by omega) (by decide) (by decide) (fun x g1 hx h1 => ⟨h1.k, ?_⟩)⟩⟩
  · have := (nI_le_iff (a := 10) (show 10 < 2 ^ 31 by decide) (show t < 2 ^ 31 by omega)).mp c
    omega
  · rw [h1.i3.2]
    refine ls_draw h1 hL (by omega) (by decide) (by decide) (fun j g2 hj h2 => ⟨fun _ => a3 h2 (by omega) (Nat.le_refl n) (by omega) hj (by omega) (by omega), fun _ => ⟨h2.k, ⟨by omega, by omega⟩, ls_add h2 hL hn (by omega) (fun g3 gm3 h3 => ⟨fun c => absurd c (by decide), fun _ => ?_⟩)⟩⟩)
    exact a3 h3 (Nat.le_refl _) (by omega) (by omega) hj (by omega) (by omega)
theorem le_chain {a b c d x : Nat} (h1 : a ≤ b + d) (h2 : b ≤ c + x) : a ≤ c + (x + d) := by omega
set_option maxRecDepth 100000 in
theorem ls_law (hL : L ≤ 260) : w_L_law b L xs := by
  unfold w_L_law
  refine lpx5_i 3 (fun t g gm C S i => i = nI t ∧ C ≤ 14000 * t ∧ S ≤ 450000 * t) (fun t g gm C S i ht hI K hK => ?_) (fun g gm C S i hI K => ?_) _ _ _ _ _ ⟨rfl, by decide, by decide⟩
  · obtain ⟨rfl, hC, hS⟩ := hI
    unfold l_L_law_2
    refine ⟨fun c => ?_, fun _ => ⟨⟨by omega, by omega⟩, fun q hq g1 e1 => ⟨⟨by omega, by omega⟩, ?_⟩⟩⟩
    · have := (nI_le_iff (a := 3) (show 3 < 2 ^ 31 by decide) (show t < 2 ^ 31 by omega)).mp c
      omega
    · have e31 : (31 : Int32) * nI t + 7 = nI (31 * t + 7) := by
        rw [show (31 : Int32) = nI 31 from rfl, nI_mul, show (7 : Int32) = nI 7 from rfl, nI_add]
      rw [e31]
      subst e1
      refine x_sinit gK_new (fun i => by rw [gI_new]) (by omega) (fun A g2 mA gm2 U a0 hA hE => ?_)
      have h0 : ShS q mA b 0 0 100 g2 gm2 := ⟨A, U, V0m, 0, 0, 0, _, a0, hA, hE, ⟨rfl, rfl, fun d hd => absurd hd (Nat.not_lt_zero d), fun c => absurd c.1 (by decide), fun j _ hj => absurd hj (Nat.not_lt_zero j)⟩, by omega⟩
      refine ⟨h0.k, mA, by rw [← a0]; exact hA.r.1, ?_⟩
      refine lpx5_i 3 (fun k g gm C' S' i => i = nI k ∧ C' ≤ 14000 * t + 501 + 60 * k ∧ S' ≤ 450000 * t + 16015 + 3000 * k ∧ ShS q mA b k 0 (100 + 35 * k) g gm) (fun k g3 gm3 C3 S3 i3 hk hI K3 hK3 => ?_) (fun g3 gm3 C3 S3 i3 hI K3 => ?_) _ _ _ _ _ ⟨rfl, by omega, by omega, h0⟩
      · obtain ⟨rfl, hC3, hS3, h3⟩ := hI
        unfold l_L_law_31
        refine ⟨fun c => ?_, fun _ => ⟨h3.k, ⟨by omega, by omega⟩, ls_add h3 hL (by omega) (by omega) (fun g4 gm4 h4 => ⟨fun c => absurd c (by decide), fun _ => ?_⟩)⟩⟩
        · have := (nI_le_iff (a := 3) (show 3 < 2 ^ 31 by decide) (show k < 2 ^ 31 by omega)).mp c
          omega
        · rw [nI_1]
          exact hK3 _ _ _ _ _ ⟨rfl, by omega, by omega, h4⟩
      · obtain ⟨rfl, hC3, hS3, h3⟩ := hI
        unfold l_L_law_31
        refine ⟨fun _ => ?_, fun c => absurd (Int32.le_refl _) c⟩
        refine lpx5_i 8 (fun k g gm C' S' i => i = nI k ∧ C' ≤ 14000 * t + 681 + 4 * k ∧ S' ≤ 450000 * t + 25015 + 60 * k ∧ ShS q mA b 3 k (205 + 9 * k) g gm) (fun k g4 gm4 C4 S4 i4 hk hI K4 hK4 => ?_) (fun g4 gm4 C4 S4 i4 hI K4 => ?_) _ _ _ _ _ ⟨rfl, by omega, by omega, h3⟩
        · obtain ⟨rfl, hC4, hS4, h4⟩ := hI
          unfold l_L_law_55
          refine ⟨fun c => ?_, fun _ => ⟨h4.k, ⟨by omega, by omega⟩, ls_query h4 hL (by omega) (by omega) (fun g5 gm5 h5 => ⟨fun c => absurd c (by decide), fun _ => ?_⟩)⟩⟩
          · have := (nI_le_iff (a := 8) (show 8 < 2 ^ 31 by decide) (show k < 2 ^ 31 by omega)).mp c
            omega
          · rw [nI_1]
            exact hK4 _ _ _ _ _ ⟨rfl, by omega, by omega, h5⟩
        · obtain ⟨rfl, hC4, hS4, h4⟩ := hI
          unfold l_L_law_55
          refine ⟨fun _ => ?_, fun c => absurd (Int32.le_refl _) c⟩
          refine lpx5_i 10 (fun k g gm C' S' i => i = nI k ∧ C' ≤ 14000 * t + 713 + 1300 * k ∧ S' ≤ 450000 * t + 25495 + 40000 * k ∧ ∃ n', 3 ≤ n' ∧ n' ≤ 3 + k ∧ ShS q mA b n' 8 (277 + 40 * k) g gm) (fun k g5 gm5 C5 S5 i5 hk hI K5 hK5 => ?_) (fun g5 gm5 C5 S5 i5 hI K5 => ?_) _ _ _ _ _ ⟨rfl, by omega, by omega, 3, by omega, by omega, h4⟩
          · obtain ⟨rfl, hC5, hS5, n', hn1, hn2, h5⟩ := hI
            refine ls_round h5 hL (by omega) (by omega) (by omega) ⟨k, hk, rfl⟩ (by omega) (by omega) (fun g' gm' C' S' n2 z1 z2 z3 z4 z5 => ?_)
            have y4 : C' ≤ 14000 * t + 713 + 1300 * (k + 1) := by rw [Nat.mul_succ]; exact le_chain z4 hC5
            have y5 : S' ≤ 450000 * t + 25495 + 40000 * (k + 1) := by rw [Nat.mul_succ]; exact le_chain z5 hS5
            have y3 : ShS q mA b n2 8 (277 + 40 * (k + 1)) g' gm' := by
              rw [show 277 + 40 * (k + 1) = 277 + 40 * k + 40 by omega]
              exact z3
            rw [nI_1]
            exact hK5 g' gm' C' S' _ ⟨rfl, y4, y5, n2, by omega, by omega, y3⟩
          · obtain ⟨rfl, hC5, hS5, n', hn1, hn2, h5⟩ := hI
            unfold l_L_law_80
            refine ⟨fun _ => ?_, fun c => absurd (Int32.le_refl _) c⟩
            rw [nI_1]
            exact hK _ _ _ _ _ ⟨rfl, by omega, by omega⟩
  · obtain ⟨rfl, hC, hS⟩ := hI
    unfold l_L_law_2
    exact ⟨fun _ => trivial, fun c => absurd (Int32.le_refl _) c⟩
end LROUND
