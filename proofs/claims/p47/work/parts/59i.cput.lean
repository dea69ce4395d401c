/-! THE CLASS: the calls that change, without new cells -/
section CPUT
variable {A : Nat → Nat} {D : Nat} {V V' σ σ' τ ρ : Rows} {n bf nn nr ns cb sb : Nat} {ub : Bool} {g g' : gS}
theorem NG.rows (h : NG σ nn) (hs : ∀ t, 17 ≤ t → t ≤ 21 → σ' t = σ t) : NG σ' nn := by
  intro j hj
  have := h j hj
  unfold NW at this ⊢
  rw [hs 17 (by decide) (by decide), hs 18 (by decide) (by decide), hs 19 (by decide) (by decide), hs 20 (by decide) (by decide), hs 21 (by decide) (by decide)]
  exact this
theorem PK.arc {bf' ns' : Nat} (h : PK σ n bf nn nr ns) (hs : ∀ t, t ≠ 0 → t ≠ 6 → t ≠ 14 → t ≠ 15 → σ' t = σ t) (h0 : ∀ i, i ≠ 0 → i ≠ 9 → i ≠ 13 → σ' 0 i = σ 0 i) (h9 : σ' 0 9 = nI bf') (hbf : bf' ≤ n) (h13 : σ' 0 13 = nI ns') (hns : ns' ≤ 60) (h6 : ∀ d, d < 60 → σ' 6 d = 0 ∨ σ' 6 d = 1) (hg : SG σ' n bf' ns') : PK σ' n bf' nn nr ns' := by
  obtain ⟨⟨a1, a2, a3, a4, a5, a6, a7, a8⟩, b, c, _⟩ := h
  refine ⟨⟨⟨a1.1, hbf, a1.2.2.1, a1.2.2.2.1, hns⟩, ⟨?_, h9, ?_, ?_, h13⟩, ?_, ?_, ?_, fun d hd => ⟨?_, h6 d hd⟩, ?_, ?_⟩, b.rows (fun t e1 e2 => hs t (by omega) (by omega) (by omega) (by omega)), ?_, hg⟩
  · rw [h0 1 (by decide) (by decide) (by decide)]; exact a2.1
  · rw [h0 16 (by decide) (by decide) (by decide)]; exact a2.2.2.1
  · rw [h0 22 (by decide) (by decide) (by decide)]; exact a2.2.2.2.1
  · rw [h0 2 (by decide) (by decide) (by decide)]; exact a3
  · rw [hs 7 (by decide) (by decide) (by decide) (by decide)]; exact a4
  · rw [hs 7 (by decide) (by decide) (by decide) (by decide), hs 8 (by decide) (by decide) (by decide) (by decide)]; exact a5
  · rw [hs 5 (by decide) (by decide) (by decide) (by decide)]; exact (a6 d hd).1
  · rw [hs 10 (by decide) (by decide) (by decide) (by decide)]; exact a7
  · rw [hs 11 (by decide) (by decide) (by decide) (by decide)]; exact a8
  · unfold WG at c ⊢; rw [hs 12 (by decide) (by decide) (by decide) (by decide)]; exact c
theorem EX.same (h : EX σ n D) (h2 : σ' 0 2 = σ 0 2) (h5 : σ' 5 = σ 5) (h7 : σ' 7 = σ 7) : EX σ' n D := by
  unfold EX at h ⊢; rw [h2, h5, h7]; exact h
theorem flL_0 {i : Nat} (hi : i ≠ 13) : ∀ k (σ : Rows), flL n k σ 0 i = σ 0 i
  | 0, σ => rfl
  | k + 1, σ => by
    rw [flL]; split
    · rw [flL_0 hi k, merge_0 hi]
    · rfl
theorem merge_6b {a : Nat} {t : Int32} {d : Nat} (h : σ 6 d = 0 ∨ σ 6 d = 1) : mergeR σ n a t 6 d = 0 ∨ mergeR σ n a t 6 d = 1 := by
  rw [merge_r (by decide) (by decide), mgK_6]
  split
  · exact Or.inl rfl
  · exact h
theorem flL_6b {d : Nat} : ∀ k (σ : Rows), (σ 6 d = 0 ∨ σ 6 d = 1) → (flL n k σ 6 d = 0 ∨ flL n k σ 6 d = 1)
  | 0, σ, h => h
  | k + 1, σ, h => by
    rw [flL]; split
    · exact flL_6b k _ (merge_6b h)
    · exact h
theorem flB_0 {i : Nat} (h0 : i ≠ 0) (hi : i ≠ 13) : flB σ 0 i = σ 0 i := by
  unfold flB; split
  · rw [su_row (by decide), su_at, if_neg hi, flA_0 (by decide) (by decide), tz_0 h0]
  · rw [tz_0 h0]
theorem flB_r {t : Nat} (h0 : t ≠ 0) (h6 : t ≠ 6) (h14 : t ≠ 14) (h15 : t ≠ 15) : flB σ t = σ t := by
  unfold flB; split
  · rw [su_row h14, su_row h0, flA_0 h15 h6, tz_r h0]
  · rw [tz_r h0]
theorem flB_6b {d : Nat} (h : σ 6 d = 0 ∨ σ 6 d = 1) : flB σ 6 d = 0 ∨ flB σ 6 d = 1 := by
  unfold flB; split
  · rw [su_row (by decide), su_row (by decide), flA_6]
    split
    · exact Or.inr rfl
    · rw [tz_r (by decide)]; exact h
  · rw [tz_r (by decide)]; exact h
theorem p_flush (h : CX A D V σ n bf nn nr ns g) {Q : Int32 → gS → Prop} (hQ : ∀ g', CS (A 0) (A 73) (S_flush σ).2.2 g' → Q (S_flush σ).2.1 g') : w_X10_flush g (A 0) Q := by
  have hx := h
  obtain ⟨hc, hce, hP, hE⟩ := h
  have hG := hP.1
  have hn := hG.n
  unfold w_X10_flush
  refine ⟨hc.1.k0, _, hc.1.r0_0, hc.1.k1, x_flush hc hG hP.2.2.2 (fun d f hd hf => (hG.ln (by omega) hf).1) (fun g' V' ns' c' hce' hs' e13 hns' _ _ => hQ g' ?_)⟩
  have e2 : (S_flush σ).2.2 = flL n 60 (su (flB σ) 0 9 (nI n)) := by
    show flL (nF σ) 60 (su (flB σ) 0 9 (σ 0 1)) = _
    rw [hG.nF, hG.d1]
  have er : ∀ t, t ≠ 0 → t ≠ 6 → t ≠ 14 → t ≠ 15 → (S_flush σ).2.2 t = σ t := fun t a b c d => by rw [e2, flL_r a b c d, su_row a, flB_r a b c d]
  have e0 : ∀ i, i ≠ 0 → i ≠ 9 → i ≠ 13 → (S_flush σ).2.2 0 i = σ 0 i := fun i a b c => by rw [e2, flL_0 c, su_at, if_neg b, flB_0 a c]
  refine CX.cs ⟨c', hce', hP.arc er e0 (by rw [e2, flL_0 (by decide), su_at, if_pos rfl]) (Nat.le_refl _) e13 hns' (fun d hd => ?_) hs', hE.same (e0 2 (by decide) (by decide) (by decide)) (er 5 (by decide) (by decide) (by decide) (by decide)) (er 7 (by decide) (by decide) (by decide) (by decide))⟩
  rw [e2]
  refine flL_6b 60 _ ?_
  rw [su_row (by decide)]
  exact flB_6b (hG.2.2.2.2.2.1 d hd).2
theorem p_compact (h : CX A D V σ n bf nn nr ns g) {Q : Int32 → gS → Prop} (hQ : ∀ g', CS (A 0) (A 73) (S_compact σ).2.2 g' → Q (S_compact σ).2.1 g') : w_X10_compact g (A 0) Q := by
  have hx := h
  obtain ⟨hc, hce, hP, hE⟩ := h
  have hG := hP.1
  have hn := hG.n
  unfold w_X10_compact
  refine ⟨hc.1.k0, _, hc.1.r0_0, hc.1.k1, x_compact hc hG hP.2.2.2 hce (fun d f hd hf => (hG.ln (by omega) hf).1) (fun g' V' ns' c' hce' hs' e13 hns' _ _ => hQ g' ?_)⟩
  have e2 : (S_compact σ).2.2 = tz σ 0 ∨ (S_compact σ).2.2 = mergeR (tz σ 0) n 0 (mxF σ (cl (σ 0 13))) := by
    unfold S_compact
    split
    · exact Or.inl rfl
    · exact Or.inr (by rw [hG.nF])
  generalize (S_compact σ).2.2 = σ2 at e2 c' hce' hs' e13 ⊢
  have er : ∀ t, t ≠ 0 → t ≠ 6 → t ≠ 14 → t ≠ 15 → σ2 t = σ t := fun t a b c d => by
    rcases e2 with e | e <;> subst e
    · exact tz_r a
    · rw [merge_r a c, mgK_r d b, tz_r a]
  have e0 : ∀ i, i ≠ 0 → i ≠ 9 → i ≠ 13 → σ2 0 i = σ 0 i := fun i a b c => by
    rcases e2 with e | e <;> subst e
    · exact tz_0 a
    · rw [merge_0 c, tz_0 a]
  refine CX.cs ⟨c', hce', hP.arc er e0 ?_ hG.1.2.1 e13 hns' (fun d hd => ?_) hs', hE.same (e0 2 (by decide) (by decide) (by decide)) (er 5 (by decide) (by decide) (by decide) (by decide)) (er 7 (by decide) (by decide) (by decide) (by decide))⟩
  · rcases e2 with e | e <;> subst e
    · rw [tz_0 (by decide)]; exact hG.d9
    · rw [merge_0 (by decide), tz_0 (by decide)]; exact hG.d9
  · have h6 := (hG.2.2.2.2.2.1 d hd).2
    rcases e2 with e | e <;> subst e
    · rw [tz_r (by decide)]; exact h6
    · exact merge_6b (by rw [tz_r (by decide)]; exact h6)
/-- one int of a document, not its home -/
theorem p_remove (h : CX A D V σ n bf nn nr ns g) {x : Int32} {Q : Int32 → gS → Prop} {X : String → gS → Prop} (hQ : (S_remove σ x).1 = 0 → ∀ g', CS (A 0) (A 73) (S_remove σ x).2.2 g' → Q (S_remove σ x).2.1 g') (hX : (S_remove σ x).1 = 1 → X sI' g) : w_X10_remove g (A 0) x Q X := by
  have hx := h
  obtain ⟨hc, hce, hP, hE⟩ := h
  obtain ⟨hG, hN, hW, hs⟩ := hP
  have hn := hG.n
  obtain ⟨hr, hv, hdoc, hnode, hf⟩ := hc
  have hnD := hf.2.2.2.2.1
  have hD6 := hr.D6
  unfold w_X10_remove b_X10_remove_35
  refine ⟨hr.k0, _, hr.r0_0, hr.k1, p_doc hx (fun d hd hdD e => ⟨fun p => absurd p (by simp), fun u hu => ?_⟩) (fun q => ⟨fun _ => ?_, fun _ p => absurd p (by simp)⟩)⟩
  · subst e
    have hu' : u = A (dl d 0) := (Option.some.inj hu).symm
    subst hu'
    have e : S_remove σ (nI d) = (0, (if σ 5 d = 0 then 1 else 0), su (tz σ 0) 5 d 1) := by
      unfold S_remove; rw [if_neg (not_not_intro (hG.iDn hd)), show cl (nI d) = d from cl_nI (by omega)]
    rw [e] at hQ
    have hQ2 := hQ rfl
    dsimp only at hQ2
    have er : ∀ t, t ≠ 0 → t ≠ 5 → su (tz σ 0) 5 d 1 t = σ t := fun t a b => by rw [su_row b, tz_r a]
    have e5 : ∀ i, su (tz σ 0) 5 d 1 5 i = if i = d then 1 else σ 5 i := fun i => by rw [su_at, tz_r (by decide)]
    have e0 : ∀ i, i ≠ 0 → su (tz σ 0) 5 d 1 0 i = σ 0 i := fun i a => by rw [su_row (by decide), tz_0 a]
    have key : CS (A 0) (A 73) (su (tz σ 0) 5 d 1) (sU g (A (dl d 0)) 4 1) := by
      have h1 := hr.w (dl d 0) 3 (KL_d hdD (by omega) (by decide)) (by decide) 4 1
      have ev : ∀ u, u < 100 ∨ 2000 ≤ u → su V (dl d 0) 4 1 u = V u := fun u hu => su_row (by unfold dl; omega)
      refine CX.cs (A := A) (D := D) (V := su V (dl d 0) 4 1) (n := n) (bf := bf) (nn := nn) (nr := nr) (ns := ns) ⟨⟨h1, ?_, fun b hb => ?_, fun j hj => vNode_eq (hnode j hj) (ev _ (Or.inr (by unfold jl; omega))) (fun t a b => er t (by omega) (by omega)), ?_⟩, vCen_eq hce (fun u a b => ev u (by omega)) (er 6 (by decide) (by decide)) (er 7 (by decide) (by decide)) (er 8 (by decide) (by decide)), ⟨?_, hN.rows (fun t a b => er t (by omega) (by omega)), ?_, ?_⟩, ?_⟩
      · unfold vInt at hv ⊢
        rw [ev 1 (by decide), ev 3 (by decide), ev 11 (by decide), ev 12 (by decide), ev 13 (by decide), ev 14 (by decide), ev 18 (by decide), ev 20 (by decide), ev 21 (by decide), ev 36 (by decide), ev 38 (by decide), ev 40 (by decide), er 14 (by decide) (by decide), er 10 (by decide) (by decide), er 11 (by decide) (by decide), er 12 (by decide) (by decide), er 23 (by decide) (by decide), er 24 (by decide) (by decide)]
        exact hv
      · obtain ⟨b1, b2, b3, b4, b5⟩ := hdoc b hb
        have eh : hmF (su (tz σ 0) 5 d 1) bf b = hmF σ bf b := by unfold hmF; rw [er 6 (by decide) (by decide), er 15 (by decide) (by decide)]
        have erow : ∀ r, 1 ≤ r → r < 20 → su V (dl d 0) 4 1 (dl b r) = V (dl b r) := fun r h1 h2 => su_row (by unfold dl; omega)
        have ec : ∀ i, i ≠ 4 → su V (dl d 0) 4 1 (dl b 0) i = V (dl b 0) i := fun i hi => by
          by_cases c : b = d
          · subst c; rw [su_at, if_neg hi]
          · rw [su_row (by unfold dl; omega)]
        refine ⟨by rw [ec 0 (by decide), er 3 (by decide) (by decide)]; exact b1, by rw [ec 1 (by decide), er 4 (by decide) (by decide)]; exact b2, by rw [ec 3 (by decide), eh]; exact b3, ?_, fun f hf => ?_⟩
        · rw [e5]
          by_cases c : b = d
          · subst c; rw [su_at, if_pos rfl, if_pos rfl]
          · rw [if_neg c, su_row (by unfold dl; omega)]; exact b4
        · have := b5 f hf
          unfold vRow Dif tmN lnF tmF at this ⊢
          rw [erow (2 + f) (by omega) (by omega), erow (5 + f) (by omega) (by omega), erow (8 + f) (by omega) (by omega), erow (11 + f) (by omega) (by omega), er 7 (by decide) (by decide), er 8 (by decide) (by decide)]
          exact this
      · unfold cRef at hf ⊢
        rw [er 23 (by decide) (by decide)]; exact hf
      · obtain ⟨a1, a2, a3, a4, a5, a6, a7, a8⟩ := hG
        refine ⟨a1, ?_, ?_, ?_, ?_, fun b hb => ⟨?_, ?_⟩, ?_, ?_⟩
        · rw [e0 1 (by decide), e0 9 (by decide), e0 16 (by decide), e0 22 (by decide), e0 13 (by decide)]; exact a2
        · rw [e0 2 (by decide)]; exact a3
        · rw [er 7 (by decide) (by decide)]; exact a4
        · rw [er 7 (by decide) (by decide), er 8 (by decide) (by decide)]; exact a5
        · rw [e5]; split
          · exact Or.inr rfl
          · exact (a6 b hb).1
        · rw [er 6 (by decide) (by decide)]; exact (a6 b hb).2
        · rw [er 10 (by decide) (by decide)]; exact a7
        · rw [er 11 (by decide) (by decide)]; exact a8
      · unfold WG at hW ⊢; rw [er 12 (by decide) (by decide)]; exact hW
      · obtain ⟨s1, s2, s3, s4, s5⟩ := hs
        unfold SG
        rw [er 6 (by decide) (by decide), er 15 (by decide) (by decide)]
        refine ⟨s1, s2, s3, fun b hb h6 => ?_, s5⟩
        rw [e5]; split
        · decide
        · exact s4 b hb h6
      · obtain ⟨x1, x2, x3, x4⟩ := hE
        unfold EX
        rw [e0 2 (by decide), er 7 (by decide) (by decide)]
        exact ⟨x1, x2, fun b hb hb6 => by rw [e5, if_neg (by omega)]; exact x3 b hb hb6, x4⟩
    refine ⟨hr.d0k hdD, ?_⟩
    rw [hr.d0i hdD, (hdoc d hdD).2.2.2.1]
    refine ⟨fun c => ⟨hr.d0k hdD, fun g2 e2 => ⟨Or.inr rfl, ?_⟩⟩, fun c => ⟨hr.d0k hdD, fun g2 e2 => ⟨Or.inl rfl, ?_⟩⟩⟩
    · subst e2; rw [if_pos c] at hQ2; exact hQ2 _ key
    · subst e2; rw [if_neg c] at hQ2; exact hQ2 _ key
  · have e : S_remove σ x = bad σ 1 := by unfold S_remove; rw [if_pos q]
    rw [e] at hX; exact hX rfl
/-- only the lexicon has changed -/
theorem CX.lex (h : CX A D V σ n bf nn nr ns g) (hr : CR A D nn V' g') (hV : ∀ u, u ≠ 11 → u ≠ 12 → u ≠ 13 → V' u = V u) (hl : vLex V' σ') (hs : ∀ t, t ≠ 0 → t ≠ 10 → t ≠ 11 → t ≠ 12 → σ' t = σ t) (h0 : ∀ i, i ≠ 0 → σ' 0 i = σ 0 i) (h10 : ∀ t, t < 200 → σ' 10 t = 0 ∨ σ' 10 t = 1) (h11 : ∀ t, t < 200 → σ' 11 t = -1 ∨ ∃ a, a < 200 ∧ σ' 11 t = nI a) (hW' : WG σ') (hR : ∀ a, gR g' a = gR g a) : CX A D V' σ' n bf nn nr ns g' := by
  obtain ⟨⟨_, hv, hdoc, hnode, hf⟩, hce, ⟨hG, hN, hW, hg⟩, hE⟩ := h
  refine ⟨⟨hr, ?_, fun d hd => vDoc_eq (hdoc d hd) (fun i _ => by rw [hV (dl d 0) (by unfold dl; omega) (by unfold dl; omega) (by unfold dl; omega)]) ?_ (fun r _ _ => hV _ (by unfold dl; omega) (by unfold dl; omega) (by unfold dl; omega)) (fun t _ _ e1 e2 => hs t (by omega) (by omega) (by omega) (by omega)), fun j hj => vNode_eq (hnode j hj) (hV _ (by unfold jl; omega) (by unfold jl; omega) (by unfold jl; omega)) (fun t e1 e2 => hs t (by omega) (by omega) (by omega) (by omega)), ?_⟩, vCen_eq hce (fun u a b => hV u (by omega) (by omega) (by omega)) (hs 6 (by decide) (by decide) (by decide) (by decide)) (hs 7 (by decide) (by decide) (by decide) (by decide)) (hs 8 (by decide) (by decide) (by decide) (by decide)), ⟨?_, hN.rows (fun t e1 e2 => hs t (by omega) (by omega) (by omega) (by omega)), hW', hg.same (hs 5 (by decide) (by decide) (by decide) (by decide)) (hs 6 (by decide) (by decide) (by decide) (by decide)) (hs 15 (by decide) (by decide) (by decide) (by decide))⟩, hE.same (h0 2 (by decide)) (hs 5 (by decide) (by decide) (by decide) (by decide)) (hs 7 (by decide) (by decide) (by decide) (by decide))⟩
  · unfold vInt at hv ⊢
    rw [hV 1 (by decide) (by decide) (by decide), hV 3 (by decide) (by decide) (by decide), hV 14 (by decide) (by decide) (by decide), hV 18 (by decide) (by decide) (by decide), hV 20 (by decide) (by decide) (by decide), hV 21 (by decide) (by decide) (by decide), hV 36 (by decide) (by decide) (by decide), hV 38 (by decide) (by decide) (by decide), hV 40 (by decide) (by decide) (by decide), hs 14 (by decide) (by decide) (by decide) (by decide), hs 23 (by decide) (by decide) (by decide) (by decide), hs 24 (by decide) (by decide) (by decide) (by decide)]
    exact ⟨hv.1, hv.2.1, hv.2.2.1, hl.1, hl.2, hv.2.2.2.2.2⟩
  · rw [hV (dl d 0) (by unfold dl; omega) (by unfold dl; omega) (by unfold dl; omega), (hdoc d hd).2.2.1]
    unfold hmF
    rw [hs 6 (by decide) (by decide) (by decide) (by decide), hs 15 (by decide) (by decide) (by decide) (by decide)]
  · unfold cRef at hf ⊢
    simp only [hR, hs 23 (by decide) (by decide) (by decide) (by decide)]
    exact hf
  · obtain ⟨a1, a2, a3, a4, a5, a6, a7, a8⟩ := hG
    refine ⟨a1, ?_, ?_, ?_, ?_, ?_, h10, h11⟩
    · rw [h0 1 (by decide), h0 9 (by decide), h0 16 (by decide), h0 22 (by decide), h0 13 (by decide)]; exact a2
    · rw [h0 2 (by decide)]; exact a3
    · rw [hs 7 (by decide) (by decide) (by decide) (by decide)]; exact a4
    · rw [hs 7 (by decide) (by decide) (by decide) (by decide), hs 8 (by decide) (by decide) (by decide) (by decide)]; exact a5
    · rw [hs 5 (by decide) (by decide) (by decide) (by decide), hs 6 (by decide) (by decide) (by decide) (by decide)]; exact a6
theorem inR_m1 {y : Int32} (h1 : ¬ y = -1) (h2 : inR y (-1) 199) : isT y := by
  unfold isT inR at *
  intro q
  apply h2
  rcases q with q | q
  · refine Or.inl ?_
    rw [i32_lt] at q ⊢
    have e0 : (0 : Int32).toInt = 0 := rfl
    have e1 : (-1 : Int32).toInt = -1 := rfl
    have : y.toInt ≠ -1 := fun e => h1 ((i32_eq _ _).mpr (by rw [e1]; exact e))
    omega
  · exact Or.inr q
theorem isT_m1 {y : Int32} (h : isT y) : inR y (-1) 199 := by
  unfold isT inR at *
  intro q
  apply h
  rcases q with q | q
  · refine Or.inl ?_
    rw [i32_lt] at q ⊢
    have e0 : (0 : Int32).toInt = 0 := rfl
    have e1 : (-1 : Int32).toInt = -1 := rfl
    omega
  · exact Or.inr q
theorem CR.less {m : Nat} (h : CR A D nn V g) (hm : m ≤ nn) : CR A D m V g := by
  obtain ⟨h1, h2, h3, h4, h5, h6⟩ := h
  have e : ∀ l, KL D m l ≠ 0 → KL D nn l = KL D m l := fun l hl => by
    unfold KL at hl ⊢
    split
    · rfl
    · rename_i c1
      rw [if_neg c1] at hl
      split
      · rfl
      · rename_i c2
        rw [if_neg c2] at hl
        by_cases c3 : l - 2000 < m
        · rw [if_pos c3, if_pos (by omega)]
        · rw [if_neg c3] at hl; exact absurd rfl hl
  refine ⟨fun l hl => ?_, fun l u hl hu => h2 l u (by rw [e l hl]; exact hl) (by rw [e u hu]; exact hu), h3, h4, h5, by omega⟩
  have := h1 l (by rw [e l hl]; exact hl)
  rw [e l hl] at this; exact this
end CPUT
