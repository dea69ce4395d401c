/-! THE CLASS: the calls that score -/
section CASK2
variable {A : Nat → Nat} {D : Nat} {V V' σ σ' τ ρ : Rows} {n bf nn nr ns cb sb : Nat} {ub : Bool} {g g' : gS}
theorem x_scoreRho (h : CC A D V σ n bf nn nr ns g) {nr2 ns2 bf2 nn2 : Nat} (hs : isS sb cb ub) (hρ : rhoF σ ρ ub) (hce : vCen V cb ρ n) (hP : PK σ n bf nn nr2 ns) (hGρ : GI ρ n bf nn nr2 ns) (hWρ : WG ρ) {d j : Nat} (hd : d < n) (hj : j < nn) (h6 : ρ 6 d ≠ 0) {Q : Int32 → gS → Prop} (hQ : ∀ g' V', CC A D V' σ n bf nn nr ns g' → (∀ u, u ≠ sb + 1 → V' u = V u) → (∀ a, gR g' a = gR g a) → Q (scV ρ n d j) g') : w_X8_scoreOf g (A sb) (some (A (dl d 0))) (nI j) Q := by
  have hc := h
  obtain ⟨hr, hv, hdoc, hnode, hf⟩ := h
  obtain ⟨hG, hN, hW, hs'⟩ := hP
  have hnD := hf.2.2.2.2.1
  have hub : V sb 3 = bI ub := by
    rcases hs with ⟨e, _, e2⟩ | ⟨e, _, e2⟩ | ⟨e, _, e2⟩ <;> subst e <;> subst e2
    · exact hv.2.2.2.2.2.2.2.2.1
    · exact hv.2.2.2.2.2.2.2.2.2.1
    · exact hv.2.2.2.2.2.2.2.2.2.2
  refine x_scoreOf hr hs hub hv.2.2.2.2.2.1 hf.2.2.1 hG hGρ hWρ hρ hN hce hv.lex hd (by omega) h6 (hdoc d (by omega)) hnode hj (fun g' V' h' hV' hR' _ => ?_)
  refine hQ g' V' (hc.scr h' (fun u hu => hV' u ?_) hR') hV' hR'
  rcases hs with ⟨e, _⟩ | ⟨e, _⟩ | ⟨e, _⟩ <;> (unfold used at hu; omega)
theorem there_6 {d : Nat} (h : there σ d = true) : σ 6 d ≠ 0 ∧ σ 5 d = 0 := by
  unfold there at h
  rw [Bool.and_eq_true, Bool.not_eq_true', decide_eq_false_iff_not, decide_eq_true_iff] at h
  exact h
/-- a node's number is looked at, or the call throws -/
theorem p_node (h : CX A D V σ n bf nn nr ns g) {x : Int32} {Q : Int32 → Prop} (h1 : ∀ j, j < nn → x = nI j → Q 1) (h2 : ¬ isN σ x → Q 0) : w_X6_hasNode g (A 14) x Q := by
  obtain ⟨⟨hr, hv, hdoc, hnode, hf⟩, hce, ⟨hG, _⟩, hE⟩ := h
  have hnn := hr.nn3
  refine x_hasNode hr hv.2.2.2.2.2.1 hf.2.2.1 ?_
  by_cases c : inR x 0 (nI nn - 1)
  · rw [if_neg (not_not_intro c)]
    obtain ⟨j, hj, e⟩ := inR_nI (by omega) c
    exact h1 j hj e
  · rw [if_pos c]; exact h2 (fun q => c ((gi_iN hG).mpr q))
theorem p_doc (h : CX A D V σ n bf nn nr ns g) {x : Int32} {Q : Option Nat → Prop} (h1 : ∀ d, d < n → d < D → x = nI d → Q (some (A (dl d 0)))) (h2 : ¬ isD σ x → Q none) : w_X0_documentAt g (A 1) x Q := by
  have hn := h.2.2.1.1.n
  have hG := h.2.2.1.1
  have hnD := h.1.2.2.2.2.2.2.2.2.1
  by_cases c : inR x 0 (nI n - 1)
  · obtain ⟨d, hd, e⟩ := inR_nI (by omega) c
    subst e
    exact x_docAt h.1 hd (h1 d hd (by omega) rfl)
  · exact x_docNo h.1 c (h2 (fun q => c ((gi_iD hG).mpr q)))
theorem GI.iDn (h : GI σ n bf nn nr ns) {d : Nat} (hd : d < n) : Jvm.Pilot.CQuarryIndexLaw_law_r2112_e0b1ed.isD σ (nI d) := (gi_iD h).mp (nI_inR (by have := h.n; omega) hd)
theorem GI.iNn (h : GI σ n bf nn nr ns) {j : Nat} (hj : j < nn) : Jvm.Pilot.CQuarryIndexLaw_law_r2112_e0b1ed.isN σ (nI j) := (gi_iN h).mp (nI_inR (by have := h.nn3; omega) hj)
theorem p_score (h : CX A D V σ n bf nn nr ns g) {x y : Int32} {Q : Int32 → gS → Prop} {X : String → gS → Prop} (hQ : (S_score σ x y).1 = 0 → ∀ g', CS (A 0) (A 73) (S_score σ x y).2.2 g' → Q (S_score σ x y).2.1 g') (hX : (S_score σ x y).1 = 1 → X sI' g) : w_X10_score g (A 0) x y Q X := by
  have hx := h
  obtain ⟨hc, hce, hP, hE⟩ := h
  obtain ⟨hG, hN, hW, hs⟩ := hP
  have hr := hc.1
  have hn := hG.n
  have hnn := hG.nn3
  unfold w_X10_score b_X10_score_24 b_X10_score_55
  have no : (¬ isN σ x ∨ ¬ isD σ y) → X sI' g := fun q => by
    have e : S_score σ x y = bad σ 1 := by unfold S_score; rw [if_pos q]
    rw [e] at hX; exact hX rfl
  refine ⟨hr.k0, _, hr.r0_0, hr.k1, p_doc hx (fun d hd hdD e => ?_) (fun q => ⟨_, hr.r0_2, hr.k14, p_node hx (fun j hj e => ⟨fun p => absurd p (by decide), fun _ => ⟨fun _ => no (Or.inr q), fun _ p => absurd p (by simp)⟩⟩) (fun q2 => ⟨fun _ => no (Or.inl q2), fun p => absurd rfl p⟩)⟩)⟩
  subst e
  refine ⟨_, hr.r0_2, hr.k14, p_node hx (fun j hj e => ⟨fun p => absurd p (by decide), fun _ => ⟨fun p => absurd p (by simp), fun u hu => ?_⟩⟩) (fun q2 => ⟨fun _ => no (Or.inl q2), fun p => absurd rfl p⟩)⟩
  subst e
  have hu' : u = A (dl d 0) := (Option.some.inj hu).symm
  subst hu'
  have e : S_score σ (nI j) (nI d) = good σ (scoreNowF σ n d j) := by
    unfold S_score; rw [if_neg (fun q => q.elim (fun q => q (hG.iNn hj)) (fun q => q (hG.iDn hd))), hG.nF, show cl (nI d) = d from cl_nI (by omega), show cl (nI j) = j from cl_nI (by omega)]
  rw [e] at hQ
  have hQ2 := hQ rfl
  dsimp only [good] at hQ2
  refine ⟨hr.d0k hdD, x_canBeFound hc hdD (fun q => hs.h15 hn (by omega) (by omega) q) ⟨fun c => ?_, fun c => ⟨_, hr.r0_6, hr.k36, ?_⟩⟩⟩
  · unfold scoreNowF at hQ2
    rw [bI_0.mp c, if_neg (by decide)] at hQ2
    exact hQ2 g (hx.tz 0).cs
  · have c1 := bI_n0 c
    unfold scoreNowF at hQ2
    rw [c1, if_pos rfl] at hQ2
    refine x_scoreRho (sb := 36) (nn2 := 0) (bf2 := 0) (ns2 := 0) hc (Or.inl ⟨rfl, rfl, rfl⟩) rho_id hce ⟨hG, hN, hW, hs⟩ hG hW hd hj (there_6 c1).1 (fun g' V' c' hV' _ => hQ2 g' ((hx.ask c' (fun u a b => hV' u (by omega))).tz 0).cs)
theorem p_found (h : CX A D V σ n bf nn nr ns g) {x : Int32} {Q : Int32 → gS → Prop} {X : String → gS → Prop} (hQ : (S_found σ x).1 = 0 → ∀ g', CS (A 0) (A 73) (S_found σ x).2.2 g' → Q (S_found σ x).2.1 g') (hX : (S_found σ x).1 = 1 → X sI' g) : w_X10_found g (A 0) x Q X := by
  have hx := h
  obtain ⟨hc, hce, hP, hE⟩ := h
  obtain ⟨hG, hN, hW, hs⟩ := hP
  have hr := hc.1
  have hn := hG.n
  have hnn := hG.nn3
  unfold w_X10_found
  refine ⟨hr.k0, _, hr.r0_2, hr.k14, p_node hx (fun j hj e => ⟨fun p => absurd p (by decide), fun _ => ?_⟩) (fun q2 => ⟨fun _ => ?_, fun p => absurd rfl p⟩)⟩
  · subst e
    have e : S_found σ (nI j) = good σ (nI (foundF σ n j n)) := by
      unfold S_found; rw [if_neg (not_not_intro (hG.iNn hj)), hG.nF, show cl (nI j) = j from cl_nI (by omega)]
    rw [e] at hQ
    have hQ2 := hQ rfl
    dsimp only [good] at hQ2
    refine lpx3_i n (fun k g' m i => m = nI (foundF σ n j k) ∧ i = nI k ∧ ∃ V', CX A D V' σ n bf nn nr ns g') ?_ ?_ g 0 0 ⟨rfl, rfl, V, hx⟩
    · rintro k g1 _ _ hk ⟨rfl, rfl, V1, hx1⟩ K hK
      unfold l_X10_found_25 b_X10_found_49
      refine ⟨hx1.1.1.k0, _, hx1.1.1.r0_0, hx1.1.1.k1, ?_⟩
      rw [hx1.1.1.i1, hx1.1.2.1.1, nI_1, nI_1]
      refine ⟨fun c => absurd c (nI_ge hk (by omega)), fun _ => x_scoreNow hx1.1 (fun _ _ _ _ => rfl) hx1.2.1 ⟨hG, hN, hW, hs⟩ hk hj (fun g2 V2 c2 hV2 _ => ?_)⟩
      have hx2 := hx1.ask c2 (fun u a b => hV2 u (by omega))
      have hok := PK.okN (nr := nr) (ns := ns) (bf := bf) ⟨hG, hN, hW, hs⟩ hk hj
      refine ⟨fun c => hK _ _ _ ⟨?_, rfl, V2, hx2⟩, fun c => hK _ _ _ ⟨?_, rfl, V2, hx2⟩⟩
      · unfold foundF; rw [cnt_s, decide_eq_true ((okS_neg hok).mpr c)]; rfl
      · unfold foundF; rw [cnt_s, decide_eq_false (fun q => c ((okS_neg hok).mp q))]; rfl
    · rintro g1 _ _ ⟨rfl, rfl, V1, hx1⟩ K
      unfold l_X10_found_25
      refine ⟨hx1.1.1.k0, _, hx1.1.1.r0_0, hx1.1.1.k1, ?_⟩
      rw [hx1.1.1.i1, hx1.1.2.1.1]
      exact ⟨fun _ => hQ2 g1 (hx1.tz 0).cs, fun c => absurd (nI_le (Nat.le_refl _) (by omega)) c⟩
  · have e : S_found σ x = bad σ 1 := by unfold S_found; rw [if_pos q2]
    rw [e] at hX; exact hX rfl
theorem noAl_r {t : Nat} (h : t ≠ 11) : noAl σ t = σ t := va_up_ne _ _ h
theorem noAl_11 {t : Nat} (h : t < 200) : noAl σ 11 t = -1 := by unfold noAl; rw [va_up_self, if_pos h]
theorem GI.noAl (h : GI σ n bf nn nr ns) : GI (Jvm.Pilot.CQuarryIndexLaw_law_r2112_e0b1ed.noAl σ) n bf nn nr ns := by
  obtain ⟨a1, a2, a3, a4, a5, a6, a7, a8⟩ := h
  refine ⟨a1, ?_, ?_, ?_, ?_, ?_, ?_, fun t ht => Or.inl (noAl_11 ht)⟩
  · rw [noAl_r (by decide)]; exact a2
  · rw [noAl_r (by decide)]; exact a3
  · rw [noAl_r (by decide)]; exact a4
  · rw [noAl_r (by decide), noAl_r (by decide)]; exact a5
  · rw [noAl_r (by decide), noAl_r (by decide)]; exact a6
  · rw [noAl_r (by decide)]; exact a7
theorem p_byAlias (h : CX A D V σ n bf nn nr ns g) {x : Int32} {Q : Int32 → gS → Prop} {X : String → gS → Prop} (hQ : (S_byAlias σ x).1 = 0 → ∀ g', CS (A 0) (A 73) (S_byAlias σ x).2.2 g' → Q (S_byAlias σ x).2.1 g') (hX : (S_byAlias σ x).1 = 1 → X sI' g) : w_X10_byAlias g (A 0) x Q X := by
  have hx := h
  obtain ⟨hc, hce, hP, hE⟩ := h
  obtain ⟨hG, hN, hW, hs⟩ := hP
  have hr := hc.1
  have hn := hG.n
  have hnn := hG.nn3
  have hnD := hc.2.2.2.2.2.2.2.2.1
  have hGa := hG.noAl
  have hWa : WG (noAl σ) := by unfold WG; rw [noAl_r (by decide)]; exact hW
  have hNa : NG (noAl σ) nn := by
    intro j hj
    have := hN j hj
    unfold NW at this ⊢
    simp only [noAl_r (σ := σ) (t := 17) (by decide), noAl_r (σ := σ) (t := 18) (by decide), noAl_r (σ := σ) (t := 19) (by decide), noAl_r (σ := σ) (t := 20) (by decide), noAl_r (σ := σ) (t := 21) (by decide)]
    exact this
  have hρ : rhoF σ (noAl σ) false := ⟨fun t _ h11 => noAl_r h11, fun t ht => by rw [noAl_11 ht, if_neg (by decide)]⟩
  unfold w_X10_byAlias
  refine ⟨hr.k0, _, hr.r0_2, hr.k14, p_node hx (fun j hj e => ⟨fun p => absurd p (by decide), fun _ => ?_⟩) (fun q2 => ⟨fun _ => ?_, fun p => absurd rfl p⟩)⟩
  · subst e
    have e : S_byAlias σ (nI j) = good σ (nI (cnt (fun d => !decide (scoreNowF σ n d j < 0) && decide (scoreNowF (noAl σ) n d j < 0)) n)) := by
      unfold S_byAlias; rw [if_neg (not_not_intro (hG.iNn hj)), hG.nF, show cl (nI j) = j from cl_nI (by omega)]
    rw [e] at hQ
    have hQ2 := hQ rfl
    dsimp only [good] at hQ2
    refine lpx3_i n (fun k g' m i => m = nI (cnt (fun d => !decide (scoreNowF σ n d j < 0) && decide (scoreNowF (noAl σ) n d j < 0)) k) ∧ i = nI k ∧ ∃ V', CX A D V' σ n bf nn nr ns g') ?_ ?_ g 0 0 ⟨rfl, rfl, V, hx⟩
    · rintro k g1 _ _ hk ⟨rfl, rfl, V1, hx1⟩ K hK
      unfold l_X10_byAlias_25 b_X10_byAlias_90
      refine ⟨hx1.1.1.k0, _, hx1.1.1.r0_0, hx1.1.1.k1, ?_⟩
      rw [hx1.1.1.i1, hx1.1.2.1.1, nI_1, nI_1]
      refine ⟨fun c => absurd c (nI_ge hk (by omega)), fun _ => ⟨_, hx1.1.1.r0_0, hx1.1.1.k1, x_docAt hx1.1 hk ⟨fun q => absurd q (by simp), fun y hy => ?_⟩⟩⟩
      have hy' : y = A (dl k 0) := (Option.some.inj hy).symm
      subst hy'
      refine ⟨hx1.1.1.d0k (by omega), x_canBeFound hx1.1 (by omega) (fun q => hs.h15 hn (by omega) (by omega) q) ⟨fun c => hK _ _ _ ⟨?_, rfl, V1, hx1⟩, fun c => ⟨_, hx1.1.1.r0_6, hx1.1.1.k36, ?_⟩⟩⟩
      · rw [cnt_s]
        have : scoreNowF σ n k j = -1 := by unfold scoreNowF; rw [bI_0.mp c, if_neg (by decide)]
        rw [this, decide_eq_true (show (-1 : Int32) < 0 by decide)]; rfl
      · have c1 := bI_n0 c
        have c6 := there_6 c1
        have s1 : scoreNowF σ n k j = scV σ n k j := by unfold scoreNowF; rw [c1, if_pos rfl]
        have ct : there (noAl σ) k = true := by unfold there at c1 ⊢; rw [noAl_r (by decide), noAl_r (by decide)]; exact c1
        have s2 : scoreNowF (noAl σ) n k j = scV (noAl σ) n k j := by unfold scoreNowF; rw [ct, if_pos rfl]
        have ok1 := scV_ok hG hW hN hk c6.1 j hj
        have ok2 := scV_ok hGa hWa hNa hk (by rw [noAl_r (by decide)]; exact c6.1) j hj
        refine x_scoreRho (sb := 36) (nn2 := 0) (bf2 := 0) (ns2 := 0) hx1.1 (Or.inl ⟨rfl, rfl, rfl⟩) rho_id hx1.2.1 ⟨hG, hN, hW, hs⟩ hG hW hk hj c6.1 (fun g2 V2 c2 hV2 _ => ?_)
        have hx2 := hx1.ask c2 (fun u a b => hV2 u (by omega))
        refine ⟨fun p => hK _ _ _ ⟨?_, rfl, V2, hx2⟩, fun p => ⟨hx2.1.1.k0, _, hx2.1.1.r0_7, hx2.1.1.k38, ?_⟩⟩
        · rw [cnt_s, s1, decide_eq_true ((okS_neg ok1).mpr p)]; rfl
        · refine x_scoreRho (sb := 38) (nn2 := 0) (bf2 := 0) (ns2 := 0) hx2.1 (Or.inr (Or.inl ⟨rfl, rfl, rfl⟩)) hρ (vCen_eq hx2.2.1 (fun _ _ _ => rfl) (noAl_r (by decide)) (noAl_r (by decide)) (noAl_r (by decide))) ⟨hG, hN, hW, hs⟩ hGa hWa hk hj (by rw [noAl_r (by decide)]; exact c6.1) (fun g3 V3 c3 hV3 _ => ?_)
          have hx3 := hx2.ask c3 (fun u a b => hV3 u (by omega))
          have np := decide_eq_false (fun q => p ((okS_neg ok1).mp q))
          refine ⟨fun p2 => hK _ _ _ ⟨?_, rfl, V3, hx3⟩, fun p2 => hK _ _ _ ⟨?_, rfl, V3, hx3⟩⟩
          · rw [cnt_s, s1, s2, np, decide_eq_true ((okS_neg ok2).mpr p2)]; rfl
          · rw [cnt_s, s1, s2, np, decide_eq_false (fun q => p2 ((okS_neg ok2).mp q))]; rfl
    · rintro g1 _ _ ⟨rfl, rfl, V1, hx1⟩ K
      unfold l_X10_byAlias_25
      refine ⟨hx1.1.1.k0, _, hx1.1.1.r0_0, hx1.1.1.k1, ?_⟩
      rw [hx1.1.1.i1, hx1.1.2.1.1]
      exact ⟨fun _ => hQ2 g1 (hx1.tz 0).cs, fun c => absurd (nI_le (Nat.le_refl _) (by omega)) c⟩
  · have e : S_byAlias σ x = bad σ 1 := by unfold S_byAlias; rw [if_pos q2]
    rw [e] at hX; exact hX rfl
theorem fuR_r {t : Nat} (h : t ≠ 6) : fuR σ n t = σ t := va_up_ne _ _ h
theorem fuR_6 {d : Nat} (h : d < n) : fuR σ n 6 d = if σ 5 d = 0 then 1 else 0 := by
  unfold fuR
  rw [va_up_self]
  by_cases c : σ 5 d = 0
  · rw [if_pos ⟨h, c⟩, if_pos c]
  · rw [if_neg (fun q => c q.2), if_neg c]
theorem GI.fuR (h : GI σ n bf nn nr ns) : GI (Jvm.Pilot.CQuarryIndexLaw_law_r2112_e0b1ed.fuR σ n) n bf nn nr ns := by
  obtain ⟨a1, a2, a3, a4, a5, a6, a7, a8⟩ := h
  refine ⟨a1, ?_, ?_, ?_, ?_, fun d hd => ⟨?_, ?_⟩, ?_, ?_⟩
  · rw [fuR_r (by decide)]; exact a2
  · rw [fuR_r (by decide)]; exact a3
  · rw [fuR_r (by decide)]; exact a4
  · rw [fuR_r (by decide), fuR_r (by decide)]; exact a5
  · rw [fuR_r (by decide)]; exact (a6 d hd).1
  · unfold _root_.Jvm.Pilot.CQuarryIndexLaw_law_r2112_e0b1ed.fuR
    rw [va_up_self]; split <;> simp
  · rw [fuR_r (by decide)]; exact a7
  · rw [fuR_r (by decide)]; exact a8
theorem p_wouldScore (h : CX A D V σ n bf nn nr ns g) {x y : Int32} {Q : Int32 → gS → Prop} {X : String → gS → Prop} (hQ : (S_wouldScore σ x y).1 = 0 → ∀ g', CS (A 0) (A 73) (S_wouldScore σ x y).2.2 g' → Q (S_wouldScore σ x y).2.1 g') (hX : (S_wouldScore σ x y).1 = 1 → X sI' g) : w_X10_wouldScore g (A 0) x y Q X := by
  have hx := h
  obtain ⟨hc, hce, hP, hE⟩ := h
  obtain ⟨hG, hN, hW, hs⟩ := hP
  have hr := hc.1
  have hn := hG.n
  have hnn := hG.nn3
  unfold w_X10_wouldScore b_X10_wouldScore_24
  have no : (¬ isN σ x ∨ ¬ isD σ y) → X sI' g := fun q => by
    have e : S_wouldScore σ x y = bad σ 1 := by unfold S_wouldScore; rw [if_pos q]
    rw [e] at hX; exact hX rfl
  refine ⟨hr.k0, _, hr.r0_0, hr.k1, p_doc hx (fun d hd hdD e => ?_) (fun q => ⟨_, hr.r0_2, hr.k14, p_node hx (fun j hj e => ⟨fun p => absurd p (by decide), fun _ => ⟨fun _ => no (Or.inr q), fun _ p => absurd p (by simp)⟩⟩) (fun q2 => ⟨fun _ => no (Or.inl q2), fun p => absurd rfl p⟩)⟩)⟩
  subst e
  refine ⟨_, hr.r0_2, hr.k14, p_node hx (fun j hj e => ⟨fun p => absurd p (by decide), fun _ => ⟨fun p => absurd p (by simp), fun u hu => ?_⟩⟩) (fun q2 => ⟨fun _ => no (Or.inl q2), fun p => absurd rfl p⟩)⟩
  subst e
  have hu' : u = A (dl d 0) := (Option.some.inj hu).symm
  subst hu'
  have e : S_wouldScore σ (nI j) (nI d) = good σ (scoreNowF (fuR σ n) n d j) := by
    unfold S_wouldScore; rw [if_neg (fun q => q.elim (fun q => q (hG.iNn hj)) (fun q => q (hG.iDn hd))), hG.nF, show cl (nI d) = d from cl_nI (by omega), show cl (nI j) = j from cl_nI (by omega)]
  rw [e] at hQ
  have hQ2 := hQ rfl
  dsimp only [good] at hQ2
  have e5 : fuR σ n 5 d = σ 5 d := by rw [fuR_r (by decide)]
  refine ⟨hr.d0k hdD, ?_⟩
  rw [hr.d0i hdD, (hc.2.2.1 d hdD).2.2.2.1]
  refine ⟨fun c => ⟨_, hr.r0_0, _, hr.r0_5, hr.k1, x_survivors hc hn (fun d f hd hf => (hG.ln (by omega) hf).1) (fun g1 V1 c1 hV1 _ hce1 => ?_)⟩, fun c => ?_⟩
  · have ct : there (fuR σ n) d = true := by unfold there; rw [e5, fuR_6 hd, if_pos c, c]; decide
    have s1 : scoreNowF (fuR σ n) n d j = scV (fuR σ n) n d j := by unfold scoreNowF; rw [ct, if_pos rfl]
    rw [s1] at hQ2
    refine ⟨c1.1.k0, _, c1.1.r0_8, c1.1.k40, ?_⟩
    have hWf : WG (fuR σ n) := by unfold WG; rw [fuR_r (by decide)]; exact hW
    refine x_scoreRho (sb := 40) (ub := true) (nn2 := 0) (bf2 := 0) (ns2 := 0) c1 (Or.inr (Or.inr ⟨rfl, rfl, rfl⟩)) ⟨fun t h6 _ => fuR_r h6, fun t _ => by rw [fuR_r (by decide), if_pos rfl]⟩ hce1 ⟨hG, hN, hW, hs⟩ hG.fuR hWf hd hj (by rw [fuR_6 hd, if_pos c]; decide) (fun g' V' c' hV' _ => hQ2 g' ((hx.ask c' (fun u a b => by rw [hV' u (by omega)]; exact hV1 u (by omega))).tz 0).cs)
  · have ct : there (fuR σ n) d = false := by unfold there; rw [e5, decide_eq_false c, Bool.and_false]
    have s1 : scoreNowF (fuR σ n) n d j = -1 := by unfold scoreNowF; rw [ct, if_neg (by decide)]
    rw [s1] at hQ2
    exact hQ2 g (hx.tz 0).cs
theorem p_cost (h : CX A D V σ n bf nn nr ns g) {x : Int32} {Q : Int32 → gS → Prop} {X : String → gS → Prop} (hQ : (S_cost σ x).1 = 0 → ∀ g', CS (A 0) (A 73) (S_cost σ x).2.2 g' → Q (S_cost σ x).2.1 g') (hX : (S_cost σ x).1 = 1 → X sI' g) : w_X10_cost g (A 0) x Q X := by
  have hx := h
  obtain ⟨hc, hce, hP, hE⟩ := h
  obtain ⟨hG, hN, hW, hs⟩ := hP
  obtain ⟨hr, hv, hdoc, hnode, hf⟩ := hc
  unfold w_X10_cost
  refine ⟨hr.k0, _, hr.r0_2, hr.k14, p_node hx (fun j hj e => ⟨fun p => absurd p (by decide), fun _ => ?_⟩) (fun q2 => ⟨fun _ => ?_, fun p => absurd rfl p⟩)⟩
  · subst e
    have hnn := hG.nn3
    have e : S_cost σ (nI j) = good σ (costF σ n nn (tnB σ true j)) := by
      unfold S_cost; rw [if_neg (not_not_intro (hG.iNn hj)), hG.nF, hG.nnF, show cl (nI j) = j from cl_nI (by omega)]
    rw [e] at hQ
    have hQ2 := hQ rfl
    dsimp only [good] at hQ2
    refine ⟨_, hr.r0_2, _, hr.r0_0, hr.k1, _, hr.r1_5, hr.k14, x_entriesOf hr (Or.inl rfl) hce hv.lex hG hN hnode hv.2.2.2.2.2.1 hf.2.2.1 hj (fun g' V' h' hV' hR' => hQ2 g' ?_)⟩
    exact hx.scr h' (fun u hu => hV' u (by unfold used at hu; omega)) (fun u a b => hV' u (by omega)) hR' 0
  · have e : S_cost σ x = bad σ 1 := by unfold S_cost; rw [if_pos q2]
    rw [e] at hX; exact hX rfl
theorem p_like (h : CX A D V σ n bf nn nr ns g) {x : Int32} {Q : Int32 → gS → Prop} {X : String → gS → Prop} (hQ : (S_like σ x).1 = 0 → ∀ g', CS (A 0) (A 73) (S_like σ x).2.2 g' → Q (S_like σ x).2.1 g') (hX : (S_like σ x).1 = 1 → X sI' g) : w_X10_like g (A 0) x Q X := by
  have hx := h
  obtain ⟨hc, hce, hP, hE⟩ := h
  have hG := hP.1
  have hn := hG.n
  have hr := hc.1
  unfold w_X10_like
  refine ⟨hr.k0, _, hr.r0_0, hr.k1, p_doc hx (fun d hd hdD e => ?_) (fun q => ⟨fun _ => ?_, fun _ p => absurd p (by simp)⟩)⟩
  · subst e
    have e : S_like σ (nI d) = good σ (likeF σ n d) := by
      unfold S_like; rw [if_neg (not_not_intro (hG.iDn hd)), hG.nF, show cl (nI d) = d from cl_nI (by omega)]
    rw [e] at hQ
    have hQ2 := hQ rfl
    dsimp only [good] at hQ2
    refine ⟨fun q => absurd q (by simp), fun _ _ => ⟨_, hr.r0_4, hr.k22, x_mostLike hc hce hP hd (fun g' V' c' hV' _ => hQ2 g' ((hx.ask c' (fun u a b => hV' u (by omega))).tz 0).cs)⟩⟩
  · have e : S_like σ x = bad σ 1 := by unfold S_like; rw [if_pos q]
    rw [e] at hX; exact hX rfl
theorem p_search (h : CX A D V σ n bf nn nr ns g) {x : Int32} {Q : Int32 → gS → Prop} {X : String → gS → Prop} (hQ : (S_search σ x).1 = 0 → ∀ g', CS (A 0) (A 73) (S_search σ x).2.2 g' → Q (S_search σ x).2.1 g') (hX : (S_search σ x).1 = 1 → X sI' g) : w_X10_search g (A 0) x Q X := by
  have hx := h
  obtain ⟨hc, hce, hP, hE⟩ := h
  have hP2 := hP
  obtain ⟨hG, hN, hW, hs⟩ := hP
  have hn := hG.n
  have hnn := hG.nn3
  have hr := hc.1
  unfold w_X10_search
  refine ⟨hr.k0, _, hr.r0_2, hr.k14, p_node hx (fun j hj e => ⟨fun p => absurd p (by decide), fun _ => ?_⟩) (fun q2 => ⟨fun _ => ?_, fun p => absurd rfl p⟩)⟩
  · subst e
    have e : S_search σ (nI j) = (0, srF σ n j n 0 22, srF σ n j n) := by
      unfold S_search; rw [if_neg (not_not_intro (hG.iNn hj)), hG.nF, show cl (nI j) = j from cl_nI (by omega)]
    rw [e] at hQ
    have hQ2 := hQ rfl
    dsimp only at hQ2
    refine ⟨_, hr.r0_3, hr.k18, ?_⟩
    unfold w_X7_dropAll
    refine ⟨hr.k18, fun g1 e1 => ?_⟩
    subst e1
    have h1 := hr.w 18 8 (KL_f (by decide)) (by decide) 3 0
    have c1 : CC A D (su V 18 3 0) (srF σ n j 0) n bf nn 0 ns (sU g (A 18) 3 0) := hc.res h1 (fun u _ a _ _ => su_row a) (by rw [su_at, if_pos rfl]; rfl) (fun p hp => absurd hp (Nat.not_lt_zero _)) (fun p hp => absurd hp (Nat.not_lt_zero _)) (fun t h0 _ _ => by rw [srF, su_row h0, tz_r h0]) (fun _ _ => rfl)
    refine lpx2_i n (fun k g' i => i = nI k ∧ ∃ V' r, CC A D V' (srF σ n j k) n bf nn r ns g' ∧ r ≤ k ∧ srF σ n j k 0 22 = nI r ∧ ∀ u, u ≠ 37 → u ≠ 18 → u ≠ 20 → u ≠ 21 → V' u = V u) ?_ ?_ _ 0 ⟨rfl, _, 0, c1, Nat.le_refl _, by rw [srF, su_at, if_pos rfl]; rfl, fun u _ a _ _ => su_row a⟩
    · rintro k g2 _ hk ⟨rfl, V2, r, c2, hrk, e22, hV2⟩ K hK
      unfold l_X10_search_30 b_X10_search_70
      refine ⟨c2.1.k0, _, c2.1.r0_0, c2.1.k1, ?_⟩
      rw [c2.1.i1, c2.2.1.1, nI_1]
      refine ⟨fun c => absurd c (nI_ge hk (by omega)), fun _ => x_scoreNow c2 (srF_r k).1 (vCen_eq hce (fun u a b => hV2 u (by omega) (by omega) (by omega) (by omega)) rfl rfl rfl) hP2 hk hj (fun g3 V3 c3 hV3 _ => ?_)⟩
      have hok := hP2.okN hk hj
      refine ⟨fun c => ?_, fun c => ⟨c3.1.k0, _, c3.1.r0_3, _, c3.1.r0_0, c3.1.k1, x_docAt c3 hk ⟨c3.1.k18, ?_⟩⟩⟩
      · refine hK _ _ ⟨rfl, V3, r, ?_, by omega, ?_, fun u a b d e => by rw [hV3 u a]; exact hV2 u a b d e⟩
        · rw [srF, if_pos ((okS_neg hok).mpr c)]; exact c3
        · rw [srF, if_pos ((okS_neg hok).mpr c)]; exact e22
      · have nc : ¬ scoreNowF σ n k j < 0 := fun q => c ((okS_neg hok).mp q)
        have es : srF σ n j (k + 1) = shR (scoreNowF σ n k j) k r (su (srF σ n j k) 0 22 (nI (r + 1))) := by
          rw [srF, if_neg nc, e22, show cl (nI r) = r from cl_nI (by omega), nI_1]
        refine x_insert c3 hn (by omega) hk rfl (fun g4 V4 c4 hV4 _ => hK _ _ ⟨rfl, V4, r + 1, ?_, by omega, ?_, fun u a b d e => by rw [hV4 u b d e, hV3 u a]; exact hV2 u a b d e⟩)
        · rw [es]; exact c4
        · rw [es, shR_r (by decide) (by decide), su_at, if_pos rfl]
    · rintro g2 _ ⟨rfl, V2, r, c2, hrk, e22, hV2⟩ K
      unfold l_X10_search_30
      refine ⟨c2.1.k0, _, c2.1.r0_0, c2.1.k1, ?_⟩
      rw [c2.1.i1, c2.2.1.1]
      refine ⟨fun _ => ⟨_, c2.1.r0_3, c2.1.k18, ?_⟩, fun c => absurd (nI_le (Nat.le_refl _) (by omega)) c⟩
      rw [c2.1.i18, c2.2.1.2.2.2.2.2.2.1]
      rw [e22] at hQ2
      have hsm := srF_r (σ := σ) (n := n) (j := j) n
      refine hQ2 g2 (CX.cs ⟨c2, vCen_eq hce (fun u a b => hV2 u (by omega) (by omega) (by omega) (by omega)) (hsm.1 6 (by decide) (by decide) (by decide)) (hsm.1 7 (by decide) (by decide) (by decide)) (hsm.1 8 (by decide) (by decide) (by decide)), hP2.sam hsm.1 hsm.2 (by omega) e22, ?_⟩)
      unfold EX at hE ⊢
      rw [hsm.2 2 (by decide) (by decide), hsm.1 5 (by decide) (by decide) (by decide), hsm.1 7 (by decide) (by decide) (by decide)]
      exact hE
  · have e : S_search σ x = bad σ 1 := by unfold S_search; rw [if_pos q2]
    rw [e] at hX; exact hX rfl
end CASK2
