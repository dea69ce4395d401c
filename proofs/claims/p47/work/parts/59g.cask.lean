/-! THE CLASS: its whole state, and the calls that only ask -/
def EX (σ : Rows) (n D : Nat) : Prop := (σ 0 2 = 0 → D = n) ∧ (¬ σ 0 2 = 0 → D = n + 1) ∧ (∀ d, n ≤ d → d < 60 → σ 5 d = 0) ∧ ∀ d f, D ≤ d → d < 60 → f < 3 → σ 7 (d * 3 + f) = 0
def CX (A : Nat → Nat) (D : Nat) (V σ : Rows) (n bf nn nr ns : Nat) (g : gS) : Prop := CC A D V σ n bf nn nr ns g ∧ vCen V 4 σ n ∧ PK σ n bf nn nr ns ∧ EX σ n D
/-- the class stands at a, the law's row of longs at o, and what they hold is said by the rows -/
def CS (a o : Nat) (σ : Rows) (g : gS) : Prop := ∃ A D V n bf nn nr ns, A 0 = a ∧ A 73 = o ∧ CX A D V σ n bf nn nr ns g
abbrev sA : String := "java/lang/IllegalArgumentException"
abbrev sS : String := "java/lang/IllegalStateException"
abbrev sI' : String := "java/lang/IndexOutOfBoundsException"
section CASK
variable {A : Nat → Nat} {D : Nat} {V V' σ σ' τ ρ : Rows} {n bf nn nr ns cb : Nat} {g g' : gS}
theorem vCen_eq {V V' σ σ' : Rows} (h : vCen V cb σ n) (hV : ∀ u, cb ≤ u → u ≤ cb + 5 → V' u = V u) (h6 : σ' 6 = σ 6) (h7 : σ' 7 = σ 7) (h8 : σ' 8 = σ 8) : vCen V' cb σ' n := by
  unfold vCen lyF leF spF lnF tmF at h ⊢
  rw [h6, h7, h8]
  refine ⟨by rw [hV cb (by omega) (by omega)]; exact h.1, fun f hf => by rw [hV (cb + 5) (by omega) (by omega)]; exact h.2.1 f hf, fun f t hf ht => by rw [hV (cb + 2 + f) (by omega) (by omega)]; exact h.2.2 f t hf ht⟩
theorem PK.sam {nr' : Nat} (h : PK σ n bf nn nr ns) (hs : Sam σ σ') (h0 : ∀ i, i ≠ 0 → i ≠ 22 → σ' 0 i = σ 0 i) (hr : nr' ≤ 60) (h22 : σ' 0 22 = nI nr') : PK σ' n bf nn nr' ns := by
  obtain ⟨a, b, c, d⟩ := h
  refine ⟨a.sam hs h0 hr h22, b.sam hs, ?_, d.same (hs 5 (by decide) (by decide) (by decide)) (hs 6 (by decide) (by decide) (by decide)) (hs 15 (by decide) (by decide) (by decide))⟩
  unfold WG at c ⊢
  rw [hs 12 (by decide) (by decide) (by decide)]; exact c
theorem CX.tz (h : CX A D V σ n bf nn nr ns g) (c : Int32) : CX A D V (Jvm.Pilot.CQuarryIndexLaw_law_r2112_e0b1ed.tz σ c) n bf nn nr ns g := by
  obtain ⟨a1, a2, a3, a4⟩ := h
  have er : ∀ t, t ≠ 0 → Jvm.Pilot.CQuarryIndexLaw_law_r2112_e0b1ed.tz σ c t = σ t := fun t ht => tz_r ht
  refine ⟨a1.rows0 er, vCen_eq a2 (fun _ _ _ => rfl) (er 6 (by decide)) (er 7 (by decide)) (er 8 (by decide)), a3.sam (fun t h0 _ _ => er t h0) (fun i h0 _ => tz_0 h0) a3.1.nr6 (by rw [tz_0 (by decide)]; exact a3.1.d22), ?_⟩
  unfold EX at a4 ⊢
  rw [er 5 (by decide), er 7 (by decide), tz_0 (by decide)]; exact a4
theorem CX.ask (h : CX A D V σ n bf nn nr ns g) (hc : CC A D V' σ n bf nn nr ns g') (hV : ∀ u, 4 ≤ u → u ≤ 9 → V' u = V u) : CX A D V' σ n bf nn nr ns g' :=
  ⟨hc, vCen_eq h.2.1 (fun u a b => hV u a (by omega)) rfl rfl rfl, h.2.2.1, h.2.2.2⟩
theorem CX.cs (h : CX A D V σ n bf nn nr ns g) : CS (A 0) (A 73) σ g := ⟨A, D, V, n, bf, nn, nr, ns, rfl, rfl, h⟩
theorem CX.scr (h : CX A D V σ n bf nn nr ns g) (hr : CR A D nn V' g') (hV : ∀ u, used u → V' u = V u) (hV2 : ∀ u, 4 ≤ u → u ≤ 9 → V' u = V u) (hR : ∀ a, gR g' a = gR g a) (c : Int32) : CS (A 0) (A 73) (Jvm.Pilot.CQuarryIndexLaw_law_r2112_e0b1ed.tz σ c) g' :=
  ((h.ask (h.1.scr hr hV hR) hV2).tz c).cs
theorem p_documents (h : CX A D V σ n bf nn nr ns g) {Q : Int32 → Prop} (hQ : Q (σ 0 1)) : w_X10_documents g (A 0) Q := by
  obtain ⟨⟨hr, hv, _⟩, _, ⟨hG, _⟩, _⟩ := h
  unfold w_X10_documents
  refine ⟨hr.k0, _, hr.r0_0, hr.k1, ?_⟩
  rw [hr.i1, hv.1]; rw [hG.d1] at hQ; exact hQ
theorem p_segments (h : CX A D V σ n bf nn nr ns g) {Q : Int32 → Prop} (hQ : Q (σ 0 13)) : w_X10_segments g (A 0) Q := by
  obtain ⟨⟨hr, hv, _⟩, _, ⟨hG, _⟩, _⟩ := h
  unfold w_X10_segments
  refine ⟨hr.k0, _, hr.r0_0, hr.k1, ?_⟩
  rw [hr.i1, hv.2.1]; rw [hG.d13] at hQ; exact hQ
theorem p_nodes (h : CX A D V σ n bf nn nr ns g) {Q : Int32 → Prop} (hQ : Q (σ 0 16)) : w_X10_nodes g (A 0) Q := by
  obtain ⟨⟨hr, hv, _⟩, _, ⟨hG, _⟩, _⟩ := h
  unfold w_X10_nodes
  refine ⟨hr.k0, _, hr.r0_2, hr.k14, ?_⟩
  rw [hr.i14, hv.2.2.2.2.2.1]; rw [hG.d16] at hQ; exact hQ
theorem p_results (h : CX A D V σ n bf nn nr ns g) {Q : Int32 → Prop} (hQ : Q (σ 0 22)) : w_X10_results g (A 0) Q := by
  obtain ⟨⟨hr, hv, _⟩, _, ⟨hG, _⟩, _⟩ := h
  unfold w_X10_results
  refine ⟨hr.k0, _, hr.r0_3, hr.k18, ?_⟩
  rw [hr.i18, hv.2.2.2.2.2.2.1]; rw [hG.d22] at hQ; exact hQ
theorem stF_eq (h : CX A D V σ n bf nn nr ns g) {d : Nat} (hd : d < n) : stF σ d = if σ 5 d = 0 then (if σ 6 d = 0 then 1 else 2) else 0 := by
  obtain ⟨_, _, ⟨hG, _, _, hs⟩, _⟩ := h
  have hn := hG.n
  have hbf : bf ≤ n := hG.1.2.1
  unfold stF
  rw [hG.d9]
  by_cases c : σ 5 d = 0
  · rw [if_pos c, if_pos c]
    by_cases c6 : σ 6 d = 0
    · rw [if_pos c6, if_neg]
      intro q
      exact hs.2.2.2.1 d ((nI_lt_iff (by omega) (by omega)).mp q) c6 c
    · rw [if_neg c6, if_pos ((nI_lt_iff (by omega) (by omega)).mpr (hs.1 d hd c6).1)]
  · rw [if_neg c, if_neg c]
theorem gi_iD (h : GI σ n bf nn nr ns) {x : Int32} : inR x 0 (nI n - 1) ↔ isD σ x := by
  show _ ↔ inR x 0 (σ 0 1 - 1); rw [h.d1]
theorem gi_iN (h : GI σ n bf nn nr ns) {x : Int32} : inR x 0 (nI nn - 1) ↔ isN σ x := by
  show _ ↔ inR x 0 (σ 0 16 - 1); rw [h.d16]
theorem p_stateOf (h : CX A D V σ n bf nn nr ns g) {x : Int32} {Q : Int32 → Prop} {X : String → Prop} (hQ : (S_stateOf σ x).1 = 0 → Q (S_stateOf σ x).2.1) (hX : (S_stateOf σ x).1 = 1 → X sI') : w_X10_stateOf g (A 0) x Q X := by
  have hx := h
  obtain ⟨hc, hce, ⟨hG, hN, hW, hs⟩, hE⟩ := h
  obtain ⟨hr, hv, hdoc, hnode, hf⟩ := hc
  have hnD := hf.2.2.2.2.1
  have hn := hG.n
  unfold w_X10_stateOf
  refine ⟨hr.k0, _, hr.r0_0, hr.k1, ?_⟩
  by_cases c : inR x 0 (nI n - 1)
  · obtain ⟨d, hd, rfl⟩ := inR_nI (by omega) c
    have e : S_stateOf σ (nI d) = good σ (stF σ d) := by
      unfold S_stateOf; rw [if_neg (not_not_intro ((gi_iD hG).mp c)), show cl (nI d) = d from cl_nI (by omega)]
    rw [e] at hQ
    refine x_docAt hx.1 hd ⟨fun q => absurd q (by simp), fun y hy => ?_⟩
    have hy' : y = A (dl d 0) := (Option.some.inj hy).symm
    subst hy'
    refine ⟨hr.d0k (by omega), x_state hx.1 (by omega) (fun q => hs.h15 hn (by omega) (by omega) q) ?_⟩
    rw [← stF_eq hx hd]; exact hQ rfl
  · have e : S_stateOf σ x = bad σ 1 := by unfold S_stateOf; rw [if_pos (fun q => c ((gi_iD hG).mpr q))]
    rw [e] at hX
    exact x_docNo hx.1 c ⟨fun _ => hX rfl, fun _ q => absurd q (by simp)⟩
theorem p_tierOf (h : CX A D V σ n bf nn nr ns g) {x : Int32} {Q : Int32 → Prop} {X : String → Prop} (hQ : (S_tierOf σ x).1 = 0 → Q (S_tierOf σ x).2.1) (hX : (S_tierOf σ x).1 = 1 → X sI') : w_X10_tierOf g (A 0) x Q X := by
  have hx := h
  obtain ⟨hc, hce, ⟨hG, hN, hW, hs⟩, hE⟩ := h
  have hr := hc.1
  have h6 := hG.ns6
  unfold w_X10_tierOf
  refine ⟨hr.k0, _, hr.r0_0, hr.k1, x_hasSegment hc h6 ?_⟩
  by_cases c : inR x 0 (nI ns - 1)
  · obtain ⟨d, hd, rfl⟩ := inR_nI (by omega) c
    have e : S_tierOf σ (nI d) = good σ (σ 14 d) := by
      unfold S_tierOf; rw [hG.d13, if_neg (not_not_intro c), show cl (nI d) = d from cl_nI (by omega)]
    rw [e] at hQ
    rw [if_neg (not_not_intro c)]
    exact ⟨fun q => absurd q (by decide), fun _ => ⟨_, hr.r0_0, hr.k1, x_tierAt hc h6 hd (hQ rfl)⟩⟩
  · have e : S_tierOf σ x = bad σ 1 := by unfold S_tierOf; rw [hG.d13, if_pos c]
    rw [e] at hX
    rw [if_pos c]
    exact ⟨fun _ => hX rfl, fun q => absurd rfl q⟩
theorem hmF_seg (h : SG σ n bf ns) (hn : n ≤ 60) {d s : Nat} (hd : d < n) (hs : s < 2 ^ 31) : hmF σ bf d = nI s ↔ σ 15 d = nI s := by
  unfold hmF
  by_cases c : σ 6 d = 0
  · rw [if_pos c, h.2.1 d c (by omega)]
    constructor
    · intro q
      exfalso
      by_cases c2 : d < bf
      · rw [if_pos c2] at q
        have := (i32_eq _ _).mp q
        rw [nI_toInt hs] at this
        have e : ((-2 : Int32)).toInt = -2 := rfl
        omega
      · rw [if_neg c2] at q
        exact nI_nm1 hs q.symm
    · intro q; exact absurd q.symm (nI_nm1 hs)
  · rw [if_neg c]
theorem p_sizeOf (h : CX A D V σ n bf nn nr ns g) {x : Int32} {Q : Int32 → Prop} {X : String → Prop} (hQ : (S_sizeOf σ x).1 = 0 → Q (S_sizeOf σ x).2.1) (hX : (S_sizeOf σ x).1 = 1 → X sI') : w_X10_sizeOf g (A 0) x Q X := by
  obtain ⟨hc, hce, ⟨hG, hN, hW, hs⟩, hE⟩ := h
  have hr := hc.1
  have h6 := hG.ns6
  have hn := hG.n
  unfold w_X10_sizeOf
  refine ⟨hr.k0, _, hr.r0_0, hr.k1, x_hasSegment hc h6 ?_⟩
  by_cases c : inR x 0 (nI ns - 1)
  · obtain ⟨d, hd, rfl⟩ := inR_nI (by omega) c
    have e : S_sizeOf σ (nI d) = good σ (nI (sizeF σ n (nI d))) := by
      unfold S_sizeOf; rw [hG.d13, hG.nF, if_neg (not_not_intro c)]
    rw [e] at hQ
    rw [if_neg (not_not_intro c)]
    refine ⟨fun q => absurd q (by decide), fun _ => ⟨_, hr.r0_0, hr.k1, x_countAt hc hn ?_⟩⟩
    have e2 : cnt (fun k => decide (hmF σ bf k = nI d)) n = sizeF σ n (nI d) := by
      unfold sizeF
      exact cnt_congr (fun k hk => by rw [decide_eq_decide]; exact hmF_seg hs hn hk (by omega))
    rw [e2]; exact hQ rfl
  · have e : S_sizeOf σ x = bad σ 1 := by unfold S_sizeOf; rw [hG.d13, if_pos c]
    rw [e] at hX
    rw [if_pos c]
    exact ⟨fun _ => hX rfl, fun q => absurd rfl q⟩
theorem x_isField {x : Int32} {Q : Int32 → Prop} (hQ : Q (if ¬ isF x then 0 else 1)) : w_X10_isField g x Q := by
  unfold w_X10_isField b_X10_isField_13 b_X10_isField_14
  refine ⟨fun c => ⟨Or.inl rfl, ?_⟩, fun c => ⟨fun c2 => ⟨Or.inl rfl, ?_⟩, fun c2 => ⟨Or.inr rfl, ?_⟩⟩⟩
  · rw [if_pos (fun q => q (Or.inl c))] at hQ; exact hQ
  · rw [if_pos (fun q => q (Or.inr (by rw [i32_lt]; rw [i32_le] at c2; have e : (3 : Int32).toInt = 3 := rfl; have e2 : (2 : Int32).toInt = 2 := rfl; omega)))] at hQ; exact hQ
  · rw [if_neg (not_not_intro (fun q => q.elim c (fun q => c2 (by rw [i32_lt] at q; rw [i32_le]; have e : (3 : Int32).toInt = 3 := rfl; have e2 : (2 : Int32).toInt = 2 := rfl; omega))))] at hQ; exact hQ
theorem x_isKind {x : Int32} {Q : Int32 → Prop} (hQ : Q (if ¬ inR x 0 7 then 0 else 1)) : w_X10_isKind g x Q := by
  unfold w_X10_isKind b_X10_isKind_14 b_X10_isKind_15
  refine ⟨fun c => ⟨Or.inl rfl, ?_⟩, fun c => ⟨fun c2 => ⟨Or.inl rfl, ?_⟩, fun c2 => ⟨Or.inr rfl, ?_⟩⟩⟩
  · rw [if_pos (fun q => q (Or.inl c))] at hQ; exact hQ
  · rw [if_pos (fun q => q (Or.inr (by rw [i32_lt]; rw [i32_le] at c2; have e : (8 : Int32).toInt = 8 := rfl; have e2 : (7 : Int32).toInt = 7 := rfl; omega)))] at hQ; exact hQ
  · rw [if_neg (not_not_intro (fun q => q.elim c (fun q => c2 (by rw [i32_lt] at q; rw [i32_le]; have e : (8 : Int32).toInt = 8 := rfl; have e2 : (7 : Int32).toInt = 7 := rfl; omega))))] at hQ; exact hQ
theorem x_isDate {x : Int32} {Q : Int32 → Prop} (hQ : Q (if ¬ inR x 0 9999 then 0 else 1)) : w_X10_isDate g x Q := by
  unfold w_X10_isDate b_X10_isDate_15 b_X10_isDate_16
  refine ⟨fun c => ⟨Or.inl rfl, ?_⟩, fun c => ⟨fun c2 => ⟨Or.inl rfl, ?_⟩, fun c2 => ⟨Or.inr rfl, ?_⟩⟩⟩
  · rw [if_pos (fun q => q (Or.inl c))] at hQ; exact hQ
  · rw [if_pos (fun q => q (Or.inr (by rw [i32_lt]; rw [i32_le] at c2; have e : (10000 : Int32).toInt = 10000 := rfl; have e2 : (9999 : Int32).toInt = 9999 := rfl; omega)))] at hQ; exact hQ
  · rw [if_neg (not_not_intro (fun q => q.elim c (fun q => c2 (by rw [i32_lt] at q; rw [i32_le]; have e : (10000 : Int32).toInt = 10000 := rfl; have e2 : (9999 : Int32).toInt = 9999 := rfl; omega))))] at hQ; exact hQ
theorem p_resultAt (h : CX A D V σ n bf nn nr ns g) {x : Int32} {Q : Int32 → Prop} {X : String → Prop} (hQ : (S_resultAt σ x).1 = 0 → Q (S_resultAt σ x).2.1) (hX : (S_resultAt σ x).1 = 1 → X sI') : w_X10_resultAt g (A 0) x Q X := by
  obtain ⟨hc, hce, ⟨hG, hN, hW, hs⟩, hE⟩ := h
  have hr := hc.1
  have h6 := hG.nr6
  unfold w_X10_resultAt
  refine ⟨hr.k0, _, hr.r0_3, hr.k18, x_hasPlace hc h6 ?_⟩
  by_cases c : inR x 0 (nI nr - 1)
  · obtain ⟨d, hd, rfl⟩ := inR_nI (by omega) c
    have e : S_resultAt σ (nI d) = good σ (σ 23 d) := by
      unfold S_resultAt; rw [hG.d22, if_neg (not_not_intro c), show cl (nI d) = d from cl_nI (by omega)]
    rw [e] at hQ
    rw [if_neg (not_not_intro c)]
    exact ⟨fun q => absurd q (by decide), fun _ => ⟨_, hr.r0_3, hr.k18, x_numberAt hc h6 hd (hQ rfl)⟩⟩
  · have e : S_resultAt σ x = bad σ 1 := by unfold S_resultAt; rw [hG.d22, if_pos c]
    rw [e] at hX
    rw [if_pos c]
    exact ⟨fun _ => hX rfl, fun q => absurd rfl q⟩
theorem p_scoreAt (h : CX A D V σ n bf nn nr ns g) {x : Int32} {Q : Int32 → Prop} {X : String → Prop} (hQ : (S_scoreAt σ x).1 = 0 → Q (S_scoreAt σ x).2.1) (hX : (S_scoreAt σ x).1 = 1 → X sI') : w_X10_scoreAt g (A 0) x Q X := by
  obtain ⟨hc, hce, ⟨hG, hN, hW, hs⟩, hE⟩ := h
  have hr := hc.1
  have h6 := hG.nr6
  unfold w_X10_scoreAt
  refine ⟨hr.k0, _, hr.r0_3, hr.k18, x_hasPlace hc h6 ?_⟩
  by_cases c : inR x 0 (nI nr - 1)
  · obtain ⟨d, hd, rfl⟩ := inR_nI (by omega) c
    have e : S_scoreAt σ (nI d) = good σ (σ 24 d) := by
      unfold S_scoreAt; rw [hG.d22, if_neg (not_not_intro c), show cl (nI d) = d from cl_nI (by omega)]
    rw [e] at hQ
    rw [if_neg (not_not_intro c)]
    exact ⟨fun q => absurd q (by decide), fun _ => ⟨_, hr.r0_3, hr.k18, x_valAt hc h6 hd (hQ rfl)⟩⟩
  · have e : S_scoreAt σ x = bad σ 1 := by unfold S_scoreAt; rw [hG.d22, if_pos c]
    rw [e] at hX
    rw [if_pos c]
    exact ⟨fun _ => hX rfl, fun q => absurd rfl q⟩
theorem p_ofKind (h : CX A D V σ n bf nn nr ns g) {x : Int32} {Q : Int32 → Prop} {X : String → Prop} (hQ : (S_ofKind σ x).1 = 0 → Q (S_ofKind σ x).2.1) (hX : (S_ofKind σ x).1 = 1 → X sA) : w_X10_ofKind g (A 0) x Q X := by
  obtain ⟨hc, hce, ⟨hG, hN, hW, hs⟩, hE⟩ := h
  have hr := hc.1
  unfold w_X10_ofKind
  refine x_isKind ?_
  by_cases c : inR x 0 7
  · have e : S_ofKind σ x = good σ (nI (kindF σ nr x)) := by
      unfold S_ofKind; rw [hG.nrF, if_neg (not_not_intro c)]
    rw [e] at hQ
    rw [if_neg (not_not_intro c)]
    exact ⟨fun q => absurd q (by decide), fun _ => ⟨hr.k0, _, hr.r0_3, hr.k18, x_countKind hc hG.n hG.nr6 (hQ rfl)⟩⟩
  · have e : S_ofKind σ x = bad σ 1 := by unfold S_ofKind; rw [if_pos c]
    rw [e] at hX
    rw [if_pos c]
    exact ⟨fun _ => hX rfl, fun q => absurd rfl q⟩
theorem p_ofDates (h : CX A D V σ n bf nn nr ns g) {x y : Int32} {Q : Int32 → Prop} {X : String → Prop} (hQ : (S_ofDates σ x y).1 = 0 → Q (S_ofDates σ x y).2.1) (hX : (S_ofDates σ x y).1 = 1 → X sA) : w_X10_ofDates g (A 0) x y Q X := by
  obtain ⟨hc, hce, ⟨hG, hN, hW, hs⟩, hE⟩ := h
  have hr := hc.1
  unfold w_X10_ofDates b_X10_ofDates_19
  have no : (¬ inR x 0 9999 ∨ ¬ inR y 1 10000) → X sA := fun q => by
    have e : S_ofDates σ x y = bad σ 1 := by unfold S_ofDates; rw [if_pos q]
    rw [e] at hX; exact hX rfl
  refine x_isDate ?_
  by_cases c : inR x 0 9999
  · rw [if_neg (not_not_intro c)]
    refine ⟨fun q => absurd q (by decide), fun _ => ⟨fun c2 => no (Or.inr (fun q => q (Or.inl c2))), fun c2 => ⟨fun c3 => ?_, fun c3 => no (Or.inr (fun q => q (Or.inr (i32_nle.mp c3))))⟩⟩⟩
    have c4 : inR y 1 10000 := fun q => q.elim c2 (fun q => (i32_nle.mpr q) c3)
    have e : S_ofDates σ x y = good σ (nI (datesF σ nr x (x + y - 1))) := by
      unfold S_ofDates; rw [hG.nrF, if_neg (fun q => q.elim (fun q => q c) (fun q => q c4))]
    rw [e] at hQ
    exact ⟨hr.k0, _, hr.r0_3, hr.k18, x_countDates hc hG.n hG.nr6 (hQ rfl)⟩
  · rw [if_pos c]
    exact ⟨fun _ => no (Or.inl c), fun q => absurd rfl q⟩
theorem p_waste (h : CX A D V σ n bf nn nr ns g) (hnan : ¬ lyF σ n = 0 → vf_n64 (FP.ddiv (FP.i2d (nI (goneN σ n))) (FP.i2d (lyF σ n)))) {Q : UInt64 → Prop} (hQ : Q (wasteF σ n)) : w_X10_waste g (A 0) Q := by
  obtain ⟨hc, hce, ⟨hG, hN, hW, hs⟩, hE⟩ := h
  have hr := hc.1
  have hn := hG.n
  unfold w_X10_waste b_X10_waste_30
  refine ⟨hr.k0, _, hr.r0_0, hr.k1, _, hr.r1_5, hr.k4, ?_⟩
  rw [hr.i4, hce.1]
  have el : lyF σ n = nI (cnt (fun d => !decide (σ 6 d = 0)) n) := by
    unfold lyF
    rw [← isum_cnt]
    refine isum_congr (fun d _ => ?_)
    by_cases c : σ 6 d = 0
    · simp [c]
    · simp [c]
  have hle : cnt (fun d => !decide (σ 6 d = 0)) n ≤ n := cnt_le _ _
  unfold wasteF at hQ
  refine ⟨fun c => ?_, fun c => ?_⟩
  · have h0 : ¬ lyF σ n = 0 := fun q => by rw [q] at c; exact absurd c (by decide)
    rw [if_neg h0] at hQ
    exact ⟨_, hr.r0_0, hr.k1, x_gone hc hn (fun d hd q => hs.h15 hn (by omega) (by omega) q) ⟨hnan h0, hQ⟩⟩
  · have h0 : lyF σ n = 0 := by
      rw [el] at c ⊢
      rcases Nat.eq_zero_or_pos (cnt (fun d => !decide (σ 6 d = 0)) n) with q | q
      · rw [q]; rfl
      · exact absurd ((nI_lt_iff (a := 0) (by decide) (by omega)).mpr q) c
    rw [if_pos h0] at hQ; exact hQ
end CASK
