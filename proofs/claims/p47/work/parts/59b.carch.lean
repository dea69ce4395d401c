/-! THE CLASS: the archive counted, merged, flushed -/
def SG (σ : Rows) (n bf ns : Nat) : Prop :=
  (∀ d, d < n → ¬ σ 6 d = 0 → d < bf ∧ ∃ s, s < ns ∧ s ≤ d ∧ σ 15 d = nI s) ∧ (∀ d, σ 6 d = 0 → d < 60 → σ 15 d = -1) ∧ (∀ d, n ≤ d → d < 60 → σ 6 d = 0) ∧ (∀ d, d < bf → σ 6 d = 0 → ¬ σ 5 d = 0) ∧ (∀ s, s < ns → ∃ d, d < n ∧ ¬ σ 6 d = 0 ∧ σ 15 d = nI s)
def used (u : Nat) : Prop := u = 1 ∨ u = 3 ∨ u = 11 ∨ u = 12 ∨ u = 13 ∨ u = 14 ∨ u = 18 ∨ u = 20 ∨ u = 21 ∨ u = 36 ∨ u = 38 ∨ u = 40 ∨ 100 ≤ u
section CARCH
variable {A : Nat → Nat} {D : Nat} {V V' σ σ' ρ : Rows} {n bf nn nr ns cb : Nat} {g g' : gS}
theorem SG.h15 (h : SG σ n bf ns) {d : Nat} (hn : n ≤ 60) (hd : d ≤ n) (hd6 : d < 60) (h6 : σ 6 d ≠ 0) : ¬ σ 15 d < 0 := by
  rcases Nat.lt_or_ge d n with q | q
  · obtain ⟨_, s, hs, hsd, e⟩ := h.1 d q h6
    rw [e]; exact not_lt0 (by omega)
  · exact absurd (h.2.2.1 d q hd6) h6
theorem vInt_eq (h : vInt V σ n nn nr ns) (hV : ∀ u, u < 100 → used u → V' u = V u) (hs : ∀ t, t ≠ 6 → t ≠ 15 → σ' t = σ t) : vInt V' σ' n nn nr ns := by
  unfold vInt at h ⊢
  have e := fun u (h1 : u < 100) (h2 : used u) => hV u h1 h2
  rw [e 1 (by decide) (by unfold used; omega), e 3 (by decide) (by unfold used; omega), e 11 (by decide) (by unfold used; omega), e 12 (by decide) (by unfold used; omega), e 13 (by decide) (by unfold used; omega), e 14 (by decide) (by unfold used; omega), e 18 (by decide) (by unfold used; omega), e 20 (by decide) (by unfold used; omega), e 21 (by decide) (by unfold used; omega), e 36 (by decide) (by unfold used; omega), e 38 (by decide) (by unfold used; omega), e 40 (by decide) (by unfold used; omega), hs 14 (by decide) (by decide), hs 10 (by decide) (by decide), hs 11 (by decide) (by decide), hs 12 (by decide) (by decide), hs 23 (by decide) (by decide), hs 24 (by decide) (by decide)]
  exact h
theorem vNode_eq {j : Nat} (h : vNode V σ j) (e : V' (jl j) = V (jl j)) (hs : ∀ t, 17 ≤ t → t ≤ 21 → σ' t = σ t) : vNode V' σ' j := by
  unfold vNode at h ⊢
  rw [e, hs 17 (by decide) (by decide), hs 18 (by decide) (by decide), hs 19 (by decide) (by decide), hs 20 (by decide) (by decide), hs 21 (by decide) (by decide)]
  exact h
theorem vDoc_eq {bf' d : Nat} (h : vDoc V σ bf d) (e0 : ∀ i, i ≠ 3 → V' (dl d 0) i = V (dl d 0) i) (e3 : V' (dl d 0) 3 = hmF σ' bf' d) (er : ∀ r, 1 ≤ r → r < 20 → V' (dl d r) = V (dl d r)) (hs : ∀ t, t ≠ 6 → t ≠ 15 → 2 ≤ t → t ≤ 8 → σ' t = σ t) : vDoc V' σ' bf' d := by
  obtain ⟨a1, a2, a3, a4, a5⟩ := h
  refine ⟨?_, ?_, e3, ?_, fun f hf => ?_⟩
  · rw [e0 0 (by decide), hs 3 (by decide) (by decide) (by decide) (by decide)]; exact a1
  · rw [e0 1 (by decide), hs 4 (by decide) (by decide) (by decide) (by decide)]; exact a2
  · rw [e0 4 (by decide), hs 5 (by decide) (by decide) (by decide) (by decide)]; exact a4
  · have h7 := hs 7 (by decide) (by decide) (by decide) (by decide)
    have h8 := hs 8 (by decide) (by decide) (by decide) (by decide)
    have := a5 f hf
    unfold vRow Dif tmN lnF tmF at this ⊢
    rw [er (2 + f) (by omega) (by omega), er (5 + f) (by omega) (by omega), er (8 + f) (by omega) (by omega), er (11 + f) (by omega) (by omega), h7, h8]
    exact this
/-- only scratch has changed -/
theorem CC.scr (h : CC A D V σ n bf nn nr ns g) (hr : CR A D nn V' g') (hV : ∀ u, used u → V' u = V u) (hR : ∀ a, gR g' a = gR g a) : CC A D V' σ n bf nn nr ns g' := by
  obtain ⟨h1, h2, h3, h4, h5⟩ := h
  have ed : ∀ d r, V' (dl d r) = V (dl d r) := fun d r => hV _ (by unfold used dl; omega)
  refine ⟨hr, vInt_eq h2 (fun u _ hu => hV u hu) (fun _ _ _ => rfl), fun d hd => vDoc_eq (h3 d hd) (fun i _ => by rw [ed]) (by rw [ed]; exact (h3 d hd).2.2.1) (fun r _ _ => ed d r) (fun _ _ _ _ _ => rfl), fun j hj => vNode_eq (h4 j hj) (hV _ (by unfold used jl; omega)) (fun _ _ _ => rfl), ?_⟩
  unfold cRef at h5 ⊢
  simp only [hR]
  exact h5
theorem x_recount (h : CC A D V σ n bf nn nr ns g) (hn : n ≤ 60) (hl : ∀ d f, d < n → f < 3 → lnF σ d f ≤ 12) (hs : SG σ n bf ns) {Q : gS → Prop} (hQ : ∀ g' V', CC A D V' σ n bf nn nr ns g' → (∀ u, (u < 4 ∨ 9 < u) → V' u = V u) → (∀ a, gR g' a = gR g a) → vCen V' 4 σ n → Q g') : w_X0_recount g (A 1) Q := by
  have hc := h
  obtain ⟨hr, hv, hdoc, hnode, hf⟩ := h
  have hnD := hf.2.2.2.2.1
  have h15 : ∀ d, d < n → σ 6 d ≠ 0 → ¬ σ 15 d < 0 := fun d hd => hs.h15 hn (by omega) (by omega)
  unfold w_X0_recount
  refine ⟨hr.k1, _, hr.r1_5, hr.k4, x_reset (ρ := σ) hr (Or.inl rfl) (fun g1 V1 h1 hV1 hR1 hc1 => ?_)⟩
  refine lpx2_i n (fun k g' x => x = nI k ∧ ∃ V', CR A D nn V' g' ∧ (∀ u, (u < 4 ∨ 9 < u) → V' u = V u) ∧ (∀ a, gR g' a = gR g a) ∧ vCen V' 4 σ k) ?_ ?_ _ 0 ⟨rfl, V1, h1, fun u hu => hV1 u (by omega), hR1, hc1⟩
  · rintro k g2 _ hk ⟨rfl, V2, h2, hV, hR, hce⟩ K hK
    have c2 : CC A D V2 σ n bf nn nr ns g2 := hc.scr h2 (fun u hu => hV u (by unfold used at hu; omega)) hR
    unfold l_X0_recount_9 b_X0_recount_42
    refine ⟨h2.k1, ?_⟩
    rw [h2.i1, c2.2.1.1, nI_1]
    refine ⟨fun c => absurd c (nI_ge hk (by omega)), fun _ => x_docAt c2 hk ⟨fun q => absurd q (by simp), fun y hy => ?_⟩⟩
    have hy' : y = A (dl k 0) := (Option.some.inj hy).symm
    subst hy'
    refine ⟨h2.d0k (by omega), x_lies c2 (by omega) (h15 k hk) ⟨fun c => ?_, fun c => ?_⟩⟩
    · have h6 : σ 6 k = 0 := by have := bI_0.mp c; simpa using this
      exact hK _ _ ⟨rfl, V2, h2, hV, hR, vCen_skip hce h6⟩
    · have h6 : ¬ σ 6 k = 0 := by have := bI_n0 c; simpa using this
      refine ⟨_, h2.r1_5, h2.k4, x_count h2 (Or.inl rfl) (show k < D by omega) (fun f hf => hl k f hk hf) (c2.2.2.1 k (by omega)).2.2.2.2 (fun g3 V3 h3 hV3 hR3 a1 a2 a3 => ?_)⟩
      refine hK _ _ ⟨rfl, V3, h3, fun u hu => by rw [hV3 u (by omega)]; exact hV u hu, fun a => by rw [hR3]; exact hR a, vCen_next hce h6 rfl rfl a1 a2 a3⟩
  · rintro g2 _ ⟨rfl, V2, h2, hV, hR, hce⟩ K
    have c2 : CC A D V2 σ n bf nn nr ns g2 := hc.scr h2 (fun u hu => hV u (by unfold used at hu; omega)) hR
    unfold l_X0_recount_9
    refine ⟨h2.k1, ?_⟩
    rw [h2.i1, c2.2.1.1]
    exact ⟨fun _ => hQ g2 V2 c2 hV hR hce, fun c => absurd (nI_le (Nat.le_refl _) (by omega)) c⟩
theorem x_survivors (h : CC A D V σ n bf nn nr ns g) (hn : n ≤ 60) (hl : ∀ d f, d < n → f < 3 → lnF σ d f ≤ 12) {Q : gS → Prop} (hQ : ∀ g' V', CC A D V' σ n bf nn nr ns g' → (∀ u, (u < 30 ∨ 35 < u) → V' u = V u) → (∀ a, gR g' a = gR g a) → vCen V' 30 (fuR σ n) n → Q g') : w_X0_countSurvivors g (A 1) (A 30) Q := by
  have hc := h
  obtain ⟨hr, hv, hdoc, hnode, hf⟩ := h
  have hnD := hf.2.2.2.2.1
  unfold w_X0_countSurvivors
  have e6 : ∀ k, k < n → (fuR σ n 6 k = if σ 5 k = 0 then 1 else 0) := fun k hk => by
    show va_up σ 6 _ 6 k = _
    rw [va_up_self]
    by_cases c : σ 5 k = 0
    · rw [if_pos c, if_pos ⟨hk, c⟩]
    · rw [if_neg c, if_neg (fun q => c q.2)]
  refine ⟨hr.k30, x_reset (ρ := fuR σ n) hr (Or.inr rfl) (fun g1 V1 h1 hV1 hR1 hc1 => ?_)⟩
  refine lpx2_i n (fun k g' x => x = nI k ∧ ∃ V', CR A D nn V' g' ∧ (∀ u, (u < 30 ∨ 35 < u) → V' u = V u) ∧ (∀ a, gR g' a = gR g a) ∧ vCen V' 30 (fuR σ n) k) ?_ ?_ _ 0 ⟨rfl, V1, h1, fun u hu => hV1 u (by omega), hR1, hc1⟩
  · rintro k g2 _ hk ⟨rfl, V2, h2, hV, hR, hce⟩ K hK
    have c2 : CC A D V2 σ n bf nn nr ns g2 := hc.scr h2 (fun u hu => hV u (by unfold used at hu; omega)) hR
    unfold l_X0_countSurvivors_6 b_X0_countSurvivors_36
    refine ⟨h2.k1, ?_⟩
    rw [h2.i1, c2.2.1.1, nI_1]
    refine ⟨fun c => absurd c (nI_ge hk (by omega)), fun _ => x_docAt c2 hk ⟨fun q => absurd q (by simp), fun y hy => ?_⟩⟩
    have hy' : y = A (dl k 0) := (Option.some.inj hy).symm
    subst hy'
    refine ⟨h2.d0k (by omega), ?_⟩
    rw [h2.d0i (by omega), (c2.2.2.1 k (by omega)).2.2.2.1]
    refine ⟨fun c => ?_, fun c => ?_⟩
    · refine ⟨h2.k30, x_count h2 (Or.inr rfl) (show k < D by omega) (fun f hf => hl k f hk hf) (c2.2.2.1 k (by omega)).2.2.2.2 (fun g3 V3 h3 hV3 hR3 a1 a2 a3 => ?_)⟩
      refine hK _ _ ⟨rfl, V3, h3, fun u hu => by rw [hV3 u (by omega)]; exact hV u hu, fun a => by rw [hR3]; exact hR a, vCen_next hce (by rw [e6 k hk, if_pos c]; decide) (va_up_ne _ _ (by decide)) (va_up_ne _ _ (by decide)) a1 a2 a3⟩
    · exact hK _ _ ⟨rfl, V2, h2, hV, hR, vCen_skip hce (by rw [e6 k hk, if_neg c])⟩
  · rintro g2 _ ⟨rfl, V2, h2, hV, hR, hce⟩ K
    have c2 : CC A D V2 σ n bf nn nr ns g2 := hc.scr h2 (fun u hu => hV u (by unfold used at hu; omega)) hR
    unfold l_X0_countSurvivors_6
    refine ⟨h2.k1, ?_⟩
    rw [h2.i1, c2.2.1.1]
    exact ⟨fun _ => hQ g2 V2 c2 hV hR hce, fun c => absurd (nI_le (Nat.le_refl _) (by omega)) c⟩
theorem nI_le_nm {a : Nat} (ha : a < 2 ^ 31) {b : Bool} : ¬ nI a ≤ (if b = true then -2 else -1) := by
  intro q
  have := (i32_le _ _).mp q
  rw [nI_toInt ha] at this
  cases b
  · have e : ((-1 : Int32)).toInt = -1 := rfl
    rw [if_neg (by decide), e] at this; omega
  · have e : ((-2 : Int32)).toInt = -2 := rfl
    rw [if_pos rfl, e] at this; omega
theorem hmF_le {a d : Nat} (ha : a < 2 ^ 31) (h15 : σ 6 d = 0 → σ 15 d = -1) : nI a ≤ hmF σ bf d ↔ ¬ σ 15 d < nI a := by
  unfold hmF
  by_cases c : σ 6 d = 0
  · rw [if_pos c, h15 c]
    constructor
    · intro q
      exact absurd q (by have := nI_le_nm ha (b := decide (d < bf)); simpa using this)
    · intro q
      exfalso; apply q
      refine (i32_lt _ _).mpr ?_
      rw [nI_toInt ha]
      have e : ((-1 : Int32)).toInt = -1 := rfl
      rw [e]; omega
  · rw [if_neg c]
    exact (i32_nl (a := σ 15 d) (b := nI a)).symm.symm.symm
theorem x_mergeFrom (h : CC A D V σ n bf nn nr ns g) (hn : n ≤ 60) (hs : SG σ n bf ns) {a : Nat} (ha : a < 60) (hans : a ≤ ns) {t : Int32} {Q : Int32 → gS → Prop} (hQ : ∀ g' V', CC A D V' (mergeR σ n a t) n bf nn nr (if mgL σ a n = 0 then a else a + 1) g' → (∀ u, u ≠ 1 → u ≠ 3 → (u < 100 ∨ 2000 ≤ u) → V' u = V u) → (∀ a, gR g' a = gR g a) → Q (nI (mgD σ a n)) g') : w_X0_mergeFrom g (A 1) (nI a) t Q := by
  have hc := h
  obtain ⟨hr, hv, hdoc, hnode, hf⟩ := h
  have hnD := hf.2.2.2.2.1
  have hD6 := hr.D6
  unfold w_X0_mergeFrom
  have mk : ∀ k V' g', CR A D nn V' g' → (∀ u, (u < 100 ∨ 2000 ≤ u) → V' u = V u) → (∀ a, gR g' a = gR g a) → (∀ d, d < D → vDoc V' (mgK σ a k) bf d) → CC A D V' (mgK σ a k) n bf nn nr ns g' := by
    intro k V' g' h1 h2 h3 h4
    refine ⟨h1, vInt_eq hv (fun u hu _ => h2 u (Or.inl hu)) (fun t e1 e2 => mgK_r e2 e1 k), h4, fun j hj => vNode_eq (hnode j hj) (h2 _ (Or.inr (by unfold jl; omega))) (fun t e1 e2 => mgK_r (by omega) (by omega) k), ?_⟩
    unfold cRef at hf ⊢
    simp only [h3, mgK_r (σ := σ) (a := a) (u := 23) (by decide) (by decide) k]
    exact hf
  refine lpx4_i n (fun k g' x y z => x = nI (mgD σ a k) ∧ y = nI (mgL σ a k) ∧ z = nI k ∧ ∃ V', CR A D nn V' g' ∧ (∀ u, (u < 100 ∨ 2000 ≤ u) → V' u = V u) ∧ (∀ a, gR g' a = gR g a) ∧ ∀ d, d < D → vDoc V' (mgK σ a k) bf d) ?_ ?_ _ 0 0 0 ⟨rfl, rfl, rfl, V, hr, fun _ _ => rfl, fun _ => rfl, hdoc⟩
  · rintro k g1 _ _ _ hk ⟨rfl, rfl, rfl, V1, h1, hV, hR, hd1⟩ K hK
    have c1 := mk k V1 g1 h1 hV hR hd1
    have e5 : mgK σ a k 5 k = σ 5 k := by rw [mgK_r (by decide) (by decide)]
    have e15 : mgK σ a k 15 k = σ 15 k := by rw [mgK_15 k k, if_neg (by omega)]
    have e6 : mgK σ a k 6 k = σ 6 k := by rw [mgK_6 k k, if_neg (by omega)]
    have hs15 : mgK σ a k 6 k = 0 → mgK σ a k 15 k = -1 := fun q => by rw [e15]; rw [e6] at q; exact hs.2.1 k q (by omega)
    unfold l_X0_mergeFrom_8 b_X0_mergeFrom_72
    refine ⟨h1.k1, ?_⟩
    rw [h1.i1, c1.2.1.1, nI_1]
    refine ⟨fun c => absurd c (nI_ge hk (by omega)), fun _ => x_docAt c1 hk ⟨fun q => absurd q (by simp), fun y hy => ?_⟩⟩
    have hy' : y = A (dl k 0) := (Option.some.inj hy).symm
    subst hy'
    refine ⟨h1.d0k (by omega), ?_⟩
    rw [h1.d0i (by omega), (hd1 k (by omega)).2.2.1, (hd1 k (by omega)).2.2.2.1, e5, hmF_le (by omega) hs15, e15]
    refine ⟨fun c => ?_, fun c => ?_⟩
    · have h6 : ¬ σ 6 k = 0 := by
        intro q
        have := hs.2.1 k q (by omega)
        rw [this] at c
        exact c ((i32_lt _ _).mpr (by rw [nI_toInt (by omega)]; have e : ((-1 : Int32)).toInt = -1 := rfl; rw [e]; omega))
      refine ⟨fun c5 => ?_, fun c5 => ?_⟩
      · intro g2 e2
        subst e2
        have h2 := h1.w (dl k 0) 3 (KL_d (by omega) (by omega) (by decide)) (by decide) 3 (nI a)
        refine hK _ _ _ _ ⟨?_, ?_, rfl, _, h2, fun u hu => by rw [su_row (by unfold dl; omega)]; exact hV u hu, fun b => hR b, fun d hd => ?_⟩
        · unfold mgD; rw [cnt_s, decide_eq_true c5]; simp
        · unfold mgL; rw [cnt_s, decide_eq_true c5, decide_eq_false c]; try rw [nI_1]
          simp
        · have em : mgK σ a (k + 1) = su (mgK σ a k) 15 k (nI a) := by rw [mgK, e15, e5, if_neg c, if_pos c5]
          rw [em]
          by_cases e : d = k
          · subst e
            refine vDoc_eq (hd1 d hd) (fun i hi => by rw [su_at, if_neg hi]) ?_ (fun r h1 h2 => su_row (by unfold dl; omega)) (fun t e1 e2 _ _ => su_row e2)
            unfold hmF
            rw [su_at, if_pos rfl, su_row (by decide), e6, if_neg h6, su_at, if_pos rfl]
          · have ed : ∀ r, r < 20 → su V1 (dl k 0) 3 (nI a) (dl d r) = V1 (dl d r) := fun r hr => su_row (by unfold dl; omega)
            refine vDoc_eq (hd1 d hd) (fun i hi => by rw [ed 0 (by decide)]) ?_ (fun r h1 h2 => ed r h2) (fun t e1 e2 _ _ => su_row e2)
            rw [ed 0 (by decide), (hd1 d hd).2.2.1]
            unfold hmF
            rw [su_row (by decide), su_at, if_neg e]
      · intro g2 e2
        subst e2
        have h2 := h1.w (dl k 0) 3 (KL_d (by omega) (by omega) (by decide)) (by decide) 3 (-2)
        refine hK _ _ _ _ ⟨?_, ?_, rfl, _, h2, fun u hu => by rw [su_row (by unfold dl; omega)]; exact hV u hu, fun b => hR b, fun d hd => ?_⟩
        · unfold mgD; rw [cnt_s, decide_eq_false c5, decide_eq_false c, nI_1]; simp
        · unfold mgL; rw [cnt_s, decide_eq_false c5]; simp
        · have em : mgK σ a (k + 1) = su (su (mgK σ a k) 15 k (-1)) 6 k 0 := by rw [mgK, e15, e5, if_neg c, if_neg c5]
          rw [em]
          by_cases e : d = k
          · subst e
            refine vDoc_eq (hd1 d hd) (fun i hi => by rw [su_at, if_neg hi]) ?_ (fun r h1 h2 => su_row (by unfold dl; omega)) (fun t e1 e2 _ _ => by rw [su_row e1, su_row e2])
            unfold hmF
            rw [su_at, if_pos rfl, su_at, if_pos rfl, if_pos rfl, if_pos (hs.1 d hk h6).1]
          · have ed : ∀ r, r < 20 → su V1 (dl k 0) 3 (-2) (dl d r) = V1 (dl d r) := fun r hr => su_row (by unfold dl; omega)
            refine vDoc_eq (hd1 d hd) (fun i hi => by rw [ed 0 (by decide)]) ?_ (fun r h1 h2 => ed r h2) (fun t e1 e2 _ _ => by rw [su_row e1, su_row e2])
            rw [ed 0 (by decide), (hd1 d hd).2.2.1]
            unfold hmF
            rw [su_at, if_neg e, su_row (by decide), su_row (by decide), su_at, if_neg e]
    · have c' : σ 15 k < nI a := Classical.not_not.mp c
      refine hK _ _ _ _ ⟨?_, ?_, rfl, V1, h1, hV, hR, ?_⟩
      · unfold mgD; rw [cnt_s, decide_eq_true c']; simp
      · unfold mgL; rw [cnt_s, decide_eq_true c']; simp
      · rw [mgK, e15, if_pos c']; exact hd1
  · rintro g1 _ _ _ ⟨rfl, rfl, rfl, V1, h1, hV, hR, hd1⟩ K
    have c1 := mk n V1 g1 h1 hV hR hd1
    unfold l_X0_mergeFrom_8 b_X0_mergeFrom_118
    refine ⟨h1.k1, ?_⟩
    rw [h1.i1, c1.2.1.1]
    have hL : mgL σ a n ≤ n := cnt_le _ _
    have fin : ∀ (V2 : Rows) (g2 : gS) (n2 : Nat), CR A D nn V2 g2 → (∀ u, u ≠ 1 → u ≠ 3 → V2 u = V1 u) → (∀ i, i ≠ 4 → V2 1 i = V1 1 i) → V2 1 4 = nI n2 → (∀ s, s < n2 → V2 3 s = mergeR σ n a t 14 s) → n2 = (if mgL σ a n = 0 then a else a + 1) → (∀ b, gR g2 b = gR g1 b) → Q (nI (mgD σ a n)) g2 := by
      intro V2 g2 n2 hr2 hV2 h11 h14 h3 e2 hR2
      subst e2
      refine hQ g2 V2 ⟨hr2, ?_, fun d hd => ?_, fun j hj => ?_, ?_⟩ (fun u e1 e2 e3 => by rw [hV2 u e1 e2]; exact hV u e3) (fun b => by rw [hR2]; exact hR b)
      · have hv1 := c1.2.1
        have er : ∀ u, u ≠ 0 → u ≠ 14 → mergeR σ n a t u = mgK σ a n u := fun u e0 e14 => by unfold mergeR; rw [su_row e14, su_row e0]
        unfold vInt at hv1 ⊢
        rw [h11 1 (by decide), h14, hV2 11 (by decide) (by decide), hV2 12 (by decide) (by decide), hV2 13 (by decide) (by decide), hV2 14 (by decide) (by decide), hV2 18 (by decide) (by decide), hV2 20 (by decide) (by decide), hV2 21 (by decide) (by decide), hV2 36 (by decide) (by decide), hV2 38 (by decide) (by decide), hV2 40 (by decide) (by decide), er 10 (by decide) (by decide), er 11 (by decide) (by decide), er 12 (by decide) (by decide), er 23 (by decide) (by decide), er 24 (by decide) (by decide)]
        exact ⟨hv1.1, rfl, h3, hv1.2.2.2⟩
      · have er : ∀ u, u ≠ 0 → u ≠ 14 → mergeR σ n a t u = mgK σ a n u := fun u e0 e14 => by unfold mergeR; rw [su_row e14, su_row e0]
        have ed : ∀ r, V2 (dl d r) = V1 (dl d r) := fun r => hV2 _ (by unfold dl; omega) (by unfold dl; omega)
        refine vDoc_eq (hd1 d hd) (fun i hi => by rw [ed]) ?_ (fun r _ _ => ed r) (fun t e1 e2 e3 e4 => er t (by omega) (by omega))
        rw [ed, (hd1 d hd).2.2.1]
        unfold hmF
        rw [er 6 (by decide) (by decide), er 15 (by decide) (by decide)]
      · refine vNode_eq (c1.2.2.2.1 j hj) (hV2 _ (by unfold jl; omega) (by unfold jl; omega)) (fun t e1 e2 => ?_)
        unfold mergeR; rw [su_row (by omega), su_row (by omega)]
      · have := c1.2.2.2.2
        unfold cRef at this ⊢
        have e23 : mergeR σ n a t 23 = mgK σ a n 23 := by unfold mergeR; rw [su_row (by decide), su_row (by decide)]
        simp only [hR2, e23]
        exact this
    refine ⟨fun _ g2 e2 => ?_, fun c => absurd (nI_le (Nat.le_refl _) (by omega)) c⟩
    subst e2
    have h2 := h1.w 1 1 (KL_f (by decide)) (by decide) 4 (nI a)
    have old : ∀ s, s < a → V1 3 s = mergeR σ n a t 14 s := fun s hs' => by
      unfold mergeR
      rw [su_at, if_neg (by omega), su_row (by decide)]
      exact c1.2.1.2.2.1 s (by omega)
    refine ⟨fun c => ?_, fun c => ?_⟩
    · have e0 : mgL σ a n = 0 := by
        rcases Nat.eq_zero_or_pos (mgL σ a n) with q | q
        · exact q
        · exact absurd ((nI_le_iff (b := 0) (by omega) (by decide)).mp c) (by omega)
      exact fin _ _ a h2 (fun u e1 _ => su_row e1) (fun i hi => by rw [su_at, if_neg hi]) (by rw [su_at, if_pos rfl]) (fun s hs' => by rw [su_row (by decide)]; exact old s hs') (by rw [if_pos e0]) (fun _ => rfl)
    · have e0 : ¬ mgL σ a n = 0 := fun e => c (by rw [e]; decide)
      refine ⟨fun c2 => absurd c2 (not_lt0 (by omega)), fun _ => ⟨h2.k1, _, h2.r1_3, h2.k3, ?_⟩⟩
      rw [h2.n3]
      refine ⟨fun c3 => absurd c3 (nI_ge ha (by decide)), fun _ => ⟨_, h2.r1_3, h2.k3, by rw [h2.n3]; exact vpi ha, fun g3 e3 => ?_⟩⟩
      subst e3
      rw [cl_nI (by omega)]
      have h3 := h2.w 3 21 (KL_f (by decide)) (by decide) a t
      refine ⟨h3.k1, fun g4 e4 => ?_⟩
      subst e4
      rw [h3.i1, su_row (by decide), su_at, if_pos rfl, nI_1]
      refine fin _ _ (a + 1) (h3.w 1 1 (KL_f (by decide)) (by decide) 4 (nI (a + 1))) (fun u e1 e3 => by rw [su_row e1, su_row e3, su_row e1]) (fun i hi => by rw [su_at, if_neg hi, su_row (by decide), su_at, if_neg hi]) (by rw [su_at, if_pos rfl]) (fun s hs' => ?_) (by rw [if_neg e0]) (fun _ => rfl)
      rw [su_row (by decide), su_at]
      by_cases e : s = a
      · rw [if_pos e, e]; unfold mergeR; rw [su_at, if_pos rfl]
      · rw [if_neg e, su_row (by decide)]; exact old s (by omega)
end CARCH
