/-! THE CLASS: scores now, and the search -/
theorem fR_k {l i u : Nat} (h : fR l i = some u) : l < 100 ∧ fK l ≠ 0 := by
  unfold fR at h
  split at h <;> first | exact ⟨by decide, by decide⟩ | cases h
theorem dR_k {l i u : Nat} (h : dR l i = some u) : l < 20 ∧ dK l ≠ 0 := by
  unfold dR at h
  split at h <;> first | exact ⟨by decide, by decide⟩ | cases h
theorem gR_sV {g : gS} {a k b j : Nat} {v : Option Nat} : gR (sV g a k v) b j = if b = a ∧ j = k then v else gR g b j := by
  by_cases e : b = a
  · subst e
    show gR (sR g b (va_up (gR g b) k v)) b j = _
    rw [gR_sR_self]
    by_cases e2 : j = k
    · subst e2; rw [va_up_self, if_pos ⟨rfl, rfl⟩]
    · rw [va_up_ne _ _ e2, if_neg (fun q => e2 q.2)]
  · rw [if_neg (fun q => e q.1)]
    show gR (sR g a _) b j = _
    rw [gR_sR_ne e]
section CSEARCH
variable {A : Nat → Nat} {D : Nat} {V V' σ σ' τ ρ : Rows} {n bf nn nr ns cb : Nat} {g g' : gS}
theorem CR.ne (h : CR A D nn V g) {l u : Nat} (hl : KL D nn l ≠ 0) (hu : KL D nn u ≠ 0) (hne : l ≠ u) : A l ≠ A u := fun e => hne (h.2.1 l u hl hu e)
/-- a reference written where the shape says nothing -/
theorem CR.v (h : CR A D nn V g) (l k : Nat) (hk : KL D nn l = k) (h0 : k ≠ 0) (hl : l < 100) (i : Nat) (hf : fR l i = none) (o : Option Nat) : CR A D nn V (sV g (A l) i o) := by
  obtain ⟨h1, h2, h3, h4, h5, h6⟩ := h
  have hl0 : KL D nn l ≠ 0 := by rw [hk]; exact h0
  refine ⟨h1, h2, fun l' i' u hr => ?_, fun d r i' u hd hr => ?_, h5, h6⟩
  · rw [gR_sV, if_neg]
    · exact h3 l' i' u hr
    · rintro ⟨e1, e2⟩
      have q := fR_k hr
      have := h2 l' l (by rw [KL_f q.1]; exact q.2) hl0 e1
      rw [this, e2, hf] at hr; cases hr
  · rw [gR_sV, if_neg]
    · exact h4 d r i' u hd hr
    · rintro ⟨e1, e2⟩
      have q := dR_k hr
      have := h2 (dl d r) l (by rw [KL_d hd (by omega) q.1]; exact q.2) hl0 e1
      unfold dl at this; omega
/-- only the results have changed -/
theorem CC.res {nr' : Nat} (h : CC A D V σ n bf nn nr ns g) (hr : CR A D nn V' g') (hV : ∀ u, used u → u ≠ 18 → u ≠ 20 → u ≠ 21 → V' u = V u) (h18 : V' 18 3 = nI nr') (hp : ∀ p, p < nr' → V' 20 p = τ 23 p ∧ V' 21 p = τ 24 p) (hd : ∀ p, p < nr' → ∃ d, d < n ∧ τ 23 p = nI d ∧ gR g' (A 19) p = some (A (dl d 0))) (hs : ∀ t, t ≠ 0 → t ≠ 23 → t ≠ 24 → τ t = σ t) (hR : ∀ a, a ≠ A 19 → gR g' a = gR g a) : CC A D V' τ n bf nn nr' ns g' := by
  obtain ⟨h0, h2, h3, h4, h5⟩ := h
  have n2 : A 2 ≠ A 19 := hr.ne (by rw [KL_f (by decide)]; decide) (by rw [KL_f (by decide)]; decide) (by decide)
  have n1 : A 1 ≠ A 19 := hr.ne (by rw [KL_f (by decide)]; decide) (by rw [KL_f (by decide)]; decide) (by decide)
  have n15 : A 15 ≠ A 19 := hr.ne (by rw [KL_f (by decide)]; decide) (by rw [KL_f (by decide)]; decide) (by decide)
  have ed : ∀ d r, V' (dl d r) = V (dl d r) := fun d r => hV _ (by unfold used dl; omega) (by unfold dl; omega) (by unfold dl; omega) (by unfold dl; omega)
  refine ⟨hr, ?_, fun d hd' => vDoc_eq (h3 d hd') (fun i _ => by rw [ed]) ?_ (fun r _ _ => ed d r) (fun t _ _ e1 e2 => hs t (by omega) (by omega) (by omega)), fun j hj => vNode_eq (h4 j hj) (hV _ (by unfold used jl; omega) (by unfold jl; omega) (by unfold jl; omega) (by unfold jl; omega)) (fun t e1 e2 => hs t (by omega) (by omega) (by omega)), ?_⟩
  · unfold vInt at h2 ⊢
    have e := fun u (e4 : used u) (e1 : u ≠ 18) (e2 : u ≠ 20) (e3 : u ≠ 21) => hV u e4 e1 e2 e3
    rw [e 1 (by unfold used; omega) (by decide) (by decide) (by decide), e 3 (by unfold used; omega) (by decide) (by decide) (by decide), e 11 (by unfold used; omega) (by decide) (by decide) (by decide), e 12 (by unfold used; omega) (by decide) (by decide) (by decide), e 13 (by unfold used; omega) (by decide) (by decide) (by decide), e 14 (by unfold used; omega) (by decide) (by decide) (by decide), e 36 (by unfold used; omega) (by decide) (by decide) (by decide), e 38 (by unfold used; omega) (by decide) (by decide) (by decide), e 40 (by unfold used; omega) (by decide) (by decide) (by decide), h18, hs 14 (by decide) (by decide) (by decide), hs 10 (by decide) (by decide) (by decide), hs 11 (by decide) (by decide) (by decide), hs 12 (by decide) (by decide) (by decide)]
    exact ⟨h2.1, h2.2.1, h2.2.2.1, h2.2.2.2.1, h2.2.2.2.2.1, h2.2.2.2.2.2.1, rfl, hp, h2.2.2.2.2.2.2.2.2⟩
  · rw [ed, (h3 d hd').2.2.1]
    unfold hmF
    rw [hs 6 (by decide) (by decide) (by decide), hs 15 (by decide) (by decide) (by decide)]
  · obtain ⟨r1, r2, r3, r4, r5, r6⟩ := h5
    exact ⟨fun d hd' => by rw [hR _ n2]; exact r1 d hd', by rw [hR _ n1]; exact r2, fun j hj => by rw [hR _ n15]; exact r3 j hj, hd, r5, r6⟩
theorem rho_id : rhoF σ σ true := ⟨fun _ _ _ => rfl, fun _ _ => by rw [if_pos rfl]⟩
theorem okS_neg {x : Int32} (h : okS x) : x < 0 ↔ x = -1 := by
  rcases h with e | ⟨m, hm, e⟩
  · rw [e]; decide
  · rw [e]; exact ⟨fun q => absurd q (not_lt0 (by omega)), fun q => absurd q (nI_nm1 (show m < 2 ^ 31 by omega))⟩
/-- what is known of the rows that scores look at -/
def PK (σ : Rows) (n bf nn nr ns : Nat) : Prop := GI σ n bf nn nr ns ∧ NG σ nn ∧ WG σ ∧ SG σ n bf ns
theorem PK.okN (h : PK σ n bf nn nr ns) {d j : Nat} (hd : d < n) (hj : j < nn) : okS (scoreNowF σ n d j) := by
  obtain ⟨hG, hN, hW, hs⟩ := h
  unfold scoreNowF
  by_cases c : there σ d = true
  · rw [if_pos c]
    have h6 : σ 6 d ≠ 0 := by
      intro q
      have c2 := c
      unfold there at c2
      rw [decide_eq_true q] at c2
      exact absurd c2 (by simp)
    exact scV_ok hG hW hN hd h6 j hj
  · rw [if_neg c]; exact Or.inl rfl
theorem x_scoreNow (h : CC A D V τ n bf nn nr ns g) (hT : ∀ t, t ≠ 0 → t ≠ 23 → t ≠ 24 → τ t = σ t) (hce : vCen V 4 σ n) {nr2 : Nat} (hP : PK σ n bf nn nr2 ns) {k j : Nat} (hk : k < n) (hj : j < nn) {Q : Int32 → gS → Prop} (hQ : ∀ g' V', CC A D V' τ n bf nn nr ns g' → (∀ u, u ≠ 37 → V' u = V u) → (∀ a, gR g' a = gR g a) → Q (scoreNowF σ n k j) g') : w_X10_scoreNow g (A 0) (nI k) (nI j) Q := by
  have hc := h
  obtain ⟨hr, hv, hdoc, hnode, hf⟩ := h
  obtain ⟨hG, hN, hW, hs⟩ := hP
  have hn := hG.n
  have hnD := hf.2.2.2.2.1
  have h15 : τ 6 k ≠ 0 → ¬ τ 15 k < 0 := by
    rw [hT 6 (by decide) (by decide) (by decide), hT 15 (by decide) (by decide) (by decide)]
    exact fun q => hs.h15 hn (by omega) (by omega) q
  have et : there τ k = there σ k := by unfold there; rw [hT 5 (by decide) (by decide) (by decide), hT 6 (by decide) (by decide) (by decide)]
  unfold w_X10_scoreNow b_X10_scoreNow_20 b_X10_scoreNow_33
  refine ⟨hr.k0, _, hr.r0_0, hr.k1, x_docAt hc hk ⟨fun q => absurd q (by simp), fun y hy => ?_⟩⟩
  have hy' : y = A (dl k 0) := (Option.some.inj hy).symm
  subst hy'
  refine ⟨hr.d0k (by omega), x_canBeFound hc (by omega) h15 ⟨fun c => ?_, fun c => ?_⟩⟩
  · rw [et] at c
    unfold scoreNowF at hQ
    rw [bI_0.mp c, if_neg (by decide)] at hQ
    exact hQ g V hc (fun _ _ => rfl) (fun _ => rfl)
  · rw [et] at c
    have c1 := bI_n0 c
    have h6 : σ 6 k ≠ 0 := by
      intro q
      have c2 := c1
      unfold there at c2
      rw [decide_eq_true q] at c2
      exact absurd c2 (by simp)
    unfold scoreNowF at hQ
    rw [c1, if_pos rfl] at hQ
    have hvd : ∀ d, d < D → vDoc V σ bf d := fun d hd => vDoc_eq (hdoc d hd) (fun _ _ => rfl) (by rw [(hdoc d hd).2.2.1]; unfold hmF; rw [hT 6 (by decide) (by decide) (by decide), hT 15 (by decide) (by decide) (by decide)]) (fun _ _ _ => rfl) (fun t _ _ e1 e2 => (hT t (by omega) (by omega) (by omega)).symm)
    have hvn : ∀ j, j < nn → vNode V σ j := fun j hj => vNode_eq (hnode j hj) rfl (fun t e1 e2 => (hT t (by omega) (by omega) (by omega)).symm)
    have hlx : vLex V σ := by
      have := hv.lex
      unfold vLex at this ⊢
      rw [hT 10 (by decide) (by decide) (by decide), hT 11 (by decide) (by decide) (by decide), hT 12 (by decide) (by decide) (by decide)] at this
      exact this
    refine ⟨_, hr.r0_6, hr.k36, ?_⟩
    refine x_scoreOf hr (sb := 36) (cb := 4) (ub := true) (Or.inl ⟨rfl, rfl, rfl⟩) hv.2.2.2.2.2.2.2.2.1 hv.2.2.2.2.2.1 hf.2.2.1 hG hG hW rho_id hN hce hlx hk (by omega) h6 (hvd k (by omega)) hvn hj (fun g' V' h' hV' hR' _ => ?_)
    exact hQ g' V' (hc.scr h' (fun u hu => hV' u (by unfold used at hu; omega)) hR') hV' hR'
theorem x_hasNode (h : CR A D nn V g) (e14 : V 14 2 = nI nn) (hnr : ∀ j, j < nn → gR g (A 15) j = some (A (jl j))) {x : Int32} {Q : Int32 → Prop} (hQ : Q (if ¬ inR x 0 (nI nn - 1) then 0 else 1)) : w_X6_hasNode g (A 14) x Q := by
  have hnn := h.nn3
  unfold w_X6_hasNode b_X6_hasNode_13
  refine ⟨h.k14, ?_⟩
  by_cases c : inR x 0 (nI nn - 1)
  · obtain ⟨j, hj, rfl⟩ := inR_nI (by omega) c
    rw [if_neg (not_not_intro c)] at hQ
    exact x_nodeAt h e14 hnr hj ⟨fun q => absurd q (by simp), fun _ _ => ⟨Or.inr rfl, hQ⟩⟩
  · rw [if_pos c] at hQ
    exact x_nodeNo h e14 c ⟨fun _ => ⟨Or.inl rfl, hQ⟩, fun _ q => absurd q (by simp)⟩
/-- is a document better than the one at a place -/
theorem x_better (h : CC A D V τ n bf nn nr ns g) (hn : n ≤ 60) (hnr : nr ≤ 60) {q d e : Nat} (hq : q < nr) (hd : d < n) (he : τ 23 q = nI e) (he6 : e < 60) {v : Int32} {Q : Int32 → Prop} (hQ : Q (bI (decide (τ 24 q < v ∨ (v = τ 24 q ∧ ¬ τ 3 d ≤ τ 3 e))))) : w_X7_isBetter g (A 18) (A (dl d 0)) v (nI q) Q := by
  have hc := h
  obtain ⟨hr, hv, hdoc, _, hf⟩ := h
  have hnD := hf.2.2.2.2.1
  unfold w_X7_isBetter b_X7_isBetter_21 b_X7_isBetter_44 b_X7_isBetter_49
  refine ⟨hr.k18, x_resDoc hc hnr hq he he6 (fun hen => ⟨fun q => absurd q (by simp), fun y hy => ?_⟩)⟩
  have hy' : y = A (dl e 0) := (Option.some.inj hy).symm
  subst hy'
  refine x_valAt hc hnr hq ⟨fun c => x_valAt hc hnr hq ⟨fun c2 => ⟨Or.inr rfl, ?_⟩, fun c2 => ⟨hr.d0k (by omega), hr.d0k (by omega), ?_⟩⟩, fun c => ?_⟩
  · rw [decide_eq_true (Or.inl c2)] at hQ; exact hQ
  · have ev : v = τ 24 q := by
      rw [i32_le] at c
      rw [i32_lt] at c2
      exact (i32_eq _ _).mpr (by omega)
    rw [hr.d0i (by omega), hr.d0i (by omega), (hdoc d (by omega)).1, (hdoc e (by omega)).1]
    refine ⟨fun c3 => ⟨Or.inl rfl, ?_⟩, fun c3 => ⟨Or.inr rfl, ?_⟩⟩
    · rw [decide_eq_false (fun p => p.elim c2 (fun p => p.2 c3))] at hQ; exact hQ
    · rw [decide_eq_true (Or.inr ⟨ev, c3⟩)] at hQ; exact hQ
  · have : ¬ (τ 24 q < v ∨ (v = τ 24 q ∧ ¬ τ 3 d ≤ τ 3 e)) := by
      rw [i32_le] at c
      rintro (p | ⟨p, _⟩)
      · rw [i32_lt] at p; omega
      · rw [p] at c; omega
    rw [decide_eq_false this] at hQ; exact hQ
theorem x_insert (h : CC A D V σ n bf nn nr ns g) (hn : n ≤ 60) (hnr : nr < 60) {d : Nat} (hd : d < n) {v : Int32} {Q : gS → Prop} (hs : σ' = su σ 0 22 (nI (nr + 1))) (hQ : ∀ g' V', CC A D V' (shR v d nr σ') n bf nn (nr + 1) ns g' → (∀ u, u ≠ 18 → u ≠ 20 → u ≠ 21 → V' u = V u) → (∀ a, a ≠ A 19 → gR g' a = gR g a) → Q g') : w_X7_insert g (A 18) (some (A (dl d 0))) (nI d) v Q := by
  have hc := h
  obtain ⟨hr, hv, hdoc, hnode, hf⟩ := h
  have hnD := hf.2.2.2.2.1
  have e18 := hv.2.2.2.2.2.2.1
  have es : ∀ t, t ≠ 0 → σ' t = σ t := fun t ht => by rw [hs, su_row ht]
  unfold w_X7_insert
  refine ⟨fun q => absurd q (by simp), fun y hy => ?_⟩
  have hy' : y = A (dl d 0) := (Option.some.inj hy).symm
  subst hy'
  refine ⟨hr.k18, _, hr.r18_0, hr.k19, ?_⟩
  rw [hr.n19, hr.i18, e18]
  refine ⟨fun _ => ?_, fun c => absurd ((nI_lt_iff (by omega) (by decide)).mpr hnr) c⟩
  -- the last step: the new one is put at place q
  have put : ∀ (τ V1 : Rows) (g1 : gS) (q : Nat), q ≤ nr → CR A D nn V1 g1 → (∀ u, u ≠ 20 → u ≠ 21 → V1 u = V u) → (∀ p, p ≤ nr → p ≠ q → (p < nr ∨ q < nr) → V1 20 p = τ 23 p ∧ V1 21 p = τ 24 p ∧ ∃ e, e < n ∧ τ 23 p = nI e ∧ gR g1 (A 19) p = some (A (dl e 0))) → (∀ t, t ≠ 0 → t ≠ 23 → t ≠ 24 → τ t = σ t) → (∀ a, a ≠ A 19 → gR g1 a = gR g a) → shR v d nr σ' = su (su τ 23 q (nI d)) 24 q v → b_X7_insert_95 g1 (A 18) (A (dl d 0)) (nI d) v (nI q) Q := by
    intro τ V1 g1 q hq h1 hV1 hp hT hR1 ef
    unfold b_X7_insert_95
    refine ⟨h1.k18, _, h1.r18_0, h1.k19, by rw [h1.n19]; exact vpi (by omega), h1.d0k (by omega), fun g2 e2 => ?_⟩
    subst e2
    rw [cl_nI (by omega)]
    have h2 := h1.v 19 25 (KL_f (by decide)) (by decide) (by decide) q rfl (some (A (dl d 0)))
    refine ⟨h2.k18, _, h2.r18_1, h2.k20, by rw [h2.n20]; exact vpi (by omega), fun g3 e3 => ?_⟩
    subst e3
    have h3 := h2.w 20 21 (KL_f (by decide)) (by decide) q (nI d)
    refine ⟨h3.k18, _, h3.r18_2, h3.k21, by rw [h3.n21]; exact vpi (by omega), fun g4 e4 => ?_⟩
    subst e4
    have h4 := h3.w 21 21 (KL_f (by decide)) (by decide) q v
    refine ⟨h4.k18, fun g5 e5 => ?_⟩
    subst e5
    rw [h4.i18, su_row (by decide), su_row (by decide), hV1 18 (by decide) (by decide), e18, nI_1]
    have h5 := h4.w 18 8 (KL_f (by decide)) (by decide) 3 (nI (nr + 1))
    have gv : ∀ a j, gR (sU (sU (sU (sV g1 (A 19) q (some (A (dl d 0)))) (A 20) q (nI d)) (A 21) q v) (A 18) 3 (nI (nr + 1))) a j = if a = A 19 ∧ j = q then some (A (dl d 0)) else gR g1 a j := fun a j => gR_sV
    refine hQ _ (su (su (su V1 20 q (nI d)) 21 q v) 18 3 (nI (nr + 1))) ?_ (fun u a1 a2 a3 => by rw [su_row a1, su_row a3, su_row a2]; exact hV1 u a2 a3) (fun a ha => by funext j; rw [gv, if_neg (fun q => ha q.1), hR1 a ha])
    rw [ef]
    refine hc.res h5 (fun u _ a1 a2 a3 => by rw [su_row a1, su_row a3, su_row a2]; exact hV1 u a2 a3) (by rw [su_at, if_pos rfl]) (fun p hp' => ?_) (fun p hp' => ?_) (fun t t0 t1 t2 => by rw [su_row t2, su_row t1]; exact hT t t0 t1 t2) (fun a ha => by funext j; rw [gv, if_neg (fun q => ha q.1), hR1 a ha])
    · rw [su_row (by decide), su_row (by decide), su_at, su_row (by decide), su_at, su_row (by decide), su_at, su_at, su_row (by decide)]
      by_cases e : p = q
      · rw [if_pos e, if_pos e, if_pos e, if_pos e]; exact ⟨rfl, rfl⟩
      · rw [if_neg e, if_neg e, if_neg e, if_neg e]
        have := hp p (by omega) e (by omega)
        exact ⟨this.1, this.2.1⟩
    · rw [gv, su_row (by decide), su_at]
      by_cases e : p = q
      · rw [if_pos e, if_pos ⟨rfl, e⟩]; exact ⟨d, hd, rfl, rfl⟩
      · rw [if_neg e, if_neg (fun q => e q.2)]
        exact (hp p (by omega) e (by omega)).2.2
  refine lpx2_i nr (fun i g' z => ∃ τ V', z = nI (nr - i) ∧ CR A D nn V' g' ∧ (∀ u, u ≠ 20 → u ≠ 21 → V' u = V u) ∧ (∀ p, p ≤ nr → (p < nr ∨ nr - i < nr) → V' 20 p = τ 23 p ∧ V' 21 p = τ 24 p ∧ ∃ e, e < n ∧ τ 23 p = nI e ∧ gR g' (A 19) p = some (A (dl e 0))) ∧ (∀ t, t ≠ 0 → t ≠ 23 → t ≠ 24 → τ t = σ t) ∧ (∀ a, a ≠ A 19 → gR g' a = gR g a) ∧ shR v d nr σ' = shR v d (nr - i) τ) ?_ ?_ g (nI nr) ⟨σ', V, rfl, hr, fun _ _ _ => rfl, fun p hp hp2 => ?_, fun t h0 _ _ => es t h0, fun _ _ => rfl, rfl⟩
  · rintro i g1 _ hi ⟨τ, V1, rfl, h1, hV1, hp, hT, hR1, ef⟩ K hK
    obtain ⟨q, hq⟩ : ∃ q, nr - i = q + 1 := ⟨nr - i - 1, by omega⟩
    rw [hq] at hp ef ⊢
    unfold l_X7_insert_23
    refine ⟨fun c => absurd ((nI_le_iff (b := 0) (by omega) (by decide)).mp c) (by omega), fun _ => ⟨h1.k18, ?_⟩⟩
    rw [nI_sub1 (by omega), show q + 1 - 1 = q by omega]
    obtain ⟨v20, v21, e, he, e23, er⟩ := hp q (by omega) (Or.inl (by omega))
    have c1 : CC A D V1 τ n bf nn nr ns g1 := hc.res h1 (fun u _ _ a2 a3 => hV1 u a2 a3) (by rw [hV1 18 (by decide) (by decide)]; exact e18) (fun p hp' => ⟨(hp p (by omega) (Or.inl hp')).1, (hp p (by omega) (Or.inl hp')).2.1⟩) (fun p hp' => (hp p (by omega) (Or.inl hp')).2.2) hT hR1
    refine x_better c1 hn (by omega) (by omega) hd e23 (by omega) ⟨fun c => ?_, fun c => ?_⟩
    · have nc : ¬ (τ 24 q < v ∨ (v = τ 24 q ∧ ¬ τ 3 d ≤ τ 3 e)) := by have := bI_0.mp c; exact of_decide_eq_false this
      rw [shR, e23, show cl (nI e) = e from cl_nI (by omega), if_neg nc] at ef
      exact put τ V1 g1 (q + 1) (by omega) h1 hV1 (fun p hp' _ h3 => hp p hp' h3) hT hR1 ef
    · have yc : τ 24 q < v ∨ (v = τ 24 q ∧ ¬ τ 3 d ≤ τ 3 e) := by have := bI_n0 c; exact of_decide_eq_true this
      rw [shR, e23, show cl (nI e) = e from cl_nI (by omega), if_pos yc, ← e23] at ef
      refine ⟨_, h1.r18_0, _, h1.r18_0, h1.k19, by rw [h1.n19]; exact vpi (by omega), fun o ho => ?_⟩
      subst ho
      rw [cl_nI (show q < 2 ^ 31 by omega), er]
      refine ⟨h1.k19, by rw [h1.n19]; exact vpi (by omega), _, rfl, h1.d0k (by omega), fun g2 e2 => ?_⟩
      subst e2
      rw [cl_nI (show q + 1 < 2 ^ 31 by omega)]
      have h2 := h1.v 19 25 (KL_f (by decide)) (by decide) (by decide) (q + 1) rfl (some (A (dl e 0)))
      refine ⟨h2.k18, _, h2.r18_1, _, h2.r18_1, h2.k20, by rw [h2.n20]; exact vpi (by omega), h2.k20, by rw [h2.n20]; exact vpi (by omega), fun g3 e3 => ?_⟩
      subst e3
      rw [h2.i20, v20]
      have h3 := h2.w 20 21 (KL_f (by decide)) (by decide) (q + 1) (τ 23 q)
      refine ⟨h3.k18, _, h3.r18_2, _, h3.r18_2, h3.k21, by rw [h3.n21]; exact vpi (by omega), h3.k21, by rw [h3.n21]; exact vpi (by omega), fun g4 e4 => ?_⟩
      subst e4
      rw [h3.i21, su_row (by decide), v21]
      have h4 := h3.w 21 21 (KL_f (by decide)) (by decide) (q + 1) (τ 24 q)
      have z1 : nI (q + 1) + (-1) = nI (nr - (i + 1)) := by
        rw [show nr - (i + 1) = q by omega, ← nI_1, Int32.add_assoc]; exact Int32.add_zero _
      rw [z1]
      have gv : ∀ a j, gR (sU (sU (sV g1 (A 19) (q + 1) (some (A (dl e 0)))) (A 20) (q + 1) (τ 23 q)) (A 21) (q + 1) (τ 24 q)) a j = if a = A 19 ∧ j = q + 1 then some (A (dl e 0)) else gR g1 a j := fun a j => gR_sV
      refine hK _ _ ⟨su (su τ 23 (q + 1) (τ 23 q)) 24 (q + 1) (τ 24 q), _, rfl, h4, fun u a2 a3 => by rw [su_row a3, su_row a2]; exact hV1 u a2 a3, fun p hp' h3' => ?_, fun t t0 t1 t2 => by rw [su_row t2, su_row t1]; exact hT t t0 t1 t2, fun a ha => by funext j; rw [gv, if_neg (fun q => ha q.1), hR1 a ha], by rw [show nr - (i + 1) = q by omega]; exact ef⟩
      rw [gv, su_row (show (20 : Nat) ≠ 21 by decide), su_at, su_at, su_row (show (21 : Nat) ≠ 20 by decide), su_row (show (23 : Nat) ≠ 24 by decide), su_at, su_at, su_row (show (24 : Nat) ≠ 23 by decide)]
      by_cases ep : p = q + 1
      · rw [if_pos ep, if_pos ep, if_pos ep, if_pos ep, if_pos ⟨rfl, ep⟩]
        exact ⟨rfl, rfl, e, he, e23, rfl⟩
      · rw [if_neg ep, if_neg ep, if_neg ep, if_neg ep, if_neg (fun q => ep q.2)]
        exact hp p hp' (by omega)
  · rintro g1 _ ⟨τ, V1, rfl, h1, hV1, hp, hT, hR1, ef⟩ K
    rw [show nr - nr = 0 by omega] at hp ef ⊢
    unfold l_X7_insert_23
    refine ⟨fun _ => put τ V1 g1 0 (Nat.zero_le _) h1 hV1 (fun p hp' _ h3 => hp p hp' (by omega)) hT hR1 ef, fun c => absurd (by decide) c⟩
  · have hp3 : p < nr := by omega
    have := hv.2.2.2.2.2.2.2.1 p hp3
    rw [es 23 (by decide), es 24 (by decide)]
    exact ⟨this.1, this.2, hf.2.2.2.1 p hp3⟩
end CSEARCH
