/-! THE CLASS: flush and compact -/
theorem nm1_lt {a : Nat} (ha : a < 2 ^ 31) : (-1 : Int32) < nI a := by
  refine (i32_lt _ _).mpr ?_
  rw [nI_toInt ha]
  have e : ((-1 : Int32)).toInt = -1 := rfl
  rw [e]; omega
section CFLUSH
variable {A : Nat → Nat} {D : Nat} {V V' σ σ' ρ : Rows} {n bf nn nr ns cb : Nat} {g g' : gS}
theorem merge_r {a u : Nat} {t : Int32} (h0 : u ≠ 0) (h14 : u ≠ 14) : mergeR σ n a t u = mgK σ a n u := by unfold mergeR; rw [su_row h14, su_row h0]
theorem SG.merge (h : SG σ n bf ns) (hn : n ≤ 60) (hbf : bf ≤ n) {a : Nat} (ha : a ≤ ns) (ha6 : a < 60) {t : Int32} : SG (mergeR σ n a t) n bf (if mgL σ a n = 0 then a else a + 1) := by
  obtain ⟨s1, s2, s3, s4, s5⟩ := h
  have e6 : ∀ i, mergeR σ n a t 6 i = if i < n ∧ ¬ σ 15 i < nI a ∧ ¬ σ 5 i = 0 then 0 else σ 6 i := fun i => by rw [merge_r (by decide) (by decide), mgK_6]
  have e15 : ∀ i, mergeR σ n a t 15 i = if i < n ∧ ¬ σ 15 i < nI a then (if σ 5 i = 0 then nI a else -1) else σ 15 i := fun i => by rw [merge_r (by decide) (by decide), mgK_15]
  have e5 : ∀ i, mergeR σ n a t 5 i = σ 5 i := fun i => by rw [merge_r (by decide) (by decide), mgK_r (by decide) (by decide)]
  have hm1 := nm1_lt (a := a) (by omega)
  refine ⟨fun d hd h6 => ?_, fun d h6 hd => ?_, fun d hd hd6 => ?_, fun d hd h6 => ?_, fun s hs => ?_⟩
  · rw [e6] at h6
    by_cases c : d < n ∧ ¬ σ 15 d < nI a ∧ ¬ σ 5 d = 0
    · rw [if_pos c] at h6; exact absurd rfl h6
    · rw [if_neg c] at h6
      obtain ⟨hb, s, hs, hsd, es⟩ := s1 d hd h6
      refine ⟨hb, ?_⟩
      by_cases c2 : σ 15 d < nI a
      · refine ⟨s, ?_, hsd, by rw [e15, if_neg (fun q => q.2 c2)]; exact es⟩
        rw [es] at c2
        have := (nI_lt_iff (by omega) (by omega)).mp c2
        split <;> omega
      · have c5 : σ 5 d = 0 := Classical.not_not.mp (fun q => c ⟨hd, c2, q⟩)
        have hL : ¬ mgL σ a n = 0 := by
          have := cnt_pos (p := fun i => !decide (σ 15 i < nI a) && decide (σ 5 i = 0)) hd (by rw [decide_eq_false c2, decide_eq_true c5]; rfl)
          unfold mgL; omega
        have : ¬ s < a := fun q => c2 (by rw [es]; exact (nI_lt_iff (by omega) (by omega)).mpr q)
        exact ⟨a, by rw [if_neg hL]; omega, by omega, by rw [e15, if_pos ⟨hd, c2⟩, if_pos c5]⟩
  · rw [e6] at h6
    rw [e15]
    by_cases c : d < n ∧ ¬ σ 15 d < nI a
    · rw [if_pos c]
      by_cases c5 : σ 5 d = 0
      · rw [if_neg (fun q => q.2.2 c5)] at h6
        exact absurd (by rw [s2 d h6 hd]; exact hm1) c.2
      · rw [if_neg c5]
    · rw [if_neg c]
      rw [if_neg (fun q => c ⟨q.1, q.2.1⟩)] at h6
      exact s2 d h6 hd
  · rw [e6, if_neg (fun q => by omega)]; exact s3 d hd hd6
  · rw [e6] at h6
    rw [e5]
    by_cases c : d < n ∧ ¬ σ 15 d < nI a ∧ ¬ σ 5 d = 0
    · exact c.2.2
    · rw [if_neg c] at h6; exact s4 d hd h6
  · by_cases c : s < a
    · obtain ⟨d, hd, h6, es⟩ := s5 s (by omega)
      have : σ 15 d < nI a := by rw [es]; exact (nI_lt_iff (by omega) (by omega)).mpr c
      exact ⟨d, hd, by rw [e6, if_neg (fun q => q.2.1 this)]; exact h6, by rw [e15, if_neg (fun q => q.2 this)]; exact es⟩
    · have hL : ¬ mgL σ a n = 0 := by
        intro q; rw [if_pos q] at hs; omega
      rw [if_neg hL] at hs
      have : s = a := by omega
      subst this
      obtain ⟨d, hd, hp⟩ := cnt_ex (p := fun i => !decide (σ 15 i < nI s) && decide (σ 5 i = 0)) (n := n) (Nat.pos_of_ne_zero hL)
      have hp2 : ¬ σ 15 d < nI s ∧ σ 5 d = 0 := by
        rw [Bool.and_eq_true, decide_eq_true_iff, Bool.not_eq_true', decide_eq_false_iff_not] at hp; exact hp
      refine ⟨d, hd, ?_, by rw [e15, if_pos ⟨hd, hp2.1⟩, if_pos hp2.2]⟩
      rw [e6, if_neg (fun q => q.2.2 hp2.2)]
      intro q
      exact hp2.1 (by rw [s2 d q (by omega)]; exact hm1)
/-- the archive's own labels have changed -/
theorem CC.arc {bf' ns' : Nat} (h : CC A D V σ n bf nn nr ns g) (hr : CR A D nn V' g') (hV : ∀ u, u ≠ 1 → u ≠ 3 → (u < 100 ∨ 2000 ≤ u) → used u → V' u = V u) (h1 : V' 1 1 = V 1 1) (h4 : V' 1 4 = nI ns') (h3 : ∀ s, s < ns' → V' 3 s = σ' 14 s) (hd : ∀ d, d < D → vDoc V' σ' bf' d) (hs : ∀ t, t ≠ 0 → t ≠ 6 → t ≠ 14 → t ≠ 15 → σ' t = σ t) (hR : ∀ a, gR g' a = gR g a) : CC A D V' σ' n bf' nn nr ns' g' := by
  obtain ⟨_, hv, hdoc, hnode, hf⟩ := h
  refine ⟨hr, ?_, hd, fun j hj => vNode_eq (hnode j hj) (hV _ (by unfold jl; omega) (by unfold jl; omega) (Or.inr (by unfold jl; omega)) (by unfold used jl; omega)) (fun t e1 e2 => hs t (by omega) (by omega) (by omega) (by omega)), ?_⟩
  · unfold vInt at hv ⊢
    have e := fun u (e1 : u ≠ 1) (e2 : u ≠ 3) (e3 : u < 100) (e4 : used u) => hV u e1 e2 (Or.inl e3) e4
    rw [h1, h4, e 11 (by decide) (by decide) (by decide) (by unfold used; omega), e 12 (by decide) (by decide) (by decide) (by unfold used; omega), e 13 (by decide) (by decide) (by decide) (by unfold used; omega), e 14 (by decide) (by decide) (by decide) (by unfold used; omega), e 18 (by decide) (by decide) (by decide) (by unfold used; omega), e 20 (by decide) (by decide) (by decide) (by unfold used; omega), e 21 (by decide) (by decide) (by decide) (by unfold used; omega), e 36 (by decide) (by decide) (by decide) (by unfold used; omega), e 38 (by decide) (by decide) (by decide) (by unfold used; omega), e 40 (by decide) (by decide) (by decide) (by unfold used; omega), hs 10 (by decide) (by decide) (by decide) (by decide), hs 11 (by decide) (by decide) (by decide) (by decide), hs 12 (by decide) (by decide) (by decide) (by decide), hs 23 (by decide) (by decide) (by decide) (by decide), hs 24 (by decide) (by decide) (by decide) (by decide)]
    exact ⟨hv.1, rfl, h3, hv.2.2.2⟩
  · unfold cRef at hf ⊢
    simp only [hR, hs 23 (by decide) (by decide) (by decide) (by decide)]
    exact hf
/-- what a flush makes of the rows -/
def Apd (σ σ' : Rows) (n bf ns : Nat) : Prop :=
  (∀ t, t ≠ 0 → t ≠ 6 → t ≠ 14 → t ≠ 15 → σ' t = σ t) ∧ (∀ i, σ' 6 i = if bf ≤ i ∧ i < n then 1 else σ 6 i) ∧ (∀ i, σ' 15 i = if bf ≤ i ∧ i < n then nI ns else σ 15 i) ∧ σ' 14 ns = 0 ∧ ∀ s, s < ns → σ' 14 s = σ 14 s
theorem SG.apd (h : SG σ n bf ns) (hn : n ≤ 60) (hbf : bf < n) (hns : ns ≤ bf) (ha : Apd σ σ' n bf ns) : SG σ' n n (ns + 1) := by
  obtain ⟨s1, s2, s3, s4, s5⟩ := h
  obtain ⟨a1, a2, a3, _, _⟩ := ha
  refine ⟨fun d hd h6 => ⟨hd, ?_⟩, fun d h6 hd => ?_, fun d hd hd6 => ?_, fun d hd h6 => ?_, fun s hs => ?_⟩
  · by_cases c : bf ≤ d ∧ d < n
    · exact ⟨ns, by omega, by omega, by rw [a3, if_pos c]⟩
    · rw [a2, if_neg c] at h6
      obtain ⟨hb, s, hs, hsd, es⟩ := s1 d hd h6
      exact ⟨s, by omega, hsd, by rw [a3, if_neg c]; exact es⟩
  · by_cases c : bf ≤ d ∧ d < n
    · rw [a2, if_pos c] at h6; exact absurd h6 (by decide)
    · rw [a2, if_neg c] at h6; rw [a3, if_neg c]; exact s2 d h6 hd
  · rw [a2, if_neg (fun q => by omega)]; exact s3 d hd hd6
  · by_cases c : bf ≤ d ∧ d < n
    · rw [a2, if_pos c] at h6; exact absurd h6 (by decide)
    · rw [a2, if_neg c] at h6; rw [a1 5 (by decide) (by decide) (by decide) (by decide)]; exact s4 d (by omega) h6
  · by_cases e : s < ns
    · obtain ⟨d, hd, h6, es⟩ := s5 s e
      have := (s1 d hd h6).1
      exact ⟨d, hd, by rw [a2, if_neg (fun q => by omega)]; exact h6, by rw [a3, if_neg (fun q => by omega)]; exact es⟩
    · refine ⟨bf, hbf, by rw [a2, if_pos ⟨Nat.le_refl _, hbf⟩]; decide, ?_⟩
      rw [a3, if_pos ⟨Nat.le_refl _, hbf⟩, show s = ns by omega]
theorem hmF_buf (h : SG σ n bf ns) (hn : n ≤ 60) (hbf : bf ≤ n) (hns : ns ≤ 60) {d : Nat} (hd : d < n) : (hmF σ bf d = -1) ↔ bf ≤ d := by
  unfold hmF
  by_cases c : σ 6 d = 0
  · rw [if_pos c]
    by_cases c2 : d < bf
    · rw [if_pos c2]; exact ⟨fun q => absurd q (by decide), fun q => by omega⟩
    · rw [if_neg c2]; exact ⟨fun _ => by omega, fun _ => rfl⟩
  · rw [if_neg c]
    obtain ⟨hb, s, hs, hsd, es⟩ := h.1 d hd c
    rw [es]
    exact ⟨fun q => absurd q (nI_nm1 (show s < 2 ^ 31 by omega)), fun q => by omega⟩
theorem x_append (h : CC A D V σ n bf nn nr ns g) (hn : n ≤ 60) (hs : SG σ n bf ns) (hbf : bf ≤ n) (hns : ns < 60) (ha : Apd σ σ' n bf ns) {Q : gS → Prop} (hQ : ∀ g' V', CC A D V' σ' n n nn nr (ns + 1) g' → (∀ u, u ≠ 1 → u ≠ 3 → (u < 100 ∨ 2000 ≤ u) → V' u = V u) → (∀ a, gR g' a = gR g a) → Q g') : w_X0_appendSegment g (A 1) Q := by
  have hc := h
  obtain ⟨hr, hv, hdoc, hnode, hf⟩ := h
  have hnD := hf.2.2.2.2.1
  have hDn := hf.2.2.2.2.2
  have hD6 := hr.D6
  unfold w_X0_appendSegment
  refine ⟨hr.k1, _, hr.r1_3, hr.k3, ?_⟩
  rw [hr.i1, hr.n3, hv.2.1]
  refine ⟨fun _ => ?_, fun c => absurd ((nI_lt_iff (by omega) (by decide)).mpr hns) c⟩
  refine lpx2_i n (fun k g' x => x = nI k ∧ ∃ V', CR A D nn V' g' ∧ (∀ u, (u < 100 ∨ 2000 ≤ u) → V' u = V u) ∧ (∀ a, gR g' a = gR g a) ∧ (∀ d r, d < D → 1 ≤ r → r < 20 → V' (dl d r) = V (dl d r)) ∧ (∀ d i, d < D → i ≠ 3 → V' (dl d 0) i = V (dl d 0) i) ∧ ∀ d, d < D → V' (dl d 0) 3 = if bf ≤ d ∧ d < k then nI ns else V (dl d 0) 3) ?_ ?_ _ 0 ⟨rfl, V, hr, fun _ _ => rfl, fun _ => rfl, fun _ _ _ _ _ => rfl, fun _ _ _ _ => rfl, fun d _ => by rw [if_neg (by omega)]⟩
  · rintro k g2 _ hk ⟨rfl, V2, h2, hV, hR, b1, b2, b3⟩ K hK
    have hd2 : ∀ d, d < D → V2 (dl d 0) 3 = V (dl d 0) 3 ∨ bf ≤ d := fun d hd => by
      rw [b3 d hd]
      by_cases c : bf ≤ d ∧ d < k
      · exact Or.inr c.1
      · rw [if_neg c]; exact Or.inl rfl
    have doc : ∀ {Q : Option Nat → Prop}, Q (some (A (dl k 0))) → w_X0_documentAt g2 (A 1) (nI k) Q := by
      intro Q hq
      have hD2 : ∀ d, d < D → vDoc V2 σ (if k ≤ bf then bf else bf) d ∨ True := fun _ _ => Or.inr trivial
      unfold w_X0_documentAt b_X0_documentAt_21 b_X0_documentAt_31
      refine ⟨fun c => absurd c (not_lt0 (by omega)), fun _ => ⟨h2.k1, ?_⟩⟩
      rw [h2.i1, hV 1 (Or.inl (by decide)), hv.1]
      refine ⟨fun c => absurd c (nI_ge hk (by omega)), fun _ => ⟨_, h2.r1_0, h2.k2, ?_⟩⟩
      rw [h2.n2]
      refine ⟨fun _ => ⟨_, h2.r1_0, h2.k2, by rw [h2.n2]; exact vpi (by omega), fun o ho => ?_⟩, fun c => absurd ((nI_lt_iff (by omega) (by decide)).mpr (show k < 60 by omega)) c⟩
      subst ho
      rw [cl_nI (by omega), hR, hf.1 k hk]; exact hq
    unfold l_X0_appendSegment_15 b_X0_appendSegment_49
    refine ⟨h2.k1, ?_⟩
    rw [h2.i1, hV 1 (Or.inl (by decide)), hv.1, nI_1]
    refine ⟨fun c => absurd c (nI_ge hk (by omega)), fun _ => doc ⟨fun q => absurd q (by simp), fun y hy => ?_⟩⟩
    have hy' : y = A (dl k 0) := (Option.some.inj hy).symm
    subst hy'
    refine ⟨h2.d0k (by omega), ?_⟩
    rw [h2.d0i (by omega), b3 k (by omega), if_neg (by omega), (hdoc k (by omega)).2.2.1, hmF_buf hs hn hbf (by omega) hk]
    refine ⟨fun c g3 e3 => ?_, fun c => ?_⟩
    · subst e3
      rw [hv.2.1]
      refine hK _ _ ⟨rfl, _, h2.w (dl k 0) 3 (KL_d (by omega) (by omega) (by decide)) (by decide) 3 (nI ns), fun u hu => by rw [su_row (by unfold dl; omega)]; exact hV u hu, fun a => hR a, fun d r hd h1 h20 => by rw [su_row (by unfold dl; omega)]; exact b1 d r hd h1 h20, fun d i hd hi => ?_, fun d hd => ?_⟩
      · by_cases e : d = k
        · subst e; rw [su_at, if_neg hi]; exact b2 d i hd hi
        · rw [su_row (by unfold dl; omega)]; exact b2 d i hd hi
      · by_cases e : d = k
        · subst e; rw [su_at, if_pos rfl, if_pos ⟨c, by omega⟩]
        · rw [su_row (by unfold dl; omega), b3 d hd]
          by_cases c2 : bf ≤ d ∧ d < k
          · rw [if_pos c2, if_pos ⟨c2.1, by omega⟩]
          · rw [if_neg c2, if_neg (fun q => c2 ⟨q.1, by omega⟩)]
    · refine hK _ _ ⟨rfl, V2, h2, hV, hR, b1, b2, fun d hd => ?_⟩
      rw [b3 d hd]
      by_cases c2 : bf ≤ d ∧ d < k
      · rw [if_pos c2, if_pos ⟨c2.1, by omega⟩]
      · rw [if_neg c2, if_neg (fun q => by
          by_cases e : d = k
          · exact c (by omega)
          · exact c2 ⟨q.1, by omega⟩)]
  · rintro g2 _ ⟨rfl, V2, h2, hV, hR, b1, b2, b3⟩ K
    unfold l_X0_appendSegment_15
    refine ⟨h2.k1, ?_⟩
    rw [h2.i1, hV 1 (Or.inl (by decide)), hv.1]
    refine ⟨fun _ => ⟨_, h2.r1_3, h2.k3, ?_⟩, fun c => absurd (nI_le (Nat.le_refl _) (by omega)) c⟩
    rw [h2.n3, hv.2.1]
    refine ⟨vpi hns, fun g3 e3 => ?_⟩
    subst e3
    rw [cl_nI (by omega)]
    have h3 := h2.w 3 21 (KL_f (by decide)) (by decide) ns 0
    refine ⟨h3.k1, fun g4 e4 => ?_⟩
    subst e4
    rw [h3.i1, su_row (by decide), hV 1 (Or.inl (by decide)), hv.2.1, nI_1]
    have h4 := h3.w 1 1 (KL_f (by decide)) (by decide) 4 (nI (ns + 1))
    obtain ⟨p1, p6, p15, p14, p14'⟩ := ha
    refine hQ _ _ (hc.arc h4 (fun u e1 e3 e4 _ => by rw [su_row e1, su_row e3]; exact hV u e4) ?_ ?_ (fun s hs' => ?_) (fun d hd => ?_) p1 (fun a => hR a)) (fun u e1 e3 e4 => by rw [su_row e1, su_row e3]; exact hV u e4) (fun a => hR a)
    · rw [su_at, if_neg (by decide), su_row (by decide), hV 1 (Or.inl (by decide))]
    · rw [su_at, if_pos rfl]
    · rw [su_row (by decide), su_at]
      by_cases e : s = ns
      · rw [if_pos e, e, p14]
      · rw [if_neg e, hV 3 (Or.inl (by decide)), hv.2.2.1 s (by omega), p14' s (by omega)]
    · have ed : ∀ r, su (su V2 3 ns 0) 1 4 (nI (ns + 1)) (dl d r) = V2 (dl d r) := fun r => by rw [su_row (by unfold dl; omega), su_row (by unfold dl; omega)]
      refine vDoc_eq (hdoc d hd) (fun i hi => by rw [ed]; exact b2 d i hd hi) ?_ (fun r h1 h20 => by rw [ed]; exact b1 d r hd h1 h20) (fun t e1 e2 e3 e4 => p1 t (by omega) e1 (by omega) e2)
      rw [ed, b3 d hd, (hdoc d hd).2.2.1]
      unfold hmF
      rw [p6, p15]
      by_cases c : bf ≤ d ∧ d < n
      · rw [if_pos c, if_pos c, if_pos c, if_neg (by decide)]
      · rw [if_neg c, if_neg c, if_neg c]
        by_cases c6 : σ 6 d = 0
        · rw [if_pos c6, if_pos c6]
          by_cases c7 : d < bf
          · rw [if_pos c7, if_pos (by omega)]
          · rw [if_neg c7, if_neg (by omega)]
        · rw [if_neg c6, if_neg c6]
theorem x_lastThree (h : CC A D V σ n bf nn nr ns g) (hns : ns ≤ 60) (e13 : σ 0 13 = nI ns) {Q : Int32 → Prop} (hQ : Q (bI (decide (c3 σ)))) : w_X0_lastThreeAreAlike g (A 1) Q := by
  have hc := h
  obtain ⟨hr, hv, hdoc, hnode, hf⟩ := h
  have ecl : cl (σ 0 13) = ns := by rw [e13]; exact cl_nI (by omega)
  unfold w_X0_lastThreeAreAlike b_X0_lastThreeAreAlike_46 b_X0_lastThreeAreAlike_47
  refine ⟨hr.k1, ?_⟩
  rw [hr.i1, hv.2.1]
  rcases Nat.lt_or_ge ns 3 with q | q
  · have nc : ¬ c3 σ := fun c => by have := c.1; rw [ecl] at this; omega
    rw [decide_eq_false nc] at hQ
    refine ⟨fun _ => ⟨Or.inl rfl, hQ⟩, fun c => ?_⟩
    exfalso; apply c
    rcases ns with _ | _ | _ | ns
    · decide
    · decide
    · decide
    · omega
  · have x1 : nI ns - 1 = nI (ns - 1) := nI_sub1 (by omega)
    have x2 : nI (ns - 1) - 1 = nI (ns - 2) := nI_sub1 (n := ns - 1) (by omega)
    have x3 : nI (ns - 1) - 2 = nI (ns - 3) := by
      have : nI (ns - 1) = nI (ns - 3) + 2 := by rw [show (2 : Int32) = nI 2 from rfl, nI_add, show ns - 3 + 2 = ns - 1 by omega]
      rw [this]; exact Int32.add_sub_cancel _ _
    rw [x1, x2, x3]
    refine ⟨fun c => ?_, fun _ => ?_⟩
    · have := (nI_lt_iff (b := 2) (show ns - 1 < 2 ^ 31 by omega) (by decide)).mp c
      omega
    · refine x_tierAt hc hns (by omega) (x_tierAt hc hns (by omega) ⟨fun c => x_tierAt hc hns (by omega) (x_tierAt hc hns (by omega) ⟨fun c2 => ⟨Or.inr rfl, ?_⟩, fun c2 => ⟨Or.inl rfl, ?_⟩⟩), fun c => ⟨Or.inl rfl, ?_⟩⟩)
      · have : c3 σ := ⟨by rw [ecl]; omega, by rw [ecl]; exact c, by rw [ecl, ← c]; exact c2⟩
        rw [decide_eq_true this] at hQ; exact hQ
      · have : ¬ c3 σ := fun p => by
          have p2 := p.2; rw [ecl] at p2
          exact c2 (by rw [c]; exact p2.2)
        rw [decide_eq_false this] at hQ; exact hQ
      · have : ¬ c3 σ := fun p => by
          have p2 := p.2; rw [ecl] at p2
          exact c p2.1
        rw [decide_eq_false this] at hQ; exact hQ
theorem lnF_m {σ τ : Rows} {d f : Nat} (h : τ 7 = σ 7) : lnF τ d f = lnF σ d f := by unfold lnF; rw [h]
theorem flL_r {u : Nat} (h0 : u ≠ 0) (h6 : u ≠ 6) (h14 : u ≠ 14) (h15 : u ≠ 15) : ∀ k (σ : Rows), flL n k σ u = σ u
  | 0, σ => rfl
  | k + 1, σ => by
    rw [flL]; split
    · rw [flL_r h0 h6 h14 h15 k, merge_r h0 h14, mgK_r h15 h6]
    · rfl
/-- the merging behind a flush, and the census -/
theorem x_flLoop {many : Int32} (h : CC A D V σ n n nn nr ns g) (hn : n ≤ 60) (hs : SG σ n n ns) (hl : ∀ d f, d < n → f < 3 → lnF σ d f ≤ 12) (hns : ns ≤ 60) (e13 : σ 0 13 = nI ns) {Q : Int32 → gS → Prop} (hQ : ∀ g' V' ns', CC A D V' (flL n 60 σ) n n nn nr ns' g' → vCen V' 4 (flL n 60 σ) n → SG (flL n 60 σ) n n ns' → flL n 60 σ 0 13 = nI ns' → ns' ≤ 60 → (∀ u, u ≠ 1 → u ≠ 3 → (u < 4 ∨ 9 < u) → (u < 100 ∨ 2000 ≤ u) → V' u = V u) → (∀ a, gR g' a = gR g a) → Q many g') : b_X0_flushBuffer_13 g (A 1) many Q := by
  have hc0 := h
  unfold b_X0_flushBuffer_13
  have fin : ∀ (σk : Rows) (nk : Nat) (V2 : Rows) (g2 : gS), CC A D V2 σk n n nn nr nk g2 → SG σk n n nk → σk 0 13 = nI nk → nk ≤ 60 → σk 7 = σ 7 → (∀ u, u ≠ 1 → u ≠ 3 → (u < 100 ∨ 2000 ≤ u) → V2 u = V u) → (∀ a, gR g2 a = gR g a) → σk = flL n 60 σ → b_X0_flushBuffer_57 g2 (A 1) many Q := by
    intro σk nk V2 g2 c2 s2 e2 n2 e7 hV hR ef
    subst ef
    unfold b_X0_flushBuffer_57
    refine ⟨c2.1.k1, x_recount c2 hn (fun d f hd hf => by rw [lnF_m e7]; exact hl d f hd hf) s2 (fun g3 V3 c3 hV3 hR3 hce => ?_)⟩
    exact hQ g3 V3 nk c3 hce s2 e2 n2 (fun u e1 e3 e4 e5 => by rw [hV3 u e4]; exact hV u e1 e3 e5) (fun a => by rw [hR3]; exact hR a)
  refine lpx2_i 60 (fun k g' x => x = nI k ∧ ∃ σk nk V', CC A D V' σk n n nn nr nk g' ∧ SG σk n n nk ∧ σk 0 13 = nI nk ∧ nk ≤ 60 ∧ flL n (60 - k) σk = flL n 60 σ ∧ σk 7 = σ 7 ∧ (∀ u, u ≠ 1 → u ≠ 3 → (u < 100 ∨ 2000 ≤ u) → V' u = V u) ∧ ∀ a, gR g' a = gR g a) ?_ ?_ g 0 ⟨rfl, σ, ns, V, h, hs, e13, hns, rfl, rfl, fun _ _ _ _ => rfl, fun _ => rfl⟩
  · rintro k g1 _ hk ⟨rfl, σk, nk, V1, c1, s1, e1, n1, ef, e7, hV, hR⟩ K hK
    rw [show 60 - k = (60 - (k + 1)) + 1 by omega, flL] at ef
    unfold l_X0_flushBuffer_15
    refine ⟨fun c => absurd c (nI_ge hk (by decide)), fun _ => ⟨c1.1.k1, x_lastThree c1 n1 e1 ⟨fun c => ?_, fun c => ?_⟩⟩⟩
    · have nc : ¬ c3 σk := by have := bI_0.mp c; simpa using this
      rw [if_neg nc] at ef
      exact fin σk nk V1 g1 c1 s1 e1 n1 e7 hV hR ef
    · have yc : c3 σk := by have := bI_n0 c; simpa using this
      rw [if_pos yc] at ef
      have ecl : cl (σk 0 13) = nk := by rw [e1]; exact cl_nI (by omega)
      have y0 := yc.1
      rw [ecl] at y0 ef
      have x1 : nI nk - 1 = nI (nk - 1) := nI_sub1 (by omega)
      have x3 : nI nk - 3 = nI (nk - 3) := by
        have : nI nk = nI (nk - 3) + 3 := by rw [show (3 : Int32) = nI 3 from rfl, nI_add, show nk - 3 + 3 = nk by omega]
        rw [this]; exact Int32.add_sub_cancel _ _
      rw [c1.1.i1, c1.2.1.2.1, x1, x3]
      refine x_tierAt c1 n1 (by omega) (x_mergeFrom c1 hn s1 (show nk - 3 < 60 by omega) (by omega) (fun g2 V2 c2 hV2 hR2 => ?_))
      rw [nI_1]
      refine hK _ _ ⟨rfl, _, _, V2, c2, s1.merge hn (Nat.le_refl _) (by omega) (by omega), ?_, ?_, ef, ?_, fun u a1 a2 a3 => by rw [hV2 u a1 a2 a3]; exact hV u a1 a2 a3, fun a => by rw [hR2]; exact hR a⟩
      · rw [merge_13]; split <;> rfl
      · split <;> omega
      · rw [merge_r (by decide) (by decide), mgK_r (by decide) (by decide)]; exact e7
  · rintro g1 _ ⟨rfl, σk, nk, V1, c1, s1, e1, n1, ef, e7, hV, hR⟩ K
    unfold l_X0_flushBuffer_15
    exact ⟨fun _ => fin σk nk V1 g1 c1 s1 e1 n1 e7 hV hR ef, fun c => absurd (by decide) c⟩
theorem flA_15 {s : Int32} : ∀ k i, flA σ bf s k 15 i = if bf ≤ i ∧ i < bf + k then s else σ 15 i
  | 0, i => by rw [if_neg (by omega)]; rfl
  | k + 1, i => by
    rw [flA, su_row (by decide), su_at]
    by_cases e : i = bf + k
    · rw [if_pos e, if_pos (by omega)]
    · rw [if_neg e, flA_15 k i]
      by_cases c : bf ≤ i ∧ i < bf + k
      · rw [if_pos c, if_pos (by omega)]
      · rw [if_neg c, if_neg (by omega)]
theorem flA_6 {s : Int32} : ∀ k i, flA σ bf s k 6 i = if bf ≤ i ∧ i < bf + k then 1 else σ 6 i
  | 0, i => by rw [if_neg (by omega)]; rfl
  | k + 1, i => by
    rw [flA, su_at]
    by_cases e : i = bf + k
    · rw [if_pos e, if_pos (by omega)]
    · rw [if_neg e, su_row (by decide), flA_6 k i]
      by_cases c : bf ≤ i ∧ i < bf + k
      · rw [if_pos c, if_pos (by omega)]
      · rw [if_neg c, if_neg (by omega)]
theorem cnt_from {bf : Nat} : ∀ {n : Nat}, bf ≤ n → cnt (fun d => decide (bf ≤ d)) n = n - bf
  | 0, h => by rw [show bf = 0 by omega]; rfl
  | n + 1, h => by
    rw [cnt]
    by_cases e : bf ≤ n
    · rw [cnt_from e, decide_eq_true e, if_pos rfl]; omega
    · rw [cnt_zero (fun k hk => decide_eq_false (by omega)), decide_eq_false e]
      have : bf = n + 1 := by omega
      subst this; simp
theorem SG.nsb (h : SG σ n bf ns) (hn : n ≤ 60) (hns : ns ≤ 60) : ns ≤ bf := by
  rcases Nat.eq_zero_or_pos ns with e | e
  · omega
  · obtain ⟨d, hd, h6, es⟩ := h.2.2.2.2 (ns - 1) (by omega)
    obtain ⟨hb, s, hs, hsd, e2⟩ := h.1 d hd h6
    have : s = ns - 1 := (nI_inj (by omega) (by omega)).mp (by rw [← e2, es])
    omega
theorem SG.same (h : SG σ n bf ns) (h5 : σ' 5 = σ 5) (h6 : σ' 6 = σ 6) (h15 : σ' 15 = σ 15) : SG σ' n bf ns := by
  unfold SG at h ⊢; rw [h5, h6, h15]; exact h
theorem CC.rows0 (h : CC A D V σ n bf nn nr ns g) (hs : ∀ t, t ≠ 0 → σ' t = σ t) : CC A D V σ' n bf nn nr ns g := by
  obtain ⟨h1, h2, h3, h4, h5⟩ := h
  refine ⟨h1, ?_, fun d hd => vDoc_eq (h3 d hd) (fun _ _ => rfl) ?_ (fun _ _ _ => rfl) (fun t _ _ e _ => hs t (by omega)), fun j hj => vNode_eq (h4 j hj) rfl (fun t e _ => hs t (by omega)), ?_⟩
  · unfold vInt at h2 ⊢
    rw [hs 14 (by decide), hs 10 (by decide), hs 11 (by decide), hs 12 (by decide), hs 23 (by decide), hs 24 (by decide)]; exact h2
  · rw [(h3 d hd).2.2.1]; unfold hmF; rw [hs 6 (by decide), hs 15 (by decide)]
  · unfold cRef at h5 ⊢
    rw [hs 23 (by decide)]; exact h5
theorem x_flush (h : CC A D V σ n bf nn nr ns g) (hG : GI σ n bf nn nr ns) (hs : SG σ n bf ns) (hl : ∀ d f, d < n → f < 3 → lnF σ d f ≤ 12) {Q : Int32 → gS → Prop} (hQ : ∀ g' V' ns', CC A D V' (S_flush σ).2.2 n n nn nr ns' g' → vCen V' 4 (S_flush σ).2.2 n → SG (S_flush σ).2.2 n n ns' → (S_flush σ).2.2 0 13 = nI ns' → ns' ≤ 60 → (∀ u, u ≠ 1 → u ≠ 3 → (u < 4 ∨ 9 < u) → (u < 100 ∨ 2000 ≤ u) → V' u = V u) → (∀ a, gR g' a = gR g a) → Q (S_flush σ).2.1 g') : w_X0_flushBuffer g (A 1) Q := by
  have hn := hG.n
  have hbf : bf ≤ n := hG.1.2.1
  have hns6 := hG.ns6
  have hnsb := hs.nsb hn (by omega)
  unfold w_X0_flushBuffer w_X0_bufferSize
  refine ⟨h.1.k1, h.1.k1, x_countAt h hn ?_⟩
  rw [cnt_congr (q := fun d => decide (bf ≤ d)) (fun d hd => by rw [decide_eq_decide]; exact hmF_buf hs hn hbf (by omega) hd), cnt_from hbf]
  have e1 : (S_flush σ).2.1 = nI (n - bf) := by
    show σ 0 1 - σ 0 9 = _
    rw [hG.d1, hG.d9, show n = (n - bf) + bf by omega, ← nI_add, show n - bf + bf - bf = n - bf by omega]
    exact Int32.add_sub_cancel _ _
  rw [e1] at hQ
  have e2 : (S_flush σ).2.2 = flL n 60 (su (flB σ) 0 9 (nI n)) := by
    show flL (nF σ) 60 (su (flB σ) 0 9 (σ 0 1)) = _
    rw [hG.nF, hG.d1]
  rw [e2] at hQ
  refine ⟨fun c => ?_, fun c => ?_⟩
  · have e0 : n = bf := by
      have := (nI_le_iff (b := 0) (show n - bf < 2 ^ 31 by omega) (by decide)).mp c
      omega
    subst e0
    have eB : flB σ = tz σ 0 := by
      unfold flB
      rw [hG.d1, hG.d9, if_neg (fun q => by have := (nI_lt_iff (by omega) (by omega)).mp q; omega)]
    rw [eB] at hQ
    have er : ∀ t, t ≠ 0 → su (tz σ 0) 0 9 (nI n) t = σ t := fun t ht => by rw [su_row ht, tz_r ht]
    refine x_flLoop (h.rows0 er) hn (hs.same (er 5 (by decide)) (er 6 (by decide)) (er 15 (by decide))) (fun d f hd hf => by rw [lnF_m (er 7 (by decide))]; exact hl d f hd hf) (by omega) ?_ hQ
    rw [su_at, if_neg (by decide), tz_0 (by decide)]; exact hG.d13
  · have hlt : bf < n := by
      rcases Nat.lt_or_ge bf n with q | q
      · exact q
      · exact absurd (by rw [show n - bf = 0 by omega]; decide) c
    have eB : flB σ = su (su (flA (tz σ 0) bf (nI ns) (n - bf)) 0 13 (nI (ns + 1))) 14 ns 0 := by
      unfold flB
      rw [hG.nF, hG.d13, hG.d9, hG.d1, if_pos ((nI_lt_iff (by omega) (by omega)).mpr hlt), show cl (nI bf) = bf from cl_nI (by omega), show cl (nI ns) = ns from cl_nI (by omega), nI_1]
    rw [eB] at hQ
    have hA : Apd σ (su (su (su (flA (tz σ 0) bf (nI ns) (n - bf)) 0 13 (nI (ns + 1))) 14 ns 0) 0 9 (nI n)) n bf ns := by
      refine ⟨fun t h0 h6 h14 h15 => ?_, fun i => ?_, fun i => ?_, ?_, fun s hs' => ?_⟩
      · rw [su_row h0, su_row h14, su_row h0, flA_0 h15 h6, tz_r h0]
      · rw [su_row (by decide), su_row (by decide), su_row (by decide), flA_6, show bf + (n - bf) = n by omega, tz_r (by decide)]
      · rw [su_row (by decide), su_row (by decide), su_row (by decide), flA_15, show bf + (n - bf) = n by omega, tz_r (by decide)]
      · rw [su_row (by decide), su_at, if_pos rfl]
      · rw [su_row (by decide), su_at, if_neg (by omega), su_row (by decide), flA_0 (by decide) (by decide), tz_r (by decide)]
    refine x_append h hn hs hbf (by omega) hA (fun g1 V1 c1 hV1 hR1 => ?_)
    refine x_flLoop c1 hn (hs.apd hn hlt hnsb hA) (fun d f hd hf => by rw [lnF_m (hA.1 7 (by decide) (by decide) (by decide) (by decide))]; exact hl d f hd hf) (by omega) ?_ (fun g' V' ns' a1 a2 a3 a4 a5 a6 a7 => hQ g' V' ns' a1 a2 a3 a4 a5 (fun u b1 b2 b3 b4 => by rw [a6 u b1 b2 b3 b4]; exact hV1 u b1 b2 b4) (fun a => by rw [a7]; exact hR1 a))
    rw [su_at, if_neg (by decide), su_row (by decide), su_at, if_pos rfl]
theorem x_compact (h : CC A D V σ n bf nn nr ns g) (hG : GI σ n bf nn nr ns) (hs : SG σ n bf ns) (hce : vCen V 4 σ n) (hl : ∀ d f, d < n → f < 3 → lnF σ d f ≤ 12) {Q : Int32 → gS → Prop} (hQ : ∀ g' V' ns', CC A D V' (S_compact σ).2.2 n bf nn nr ns' g' → vCen V' 4 (S_compact σ).2.2 n → SG (S_compact σ).2.2 n bf ns' → (S_compact σ).2.2 0 13 = nI ns' → ns' ≤ 60 → (∀ u, u ≠ 1 → u ≠ 3 → (u < 4 ∨ 9 < u) → (u < 100 ∨ 2000 ≤ u) → V' u = V u) → (∀ a, gR g' a = gR g a) → Q (S_compact σ).2.1 g') : w_X0_mergeAll g (A 1) Q := by
  have hn := hG.n
  have hbf : bf ≤ n := hG.1.2.1
  have hns6 := hG.ns6
  unfold w_X0_mergeAll
  refine ⟨h.1.k1, ?_⟩
  rw [h.1.i1, h.2.1.2.1]
  unfold S_compact at hQ
  rw [hG.d13, hG.nF, show cl (nI ns) = ns from cl_nI (by omega)] at hQ
  have er : ∀ t, t ≠ 0 → tz σ 0 t = σ t := fun t ht => tz_r ht
  have ht := h.rows0 er
  have st := hs.same (er 5 (by decide)) (er 6 (by decide)) (er 15 (by decide))
  refine ⟨fun c => ?_, fun c => ?_⟩
  · rw [if_pos c] at hQ
    refine hQ g V ns ht ?_ st ?_ (by omega) (fun _ _ _ _ _ => rfl) (fun _ => rfl)
    · unfold vCen lyF leF spF lnF tmF at hce ⊢
      show _ ∧ _ ∧ _
      rw [show (good σ 0).2.2 = tz σ 0 from rfl, er 6 (by decide), er 7 (by decide), er 8 (by decide)]
      exact hce
    · show tz σ 0 0 13 = _
      rw [tz_0 (by decide)]; exact hG.d13
  · rw [if_neg c] at hQ
    have emx : ∀ k, mxF (tz σ 0) k = mxF σ k := fun k => by
      induction k with
      | zero => rfl
      | succ k ih => rw [mxF, mxF, ih, er 14 (by decide)]
    refine lpx2_s ns (fun k => mxF σ k) (fun k => nI k) rfl rfl (fun k hk K hK => ?_) (fun K => ?_)
    · unfold l_X0_mergeAll_13
      refine ⟨h.1.k1, ?_⟩
      rw [h.1.i1, h.2.1.2.1]
      refine ⟨fun c => absurd c (nI_ge hk (by omega)), fun _ => x_tierAt h (by omega) hk ?_⟩
      rw [nI_1]; exact hK
    · unfold l_X0_mergeAll_13
      refine ⟨h.1.k1, ?_⟩
      rw [h.1.i1, h.2.1.2.1]
      refine ⟨fun _ => ?_, fun c => absurd (nI_le (Nat.le_refl _) (by omega)) c⟩
      refine x_mergeFrom (a := 0) ht hn st (by decide) (Nat.zero_le _) (fun g1 V1 c1 hV1 hR1 => ?_)
      refine ⟨c1.1.k1, ?_⟩
      have s1 := st.merge hn hbf (a := 0) (t := mxF σ ns) (Nat.zero_le _) (by decide)
      refine x_recount c1 hn (fun d f hd hf => by rw [lnF_m (merge_r (by decide) (by decide)), lnF_m (mgK_r (by decide) (by decide) _), lnF_m (er 7 (by decide))]; exact hl d f hd hf) s1 (fun g2 V2 c2 hV2 hR2 hc2 => ?_)
      have eD : mgD (tz σ 0) 0 n = mgD σ 0 n := by unfold mgD; rw [er 15 (by decide), er 5 (by decide)]
      rw [eD]
      refine hQ g2 V2 _ c2 hc2 s1 ?_ ?_ (fun u e1 e2 e3 e4 => by rw [hV2 u e3]; exact hV1 u e1 e2 e4) (fun a => by rw [hR2]; exact hR1 a)
      · show mergeR (tz σ 0) n 0 (mxF σ ns) 0 13 = _
        rw [merge_13]; split <;> rfl
      · split <;> omega
end CFLUSH
