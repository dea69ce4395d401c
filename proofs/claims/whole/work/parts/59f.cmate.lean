/-! THE CLASS: which terms go together -/
section CMATE
variable {A : Nat → Nat} {D : Nat} {V V' σ σ' τ ρ : Rows} {n bf nn nr ns cb : Nat} {g g' : gS}
def anyF (σ : Rows) (d t : Nat) : Bool := orB (fun f => hasB (tmF σ d f) (lnF σ d f) (nI t)) 3
theorem hasF_any {d t : Nat} (h : σ 10 t = 0) : hasF σ d t = anyF σ d t := by
  unfold hasF anyF
  congr 1
  funext f
  unfold ctN
  rw [if_pos h]
  cases e : hasB (tmF σ d f) (lnF σ d f) (nI t)
  · rw [cnt_zero (fun k hk => decide_eq_false (fun q => by
      have := hasB_iff.mpr ⟨k, hk, q⟩
      rw [e] at this; exact absurd this (by decide)))]; rfl
  · obtain ⟨k, hk, ek⟩ := hasB_iff.mp e
    have := cnt_pos (p := fun k => decide (tmF σ d f k = nI t)) hk (decide_eq_true ek)
    rw [decide_eq_false (by omega)]; rfl
theorem tmN_0 {d f t : Nat} : (0 < tmN σ d f t) ↔ hasB (tmF σ d f) (lnF σ d f) (nI t) = true := by
  unfold tmN
  constructor
  · intro q
    obtain ⟨k, hk, e⟩ := cnt_ex (show 0 < cnt (fun p => decide (tmF σ d f p = nI t)) (lnF σ d f) by omega)
    exact hasB_iff.mpr ⟨k, hk, of_decide_eq_true e⟩
  · intro q
    obtain ⟨k, hk, ek⟩ := hasB_iff.mp q
    exact cnt_pos hk (decide_eq_true ek)
theorem x_hasAny (h : CR A D nn V g) {d t : Nat} (hd : d < D) (ht : t < 200) (hl : ∀ f, f < 3 → lnF σ d f ≤ 12) (hv : ∀ f, f < 3 → vRow V σ d f) {Q : Int32 → Prop} (hQ : Q (bI (anyF σ d t))) : w_X2_hasAnywhere g (A (dl d 0)) (nI t) Q := by
  unfold w_X2_hasAnywhere
  refine lpx1_i 3 (fun k x => x = nI k ∧ orB (fun f => hasB (tmF σ d f) (lnF σ d f) (nI t)) k = false) ?_ ?_ 0 ⟨rfl, rfl⟩
  · rintro k _ hk ⟨rfl, hf⟩ K hK
    unfold l_X2_hasAnywhere_2 b_X2_hasAnywhere_32
    refine ⟨h.d0k hd, _, h.d0r hd, h.d1k hd, ?_⟩
    rw [h.d1n hd, nI_1]
    refine ⟨fun c => absurd c (nI_ge hk (by decide)), fun _ => ⟨_, h.d0r hd, h.d1k hd, by rw [h.d1n hd]; exact vpi hk, fun o ho => ?_⟩⟩
    subst ho
    rw [cl_nI (by omega), h.d1r hd hk]
    refine ⟨fun q => absurd q (by simp), fun y hy => ?_⟩
    have hy' : y = A (dl d (2 + k)) := (Option.some.inj hy).symm
    subst hy'
    have hle : tmN σ d k t ≤ 12 := Nat.le_trans (cnt_le _ _) (hl k hk)
    refine ⟨h.tk hd hk, x_countOf h hd hk (hl k hk) (hv k hk) ht ⟨fun c => hK _ ⟨rfl, ?_⟩, fun c => ?_⟩⟩
    · have h0 := (nI_le_iff (b := 0) (show tmN σ d k t < 2 ^ 31 by omega) (by decide)).mp c
      rw [orB, hf, Bool.false_or]
      cases e : hasB (tmF σ d k) (lnF σ d k) (nI t)
      · rfl
      · have := tmN_0.mpr e; omega
    · have h0 : 0 < tmN σ d k t := by
        rcases Nat.eq_zero_or_pos (tmN σ d k t) with q | q
        · exact absurd (by rw [q]; decide) c
        · exact q
      have : anyF σ d t = true := orB_iff.mpr ⟨k, hk, tmN_0.mp h0⟩
      rw [this] at hQ; exact hQ
  · rintro _ ⟨rfl, hf⟩ K
    unfold l_X2_hasAnywhere_2
    refine ⟨h.d0k hd, _, h.d0r hd, h.d1k hd, ?_⟩
    rw [h.d1n hd]
    refine ⟨fun _ => ?_, fun c => absurd (nI_le (Nat.le_refl _) (by decide)) c⟩
    unfold anyF at hQ
    rw [hf] at hQ; exact hQ
theorem x_isTerm {x : Int32} {Q : Int32 → Prop} (hQ : Q (if ¬ isT x then 0 else 1)) : w_X10_isTerm g x Q := by
  unfold w_X10_isTerm b_X10_isTerm_15 b_X10_isTerm_16
  refine ⟨fun c => ⟨Or.inl rfl, ?_⟩, fun c => ⟨fun c2 => ⟨Or.inl rfl, ?_⟩, fun c2 => ⟨Or.inr rfl, ?_⟩⟩⟩
  · rw [if_pos (fun q => q (Or.inl c))] at hQ; exact hQ
  · rw [if_pos (fun q => q (Or.inr (by rw [i32_lt]; rw [i32_le] at c2; have e : (200 : Int32).toInt = 200 := rfl; have e2 : (199 : Int32).toInt = 199 := rfl; omega)))] at hQ; exact hQ
  · rw [if_neg (not_not_intro (fun q => q.elim c (fun q => c2 (by rw [i32_lt] at q; rw [i32_le]; have e : (200 : Int32).toInt = 200 := rfl; have e2 : (199 : Int32).toInt = 199 := rfl; omega))))] at hQ; exact hQ
theorem nI_isT {t : Nat} (ht : t < 200) : isT (nI t) := nI_inR (n := 200) (by decide) ht
def sel (b : Bool) (x y : Int32) : Int32 := if b = true then x else y
/-- the three rows of counts behind some terms seen -/
def seenR (V V' : Rows) (d : Nat) (b : Bool) (S : Nat → Bool) : Prop := ∀ t, t < 200 → V' 29 t = sel (S t) (nI d) (V 29 t) ∧ V' 28 t = V 28 t + bI (S t) ∧ V' 27 t = V 27 t + bI (S t && b)
theorem x_countOnce (h : CR A D nn V' g) {d t : Nat} {b : Bool} {S : Nat → Bool} (ht : t < 200) (hd : d < 60) (hs : seenR V V' d b S) (hne : V 29 t ≠ nI d) {Q : gS → Prop} (hQ : ∀ g' V2, CR A D nn V2 g' → (∀ u, (u < 27 ∨ 29 < u) → V2 u = V' u) → (∀ a, gR g' a = gR g a) → seenR V V2 d b (fun x => S x || decide (x = t)) → Q g') : w_X3_countOnce g (A 22) (nI t) (nI d) (bI b) Q := by
  unfold w_X3_countOnce b_X3_countOnce_17 b_X3_countOnce_49
  refine x_isTerm ?_
  rw [if_neg (not_not_intro (nI_isT ht))]
  refine ⟨fun c => absurd c (by decide), fun _ => ⟨h.k22, _, h.r22_5, h.k29, by rw [h.n29]; exact vpi ht, ?_⟩⟩
  rw [h.i29, cl_nI (by omega), (hs t ht).1]
  cases eS : S t
  · refine ⟨fun c => absurd c hne, fun _ => ⟨_, h.r22_5, h.k29, by rw [h.n29]; exact vpi ht, fun g2 e2 => ?_⟩⟩
    subst e2
    have h2 := h.w 29 21 (KL_f (by decide)) (by decide) t (nI d)
    refine ⟨h2.k22, _, h2.r22_4, h2.k28, by rw [h2.n28]; exact vpi ht, by rw [h2.n28]; exact vpi ht, fun g3 e3 => ?_⟩
    subst e3
    rw [h2.i28]
    have h3 := h2.w 28 21 (KL_f (by decide)) (by decide) t (su V' 29 t (nI d) 28 t + 1)
    have e28 : su V' 29 t (nI d) 28 t = V 28 t := by rw [su_row (by decide), (hs t ht).2.1, eS]; exact Int32.add_zero _
    have s3 : ∀ (V3 : Rows), V3 29 = su V' 29 t (nI d) 29 → V3 28 = (su (su V' 29 t (nI d)) 28 t (su V' 29 t (nI d) 28 t + 1)) 28 → (∀ x, x < 200 → x ≠ t → V3 27 x = V' 27 x) → V3 27 t = V 27 t + bI b → seenR V V3 d b (fun x => S x || decide (x = t)) := by
      intro V3 a1 a2 a3 a4 x hx
      rw [a1, a2, su_at, su_at, e28]
      by_cases e : x = t
      · subst e
        rw [if_pos rfl, if_pos rfl, a4]
        dsimp only
        rw [eS, decide_eq_true rfl]
        exact ⟨rfl, rfl, by simp⟩
      · rw [if_neg e, if_neg e, a3 x hx e]
        dsimp only
        rw [decide_eq_false e, Bool.or_false, su_row (by decide)]
        exact hs x hx
    refine ⟨fun c => ?_, fun c => ⟨h3.k22, _, h3.r22_3, h3.k27, by rw [h3.n27]; exact vpi ht, by rw [h3.n27]; exact vpi ht, fun g4 e4 => ?_⟩⟩
    · refine hQ _ _ h3 (fun u hu => by rw [su_row (by omega), su_row (by omega)]) (fun _ => rfl) (s3 _ (su_row (by decide)) rfl (fun x _ _ => by rw [su_row (by decide), su_row (by decide)]) ?_)
      rw [su_row (by decide), su_row (by decide), (hs t ht).2.2, eS, bI_0.mp c]; rfl
    · subst e4
      rw [h3.i27]
      refine hQ _ _ (h3.w 27 21 (KL_f (by decide)) (by decide) t _) (fun u hu => by rw [su_row (by omega), su_row (by omega), su_row (by omega)]) (fun _ => rfl) (s3 _ (by rw [su_row (by decide), su_row (by decide)]) (su_row (by decide)) (fun x _ hx => by rw [su_at, if_neg hx, su_row (by decide), su_row (by decide)]) ?_)
      rw [su_at, if_pos rfl, su_row (by decide), su_row (by decide), (hs t ht).2.2, eS, bI_n0 c, Bool.false_and, show bI false = 0 from rfl, Int32.add_zero]; rfl
  · refine ⟨fun _ => hQ g V' h (fun _ _ => rfl) (fun _ => rfl) (fun x hx => ?_), fun c => absurd rfl c⟩
    have : (S x || decide (x = t)) = S x := by
      by_cases e : x = t
      · rw [e, eS]; rfl
      · rw [decide_eq_false e, Bool.or_false]
    dsimp only
    rw [this]; exact hs x hx
theorem seenR.congr {d : Nat} {b : Bool} {S S' : Nat → Bool} (h : seenR V V' d b S) (e : ∀ t, t < 200 → S' t = S t) : seenR V V' d b S' := fun t ht => by rw [e t ht]; exact h t ht
theorem x_mateTerms (h : CR A D nn V g) {d : Nat} {b : Bool} (hd : d < D) (hl : ∀ f, f < 3 → lnF σ d f ≤ 12) (hv : ∀ f, f < 3 → vRow V σ d f) (hne : ∀ t, t < 200 → V 29 t ≠ nI d) {Q : gS → Prop} (hQ : ∀ g' V', CR A D nn V' g' → (∀ u, (u < 27 ∨ 29 < u) → V' u = V u) → (∀ a, gR g' a = gR g a) → seenR V V' d b (anyF σ d) → Q g') : w_X3_countTerms g (A 22) (A (dl d 0)) (nI d) (bI b) Q := by
  have hD6 := h.D6
  unfold w_X3_countTerms
  refine lpx2_i 3 (fun k g' x => x = nI k ∧ ∃ V', CR A D nn V' g' ∧ (∀ u, (u < 27 ∨ 29 < u) → V' u = V u) ∧ (∀ a, gR g' a = gR g a) ∧ seenR V V' d b (fun t => orB (fun f => hasB (tmF σ d f) (lnF σ d f) (nI t)) k)) ?_ ?_ g 0 ⟨rfl, V, h, fun _ _ => rfl, fun _ => rfl, fun t _ => ?_⟩
  · rintro k g1 _ hk ⟨rfl, V1, h1, hV, hR, hs⟩ K hK
    have hv1 : vRow V1 σ d k := vRow_eq hk (hv k hk) (fun u a b => hV u (by omega)) (by omega)
    obtain ⟨_, hp, m, hm, e4, hD⟩ := hv1
    have hD2 := hD
    obtain ⟨d1, d2, d3⟩ := hD
    have hlk := hl k hk
    unfold l_X3_countTerms_3 b_X3_countTerms_57
    refine ⟨fun c => absurd c (nI_ge hk (by decide)), fun _ => ⟨h1.d0k hd, x_rowOf h1 hd hk ⟨fun q => absurd q (by simp), fun y hy => ?_⟩⟩⟩
    have hy' : y = A (dl d (2 + k)) := (Option.some.inj hy).symm
    subst hy'
    refine lpx2_i m (fun i g' x => x = nI i ∧ ∃ V', CR A D nn V' g' ∧ (∀ u, (u < 27 ∨ 29 < u) → V' u = V u) ∧ (∀ a, gR g' a = gR g a) ∧ seenR V V' d b (fun t => orB (fun f => hasB (tmF σ d f) (lnF σ d f) (nI t)) k || hasB (V1 (dl d (8 + k))) i (nI t))) ?_ ?_ g1 0 ⟨rfl, V1, h1, hV, hR, hs.congr (fun t _ => by unfold hasB; rw [Bool.or_false])⟩
    · rintro i g2 _ hi ⟨rfl, V2, h2, hV2, hR2, hs2⟩ K2 hK2
      obtain ⟨t0, ht0, a1, a2, a3⟩ := d1 i hi
      have ed : ∀ r, V2 (dl d r) = V1 (dl d r) := fun r => by rw [hV2 _ (by unfold dl; omega), hV _ (by unfold dl; omega)]
      unfold l_X3_countTerms_28
      refine ⟨h2.tk hd hk, ?_⟩
      rw [h2.ti hd hk, ed, e4, nI_1]
      refine ⟨fun c => absurd c (nI_ge hi (by omega)), fun _ => x_difOn h2 hd hk (show m ≤ 12 by omega) (by rw [ed]; exact e4) hi ⟨h2.k22, ?_⟩⟩
      rw [ed, a1]
      refine x_countOnce h2 ht0 (by omega) hs2 (hne t0 ht0) (fun g3 V3 h3 hV3 hR3 hs3 => hK2 _ _ ⟨rfl, V3, h3, fun u hu => by rw [hV3 u hu]; exact hV2 u hu, fun a => by rw [hR3]; exact hR2 a, hs3.congr (fun t ht => ?_)⟩)
      show _ = ((_ || _) || _)
      rw [Bool.or_assoc]
      congr 1
      rw [Bool.eq_iff_iff, hasB_iff, Bool.or_eq_true, hasB_iff, decide_eq_true_iff]
      constructor
      · rintro ⟨j, hj, e⟩
        by_cases c : j = i
        · subst c; exact Or.inr ((nI_inj (by omega) (by omega)).mp (a1.symm.trans e)).symm
        · exact Or.inl ⟨j, by omega, e⟩
      · rintro (⟨j, hj, e⟩ | e)
        · exact ⟨j, by omega, e⟩
        · exact ⟨i, by omega, by rw [e]; exact a1⟩
    · rintro g2 _ ⟨rfl, V2, h2, hV2, hR2, hs2⟩ K2
      have ed : ∀ r, V2 (dl d r) = V1 (dl d r) := fun r => by rw [hV2 _ (by unfold dl; omega), hV _ (by unfold dl; omega)]
      unfold l_X3_countTerms_28 b_X3_countTerms_57
      refine ⟨h2.tk hd hk, ?_⟩
      rw [h2.ti hd hk, ed, e4, nI_1]
      refine ⟨fun _ => hK _ _ ⟨rfl, V2, h2, hV2, hR2, hs2.congr (fun t _ => ?_)⟩, fun c => absurd (nI_le (Nat.le_refl _) (by omega)) c⟩
      rw [orB, hasB_dif hD2]
  · rintro g1 _ ⟨rfl, V1, h1, hV, hR, hs⟩ K
    unfold l_X3_countTerms_3
    exact ⟨fun _ => hQ g1 V1 h1 hV hR hs, fun c => absurd (by decide) c⟩
  · exact ⟨rfl, (Int32.add_zero _).symm, (Int32.add_zero _).symm⟩
theorem mtS_inv {s : Nat} : ∀ t, ((mtS σ n s t).1 = -1 ∧ (mtS σ n s t).2.1 = 0) ∨ ∃ t', t' < t ∧ σ 10 t' = 0 ∧ (mtS σ n s t).1 = nI t' ∧ (mtS σ n s t).2.1 = mtBoth σ s t' n ∧ 0 < mtBoth σ s t' n ∧ (mtS σ n s t).2.2 = mtAll σ t' n
  | 0 => Or.inl ⟨rfl, rfl⟩
  | t + 1 => by
    rw [mtS]
    by_cases c : t ≠ s ∧ σ 10 t = 0 ∧ ((mtS σ n s t).2.1 < mtBoth σ s t n ∨ mtBoth σ s t n = (mtS σ n s t).2.1 ∧ 0 < mtBoth σ s t n ∧ mtAll σ t n < (mtS σ n s t).2.2)
    · rw [if_pos c]
      refine Or.inr ⟨t, by omega, c.2.1, rfl, rfl, ?_, rfl⟩
      rcases c.2.2 with q | q <;> omega
    · rw [if_neg c]
      rcases mtS_inv (s := s) t with q | ⟨t', h1, h2⟩
      · exact Or.inl q
      · exact Or.inr ⟨t', by omega, h2⟩
theorem x_isCloser (h : CR A D nn V g) (hn : n ≤ 60) {s t : Nat} (ht : t < 200) (hm : σ 10 t = 0) (h27 : ∀ t, t < 200 → σ 10 t = 0 → V 27 t = nI (mtBoth σ s t n)) (h28 : ∀ t, t < 200 → σ 10 t = 0 → V 28 t = nI (mtAll σ t n)) {Q : Int32 → Prop} (hQ : Q (bI (decide ((mtS σ n s t).2.1 < mtBoth σ s t n ∨ mtBoth σ s t n = (mtS σ n s t).2.1 ∧ 0 < mtBoth σ s t n ∧ mtAll σ t n < (mtS σ n s t).2.2)))) : w_X3_isCloser g (A 22) (nI t) (mtS σ n s t).1 Q := by
  have hb : ∀ t, mtBoth σ s t n ≤ n := fun t => cnt_le _ _
  have ha : ∀ t, mtAll σ t n ≤ n := fun t => cnt_le _ _
  have hbt := hb t
  have hat := ha t
  unfold w_X3_isCloser b_X3_isCloser_16 b_X3_isCloser_40 b_X3_isCloser_76 b_X3_isCloser_77
  refine x_isTerm ?_
  rw [if_neg (not_not_intro (nI_isT ht))]
  refine ⟨fun c => absurd c (by decide), fun _ => ⟨h.k22, _, h.r22_3, h.k27, by rw [h.n27]; exact vpi ht, ?_⟩⟩
  rw [h.i27, cl_nI (by omega), h27 t ht hm]
  refine ⟨fun c => ?_, fun c => x_isTerm ?_⟩
  · have h0 : mtBoth σ s t n = 0 := (nI_inj (b := 0) (by omega) (by decide)).mp c
    rw [h0, decide_eq_false (by omega)] at hQ; exact hQ
  · have h0 : 0 < mtBoth σ s t n := by
      rcases Nat.eq_zero_or_pos (mtBoth σ s t n) with q | q
      · exact absurd (by rw [q]; rfl) c
      · exact q
    rcases mtS_inv (σ := σ) (n := n) (s := s) t with ⟨e1, e2⟩ | ⟨t', ht', hm', e1, e2, hp, e3⟩
    · rw [e1, if_pos (fun q : isT (-1) => q (Or.inl (by decide)))]
      rw [e2, decide_eq_true (Or.inl h0)] at hQ
      exact ⟨fun _ => hQ, fun c => absurd rfl c⟩
    · rw [e1, if_neg (not_not_intro (nI_isT (by omega)))]
      rw [e2, e3] at hQ
      have hbt' := hb t'
      have hat' := ha t'
      refine ⟨fun c => absurd c (by decide), fun _ => ⟨_, h.r22_3, h.k27, by rw [h.n27]; exact vpi ht, _, h.r22_3, h.k27, by rw [h.n27]; exact vpi (by omega), ?_⟩⟩
      (try simp (disch := omega) only [cl_nI])
      rw [h.i27, h27 t ht hm, h27 t' (by omega) hm']
      refine ⟨fun c2 => ⟨_, h.r22_3, h.k27, by rw [h.n27]; exact vpi ht, _, h.r22_3, h.k27, by rw [h.n27]; exact vpi (by omega), ?_⟩, fun c2 => ?_⟩
      · have l2 := (nI_le_iff (by omega) (by omega)).mp c2
        rw [h.i27]
        (try simp (disch := omega) only [cl_nI])
        rw [h27 t ht hm, h27 t' (by omega) hm']
        refine ⟨fun c3 => ⟨_, h.r22_4, h.k28, by rw [h.n28]; exact vpi ht, _, h.r22_4, h.k28, by rw [h.n28]; exact vpi (by omega), ?_⟩, fun c3 => ⟨(by first | exact Or.inl rfl | exact Or.inl trivial | exact Or.inr rfl | exact Or.inr trivial), ?_⟩⟩
        · have l3 := (nI_inj (by omega) (by omega)).mp c3
          rw [h.i28]
          (try simp (disch := omega) only [cl_nI])
          rw [h28 t ht hm, h28 t' (by omega) hm']
          refine ⟨fun c4 => ⟨(by first | exact Or.inl rfl | exact Or.inl trivial | exact Or.inr rfl | exact Or.inr trivial), ?_⟩, fun c4 => ⟨(by first | exact Or.inl rfl | exact Or.inl trivial | exact Or.inr rfl | exact Or.inr trivial), ?_⟩⟩
          · have l4 := (nI_le_iff (by omega) (by omega)).mp c4
            rw [decide_eq_false (by omega)] at hQ; exact hQ
          · have l4 : ¬ mtAll σ t' n ≤ mtAll σ t n := fun q => c4 ((nI_le_iff (by omega) (by omega)).mpr q)
            rw [decide_eq_true (by omega)] at hQ; exact hQ
        · have l3 : ¬ mtBoth σ s t n = mtBoth σ s t' n := fun q => c3 (by rw [q])
          rw [decide_eq_false (by omega)] at hQ; exact hQ
      · have l2 : ¬ mtBoth σ s t n ≤ mtBoth σ s t' n := fun q => c2 ((nI_le_iff (by omega) (by omega)).mpr q)
        rw [decide_eq_true (by omega)] at hQ; exact hQ
theorem x_closest (h : CC A D V σ n bf nn nr ns g) {nr2 : Nat} (hP : PK σ n bf nn nr2 ns) {s : Nat} (hs2 : s < 200) (hm : σ 10 s = 0) {Q : Int32 → gS → Prop} (hQ : ∀ g' V', CC A D V' σ n bf nn nr ns g' → (∀ u, (u < 27 ∨ 29 < u) → V' u = V u) → (∀ a, gR g' a = gR g a) → Q (mtS σ n s 200).1 g') : w_X3_closestTerm g (A 22) (nI s) Q := by
  have hc := h
  obtain ⟨hr, hv, hdoc, hnode, hf⟩ := h
  obtain ⟨hG, hN, hW, hs⟩ := hP
  have hn := hG.n
  have hnD := hf.2.2.2.2.1
  have hl : ∀ d f, d < n → f < 3 → lnF σ d f ≤ 12 := fun d f hd hf => (hG.ln (by omega) hf).1
  unfold w_X3_closestTerm
  refine ⟨hr.k22, _, hr.r22_3, x_fill hr (KL_f (by decide)) (NL_f (by decide)) (by decide) (fun g1 V1 h1 hV1 hR1 hx1 => ⟨h1.k22, _, h1.r22_4, x_fill h1 (KL_f (by decide)) (NL_f (by decide)) (by decide) (fun g2 V2 h2 hV2 hR2 hx2 => ⟨h2.k22, _, h2.r22_5, x_fill h2 (KL_f (by decide)) (NL_f (by decide)) (by decide) (fun g3 V3 h3 hV3 hR3 hx3 => ?_)⟩)⟩)⟩
  refine lpx2_i n (fun k g' x => x = nI k ∧ ∃ V', CR A D nn V' g' ∧ (∀ u, (u < 27 ∨ 29 < u) → V' u = V u) ∧ (∀ a, gR g' a = gR g a) ∧ ∀ t, t < 200 → V' 28 t = nI (cnt (fun d => there σ d && anyF σ d t) k) ∧ V' 27 t = nI (cnt (fun d => there σ d && anyF σ d t && anyF σ d s) k) ∧ (V' 29 t = -1 ∨ ∃ d, d < k ∧ V' 29 t = nI d)) ?_ ?_ g3 0 ⟨rfl, V3, h3, fun u hu => by rw [hV3 u (by omega), hV2 u (by omega), hV1 u (by omega)], fun a => by rw [hR3, hR2, hR1], fun t ht => ⟨by rw [hV3 28 (by decide)]; exact hx2 t ht, by rw [hV3 27 (by decide), hV2 27 (by decide)]; exact hx1 t ht, Or.inl (hx3 t ht)⟩⟩
  · rintro k g4 _ hk ⟨rfl, V4, h4, hV4, hR4, hx4⟩ K hK
    have c4 : CC A D V4 σ n bf nn nr ns g4 := hc.scr h4 (fun u hu => hV4 u (by unfold used at hu; omega)) hR4
    unfold l_X3_closestTerm_26 b_X3_closestTerm_68
    refine ⟨h4.k22, _, h4.r22_0, h4.k1, ?_⟩
    rw [h4.i1, c4.2.1.1, nI_1]
    have skip : there σ k = false → K g4 (nI (k + 1)) := fun c => hK _ _ ⟨rfl, V4, h4, hV4, hR4, fun t ht => by
      obtain ⟨a1, a2, a3⟩ := hx4 t ht
      refine ⟨?_, ?_, a3.elim Or.inl (fun ⟨d, hd, e⟩ => Or.inr ⟨d, by omega, e⟩)⟩
      · rw [cnt_s, c, a1]; rfl
      · rw [cnt_s, c, a2]; rfl⟩
    refine ⟨fun c => absurd c (nI_ge hk (by omega)), fun _ => ⟨_, h4.r22_0, h4.k1, x_docAt c4 hk ⟨fun q => absurd q (by simp), fun y hy => ?_⟩⟩⟩
    have hy' : y = A (dl k 0) := (Option.some.inj hy).symm
    subst hy'
    refine ⟨h4.d0k (by omega), x_canBeFound c4 (by omega) (fun q => hs.h15 hn (by omega) (by omega) q) ⟨fun c2 => skip (bI_0.mp c2), fun c2 => ?_⟩⟩
    have hth := bI_n0 c2
    have hrow := (c4.2.2.1 k (by omega)).2.2.2.2
    refine x_hasAny h4 (show k < D by omega) hs2 (fun f hf => hl k f hk hf) hrow ?_
    refine x_mateTerms h4 (show k < D by omega) (fun f hf => hl k f hk hf) hrow (fun t ht => ?_) (fun g5 V5 h5 hV5 hR5 hs5 => hK _ _ ⟨rfl, V5, h5, fun u hu => by rw [hV5 u hu]; exact hV4 u hu, fun a => by rw [hR5]; exact hR4 a, fun t ht => ?_⟩)
    · obtain ⟨_, _, a3⟩ := hx4 t ht
      rcases a3 with e | ⟨d, hd, e⟩
      · rw [e]; exact fun q => nI_nm1 (show k < 2 ^ 31 by omega) q.symm
      · rw [e]; exact fun q => by have := (nI_inj (by omega) (by omega)).mp q; omega
    · obtain ⟨a1, a2, a3⟩ := hx4 t ht
      obtain ⟨b1, b2, b3⟩ := hs5 t ht
      refine ⟨?_, ?_, ?_⟩
      · rw [b2, a1, cnt_s, hth, Bool.true_and]
        cases anyF σ k t
        · exact Int32.add_zero _
        · exact nI_1 _
      · rw [b3, a2, cnt_s, hth, Bool.true_and]
        cases (anyF σ k t && anyF σ k s)
        · exact Int32.add_zero _
        · exact nI_1 _
      · rw [b1]
        unfold sel
        by_cases c : anyF σ k t = true
        · rw [if_pos c]; exact Or.inr ⟨k, by omega, rfl⟩
        · rw [if_neg c]; exact a3.elim Or.inl (fun ⟨d, hd, e⟩ => Or.inr ⟨d, by omega, e⟩)
  · rintro g4 _ ⟨rfl, V4, h4, hV4, hR4, hx4⟩ K
    have c4 : CC A D V4 σ n bf nn nr ns g4 := hc.scr h4 (fun u hu => hV4 u (by unfold used at hu; omega)) hR4
    have h28 : ∀ t, t < 200 → σ 10 t = 0 → V4 28 t = nI (mtAll σ t n) := fun t ht hm' => by
      rw [(hx4 t ht).1]; unfold mtAll
      exact congrArg nI (cnt_congr (fun d _ => by rw [hasF_any hm']))
    have h27 : ∀ t, t < 200 → σ 10 t = 0 → V4 27 t = nI (mtBoth σ s t n) := fun t ht hm' => by
      rw [(hx4 t ht).2.1]; unfold mtBoth
      exact congrArg nI (cnt_congr (fun d _ => by rw [hasF_any hm', hasF_any hm]))
    unfold l_X3_closestTerm_26
    refine ⟨h4.k22, _, h4.r22_0, h4.k1, ?_⟩
    rw [h4.i1, c4.2.1.1]
    refine ⟨fun _ => ?_, fun c => absurd (nI_le (Nat.le_refl _) (by omega)) c⟩
    refine lpx2_s 200 (fun t => (mtS σ n s t).1) (fun t => nI t) rfl rfl (fun t ht K2 hK2 => ?_) (fun K2 => ?_)
    · unfold l_X3_closestTerm_78 b_X3_closestTerm_112
      rw [mtS] at hK2
      try dsimp only at hK2
      rw [nI_1]
      refine ⟨fun c => absurd c (nI_ge ht (by decide)), fun _ => ⟨fun c => ?_, fun c => ⟨h4.k22, _, h4.r22_1, h4.k10, x_isMuted h4 c4.2.1.lex ht ⟨fun c3 => ?_, fun c3 => ?_⟩⟩⟩⟩
      · have : t = s := (nI_inj (by omega) (by omega)).mp c
        rw [if_neg (fun q => q.1 this)] at hK2; exact hK2
      · have hts : t ≠ s := fun q => c (by rw [q])
        have hm' : σ 10 t = 0 := by have := bI_0.mp c3; simpa using this
        refine x_isCloser h4 hn ht hm' h27 h28 ⟨fun c5 => ?_, fun c5 => ?_⟩
        · rw [if_neg (fun q => (of_decide_eq_false (bI_0.mp c5)) q.2.2)] at hK2; exact hK2
        · rw [if_pos ⟨hts, hm', of_decide_eq_true (bI_n0 c5)⟩] at hK2; exact hK2
      · have hm' : ¬ σ 10 t = 0 := by have := bI_n0 c3; simpa using this
        rw [if_neg (fun q => hm' q.2.1)] at hK2; exact hK2
    · unfold l_X3_closestTerm_78
      exact ⟨fun _ => hQ g4 V4 c4 hV4 hR4, fun c => absurd (by decide) c⟩
end CMATE
