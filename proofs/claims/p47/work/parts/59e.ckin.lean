/-! THE CLASS: which documents are alike -/
theorem isum_point {f f' : Nat → Int32} {x : Int32} {t0 : Nat} : ∀ {N : Nat}, t0 < N → (∀ t, t < N → t ≠ t0 → f' t = f t) → f' t0 = f t0 + x → isum f' N = isum f N + x
  | N + 1, h, hn, h0 => by
    rw [isum, isum]
    by_cases e : t0 = N
    · subst e
      rw [isum_congr (fun k hk => hn k (by omega) (by omega)), h0, Int32.add_assoc]
    · rw [isum_point (N := N) (by omega) (fun t ht hne => hn t (by omega) hne) h0, hn N (by omega) (by omega), Int32.add_assoc, Int32.add_assoc, Int32.add_comm x]
theorem isum_firsts {a : Nat → Int32} {F : Int32 → Int32} : ∀ {m : Nat}, (∀ k, k < m → ∃ t, t < 200 ∧ a k = nI t) → isum (fun k => if hasB a k (a k) = true then 0 else F (a k)) m = isum (fun t => if hasB a m (nI t) = true then F (nI t) else 0) 200
  | 0, _ => by
    rw [isum_zero (n := 200) (fun k _ => by show (if hasB a 0 (nI k) = true then _ else _) = _; unfold hasB; rw [if_neg (by decide)])]; rfl
  | m + 1, h => by
    rw [isum, isum_firsts (fun k hk => h k (by omega))]
    obtain ⟨t0, ht0, e0⟩ := h m (by omega)
    refine (isum_point (t0 := t0) ht0 (fun t ht hne => ?_) ?_).symm
    · have : hasB a (m + 1) (nI t) = hasB a m (nI t) := by
        rw [Bool.eq_iff_iff, hasB_iff, hasB_iff]
        constructor
        · rintro ⟨k, hk, e⟩
          by_cases c : k = m
          · subst c
            exact absurd ((nI_inj (by omega) (by omega)).mp (e0.symm.trans e)).symm hne
          · exact ⟨k, by omega, e⟩
        · rintro ⟨k, hk, e⟩; exact ⟨k, by omega, e⟩
      rw [this]
    · have h1 : hasB a (m + 1) (nI t0) = true := hasB_iff.mpr ⟨m, by omega, e0⟩
      rw [if_pos h1, e0]
      by_cases c : hasB a m (nI t0) = true
      · rw [if_pos c, if_pos c, Int32.add_zero]
      · rw [if_neg c, if_neg c, Int32.zero_add]
theorem isum_dif {X : Nat → Int32} {F : Int32 → Int32} {k : Nat} (h1 : ∀ i, i < k → ∃ t, t < 200 ∧ X i = nI t) (h2 : ∀ i j, i < k → j < k → X i = X j → i = j) : isum (fun i => F (X i)) k = isum (fun t => if hasB X k (nI t) = true then F (nI t) else 0) 200 := by
  rw [← isum_firsts h1]
  refine isum_congr (fun i hi => ?_)
  rw [if_neg]
  intro q
  obtain ⟨j, hj, e⟩ := hasB_iff.mp q
  have := h2 j i (by omega) hi e
  omega
section CKIN
variable {A : Nat → Nat} {D : Nat} {V V' σ σ' τ ρ : Rows} {n bf nn nr ns cb : Nat} {g g' : gS}
def wF (σ : Rows) (n e f t : Nat) : Int32 := if hasB (tmF σ e f) (lnF σ e f) (nI t) = true ∧ σ 10 t = 0 then rareF σ n t f else 0
theorem CR.kf (h : CR A D nn V g) {f : Nat} (hf : f < 3) : gR g (A 23) f = some (A (24 + f)) ∧ gK g (A (24 + f)) = 21 ∧ gN g (A (24 + f)) = 200 ∧ gI g (A (24 + f)) = V (24 + f) ∧ KL D nn (24 + f) = 21 ∧ NL (24 + f) = 200 := by
  rcases f with _ | _ | _ | f
  · exact ⟨h.r23_0, h.k24, h.n24, h.i24, rfl, rfl⟩
  · exact ⟨h.r23_1, h.k25, h.n25, h.i25, rfl, rfl⟩
  · exact ⟨h.r23_2, h.k26, h.n26, h.i26, rfl, rfl⟩
  · omega
theorem x_fillOf (h : CR A D nn V g) (hce : vCen V 4 σ n) (hlx : vLex V σ) (hn : n ≤ 60) {e f : Nat} (he : e < D) (hf : f < 3) (hl : lnF σ e f ≤ 12) (hv : vRow V σ e f) (h0 : ∀ t, t < 200 → V (24 + f) t = 0) {Q : gS → Prop} (hQ : ∀ g' V', CR A D nn V' g' → (∀ u, u ≠ 24 + f → V' u = V u) → (∀ a, gR g' a = gR g a) → (∀ t, t < 200 → V' (24 + f) t = wF σ n e f t) → Q g') : w_X3_fillWorthsOf g (A 22) (A (dl e (2 + f))) (nI f) (A (24 + f)) Q := by
  obtain ⟨_, hp, k, hk, e4, hD⟩ := hv
  have hD2 := hD
  obtain ⟨d1, d2, d3⟩ := hD
  have hdl : ∀ r, dl e r ≠ 24 + f := fun r => by unfold dl; omega
  unfold w_X3_fillWorthsOf
  refine lpx2_i k (fun i g' x => x = nI i ∧ ∃ V', CR A D nn V' g' ∧ (∀ u, u ≠ 24 + f → V' u = V u) ∧ (∀ a, gR g' a = gR g a) ∧ ∀ t, t < 200 → V' (24 + f) t = if hasB (V (dl e (8 + f))) i (nI t) = true ∧ σ 10 t = 0 then rareF σ n t f else 0) ?_ ?_ g 0 ⟨rfl, V, h, fun _ _ => rfl, fun _ => rfl, fun t ht => by rw [h0 t ht, if_neg (fun q => by have := q.1; unfold hasB at this; exact absurd this (by decide))]⟩
  · rintro i g1 _ hi ⟨rfl, V1, h1, hV, hR, hx⟩ K hK2
    obtain ⟨t0, ht0, a1, a2, a3⟩ := d1 i hi
    have hlx1 : vLex V1 σ := by unfold vLex at hlx ⊢; rw [hV 11 (by omega), hV 12 (by omega), hV 13 (by omega)]; exact hlx
    have hce1 : vCen V1 4 σ n := by
      refine ⟨by rw [hV 4 (by omega)]; exact hce.1, fun f' hf' => by rw [hV (4 + 5) (by omega)]; exact hce.2.1 f' hf', fun f' t hf' ht => by rw [hV (4 + 2 + f') (by omega)]; exact hce.2.2 f' t hf' ht⟩
    have hsucc : ∀ t, hasB (V (dl e (8 + f))) (i + 1) (nI t) = true ↔ (hasB (V (dl e (8 + f))) i (nI t) = true ∨ (t < 200 ∧ t = t0)) ∨ (¬ t < 200 ∧ nI t0 = nI t) := by
      intro t
      rw [hasB_iff, hasB_iff]
      constructor
      · rintro ⟨j, hj, ej⟩
        by_cases c : j = i
        · subst c
          by_cases c2 : t < 200
          · exact Or.inl (Or.inr ⟨c2, ((nI_inj (by omega) (by omega)).mp (a1.symm.trans ej)).symm⟩)
          · exact Or.inr ⟨c2, a1.symm.trans ej⟩
        · exact Or.inl (Or.inl ⟨j, by omega, ej⟩)
      · rintro ((⟨j, hj, ej⟩ | ⟨_, e2⟩) | ⟨_, e2⟩)
        · exact ⟨j, by omega, ej⟩
        · exact ⟨i, by omega, by rw [e2]; exact a1⟩
        · exact ⟨i, by omega, by rw [← e2]; exact a1⟩
    unfold l_X3_fillWorthsOf_3 b_X3_fillWorthsOf_71
    refine ⟨h1.tk he hf, ?_⟩
    rw [h1.ti he hf, hV _ (hdl _), e4, nI_1]
    refine ⟨fun c => absurd c (nI_ge hi (by omega)), fun _ => x_difOn h1 he hf (show k ≤ 12 by omega) (by rw [hV _ (hdl _)]; exact e4) hi ?_⟩
    rw [hV _ (hdl _), a1]
    refine ⟨fun c => absurd c (not_lt0 (by omega)), fun _ => ⟨(h1.kf hf).2.1, ?_⟩⟩
    rw [(h1.kf hf).2.2.1]
    refine ⟨fun c => absurd c (nI_ge ht0 (by decide)), fun _ => ⟨h1.k22, _, h1.r22_1, h1.k10, x_isMuted h1 hlx1 ht0 ⟨fun c => ?_, fun c => ?_⟩⟩⟩
    · have hm : σ 10 t0 = 0 := by have := bI_0.mp c; simpa using this
      refine ⟨_, h1.r22_0, h1.k1, _, h1.r1_5, _, h1.r22_0, h1.k1, _, h1.r1_5, h1.k4, x_spreadOf h1 (Or.inl rfl) hce1 ht0 hf ⟨h1.k4, ?_⟩⟩
      have hsp := spN_le (σ := σ) (n := n) (t := t0) (f := f)
      rw [spF_eq]
      refine x_rarityOf h1 (Or.inl rfl) hce1 (show spN σ t0 f n < 1000 by omega) ⟨vpi ht0, fun g2 e2 => ?_⟩
      subst e2
      rw [cl_nI (by omega)]
      refine hK2 _ _ ⟨rfl, _, h1.w (24 + f) 21 (h1.kf hf).2.2.2.2.1 (by decide) t0 _, fun u hu => by rw [su_row hu]; exact hV u hu, fun a => hR a, fun t ht => ?_⟩
      rw [su_at]
      by_cases e2 : t = t0
      · rw [if_pos e2, if_pos ⟨(hsucc t).mpr (Or.inl (Or.inr ⟨ht, e2⟩)), by rw [e2]; exact hm⟩, e2]
        unfold rareF; rw [spF_eq]
      · rw [if_neg e2, hx t ht]
        refine if_iff ⟨fun q => ⟨(hsucc t).mpr (Or.inl (Or.inl q.1)), q.2⟩, fun q => ⟨?_, q.2⟩⟩
        rcases (hsucc t).mp q.1 with (p | p) | p
        · exact p
        · exact absurd p.2 e2
        · exact absurd ht p.1
    · have hm : ¬ σ 10 t0 = 0 := by have := bI_n0 c; simpa using this
      refine hK2 _ _ ⟨rfl, V1, h1, hV, hR, fun t ht => ?_⟩
      rw [hx t ht]
      refine if_iff ⟨fun q => ⟨(hsucc t).mpr (Or.inl (Or.inl q.1)), q.2⟩, fun q => ⟨?_, q.2⟩⟩
      rcases (hsucc t).mp q.1 with (p | p) | p
      · exact p
      · rw [p.2] at q; exact absurd q.2 hm
      · exact absurd ht p.1
  · rintro g1 _ ⟨rfl, V1, h1, hV, hR, hx⟩ K
    unfold l_X3_fillWorthsOf_3
    refine ⟨h1.tk he hf, ?_⟩
    rw [h1.ti he hf, hV _ (hdl _), e4]
    refine ⟨fun _ => hQ g1 V1 h1 hV hR (fun t ht => ?_), fun c => absurd (nI_le (Nat.le_refl _) (by omega)) c⟩
    rw [hx t ht]
    unfold wF
    rw [hasB_dif hD2]
theorem x_fillWorths (h : CR A D nn V g) (hce : vCen V 4 σ n) (hlx : vLex V σ) (hn : n ≤ 60) {e : Nat} (he : e < D) (hl : ∀ f, f < 3 → lnF σ e f ≤ 12) (hv : ∀ f, f < 3 → vRow V σ e f) {Q : gS → Prop} (hQ : ∀ g' V', CR A D nn V' g' → (∀ u, (u < 24 ∨ 26 < u) → V' u = V u) → (∀ a, gR g' a = gR g a) → (∀ f t, f < 3 → t < 200 → V' (24 + f) t = wF σ n e f t) → Q g') : w_X3_fillWorths g (A 22) (A (dl e 0)) Q := by
  have hD6 := h.D6
  unfold w_X3_fillWorths
  refine lpx2_i 3 (fun k g' x => x = nI k ∧ ∃ V', CR A D nn V' g' ∧ (∀ u, (u < 24 ∨ 26 < u) → V' u = V u) ∧ (∀ a, gR g' a = gR g a) ∧ ∀ f t, f < k → t < 200 → V' (24 + f) t = wF σ n e f t) ?_ ?_ g 0 ⟨rfl, V, h, fun _ _ => rfl, fun _ => rfl, fun f t hf => absurd hf (Nat.not_lt_zero _)⟩
  · rintro k g1 _ hk ⟨rfl, V1, h1, hV, hR, hx⟩ K hK
    unfold l_X3_fillWorths_2 b_X3_fillWorths_43
    refine ⟨h1.k22, _, h1.r22_2, h1.k23, ?_⟩
    rw [h1.n23, nI_1]
    refine ⟨fun c => absurd c (nI_ge hk (by decide)), fun _ => ⟨_, h1.r22_2, h1.k23, by rw [h1.n23]; exact vpi hk, _, by rw [cl_nI (by omega)]; exact (h1.kf hk).1, ?_⟩⟩
    refine x_fill h1 (h1.kf hk).2.2.2.2.1 (h1.kf hk).2.2.2.2.2 (by decide) (fun g2 V2 h2 hV2 hR2 hx2 => ⟨h2.d0k he, x_rowOf h2 he hk ⟨fun q => absurd q (by simp), fun y hy => ?_⟩⟩)
    have hy' : y = A (dl e (2 + k)) := (Option.some.inj hy).symm
    subst hy'
    refine ⟨h2.k22, _, h2.r22_2, h2.k23, by rw [h2.n23]; exact vpi hk, _, by rw [cl_nI (by omega)]; exact (h2.kf hk).1, ?_⟩
    have hVV : ∀ u, (u < 24 ∨ 26 < u) → V2 u = V u := fun u hu => by rw [hV2 u (by omega)]; exact hV u hu
    have hlx1 : vLex V2 σ := by unfold vLex at hlx ⊢; rw [hVV 11 (by omega), hVV 12 (by omega), hVV 13 (by omega)]; exact hlx
    have hce1 : vCen V2 4 σ n := by
      refine ⟨by rw [hVV 4 (by omega)]; exact hce.1, fun f' hf' => by rw [hVV (4 + 5) (by omega)]; exact hce.2.1 f' hf', fun f' t hf' ht => by rw [hVV (4 + 2 + f') (by omega)]; exact hce.2.2 f' t hf' ht⟩
    refine x_fillOf h2 hce1 hlx1 hn he hk (hl k hk) (vRow_eq hk (hv k hk) (fun u a b => hVV u (by omega)) (by omega)) hx2 (fun g3 V3 h3 hV3 hR3 hx3 => hK _ _ ⟨rfl, V3, h3, fun u hu => by rw [hV3 u (by omega)]; exact hVV u hu, fun a => by rw [hR3, hR2]; exact hR a, fun f t hf ht => ?_⟩)
    by_cases e2 : f = k
    · rw [e2]; exact hx3 t ht
    · rw [hV3 _ (by omega), hV2 _ (by omega)]; exact hx f t (by omega) ht
  · rintro g1 _ ⟨rfl, V1, h1, hV, hR, hx⟩ K
    unfold l_X3_fillWorths_2
    refine ⟨h1.k22, _, h1.r22_2, h1.k23, ?_⟩
    rw [h1.n23]
    exact ⟨fun _ => hQ g1 V1 h1 hV hR hx, fun c => absurd (nI_le (Nat.le_refl _) (by decide)) c⟩
theorem x_worthOf (h : CR A D nn V g) {t f : Nat} (ht : t < 200) (hf : f < 3) {Q : Int32 → Prop} (hQ : Q (V (24 + f) t)) : w_X3_worthOf g (A 22) (nI t) (nI f) Q := by
  obtain ⟨a1, a2, a3, a4, _⟩ := h.kf hf
  unfold w_X3_worthOf
  refine ⟨fun c => absurd c (not_lt0 (by omega)), fun _ => ⟨h.k22, _, h.r22_2, h.k23, ?_⟩⟩
  rw [h.n23]
  refine ⟨fun c => absurd c (nI_ge hf (by decide)), fun _ => ⟨fun c => absurd c (not_lt0 (by omega)), fun _ => ⟨_, h.r22_2, h.k23, by rw [h.n23]; exact vpi hf, _, by rw [cl_nI (by omega)]; exact a1, a2, ?_⟩⟩⟩
  rw [a3]
  refine ⟨fun _ => ⟨_, h.r22_2, h.k23, by rw [h.n23]; exact vpi hf, _, by rw [cl_nI (by omega)]; exact a1, a2, by rw [a3]; exact vpi ht, ?_⟩, fun c => absurd ((nI_lt_iff (by omega) (by decide)).mpr ht) c⟩
  rw [a4, cl_nI (by omega)]; exact hQ
def likN (σ : Rows) (n e d : Nat) : Int32 := isum (fun f => isum (fun t => if hasB (tmF σ d f) (lnF σ d f) (nI t) = true then wF σ n e f t else 0) 200) 3
theorem x_likeness (h : CR A D nn V g) {e d : Nat} (hd : d < D) (hl : ∀ f, f < 3 → lnF σ d f ≤ 12) (hv : ∀ f, f < 3 → vRow V σ d f) (hw : ∀ f t, f < 3 → t < 200 → V (24 + f) t = wF σ n e f t) {Q : Int32 → Prop} (hQ : Q (likN σ n e d)) : w_X3_likeness g (A 22) (A (dl d 0)) Q := by
  unfold w_X3_likeness
  refine lpx2_s 3 (fun f => isum (fun f => isum (fun t => if hasB (tmF σ d f) (lnF σ d f) (nI t) = true then wF σ n e f t else 0) 200) f) (fun f => nI f) rfl rfl (fun f hf K hK => ?_) (fun K => ?_)
  · obtain ⟨_, hp, k, hk, e4, hD⟩ := hv f hf
    have hD2 := hD
    obtain ⟨d1, d2, d3⟩ := hD
    have hlf := hl f hf
    unfold l_X3_likeness_4 b_X3_likeness_62
    refine ⟨h.k22, _, h.r22_2, h.k23, ?_⟩
    rw [h.n23]
    refine ⟨fun c => absurd c (nI_ge hf (by decide)), fun _ => ⟨h.d0k hd, x_rowOf h hd hf ⟨fun q => absurd q (by simp), fun y hy => ?_⟩⟩⟩
    have hy' : y = A (dl d (2 + f)) := (Option.some.inj hy).symm
    subst hy'
    generalize hS : isum (fun f => isum (fun t => if hasB (tmF σ d f) (lnF σ d f) (nI t) = true then wF σ n e f t else 0) 200) f = S at hK ⊢
    refine lpx2_s k (fun i => S + isum (fun i => V (24 + f) (cl (V (dl d (8 + f)) i))) i) (fun i => nI i) (Int32.add_zero _).symm rfl (fun i hi K2 hK2 => ?_) (fun K2 => ?_)
    · obtain ⟨t0, ht0, a1, a2, a3⟩ := d1 i hi
      unfold l_X3_likeness_31
      refine ⟨h.tk hd hf, ?_⟩
      rw [h.ti hd hf, e4, nI_1]
      refine ⟨fun c => absurd c (nI_ge hi (by omega)), fun _ => x_difOn h hd hf (show k ≤ 12 by omega) e4 hi ⟨h.k22, ?_⟩⟩
      rw [a1]
      refine x_worthOf h ht0 hf ?_
      rw [isum, a1, show cl (nI t0) = t0 from cl_nI (by omega), ← Int32.add_assoc] at hK2
      exact hK2
    · unfold l_X3_likeness_31 b_X3_likeness_62
      refine ⟨h.tk hd hf, ?_⟩
      rw [h.ti hd hf, e4]
      refine ⟨fun _ => ?_, fun c => absurd (nI_le (Nat.le_refl _) (by omega)) c⟩
      have key : isum (fun i => V (24 + f) (cl (V (dl d (8 + f)) i))) k = isum (fun t => if hasB (tmF σ d f) (lnF σ d f) (nI t) = true then wF σ n e f t else 0) 200 := by
        rw [isum_dif (X := V (dl d (8 + f))) (F := fun x => V (24 + f) (cl x)) (fun i hi => by obtain ⟨t, ht, e, _⟩ := d1 i hi; exact ⟨t, ht, e⟩) d2]
        refine isum_congr (fun t ht => ?_)
        rw [hasB_dif hD2, show cl (nI t) = t from cl_nI (by omega), hw f t hf ht]
      rw [isum, hS] at hK
      rw [key, nI_1]; exact hK
  · unfold l_X3_likeness_4
    refine ⟨h.k22, _, h.r22_2, h.k23, ?_⟩
    rw [h.n23]
    exact ⟨fun _ => hQ, fun c => absurd (nI_le (Nat.le_refl _) (by decide)) c⟩
theorem ctF_0 {d f t : Nat} (ht : t < 200) : ctF σ d f (nI t) = 0 ↔ ¬ (σ 10 t = 0 ∧ hasB (tmF σ d f) (lnF σ d f) (nI t) = true) := by
  rw [ctF_eq ht]
  have hle : ctN σ d f t ≤ lnF σ d f := by unfold ctN; split; exact cnt_le _ _; omega
  have hz : ctN σ d f t = 0 ↔ ¬ (σ 10 t = 0 ∧ hasB (tmF σ d f) (lnF σ d f) (nI t) = true) := by
    unfold ctN
    by_cases c : σ 10 t = 0
    · rw [if_pos c]
      constructor
      · rintro e ⟨_, q⟩
        obtain ⟨k, hk, ek⟩ := hasB_iff.mp q
        have := cnt_pos (p := fun k => decide (tmF σ d f k = nI t)) hk (decide_eq_true ek)
        omega
      · intro q
        exact cnt_zero (fun k hk => decide_eq_false (fun e => q ⟨c, hasB_iff.mpr ⟨k, hk, e⟩⟩))
    · rw [if_neg c]; exact ⟨fun _ q => c q.1, fun _ => rfl⟩
  rw [← hz]
  constructor
  · intro e
    rcases Nat.eq_zero_or_pos (ctN σ d f t) with q | q
    · exact q
    · exfalso
      have hl2 : ctN σ d f t < 2 ^ 31 ∨ ¬ ctN σ d f t < 2 ^ 31 := Classical.em _
      rcases hl2 with hl2 | hl2
      · have := (nI_inj (b := 0) hl2 (by decide)).mp e
        omega
      · have hcl : lnF σ d f < 2 ^ 31 := by
          unfold lnF
          have : ∀ x : Int32, x.toNatClampNeg < 2 ^ 31 := fun x => by
            show x.toInt.toNat < _
            have := x.toInt_lt
            omega
          exact this _
        omega
  · intro e; rw [e]; rfl
theorem likN_eq {e d : Nat} (hte : ∀ f p, f < 3 → p < lnF σ e f → ∃ t, t < 200 ∧ tmF σ e f p = nI t) : lkSum σ n e d = likN σ n e d := by
  unfold lkSum likN
  refine isum_congr (fun f hf => ?_)
  have : isum (fun k => lkVal σ n e d f k) (lnF σ e f) = isum (fun k => if hasB (tmF σ e f) k (tmF σ e f k) = true then 0 else (if ctF σ d f (tmF σ e f k) = 0 then 0 else rareF σ n (tmF σ e f k).toNatClampNeg f)) (lnF σ e f) := by
    refine isum_congr (fun k hk => ?_)
    unfold lkVal
    by_cases c : hasB (tmF σ e f) k (tmF σ e f k) = true
    · rw [c]; simp
    · rw [if_neg c]
      have : hasB (tmF σ e f) k (tmF σ e f k) = false := by simpa using c
      rw [this]
      by_cases c2 : ctF σ d f (tmF σ e f k) = 0
      · simp [c2]
      · simp [c2]
  rw [this, isum_firsts (F := fun x => if ctF σ d f x = 0 then 0 else rareF σ n x.toNatClampNeg f) (fun k hk => hte f k hf hk)]
  refine isum_congr (fun t ht => ?_)
  rw [cl_nI (by omega), if_iff (ctF_0 (σ := σ) (d := d) (f := f) ht)]
  unfold wF
  by_cases c1 : hasB (tmF σ e f) (lnF σ e f) (nI t) = true
  · by_cases c2 : hasB (tmF σ d f) (lnF σ d f) (nI t) = true
    · by_cases c3 : σ 10 t = 0
      · simp [c1, c2, c3]
      · simp [c1, c2, c3]
    · simp [c1, c2]
  · simp [c1]
theorem x_mostLike (h : CC A D V σ n bf nn nr ns g) (hce : vCen V 4 σ n) {nr2 : Nat} (hP : PK σ n bf nn nr2 ns) {e : Nat} (he : e < n) {Q : Int32 → gS → Prop} (hQ : ∀ g' V', CC A D V' σ n bf nn nr ns g' → (∀ u, (u < 24 ∨ 26 < u) → V' u = V u) → (∀ a, gR g' a = gR g a) → Q (likeF σ n e) g') : w_X3_mostLike g (A 22) (nI e) Q := by
  have hc := h
  obtain ⟨hr, hv, hdoc, hnode, hf⟩ := h
  obtain ⟨hG, hN, hW, hs⟩ := hP
  have hn := hG.n
  have hnD := hf.2.2.2.2.1
  have hl : ∀ d f, d < n → f < 3 → lnF σ d f ≤ 12 := fun d f hd hf => (hG.ln (by omega) hf).1
  unfold w_X3_mostLike
  refine ⟨hr.k22, _, hr.r22_0, hr.k1, x_docAt hc he ⟨fun q => absurd q (by simp), fun y hy => ?_⟩⟩
  have hy' : y = A (dl e 0) := (Option.some.inj hy).symm
  subst hy'
  refine x_fillWorths hr hce hv.lex hn (show e < D by omega) (fun f hf => hl e f he hf) (hdoc e (by omega)).2.2.2.2 (fun g1 V1 h1 hV1 hR1 hw => ?_)
  have c1 : CC A D V1 σ n bf nn nr ns g1 := hc.scr h1 (fun u hu => hV1 u (by unfold used at hu; omega)) hR1
  have hte : ∀ f p, f < 3 → p < lnF σ e f → ∃ t, t < 200 ∧ tmF σ e f p = nI t := fun f p hf hp => hG.tm (by omega) hf hp
  refine lpx3_s n (fun k => (bst (fun d => !decide (d = e) && there σ d) (lkSum σ n e) k).1) (fun k => (bst (fun d => !decide (d = e) && there σ d) (lkSum σ n e) k).2) (fun k => nI k) rfl rfl rfl (fun k hk K hK => ?_) (fun K => ?_)
  · unfold l_X3_mostLike_28 b_X3_mostLike_95
    rw [bst] at hK
    refine ⟨h1.k22, _, h1.r22_0, h1.k1, ?_⟩
    rw [h1.i1, c1.2.1.1, nI_1]
    refine ⟨fun c => absurd c (nI_ge hk (by omega)), fun _ => ⟨_, h1.r22_0, h1.k1, x_docAt c1 hk ⟨fun q => absurd q (by simp), fun y hy => ?_⟩⟩⟩
    have hy' : y = A (dl k 0) := (Option.some.inj hy).symm
    subst hy'
    refine ⟨fun c => ?_, fun c => ⟨h1.d0k (by omega), x_canBeFound c1 (by omega) (fun q => hs.h15 hn (by omega) (by omega) q) ⟨fun c2 => ?_, fun c2 => ?_⟩⟩⟩
    · have : k = e := (nI_inj (by omega) (by omega)).mp c
      rw [if_neg (fun q => by simp [this] at q)] at hK
      exact hK
    · rw [if_neg (fun q => by rw [bI_0.mp c2] at q; simp at q)] at hK
      exact hK
    · have hke : ¬ k = e := fun q => c (by rw [q])
      refine x_likeness h1 (show k < D by omega) (fun f hf => hl k f hk hf) (c1.2.2.1 k (by omega)).2.2.2.2 hw ?_
      rw [← likN_eq hte]
      refine ⟨fun c3 => ?_, fun c3 => ?_⟩
      · rw [if_neg (fun q => (i32_nle.mpr q.2) c3)] at hK
        exact hK
      · rw [if_pos ⟨by rw [bI_n0 c2]; simp [hke], i32_nle.mp c3⟩] at hK
        exact hK
  · unfold l_X3_mostLike_28
    refine ⟨h1.k22, _, h1.r22_0, h1.k1, ?_⟩
    rw [h1.i1, c1.2.1.1]
    exact ⟨fun _ => hQ g1 V1 c1 hV1 hR1, fun c => absurd (nI_le (Nat.le_refl _) (by omega)) c⟩
end CKIN
