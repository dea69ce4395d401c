/-! THE CLASS: a census counted -/
section CCOUNT
variable {A : Nat → Nat} {D : Nat} {V σ ρ : Rows} {n bf nn nr ns cb : Nat} {g : gS}
theorem x_fill (h : CR A D nn V g) {l N : Nat} (hk : KL D nn l = 21) (hN : NL l = N) (hN2 : N < 2 ^ 31) {v : Int32} {Q : gS → Prop} (hQ : ∀ g' V', CR A D nn V' g' → (∀ u, u ≠ l → V' u = V u) → (∀ a, gR g' a = gR g a) → (∀ i, i < N → V' l i = v) → Q g') : w_J7_fill_53178 g (A l) v Q := by
  unfold w_J7_fill_53178
  have e := h.N l 21 hk (by decide)
  refine ⟨h.K l 21 hk (by decide), ?_⟩
  rw [e, hN]
  refine lpx2_i N (fun k g' i => i = nI k ∧ ∃ V', CR A D nn V' g' ∧ (∀ u, u ≠ l → V' u = V u) ∧ (∀ a, gR g' a = gR g a) ∧ ∀ i, i < k → V' l i = v) ?_ ?_ g 0 ⟨rfl, V, h, fun _ _ => rfl, fun _ => rfl, fun i hi => absurd hi (Nat.not_lt_zero _)⟩
  · rintro k g1 _ hk2 ⟨rfl, V1, h1, hV, hR, hx⟩ K hK
    unfold l_J7_fill_53178_5
    refine ⟨fun c => absurd c (nI_ge hk2 hN2), fun _ => ⟨h1.K l 21 hk (by decide), by rw [h1.N l 21 hk (by decide), hN]; exact vpi hk2 hN2, fun g2 e2 => ?_⟩⟩
    subst e2
    rw [cl_nI (by omega), nI_1]
    refine hK _ _ ⟨rfl, _, h1.w l 21 hk (by decide) k v, fun u hu => by rw [su_row hu]; exact hV u hu, fun a => hR a, fun i hi => ?_⟩
    rw [su_at]
    by_cases e : i = k
    · rw [if_pos e]
    · rw [if_neg e]; exact hx i (by omega)
  · rintro g1 _ ⟨rfl, V1, h1, hV, hR, hx⟩ K
    unfold l_J7_fill_53178_5
    exact ⟨fun _ => hQ g1 V1 h1 hV hR hx, fun c => absurd (nI_le (Nat.le_refl _) hN2) c⟩
theorem hasB_dif {d f k : Nat} {X C : Nat → Int32} (hv : Dif σ d f k X C) {t : Int32} : hasB X k t = hasB (tmF σ d f) (lnF σ d f) t := by
  obtain ⟨d1, d2, d3⟩ := hv
  rw [Bool.eq_iff_iff, hasB_iff, hasB_iff]
  constructor
  · rintro ⟨i, hi, e⟩
    obtain ⟨t', ht', a1, a2, a3⟩ := d1 i hi
    rcases Classical.em (∃ k, k < lnF σ d f ∧ tmF σ d f k = t) with q | q
    · exact q
    · have : tmN σ d f t' = 0 := cnt_zero (fun p hp => decide_eq_false (fun e2 => q ⟨p, hp, by rw [e2, ← a1, e]⟩))
      omega
  · rintro ⟨p, hp, e⟩
    obtain ⟨i, hi, ei⟩ := d3 p hp
    exact ⟨i, hi, by rw [ei, e]⟩
theorem x_cntTerms (h : CR A D nn V g) {d f L : Nat} (hd : d < D) (hf : f < 3) (hl : lnF σ d f ≤ 12) (hv : vRow V σ d f) (hK : KL D nn L = 21) (hN : NL L = 200) (hL : L < 100) {Q : gS → Prop} (hQ : ∀ g' V', CR A D nn V' g' → (∀ u, u ≠ L → V' u = V u) → (∀ a, gR g' a = gR g a) → (∀ t, t < 200 → V' L t = V L t + hasI (tmF σ d f) (lnF σ d f) (nI t)) → Q g') : w_X1_countTerms g (A (dl d (2 + f))) (A L) Q := by
  obtain ⟨_, hp, k, hk, e4, hD⟩ := hv
  have hD2 := hD
  obtain ⟨d1, d2, d3⟩ := hD
  have hdl : ∀ r, dl d r ≠ L := fun r => by unfold dl; omega
  unfold w_X1_countTerms
  refine lpx2_i k (fun i g' x => x = nI i ∧ ∃ V', CR A D nn V' g' ∧ (∀ u, u ≠ L → V' u = V u) ∧ (∀ a, gR g' a = gR g a) ∧ ∀ t, t < 200 → V' L t = V L t + hasI (V (dl d (8 + f))) i (nI t)) ?_ ?_ g 0 ⟨rfl, V, h, fun _ _ => rfl, fun _ => rfl, fun t _ => by unfold hasI hasB; rw [if_neg (by decide)]; exact (Int32.add_zero _).symm⟩
  · rintro i g1 _ hi ⟨rfl, V1, h1, hV, hR, hx⟩ K hK2
    obtain ⟨t0, ht0, a1, a2, a3⟩ := d1 i hi
    unfold l_X1_countTerms_2 b_X1_countTerms_33
    refine ⟨h1.tk hd hf, ?_⟩
    rw [h1.ti hd hf, hV _ (hdl _), e4]
    refine ⟨fun c => absurd c (nI_ge hi (by omega)), fun _ => x_difOn h1 hd hf (show k ≤ 12 by omega) (by rw [hV _ (hdl _)]; exact e4) hi ?_⟩
    rw [hV _ (hdl _), a1]
    refine ⟨fun c => absurd c (not_lt0 (by omega)), fun _ => ⟨h1.K L 21 hK (by decide), ?_⟩⟩
    rw [h1.N L 21 hK (by decide), hN]
    refine ⟨fun c => absurd c (nI_ge ht0 (by decide)), fun _ => ⟨vpi ht0, vpi ht0, fun g2 e2 => ?_⟩⟩
    subst e2
    rw [h1.I L 21 hK (by decide), cl_nI (by omega), nI_1]
    refine hK2 _ _ ⟨rfl, _, h1.w L 21 hK (by decide) t0 _, fun u hu => by rw [su_row hu]; exact hV u hu, fun a => hR a, fun t ht => ?_⟩
    rw [su_at, hasI_succ, a1]
    by_cases e : t = t0
    · subst e
      rw [if_pos rfl, if_pos rfl, hx t ht]
      have : hasI (V (dl d (8 + f))) i (nI t) = 0 := by
        unfold hasI
        rw [if_neg]
        intro q
        obtain ⟨j, hj, ej⟩ := hasB_iff.mp q
        have := d2 j i (by omega) hi (by rw [ej, a1])
        omega
      rw [this, Int32.add_zero]
    · rw [if_neg e, if_neg (fun q => e ((nI_inj (by omega) (by omega)).mp q).symm)]
      exact hx t ht
  · rintro g1 _ ⟨rfl, V1, h1, hV, hR, hx⟩ K
    unfold l_X1_countTerms_2
    refine ⟨h1.tk hd hf, ?_⟩
    rw [h1.ti hd hf, hV _ (hdl _), e4]
    refine ⟨fun _ => hQ g1 V1 h1 hV hR (fun t ht => ?_), fun c => absurd (nI_le (Nat.le_refl _) (by omega)) c⟩
    rw [hx t ht]
    unfold hasI
    rw [hasB_dif hD2]
theorem KL_cen (hc : isC cb) {f : Nat} (hf : f < 3) : KL D nn (cb + 2 + f) = 21 ∧ NL (cb + 2 + f) = 200 ∧ KL D nn (cb + 5) = 21 ∧ NL (cb + 5) = 3 ∧ KL D nn cb = 2 := by
  rcases hc with e | e <;> subst e <;> (rcases f with _ | _ | _ | f <;> first | exact ⟨rfl, rfl, rfl, rfl, rfl⟩ | omega)
theorem vRow_eq {V V' : Rows} {d f : Nat} (hf : f < 3) (hv : vRow V σ d f) (h : ∀ u, 100 ≤ u → u < 2000 → V' u = V u) (hd : d < 60) : vRow V' σ d f := by
  unfold vRow at hv ⊢
  have e : ∀ r, r < 20 → V' (dl d r) = V (dl d r) := fun r hr => h _ (by unfold dl; omega) (by unfold dl; omega)
  rw [e (2 + f) (by omega), e (5 + f) (by omega), e (8 + f) (by omega), e (11 + f) (by omega)]; exact hv
/-- one document counted -/
theorem x_count (h : CR A D nn V g) (hc : isC cb) {d : Nat} (hd : d < D) (hl : ∀ f, f < 3 → lnF σ d f ≤ 12) (hv : ∀ f, f < 3 → vRow V σ d f) {Q : gS → Prop} (hQ : ∀ g' V', CR A D nn V' g' → (∀ u, (u < cb ∨ cb + 5 < u) → V' u = V u) → (∀ a, gR g' a = gR g a) → V' cb 2 = V cb 2 + 1 → (∀ f, f < 3 → V' (cb + 5) f = V (cb + 5) f + σ 7 (d * 3 + f)) → (∀ f t, f < 3 → t < 200 → V' (cb + 2 + f) t = V (cb + 2 + f) t + hasI (tmF σ d f) (lnF σ d f) (nI t)) → Q g') : w_X1_count g (A cb) (A (dl d 0)) Q := by
  have hD6 := h.D6
  have hcb : cb ≤ 30 := by rcases hc with e | e <;> omega
  unfold w_X1_count
  refine ⟨(h.ck0 hc).1, fun g1 e1 => ?_⟩
  subst e1
  rw [(h.ck0 hc).2.1]
  have h1 := h.w cb 2 (KL_cen hc (show 0 < 3 by omega)).2.2.2.2 (by decide) 2 (V cb 2 + 1)
  refine lpx2_i 3 (fun k g' x => x = nI k ∧ ∃ V', CR A D nn V' g' ∧ (∀ u, (u < cb ∨ cb + 5 < u) → V' u = V u) ∧ (∀ a, gR g' a = gR g a) ∧ V' cb 2 = V cb 2 + 1 ∧ (∀ f, f < 3 → V' (cb + 5) f = if f < k then V (cb + 5) f + σ 7 (d * 3 + f) else V (cb + 5) f) ∧ (∀ f t, f < 3 → t < 200 → V' (cb + 2 + f) t = if f < k then V (cb + 2 + f) t + hasI (tmF σ d f) (lnF σ d f) (nI t) else V (cb + 2 + f) t)) ?_ ?_ _ 0 ⟨rfl, _, h1, fun u hu => su_row (by omega), fun _ => rfl, by rw [su_at, if_pos rfl], fun f _ => by rw [if_neg (by omega), su_row (by omega)], fun f t _ _ => by rw [if_neg (by omega), su_row (by omega)]⟩
  · rintro k g2 _ hk ⟨rfl, V2, h2, hV, hR, c1, c2, c3⟩ K hK
    obtain ⟨a1, a2, a3, a4, a5, a6, a7, a8, a9⟩ := h2.ck0 hc
    unfold l_X1_count_12 b_X1_count_63
    refine ⟨a1, _, a3, a5, ?_⟩
    rw [a6]
    refine ⟨fun c => absurd c (nI_ge hk (by decide)), fun _ => ⟨_, a4, a7, ?_⟩⟩
    rw [a8]
    refine ⟨fun c => absurd c (nI_ge hk (by decide)), fun _ => ⟨h2.d0k hd, x_rowOf h2 hd hk ⟨fun q => absurd q (by simp), fun y hy => ?_⟩⟩⟩
    have hy' : y = A (dl d (2 + k)) := (Option.some.inj hy).symm
    subst hy'
    have hv2 : ∀ f, f < 3 → vRow V2 σ d f := fun f hf => vRow_eq hf (hv f hf) (fun u h1 h2 => hV u (by omega)) (by omega)
    refine ⟨_, a4, a7, by rw [a8]; exact vpi hk, h2.tk hd hk, by rw [a8]; exact vpi hk, fun g3 e3 => ?_⟩
    subst e3
    rw [a9, h2.ti hd hk, (hv2 k hk).1, cl_nI (by omega), c2 k hk, if_neg (by omega)]
    have h3 := h2.w (cb + 5) 21 (KL_cen hc hk).2.2.1 (by decide) k (V (cb + 5) k + σ 7 (d * 3 + k))
    obtain ⟨b1, b2, b3, b4, b5, b6, b7, b8, b9⟩ := h3.ck0 hc
    obtain ⟨f1, f2, f3, f4⟩ := h3.cf hc hk
    refine ⟨b1, _, b3, b5, by rw [b6]; exact vpi hk, _, f1, ?_⟩
    refine x_cntTerms h3 hd hk (hl k hk) (vRow_eq hk (hv2 k hk) (fun u h1 h2 => su_row (by omega)) (by omega)) (KL_cen hc hk).1 (KL_cen (D := D) (nn := nn) hc hk).2.1 (by omega) (fun g4 V4 h4 hV4 hR4 hx4 => ?_)
    rw [nI_1]
    refine hK _ _ ⟨rfl, V4, h4, fun u hu => ?_, fun a => by rw [hR4]; exact hR a, ?_, fun f hf => ?_, fun f t hf ht => ?_⟩
    · rw [hV4 u (by omega), su_row (by omega)]; exact hV u hu
    · rw [hV4 cb (by omega), su_row (by omega)]; exact c1
    · rw [hV4 (cb + 5) (by omega), su_at]
      by_cases e : f = k
      · rw [if_pos e, if_pos (by omega), e]
      · rw [if_neg e, c2 f hf]
        by_cases e2 : f < k
        · rw [if_pos e2, if_pos (by omega)]
        · rw [if_neg e2, if_neg (by omega)]
    · by_cases e : f = k
      · subst e
        rw [hx4 t ht, su_row (by omega), c3 f t hf ht, if_neg (by omega), if_pos (by omega)]
      · rw [hV4 _ (by omega), su_row (by omega), c3 f t hf ht]
        by_cases e2 : f < k
        · rw [if_pos e2, if_pos (by omega)]
        · rw [if_neg e2, if_neg (by omega)]
  · rintro g2 _ ⟨rfl, V2, h2, hV, hR, c1, c2, c3⟩ K
    obtain ⟨a1, a2, a3, a4, a5, a6, a7, a8, a9⟩ := h2.ck0 hc
    unfold l_X1_count_12 b_X1_count_69
    refine ⟨a1, _, a3, a5, ?_⟩
    rw [a6]
    exact ⟨fun _ => hQ g2 V2 h2 hV hR c1 (fun f hf => by rw [c2 f hf, if_pos hf]) (fun f t hf ht => by rw [c3 f t hf ht, if_pos hf]), fun c => absurd (nI_le (Nat.le_refl _) (by decide)) c⟩
theorem x_reset (h : CR A D nn V g) (hc : isC cb) {Q : gS → Prop} (hQ : ∀ g' V', CR A D nn V' g' → (∀ u, (u < cb ∨ cb + 5 < u) → V' u = V u) → (∀ a, gR g' a = gR g a) → vCen V' cb ρ 0 → Q g') : w_X1_reset g (A cb) Q := by
  have hcb : cb ≤ 30 := by rcases hc with e | e <;> omega
  unfold w_X1_reset
  refine ⟨(h.ck0 hc).1, fun g1 e1 => ?_⟩
  subst e1
  have h1 := h.w cb 2 (KL_cen hc (show 0 < 3 by omega)).2.2.2.2 (by decide) 2 0
  obtain ⟨a1, a2, a3, a4, a5, a6, a7, a8, a9⟩ := h1.ck0 hc
  refine ⟨a1, _, a4, x_fill h1 (KL_cen hc (show 0 < 3 by omega)).2.2.1 (KL_cen (D := D) (nn := nn) hc (show 0 < 3 by omega)).2.2.2.1 (by decide) (fun g2 V2 h2 hV2 hR2 hx2 => ?_)⟩
  refine lpx2_i 3 (fun k g' x => x = nI k ∧ ∃ V', CR A D nn V' g' ∧ (∀ u, (u < cb ∨ cb + 5 < u) → V' u = V u) ∧ (∀ a, gR g' a = gR g a) ∧ V' cb 2 = 0 ∧ (∀ f, f < 3 → V' (cb + 5) f = 0) ∧ (∀ f t, f < k → t < 200 → V' (cb + 2 + f) t = 0)) ?_ ?_ _ 0 ⟨rfl, V2, h2, fun u hu => by rw [hV2 u (by omega)]; exact su_row (by omega), fun a => by rw [hR2]; rfl, by rw [hV2 cb (by omega), su_at, if_pos rfl], fun f hf => hx2 f hf, fun f t hf _ => absurd hf (Nat.not_lt_zero _)⟩
  · rintro k g3 _ hk ⟨rfl, V3, h3, hV, hR, c1, c2, c3⟩ K hK
    obtain ⟨b1, b2, b3, b4, b5, b6, b7, b8, b9⟩ := h3.ck0 hc
    obtain ⟨f1, f2, f3, f4⟩ := h3.cf hc hk
    unfold l_X1_reset_15
    refine ⟨b1, _, b3, b5, ?_⟩
    rw [b6]
    refine ⟨fun c => absurd c (nI_ge hk (by decide)), fun _ => ⟨_, b3, b5, by rw [b6]; exact vpi hk, _, by rw [cl_nI (by omega)]; exact f1, ?_⟩⟩
    refine x_fill h3 (KL_cen hc hk).1 (KL_cen (D := D) (nn := nn) hc hk).2.1 (by decide) (fun g4 V4 h4 hV4 hR4 hx4 => ?_)
    rw [nI_1]
    refine hK _ _ ⟨rfl, V4, h4, fun u hu => ?_, fun a => by rw [hR4]; exact hR a, ?_, fun f hf => ?_, fun f t hf ht => ?_⟩
    · rw [hV4 u (by omega)]; exact hV u hu
    · rw [hV4 cb (by omega)]; exact c1
    · rw [hV4 _ (by omega)]; exact c2 f hf
    · by_cases e : f = k
      · rw [e]; exact hx4 t ht
      · rw [hV4 _ (by omega)]; exact c3 f t (by omega) ht
  · rintro g3 _ ⟨rfl, V3, h3, hV, hR, c1, c2, c3⟩ K
    obtain ⟨b1, b2, b3, b4, b5, b6, b7, b8, b9⟩ := h3.ck0 hc
    unfold l_X1_reset_15
    refine ⟨b1, _, b3, b5, ?_⟩
    rw [b6]
    exact ⟨fun _ => hQ g3 V3 h3 hV hR ⟨c1, c2, c3⟩, fun c => absurd (nI_le (Nat.le_refl _) (by decide)) c⟩
/-- a census goes on by one document -/
theorem vCen_skip {k : Nat} (h : vCen V cb ρ k) (h6 : ρ 6 k = 0) : vCen V cb ρ (k + 1) := by
  refine ⟨?_, fun f hf => ?_, fun f t hf ht => ?_⟩
  · rw [h.1]; unfold lyF; rw [isum, if_pos h6, Int32.add_zero]
  · rw [h.2.1 f hf]; unfold leF; rw [isum, if_pos h6, Int32.add_zero]
  · rw [h.2.2 f t hf ht]; unfold spF; rw [isum, if_pos h6, Int32.add_zero]
theorem vCen_next {V' : Rows} {k : Nat} (h : vCen V cb ρ k) (h6 : ¬ ρ 6 k = 0) (e7 : ρ 7 = σ 7) (e8 : ρ 8 = σ 8) (c1 : V' cb 2 = V cb 2 + 1) (c2 : ∀ f, f < 3 → V' (cb + 5) f = V (cb + 5) f + σ 7 (k * 3 + f)) (c3 : ∀ f t, f < 3 → t < 200 → V' (cb + 2 + f) t = V (cb + 2 + f) t + hasI (tmF σ k f) (lnF σ k f) (nI t)) : vCen V' cb ρ (k + 1) := by
  refine ⟨?_, fun f hf => ?_, fun f t hf ht => ?_⟩
  · rw [c1, h.1]; unfold lyF; rw [isum, if_neg h6]
  · rw [c2 f hf, h.2.1 f hf]; unfold leF; rw [isum, if_neg h6, e7]
  · rw [c3 f t hf ht, h.2.2 f t hf ht]; unfold spF
    rw [isum, if_neg h6]
    have a : tmF ρ k f = tmF σ k f := by unfold tmF; rw [e8]
    have b : lnF ρ k f = lnF σ k f := by unfold lnF; rw [e7]
    rw [a, b]
end CCOUNT
