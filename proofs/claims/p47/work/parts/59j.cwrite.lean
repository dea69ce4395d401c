/-! THE CLASS: write and close -/
section CWRITE
variable {A : Nat → Nat} {D : Nat} {V V' σ σ' τ ρ : Rows} {n bf nn nr ns cb sb : Nat} {ub : Bool} {g g' : gS}
theorem x_isTerm {x : Int32} {Q : Int32 → Prop} (hQ : Q (if ¬ isT x then 0 else 1)) : w_X10_isTerm g x Q := by
  unfold w_X10_isTerm b_X10_isTerm_15 b_X10_isTerm_16
  refine ⟨fun c => ⟨Or.inl rfl, ?_⟩, fun c => ⟨fun c2 => ⟨Or.inl rfl, ?_⟩, fun c2 => ⟨Or.inr rfl, ?_⟩⟩⟩
  · rw [if_pos (fun q => q (Or.inl c))] at hQ; exact hQ
  · rw [if_pos (fun q => q (Or.inr (by rw [i32_lt]; rw [i32_le] at c2; have e : (200 : Int32).toInt = 200 := rfl; have e2 : (199 : Int32).toInt = 199 := rfl; omega)))] at hQ; exact hQ
  · rw [if_neg (not_not_intro (fun q => q.elim c (fun q => c2 (by rw [i32_lt] at q; rw [i32_le]; have e : (200 : Int32).toInt = 200 := rfl; have e2 : (199 : Int32).toInt = 199 := rfl; omega))))] at hQ; exact hQ
theorem p_close (h : CX A D V σ n bf nn nr ns g) {Q : Int32 → gS → Prop} {X : String → gS → Prop} (hQ : (S_close σ).1 = 0 → ∀ g', CS (A 0) (A 73) (S_close σ).2.2 g' → Q (S_close σ).2.1 g') (hX : (S_close σ).1 = 1 → X sS g) : w_X10_close g (A 0) Q X := by
  have hx := h
  obtain ⟨hc, hce, hP, hE⟩ := h
  have hP2 := hP
  obtain ⟨hG, hN, hW, hs⟩ := hP
  have hn := hG.n
  have hbf : bf ≤ n := hG.1.2.1
  have hns6 := hG.ns6
  obtain ⟨hr, hv, hdoc, hnode, hf⟩ := hc
  have hD6 := hr.D6
  have hE2 := hE
  obtain ⟨x1, x2, x3, x4⟩ := hE2
  unfold w_X10_close
  refine ⟨hr.k0, _, hr.r0_0, hr.k1, fun o ho => ?_⟩
  subst ho
  rw [hf.2.1]
  by_cases c : σ 0 2 = 0
  · rw [if_pos (x1 c)]
    have e : S_close σ = bad σ 1 := by unfold S_close; rw [if_pos c]
    rw [e] at hX
    exact ⟨fun _ => hX rfl, fun _ q => absurd q (by simp)⟩
  · have hDn := x2 c
    rw [if_neg (by omega)]
    refine ⟨fun q => absurd q (by simp), fun u hu => ⟨_, hr.r0_0, hr.k1, ?_⟩⟩
    have e : S_close σ = (0, nI n + 1 - nI bf, su (su (tz σ 0) 0 2 0) 0 1 (nI n + 1)) := by
      unfold S_close; rw [if_neg c, hG.d1, hG.d9]
    rw [e] at hQ
    have hQ2 := hQ rfl
    dsimp only at hQ2
    rw [nI_1] at hQ2
    unfold w_X0_takeIn w_X0_isFull b_X0_isFull_17 b_X0_takeIn_35
    refine ⟨hr.k1, hr.k1, _, hr.r1_0, hr.k2, ?_⟩
    rw [hr.i1, hv.1, hr.n2]
    refine ⟨fun _ => ⟨Or.inl rfl, fun _ => ⟨_, hr.r1_0, fun o ho => ⟨hr.k2, by rw [hr.n2]; exact vpi (by omega), _, ?_, hr.d0k (show n < D by omega), fun g1 e1 => ?_⟩⟩, fun q => absurd rfl q⟩, fun c2 => absurd ((nI_lt_iff (by omega) (by decide)).mpr (show n < 60 by omega)) c2⟩
    · rw [ho, hf.2.1, if_neg (by omega)]
    · subst e1
      rw [cl_nI (by omega)]
      have h1 := hr.v 2 25 (KL_f (by decide)) (by decide) (by decide) n rfl (some (A (dl n 0)))
      refine ⟨h1.k1, fun g2 e2 => ?_⟩
      subst e2
      rw [h1.i1, hv.1, nI_1]
      have h2 := h1.w 1 1 (KL_f (by decide)) (by decide) 1 (nI (n + 1))
      refine ⟨h2.k1, fun g3 e3 => ?_⟩
      subst e3
      have h3 := h2.v 1 1 (KL_f (by decide)) (by decide) (by decide) 2 rfl none
      have n12 : A 1 ≠ A 2 := hr.ne (by rw [KL_f (by decide)]; decide) (by rw [KL_f (by decide)]; decide) (by decide)
      have n15 : A 15 ≠ A 2 := hr.ne (by rw [KL_f (by decide)]; decide) (by rw [KL_f (by decide)]; decide) (by decide)
      have n19 : A 19 ≠ A 2 := hr.ne (by rw [KL_f (by decide)]; decide) (by rw [KL_f (by decide)]; decide) (by decide)
      have n151 : A 15 ≠ A 1 := hr.ne (by rw [KL_f (by decide)]; decide) (by rw [KL_f (by decide)]; decide) (by decide)
      have n191 : A 19 ≠ A 1 := hr.ne (by rw [KL_f (by decide)]; decide) (by rw [KL_f (by decide)]; decide) (by decide)
      have gv : ∀ a j, gR (sV (sU (sV g (A 2) n (some (A (dl n 0)))) (A 1) 1 (nI (n + 1))) (A 1) 2 none) a j = if a = A 1 ∧ j = 2 then none else if a = A 2 ∧ j = n then some (A (dl n 0)) else gR g a j := fun a j => by
        rw [gR_sV]
        by_cases q : a = A 1 ∧ j = 2
        · rw [if_pos q, if_pos q]
        · rw [if_neg q, if_neg q]; exact gR_sV
      have er : ∀ t, t ≠ 0 → su (su (tz σ 0) 0 2 0) 0 1 (nI (n + 1)) t = σ t := fun t a => by rw [su_row a, su_row a, tz_r a]
      have e0 : ∀ i, i ≠ 0 → i ≠ 1 → i ≠ 2 → su (su (tz σ 0) 0 2 0) 0 1 (nI (n + 1)) 0 i = σ 0 i := fun i a b c => by rw [su_at, if_neg b, su_at, if_neg c, tz_0 a]
      have e02 : su (su (tz σ 0) 0 2 0) 0 1 (nI (n + 1)) 0 2 = 0 := by rw [su_at, if_neg (by decide), su_at, if_pos rfl]
      have e01 : su (su (tz σ 0) 0 2 0) 0 1 (nI (n + 1)) 0 1 = nI (n + 1) := by rw [su_at, if_pos rfl]
      have ev : ∀ u, u ≠ 1 → su V 1 1 (nI (n + 1)) u = V u := fun u a => su_row a
      generalize hσ : su (su (tz σ 0) 0 2 0) 0 1 (nI (n + 1)) = σ2 at er e0 e02 e01 hQ2
      have c3 : CC A D (su V 1 1 (nI (n + 1))) σ2 (n + 1) bf nn nr ns (sV (sU (sV g (A 2) n (some (A (dl n 0)))) (A 1) 1 (nI (n + 1))) (A 1) 2 none) := by
        refine ⟨h3, ?_, fun d hd => vDoc_eq (hdoc d hd) (fun i _ => by rw [ev _ (by unfold dl; omega)]) ?_ (fun r _ _ => ev _ (by unfold dl; omega)) (fun t _ _ e1 e2 => er t (by omega)), fun j hj => vNode_eq (hnode j hj) (ev _ (by unfold jl; omega)) (fun t a b => er t (by omega)), ?_⟩
        · unfold vInt at hv ⊢
          rw [ev 3 (by decide), ev 11 (by decide), ev 12 (by decide), ev 13 (by decide), ev 14 (by decide), ev 18 (by decide), ev 20 (by decide), ev 21 (by decide), ev 36 (by decide), ev 38 (by decide), ev 40 (by decide), er 14 (by decide), er 10 (by decide), er 11 (by decide), er 12 (by decide), er 23 (by decide), er 24 (by decide), su_at, if_pos rfl, su_at, if_neg (by decide)]
          exact ⟨rfl, hv.2⟩
        · rw [ev _ (by unfold dl; omega), (hdoc d hd).2.2.1]; unfold hmF; rw [er 6 (by decide), er 15 (by decide)]
        · obtain ⟨r1, r2, r3, r4, r5, r6⟩ := hf
          refine ⟨fun d hd => ?_, ?_, fun j hj => ?_, fun p hp => ?_, by omega, by omega⟩
          · rw [gv, if_neg (fun q => n12 q.1.symm)]
            by_cases q : d = n
            · rw [if_pos ⟨rfl, q⟩, q]
            · rw [if_neg (fun p => q p.2)]; exact r1 d (by omega)
          · rw [gv, if_pos ⟨rfl, rfl⟩, if_pos (by omega)]
          · rw [gv, if_neg (fun q => n151 q.1), if_neg (fun q => n15 q.1)]; exact r3 j hj
          · obtain ⟨d, hd, e1, e2⟩ := r4 p hp
            exact ⟨d, by omega, by rw [er 23 (by decide)]; exact e1, by rw [gv, if_neg (fun q => n191 q.1), if_neg (fun q => n19 q.1)]; exact e2⟩
      have h6n : σ 6 n = 0 := hs.2.2.1 n (Nat.le_refl _) (by omega)
      have s3 : SG σ2 (n + 1) bf ns := by
        obtain ⟨s1, s2, s3, s4, s5⟩ := hs
        unfold SG
        rw [er 6 (by decide), er 15 (by decide), er 5 (by decide)]
        refine ⟨fun d hd h6 => ?_, s2, fun d hd hd6 => s3 d (by omega) hd6, s4, fun s hs => ?_⟩
        · by_cases q : d = n
          · rw [q] at h6; exact absurd h6n h6
          · exact s1 d (by omega) h6
        · obtain ⟨d, hd, a⟩ := s5 s hs
          exact ⟨d, by omega, a⟩
      have fin : CX A D (su V 1 1 (nI (n + 1))) σ2 (n + 1) bf nn nr ns (sV (sU (sV g (A 2) n (some (A (dl n 0)))) (A 1) 1 (nI (n + 1))) (A 1) 2 none) := by
        refine ⟨c3, vCen_skip (vCen_eq hce (fun u a b => ev u (by omega)) (er 6 (by decide)) (er 7 (by decide)) (er 8 (by decide))) (by rw [er 6 (by decide)]; exact h6n), ⟨?_, hN.rows (fun t a b => er t (by omega)), by unfold WG at hW ⊢; rw [er 12 (by decide)]; exact hW, s3⟩, ?_⟩
        · obtain ⟨a1, a2, a3, a4, a5, a6, a7, a8⟩ := hG
          refine ⟨⟨by omega, by omega, a1.2.2⟩, ?_, Or.inl e02, ?_, ?_, ?_, ?_, ?_⟩
          · rw [e01, e0 9 (by decide) (by decide) (by decide), e0 16 (by decide) (by decide) (by decide), e0 22 (by decide) (by decide) (by decide), e0 13 (by decide) (by decide) (by decide)]
            exact ⟨rfl, a2.2⟩
          · rw [er 7 (by decide)]; exact a4
          · rw [er 7 (by decide), er 8 (by decide)]; exact a5
          · rw [er 5 (by decide), er 6 (by decide)]; exact a6
          · rw [er 10 (by decide)]; exact a7
          · rw [er 11 (by decide)]; exact a8
        · unfold EX
          rw [e02, er 5 (by decide), er 7 (by decide)]
          exact ⟨fun _ => hDn, fun q => absurd rfl q, fun d hd hd6 => x3 d (by omega) hd6, x4⟩
      refine ⟨h3.k0, _, h3.r0_0, h3.k1, ?_⟩
      unfold w_X0_bufferSize
      refine ⟨h3.k1, x_countAt c3 (by omega) ?_⟩
      rw [cnt_congr (q := fun d => decide (bf ≤ d)) (fun d hd => by rw [decide_eq_decide]; exact hmF_buf s3 (by omega) (by omega) (by omega) hd), cnt_from (by omega)]
      have es : nI (n + 1) - nI bf = nI (n + 1 - bf) := by
        rw [show n + 1 = (n + 1 - bf) + bf by omega, ← nI_add, show n + 1 - bf + bf - bf = n + 1 - bf by omega]
        exact Int32.add_sub_cancel _ _
      rw [es] at hQ2
      exact hQ2 _ fin.cs
/-- a row of different terms, with one more place -/
theorem Dif.app {d f k : Nat} {X C : Nat → Int32} (h : Dif σ d f k X C) {t : Nat} (ht : t < 200) (hl : lnF σ' d f = lnF σ d f + 1) (ho : ∀ p, p < lnF σ d f → tmF σ' d f p = tmF σ d f p) (hn : tmF σ' d f (lnF σ d f) = nI t) : (∀ i, i < k → X i = nI t → Dif σ' d f k X (upd C i (C i + 1))) ∧ ((∀ i, i < k → X i ≠ nI t) → Dif σ' d f (k + 1) (upd X k (nI t)) (upd C k 1)) := by
  obtain ⟨d1, d2, d3⟩ := h
  have up : ∀ (F : Nat → Int32) (a b : Nat) (v : Int32), upd F a v b = if b = a then v else F b := fun _ _ _ _ => rfl
  have tm : ∀ u, u < 200 → tmN σ' d f u = tmN σ d f u + if t = u then 1 else 0 := fun u hu => by
    unfold tmN
    rw [hl, cnt_s, cnt_congr (q := fun p => decide (tmF σ d f p = nI u)) (fun p hp => by rw [ho p hp]), hn]
    congr 1
    by_cases c : t = u
    · subst c; simp
    · rw [if_neg c, if_neg]
      rw [decide_eq_true_iff]
      exact fun q => c ((nI_inj (by omega) (by omega)).mp q)
  constructor
  · intro i0 hi0 e0
    refine ⟨fun i hi => ?_, d2, fun p hp => ?_⟩
    · obtain ⟨t1, ht1, a1, a2, a3⟩ := d1 i hi
      refine ⟨t1, ht1, a1, ?_, by rw [tm t1 ht1]; omega⟩
      rw [up, tm t1 ht1]
      by_cases c : i = i0
      · subst c
        have : t1 = t := (nI_inj (by omega) (by omega)).mp (by rw [← a1, e0])
        subst this
        rw [if_pos rfl, if_pos rfl, a2, nI_1]
      · have : ¬ t = t1 := fun q => c (d2 i i0 hi hi0 (by rw [a1, e0, q]))
        rw [if_neg c, if_neg this, a2, Nat.add_zero]
    · by_cases c : p < lnF σ d f
      · obtain ⟨i, hi, e⟩ := d3 p c
        exact ⟨i, hi, by rw [ho p c]; exact e⟩
      · have : p = lnF σ d f := by omega
        exact ⟨i0, hi0, by rw [this, hn]; exact e0⟩
  · intro hne
    have z : tmN σ d f t = 0 := cnt_zero (fun p hp => decide_eq_false (fun q => by
      obtain ⟨i, hi, e⟩ := d3 p hp
      exact hne i hi (by rw [e, q])))
    refine ⟨fun i hi => ?_, fun i j hi hj e => ?_, fun p hp => ?_⟩
    · rw [up, up]
      by_cases c : i = k
      · rw [if_pos c, if_pos c]
        exact ⟨t, ht, rfl, by rw [tm t ht, z, if_pos rfl]; rfl, by rw [tm t ht, if_pos rfl]; omega⟩
      · obtain ⟨t1, ht1, a1, a2, a3⟩ := d1 i (by omega)
        have : ¬ t = t1 := fun q => hne i (by omega) (by rw [a1, q])
        rw [if_neg c, if_neg c]
        exact ⟨t1, ht1, a1, by rw [tm t1 ht1, if_neg this, Nat.add_zero]; exact a2, by rw [tm t1 ht1]; omega⟩
    · rw [up, up] at e
      by_cases ci : i = k
      · by_cases cj : j = k
        · omega
        · rw [if_pos ci, if_neg cj] at e
          exact absurd e.symm (hne j (by omega))
      · by_cases cj : j = k
        · rw [if_neg ci, if_pos cj] at e
          exact absurd e (hne i (by omega))
        · rw [if_neg ci, if_neg cj] at e
          exact d2 i j (by omega) (by omega) e
    · by_cases c : p < lnF σ d f
      · obtain ⟨i, hi, e⟩ := d3 p c
        exact ⟨i, by omega, by rw [up, if_neg (by omega), ho p c]; exact e⟩
      · have : p = lnF σ d f := by omega
        exact ⟨k, by omega, by rw [up, if_pos rfl, this, hn]⟩
theorem vRow_cong {d f : Nat} (h : vRow V σ d f) (e7 : σ' 7 (d * 3 + f) = σ 7 (d * 3 + f)) (e8 : ∀ p, p < lnF σ d f → tmF σ' d f p = tmF σ d f p) (e2 : V' (dl d (2 + f)) = V (dl d (2 + f))) (e5 : V' (dl d (5 + f)) = V (dl d (5 + f))) (ex : V' (dl d (8 + f)) = V (dl d (8 + f))) (ec : V' (dl d (11 + f)) = V (dl d (11 + f))) : vRow V' σ' d f := by
  obtain ⟨a1, a2, k, a3, a4, d1, d2, d3⟩ := h
  have el : lnF σ' d f = lnF σ d f := by unfold lnF; rw [e7]
  have et : ∀ u, tmN σ' d f u = tmN σ d f u := fun u => by
    unfold tmN; rw [el]
    exact cnt_congr (fun p hp => by rw [e8 p hp])
  refine ⟨by rw [e2, e7]; exact a1, fun p hp => by rw [el] at hp; rw [e5, e8 p hp]; exact a2 p hp, k, by rw [el]; exact a3, by rw [e2]; exact a4, ?_⟩
  rw [ex, ec]
  refine ⟨fun i hi => ?_, d2, fun p hp => ?_⟩
  · obtain ⟨t, ht, b1, b2, b3⟩ := d1 i hi
    exact ⟨t, ht, b1, by rw [et]; exact b2, by rw [et]; exact b3⟩
  · rw [el] at hp
    rw [e8 p hp]; exact d3 p hp
/-- the open document has one more term -/
theorem cx_app (h : CX A D V σ n bf nn nr ns g) {f l t : Nat} (hf : f < 3) (ho : ¬ σ 0 2 = 0) (hl : lnF σ n f = l) (hl12 : l < 12) (ht : t < 200) (hr' : CR A D nn V' g') (hV : ∀ u, u ≠ dl n (2 + f) → u ≠ dl n (5 + f) → u ≠ dl n (8 + f) → u ≠ dl n (11 + f) → V' u = V u) (hR : ∀ a, gR g' a = gR g a) (hv' : vRow V' (su (su (tz σ 0) 8 ((n * 3 + f) * 12 + l) (nI t)) 7 (n * 3 + f) (nI (l + 1))) n f) : CX A D V' (su (su (tz σ 0) 8 ((n * 3 + f) * 12 + l) (nI t)) 7 (n * 3 + f) (nI (l + 1))) n bf nn nr ns g' := by
  obtain ⟨⟨hr, hv, hdoc, hnode, hfr⟩, hce, ⟨hG, hN, hW, hs⟩, hE⟩ := h
  have hD6 := hr.D6
  have hDn := hE.2.1 ho
  have er : ∀ u, u ≠ 0 → u ≠ 7 → u ≠ 8 → su (su (tz σ 0) 8 ((n * 3 + f) * 12 + l) (nI t)) 7 (n * 3 + f) (nI (l + 1)) u = σ u := fun u a b c => by rw [su_row b, su_row c, tz_r a]
  have e0 : ∀ i, i ≠ 0 → su (su (tz σ 0) 8 ((n * 3 + f) * 12 + l) (nI t)) 7 (n * 3 + f) (nI (l + 1)) 0 i = σ 0 i := fun i a => by rw [su_row (by decide), su_row (by decide), tz_0 a]
  have e7 : ∀ i, su (su (tz σ 0) 8 ((n * 3 + f) * 12 + l) (nI t)) 7 (n * 3 + f) (nI (l + 1)) 7 i = if i = n * 3 + f then nI (l + 1) else σ 7 i := fun i => by rw [su_at, su_row (by decide), tz_r (by decide)]
  have e8 : ∀ i, su (su (tz σ 0) 8 ((n * 3 + f) * 12 + l) (nI t)) 7 (n * 3 + f) (nI (l + 1)) 8 i = if i = (n * 3 + f) * 12 + l then nI t else σ 8 i := fun i => by rw [su_row (by decide), su_at, tz_r (by decide)]
  generalize su (su (tz σ 0) 8 ((n * 3 + f) * 12 + l) (nI t)) 7 (n * 3 + f) (nI (l + 1)) = σ2 at hv' er e0 e7 e8 ⊢
  have lnx : ∀ d f', f' < 3 → (d ≠ n ∨ f' ≠ f) → σ2 7 (d * 3 + f') = σ 7 (d * 3 + f') := fun d f' h1 h2 => by rw [e7, if_neg (by omega)]
  have tmx : ∀ d f' p, f' < 3 → (d ≠ n ∨ f' ≠ f) → p < 12 → tmF σ2 d f' p = tmF σ d f' p := fun d f' p h1 h2 h3 => by unfold tmF; rw [e8, if_neg (by omega)]
  have rowx : ∀ d f', d < D → f' < 3 → (d ≠ n ∨ f' ≠ f) → vRow V' σ2 d f' := fun d f' h0 h1 h2 =>
    have hln := (hG.ln (show d < 60 by omega) h1).1
    vRow_cong ((hdoc d h0).2.2.2.2 f' h1) (lnx d f' h1 h2) (fun p hp => tmx d f' p h1 h2 (by omega)) (hV _ (by unfold dl; omega) (by unfold dl; omega) (by unfold dl; omega) (by unfold dl; omega)) (hV _ (by unfold dl; omega) (by unfold dl; omega) (by unfold dl; omega) (by unfold dl; omega)) (hV _ (by unfold dl; omega) (by unfold dl; omega) (by unfold dl; omega) (by unfold dl; omega)) (hV _ (by unfold dl; omega) (by unfold dl; omega) (by unfold dl; omega) (by unfold dl; omega))
  have hVs : ∀ u, u < 100 ∨ 2000 ≤ u → V' u = V u := fun u hu => hV u (by unfold dl; omega) (by unfold dl; omega) (by unfold dl; omega) (by unfold dl; omega)
  have hV0 : ∀ d, V' (dl d 0) = V (dl d 0) := fun d => hV _ (by unfold dl; omega) (by unfold dl; omega) (by unfold dl; omega) (by unfold dl; omega)
  refine ⟨⟨hr', ?_, fun d hd => ?_, fun j hj => vNode_eq (hnode j hj) (hVs _ (Or.inr (by unfold jl; omega))) (fun u a b => er u (by omega) (by omega) (by omega)), ?_⟩, ?_, ⟨?_, hN.rows (fun u a b => er u (by omega) (by omega) (by omega)), by unfold WG at hW ⊢; rw [er 12 (by decide) (by decide) (by decide)]; exact hW, hs.same (er 5 (by decide) (by decide) (by decide)) (er 6 (by decide) (by decide) (by decide)) (er 15 (by decide) (by decide) (by decide))⟩, ?_⟩
  · unfold vInt at hv ⊢
    rw [hVs 1 (by decide), hVs 3 (by decide), hVs 11 (by decide), hVs 12 (by decide), hVs 13 (by decide), hVs 14 (by decide), hVs 18 (by decide), hVs 20 (by decide), hVs 21 (by decide), hVs 36 (by decide), hVs 38 (by decide), hVs 40 (by decide), er 14 (by decide) (by decide) (by decide), er 10 (by decide) (by decide) (by decide), er 11 (by decide) (by decide) (by decide), er 12 (by decide) (by decide) (by decide), er 23 (by decide) (by decide) (by decide), er 24 (by decide) (by decide) (by decide)]
    exact hv
  · obtain ⟨b1, b2, b3, b4, b5⟩ := hdoc d hd
    refine ⟨by rw [hV0, er 3 (by decide) (by decide) (by decide)]; exact b1, by rw [hV0, er 4 (by decide) (by decide) (by decide)]; exact b2, ?_, by rw [hV0, er 5 (by decide) (by decide) (by decide)]; exact b4, fun f' hf' => ?_⟩
    · rw [hV0, b3]; unfold hmF; rw [er 6 (by decide) (by decide) (by decide), er 15 (by decide) (by decide) (by decide)]
    · by_cases c : d ≠ n ∨ f' ≠ f
      · exact rowx d f' hd hf' c
      · have c1 : d = n := by omega
        have c2 : f' = f := by omega
        subst c1; subst c2; exact hv'
  · unfold cRef at hfr ⊢
    simp only [hR, er 23 (by decide) (by decide) (by decide)]
    exact hfr
  · unfold vCen lyF leF spF at hce ⊢
    refine ⟨by rw [hVs 4 (by decide), er 6 (by decide) (by decide) (by decide)]; exact hce.1, fun f' hf' => ?_, fun f' u hf' hu => ?_⟩
    · rw [hVs (4 + 5) (by decide), hce.2.1 f' hf', er 6 (by decide) (by decide) (by decide)]
      exact isum_congr (fun d hd => by rw [lnx d f' hf' (Or.inl (by omega))])
    · rw [hVs (4 + 2 + f') (by omega), hce.2.2 f' u hf' hu, er 6 (by decide) (by decide) (by decide)]
      refine isum_congr (fun d hd => ?_)
      have hln := (hG.ln (show d < 60 by omega) hf').1
      have el : lnF σ2 d f' = lnF σ d f' := by unfold lnF; rw [lnx d f' hf' (Or.inl (by omega))]
      have eh : hasB (tmF σ2 d f') (lnF σ d f') (nI u) = hasB (tmF σ d f') (lnF σ d f') (nI u) := by
        rw [Bool.eq_iff_iff, hasB_iff, hasB_iff]
        constructor
        · rintro ⟨p, hp, e⟩; exact ⟨p, hp, by rw [← tmx d f' p hf' (Or.inl (by omega)) (by omega)]; exact e⟩
        · rintro ⟨p, hp, e⟩; exact ⟨p, hp, by rw [tmx d f' p hf' (Or.inl (by omega)) (by omega)]; exact e⟩
      unfold hasI
      rw [el, eh]
  · have hGl := fun d f' (h1 : d < 60) (h2 : f' < 3) => hG.ln h1 h2
    have hGt := fun d f' p (h1 : d < 60) (h2 : f' < 3) (h3 : p < lnF σ d f') => hG.tm h1 h2 h3
    obtain ⟨a1, a2, a3, a4, a5, a6, a7, a8⟩ := hG
    refine ⟨a1, ?_, ?_, fun i hi => ?_, fun d f' p hd hf' hp => ?_, ?_, ?_, ?_⟩
    · rw [e0 1 (by decide), e0 9 (by decide), e0 16 (by decide), e0 22 (by decide), e0 13 (by decide)]; exact a2
    · rw [e0 2 (by decide)]; exact a3
    · rw [e7]; split
      · exact ⟨l + 1, by omega, rfl⟩
      · exact a4 i hi
    · by_cases c : d ≠ n ∨ f' ≠ f
      · have hp2 : p < lnF σ d f' := by unfold lnF; rw [← lnx d f' hf' c]; exact hp
        have hln := (hGl d f' hd hf').1
        have := tmx d f' p hf' c (by omega)
        unfold tmF at this
        rw [this]; exact hGt d f' p hd hf' hp2
      · have c1 : d = n := by omega
        have c2 : f' = f := by omega
        subst c1; subst c2
        rw [e7, if_pos rfl, cl_nI (by omega)] at hp
        rw [e8]
        by_cases c3 : p = l
        · rw [if_pos (by omega)]; exact ⟨t, ht, rfl⟩
        · rw [if_neg (by omega)]; exact hGt _ _ p hd hf' (by omega)
    · rw [er 5 (by decide) (by decide) (by decide), er 6 (by decide) (by decide) (by decide)]; exact a6
    · rw [er 10 (by decide) (by decide) (by decide)]; exact a7
    · rw [er 11 (by decide) (by decide) (by decide)]; exact a8
  · obtain ⟨x1, x2, x3, x4⟩ := hE
    unfold EX
    rw [e0 2 (by decide), er 5 (by decide) (by decide) (by decide)]
    exact ⟨x1, x2, x3, fun d f' hd hd6 hf' => by rw [lnx d f' hf' (Or.inl (by omega))]; exact x4 d f' hd hd6 hf'⟩
theorem p_write (h : CX A D V σ n bf nn nr ns g) {x y : Int32} {Q : Int32 → gS → Prop} {X : String → gS → Prop} (hQ : (S_write σ x y).1 = 0 → ∀ g', CS (A 0) (A 73) (S_write σ x y).2.2 g' → Q (S_write σ x y).2.1 g') (hX : (S_write σ x y).1 = 1 → X sA g) (hX2 : (S_write σ x y).1 = 2 → X sS g) : w_X10_write g (A 0) x y Q X := by
  have hx := h
  obtain ⟨hc, hce, hP, hE⟩ := h
  obtain ⟨hG, hN, hW, hs⟩ := hP
  have hn := hG.n
  obtain ⟨hr, hv, hdoc, hnode, hf⟩ := hc
  have hD6 := hr.D6
  unfold w_X10_write b_X10_write_14 b_X10_write_66
  have no : (¬ isF x ∨ ¬ isT y) → X sA g := fun q => by
    have e : S_write σ x y = bad σ 1 := by unfold S_write; rw [if_pos q]
    rw [e] at hX; exact hX rfl
  refine x_isField ?_
  by_cases c : isF x
  · obtain ⟨f, hf3, rfl⟩ := isF_nI c
    rw [if_neg (not_not_intro c)]
    refine ⟨fun q => absurd q (by decide), fun _ => x_isTerm ?_⟩
    by_cases c2 : isT y
    · obtain ⟨t, ht, rfl⟩ := isT_nI c2
      rw [if_neg (not_not_intro c2)]
      refine ⟨fun q => absurd q (by decide), fun _ => ⟨hr.k0, _, hr.r0_0, hr.k1, fun o ho => ?_⟩⟩
      subst ho
      rw [hf.2.1]
      have nb : ¬ (¬ isF (nI f) ∨ ¬ isT (nI t)) := fun q => q.elim (fun q => q c) (fun q => q c2)
      have no2 : (σ 0 2 = 0 ∨ σ 7 (n * 3 + f) = 12) → X sS g := fun q => by
        have e : S_write σ (nI f) (nI t) = bad σ 2 := by
          unfold S_write; rw [if_neg nb, hG.nF, show cl (nI f) = f from cl_nI (by omega), if_pos q]
        rw [e] at hX2; exact hX2 rfl
      by_cases c3 : σ 0 2 = 0
      · rw [if_pos (hE.1 c3)]
        exact ⟨fun _ => no2 (Or.inl c3), fun _ q => absurd q (by simp)⟩
      · have hDn := hE.2.1 c3
        rw [if_neg (by omega)]
        refine ⟨fun q => absurd q (by simp), fun u hu => ?_⟩
        have hu' : u = A (dl n 0) := (Option.some.inj hu).symm
        subst hu'
        have hnD : n < D := by omega
        refine ⟨hr.d0k hnD, x_rowOf hr hnD hf3 ⟨fun q => absurd q (by simp), fun u hu => ?_⟩⟩
        have hu' : u = A (dl n (2 + f)) := (Option.some.inj hu).symm
        subst hu'
        obtain ⟨hl12, el⟩ := hG.ln (show n < 60 by omega) hf3
        obtain ⟨v3, vp, k, hk, e4, hD⟩ := (hdoc n hnD).2.2.2.2 f hf3
        generalize hl : lnF σ n f = l at hl12 el vp hk
        unfold w_X9_isFull b_X9_isFull_17
        refine ⟨hr.tk hnD hf3, hr.tk hnD hf3, _, hr.tpr hnD hf3, hr.pk hnD hf3, ?_⟩
        rw [hr.ti hnD hf3, v3, el, hr.pn hnD hf3]
        refine ⟨fun c4 => ⟨Or.inl rfl, fun _ => ?_, fun q => absurd rfl q⟩, fun c4 => ⟨Or.inr rfl, fun q => absurd q (by decide), fun _ => no2 (Or.inr ?_)⟩⟩
        · have hlt : l < 12 := (nI_lt_iff (by omega) (by decide)).mp c4
          have e : S_write σ (nI f) (nI t) = (0, nI (l + 1), su (su (tz σ 0) 8 ((n * 3 + f) * 12 + l) (nI t)) 7 (n * 3 + f) (nI (l + 1))) := by
            have n12 : ¬ (σ 0 2 = 0 ∨ σ 7 (n * 3 + f) = 12) := fun q => q.elim c3 (fun q => by
              rw [el] at q
              have := (nI_inj (b := 12) (by omega) (by decide)).mp q
              omega)
            unfold S_write
            rw [if_neg nb, hG.nF, show cl (nI f) = f from cl_nI (by omega), if_neg n12, el, show cl (nI l) = l from cl_nI (by omega), nI_1]
          rw [e] at hQ
          have hQ2 := hQ rfl
          dsimp only at hQ2
          unfold w_X9_append w_X9_isFull b_X9_isFull_17
          refine ⟨hr.tk hnD hf3, hr.tk hnD hf3, _, hr.tpr hnD hf3, hr.pk hnD hf3, ?_⟩
          rw [hr.ti hnD hf3, v3, el, hr.pn hnD hf3]
          refine ⟨fun _ => ⟨Or.inl rfl, fun _ => ⟨_, hr.tpr hnD hf3, hr.pk hnD hf3, by rw [hr.pn hnD hf3]; exact vpi hlt, fun g1 e1 => ?_⟩, fun q => absurd rfl q⟩, fun q => absurd c4 q⟩
          subst e1
          rw [cl_nI (by omega)]
          have w1 := hr.w (dl n (5 + f)) 21 (by rw [KL_d hnD (by omega) (by omega)]; exact dK_p hf3) (by decide) l (nI t)
          refine ⟨w1.tk hnD hf3, fun g2 e2 => ?_⟩
          subst e2
          rw [w1.ti hnD hf3, su_row (by unfold dl; omega), v3, el, nI_1]
          have w2 := w1.w (dl n (2 + f)) 10 (by rw [KL_d hnD (by omega) (by omega)]; exact dK_t hf3) (by decide) 3 (nI (l + 1))
          have eX : su (su V (dl n (5 + f)) l (nI t)) (dl n (2 + f)) 3 (nI (l + 1)) (dl n (8 + f)) = V (dl n (8 + f)) := by rw [su_row (by unfold dl; omega), su_row (by unfold dl; omega)]
          have eC : su (su V (dl n (5 + f)) l (nI t)) (dl n (2 + f)) 3 (nI (l + 1)) (dl n (11 + f)) = V (dl n (11 + f)) := by rw [su_row (by unfold dl; omega), su_row (by unfold dl; omega)]
          have eP : ∀ p, p < l + 1 → su (su V (dl n (5 + f)) l (nI t)) (dl n (2 + f)) 3 (nI (l + 1)) (dl n (5 + f)) p = if p = l then nI t else V (dl n (5 + f)) p := fun p _ => by rw [su_row (by unfold dl; omega), su_at]
          have e43 : su (su V (dl n (5 + f)) l (nI t)) (dl n (2 + f)) 3 (nI (l + 1)) (dl n (2 + f)) 4 = nI k := by rw [su_at, if_neg (by decide), su_row (by unfold dl; omega)]; exact e4
          have e33 : su (su V (dl n (5 + f)) l (nI t)) (dl n (2 + f)) 3 (nI (l + 1)) (dl n (2 + f)) 3 = nI (l + 1) := by rw [su_at, if_pos rfl]
          have eO : ∀ u, u ≠ dl n (2 + f) → u ≠ dl n (5 + f) → su (su V (dl n (5 + f)) l (nI t)) (dl n (2 + f)) 3 (nI (l + 1)) u = V u := fun u a b => by rw [su_row a, su_row b]
          generalize su (su V (dl n (5 + f)) l (nI t)) (dl n (2 + f)) 3 (nI (l + 1)) = V2 at w2 eX eC eP e43 e33 eO
          -- what the new rows say
          have s7 : su (su (tz σ 0) 8 ((n * 3 + f) * 12 + l) (nI t)) 7 (n * 3 + f) (nI (l + 1)) 7 (n * 3 + f) = nI (l + 1) := by rw [su_at, if_pos rfl]
          have sl : lnF (su (su (tz σ 0) 8 ((n * 3 + f) * 12 + l) (nI t)) 7 (n * 3 + f) (nI (l + 1))) n f = lnF σ n f + 1 := by
            unfold lnF; rw [s7, cl_nI (by omega)]; unfold lnF at hl; omega
          have sp : ∀ p, p < lnF σ n f → tmF (su (su (tz σ 0) 8 ((n * 3 + f) * 12 + l) (nI t)) 7 (n * 3 + f) (nI (l + 1))) n f p = tmF σ n f p := fun p hp => by
            unfold tmF; rw [su_row (by decide), su_at, if_neg (by omega), tz_r (by decide)]
          have sn : tmF (su (su (tz σ 0) 8 ((n * 3 + f) * 12 + l) (nI t)) 7 (n * 3 + f) (nI (l + 1))) n f (lnF σ n f) = nI t := by
            unfold tmF; rw [su_row (by decide), su_at, if_pos (by omega)]
          have dif := hD.app ht sl sp sn
          have rest : ∀ (V3 : Rows) (k' : Nat), V3 (dl n (2 + f)) 3 = nI (l + 1) → (∀ p, p < l + 1 → V3 (dl n (5 + f)) p = V2 (dl n (5 + f)) p) → k' ≤ l + 1 → V3 (dl n (2 + f)) 4 = nI k' → Dif (su (su (tz σ 0) 8 ((n * 3 + f) * 12 + l) (nI t)) 7 (n * 3 + f) (nI (l + 1))) n f k' (V3 (dl n (8 + f))) (V3 (dl n (11 + f))) → vRow V3 (su (su (tz σ 0) 8 ((n * 3 + f) * 12 + l) (nI t)) 7 (n * 3 + f) (nI (l + 1))) n f := by
            intro V3 k' b1 b2 b3 b4 b5
            refine ⟨by rw [s7]; exact b1, fun p hp => ?_, k', by rw [sl]; omega, b4, b5⟩
            rw [sl] at hp
            rw [b2 p (by omega), eP p (by omega)]
            by_cases q : p = l
            · have sn2 := sn
              rw [hl] at sn2
              rw [if_pos q, q, sn2]
            · rw [if_neg q, sp p (by omega)]; exact vp p (by omega)
          refine ⟨w2.tk hnD hf3, x_indexOf w2 hnD hf3 (show k ≤ 12 by omega) e43 (fun i hi ei _ => ?_) (fun hne => ?_)⟩
          · rw [eX] at ei
            refine ⟨fun q => absurd q (not_lt0 (by omega)), fun _ => ⟨_, w2.tcr hnD hf3, w2.ck hnD hf3, ?_⟩⟩
            rw [w2.cn hnD hf3]
            refine ⟨fun q => absurd q (nI_ge (show i < 12 by omega) (by decide)), fun _ => ⟨_, w2.tcr hnD hf3, w2.ck hnD hf3, by rw [w2.cn hnD hf3]; exact vpi (by omega), by rw [w2.cn hnD hf3]; exact vpi (by omega), fun g3 e3 => ?_⟩⟩
            subst e3
            rw [cl_nI (by omega), w2.ci hnD hf3, eC]
            have w3 := w2.w (dl n (11 + f)) 21 (by rw [KL_d hnD (by omega) (by omega)]; exact dK_c hf3) (by decide) i (V (dl n (11 + f)) i + 1)
            unfold b_X9_append_102
            refine ⟨w3.tk hnD hf3, ?_⟩
            rw [w3.ti hnD hf3, su_row (by unfold dl; omega), e33]
            refine hQ2 _ (CX.cs (cx_app hx hf3 c3 hl hlt ht w3 (fun u a b _ d => by rw [su_row d]; exact eO u a b) (fun _ => rfl) (rest _ k ?_ (fun p _ => ?_) (by omega) ?_ ?_)))
            · rw [su_row (by unfold dl; omega)]; exact e33
            · rw [su_row (by unfold dl; omega)]
            · rw [su_row (by unfold dl; omega)]; exact e43
            · rw [su_row (by unfold dl; omega), eX, su_self, eC]
              exact dif.1 i hi ei
          · refine ⟨fun _ => ?_, fun q => absurd (by decide) q⟩
            unfold b_X9_append_60 b_X9_append_102
            refine ⟨w2.tk hnD hf3, _, w2.tqr hnD hf3, w2.qk hnD hf3, ?_⟩
            rw [w2.qn hnD hf3, w2.ti hnD hf3, e43]
            refine ⟨fun q => absurd q (nI_ge (show k < 12 by omega) (by decide)), fun _ => ⟨_, w2.tqr hnD hf3, w2.qk hnD hf3, by rw [w2.qn hnD hf3]; exact vpi (by omega), fun g3 e3 => ?_⟩⟩
            subst e3
            rw [cl_nI (by omega)]
            have w3 := w2.w (dl n (8 + f)) 21 (by rw [KL_d hnD (by omega) (by omega)]; exact dK_q hf3) (by decide) k (nI t)
            refine ⟨w3.tk hnD hf3, _, w3.tcr hnD hf3, w3.ck hnD hf3, ?_⟩
            rw [w3.ti hnD hf3, su_row (by unfold dl; omega), e43]
            refine ⟨by rw [w3.cn hnD hf3]; exact vpi (by omega), fun g4 e4' => ?_⟩
            subst e4'
            rw [cl_nI (by omega)]
            have w4 := w3.w (dl n (11 + f)) 21 (by rw [KL_d hnD (by omega) (by omega)]; exact dK_c hf3) (by decide) k 1
            refine ⟨w4.tk hnD hf3, fun g5 e5 => ?_⟩
            subst e5
            rw [w4.ti hnD hf3, su_row (by unfold dl; omega), su_row (by unfold dl; omega), e43, nI_1]
            have w5 := w4.w (dl n (2 + f)) 10 (by rw [KL_d hnD (by omega) (by omega)]; exact dK_t hf3) (by decide) 4 (nI (k + 1))
            refine ⟨w5.tk hnD hf3, ?_⟩
            rw [w5.ti hnD hf3, su_at, if_neg (by decide), su_row (by unfold dl; omega), su_row (by unfold dl; omega), e33]
            refine hQ2 _ (CX.cs (cx_app hx hf3 c3 hl hlt ht w5 (fun u a b d e => by rw [su_row a, su_row e, su_row d]; exact eO u a b) (fun _ => rfl) (rest _ (k + 1) ?_ (fun p _ => ?_) (by omega) ?_ ?_)))
            · rw [su_at, if_neg (by decide), su_row (by unfold dl; omega), su_row (by unfold dl; omega)]; exact e33
            · rw [su_row (by unfold dl; omega), su_row (by unfold dl; omega), su_row (by unfold dl; omega)]
            · rw [su_at, if_pos rfl]
            · rw [su_row (by unfold dl; omega), su_row (by unfold dl; omega), su_self, eX, su_row (by unfold dl; omega), su_self, su_row (by unfold dl; omega), eC]
              exact dif.2 (fun i hi => by have := hne i hi; rw [eX] at this; exact this)
        · have hge : ¬ l < 12 := fun q => c4 ((nI_lt_iff (by omega) (by decide)).mpr q)
          rw [el, show l = 12 by omega]; rfl
    · rw [if_pos c2]
      exact ⟨fun _ => no (Or.inr c2), fun q => absurd rfl q⟩
  · rw [if_pos c]
    exact ⟨fun _ => no (Or.inl c), fun q => absurd rfl q⟩
end CWRITE
