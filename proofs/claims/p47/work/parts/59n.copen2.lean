/-! THE CLASS: open -/
section COPEN2
variable {A : Nat → Nat} {D : Nat} {V V' V1 σ σ' τ ρ : Rows} {n bf nn nr ns cb sb q : Nat} {ub : Bool} {g g' g1 : gS}
theorem p_open (h : CX A D V σ n bf nn nr ns g) {x y : Int32} {Q : Int32 → gS → Prop} {X : String → gS → Prop} (hQ : (S_open σ x y).1 = 0 → ∀ g', CS (A 0) (A 73) (S_open σ x y).2.2 g' → Q (S_open σ x y).2.1 g') (hX : (S_open σ x y).1 = 1 → X sA g) (hX2 : (S_open σ x y).1 = 2 → X sS g) : w_X10_open g (A 0) x y Q X := by
  have hx := h
  obtain ⟨⟨hr, hv, hdoc, hnode, hf⟩, hce, ⟨hG, hN, hW, hs⟩, hE⟩ := h
  have hn := hG.n
  have hD6 := hr.D6
  have hE2 := hE
  obtain ⟨x1, x2, x3, x4⟩ := hE2
  unfold w_X10_open b_X10_open_14 b_X10_open_44
  have no : (¬ inR x 0 9999 ∨ ¬ inR y 0 7) → X sA g := fun q => by
    have e : S_open σ x y = bad σ 1 := by unfold S_open; rw [if_pos q]
    rw [e] at hX; exact hX rfl
  refine x_isDate ?_
  by_cases c : inR x 0 9999
  · rw [if_neg (not_not_intro c)]
    refine ⟨fun q => absurd q (by decide), fun _ => x_isKind ?_⟩
    by_cases c2 : inR y 0 7
    · rw [if_neg (not_not_intro c2)]
      refine ⟨fun q => absurd q (by decide), fun _ => ⟨hr.k0, _, hr.r0_0, hr.k1, fun o ho => ?_⟩⟩
      subst ho
      rw [hf.2.1]
      have nb : ¬ (¬ inR x 0 9999 ∨ ¬ inR y 0 7) := fun q => q.elim (fun q => q c) (fun q => q c2)
      have no2 : (¬ σ 0 2 = 0 ∨ σ 0 1 = 60) → X sS g := fun q => by
        have e : S_open σ x y = bad σ 2 := by unfold S_open; rw [if_neg nb, if_pos q]
        rw [e] at hX2; exact hX2 rfl
      by_cases c3 : σ 0 2 = 0
      · have hDn := x1 c3
        subst hDn
        rw [if_pos rfl]
        refine ⟨fun _ => ⟨_, hr.r0_0, hr.k1, ?_⟩, fun _ q => absurd q (by simp)⟩
        unfold w_X0_isFull b_X0_isFull_17
        refine ⟨hr.k1, _, hr.r1_0, hr.k2, ?_⟩
        rw [hr.i1, hv.1, hr.n2]
        refine ⟨fun c4 => ⟨Or.inl rfl, fun _ => ⟨_, hr.r0_0, fun q hq g2 e2 => ?_⟩, fun p => absurd rfl p⟩, fun c4 => ⟨Or.inr rfl, fun p => absurd p (by decide), fun _ => no2 (Or.inr ?_)⟩⟩
        · subst e2
          have hlt := (nI_lt_iff (by omega) (by decide)).mp c4
          have n60 : ¬ σ 0 1 = 60 := fun p => by
            rw [hG.d1] at p
            have := (nI_inj (b := 60) (by omega) (by decide)).mp p
            omega
          have e : S_open σ x y = (0, nI D, su (su (su (tz σ 0) 0 2 1) 3 D x) 4 D y) := by
            unfold S_open; rw [if_neg nb, if_neg (fun p => p.elim (fun p => p c3) n60), hG.nF, hG.d1]
          rw [e] at hQ
          have hQ2 := hQ rfl
          dsimp only at hQ2
          refine x_docInit hr hlt hq (fun A' V1 g1 h1 a0 oA v0 v1 v3 v4 vr gr => ?_)
          have oAs : ∀ l, l < 100 → A' l = A l := fun l hl => (oA l (Or.inl (by omega))).1
          have oVs : ∀ l, l < 100 → V1 l = V l := fun l hl => (oA l (Or.inl (by omega))).2
          have k1 := h1.k1
          rw [oAs 1 (by decide)] at k1
          refine ⟨k1, fun g2 e2 => ?_⟩
          subst e2
          have h2 : CR A' (D + 1) nn V1 (sV g1 (A 1) 2 (some q)) := by
            have := h1.v 1 1 (KL_f (by decide)) (by decide) (by decide) 2 rfl (some q)
            rw [oAs 1 (by decide)] at this; exact this
          have k0 := h2.k0
          rw [oAs 0 (by decide)] at k0
          have r00 := h2.r0_0
          rw [oAs 0 (by decide), oAs 1 (by decide)] at r00
          have k1' := h2.k1
          rw [oAs 1 (by decide)] at k1'
          have i1' := h2.i1
          rw [oAs 1 (by decide), oVs 1 (by decide)] at i1'
          refine ⟨k0, _, r00, k1', ?_⟩
          rw [i1', hv.1]
          have gv : ∀ l i, l < 100 → fK l ≠ 0 → gR (sV g1 (A 1) 2 (some q)) (A l) i = if A l = A 1 ∧ i = 2 then some q else gR g (A l) i := fun l i hl hk => by rw [gR_sV, gr l i hl hk]
          have er : ∀ t, t ≠ 0 → t ≠ 3 → t ≠ 4 → su (su (su (tz σ 0) 0 2 1) 3 D x) 4 D y t = σ t := fun t a b c => by rw [su_row c, su_row b, su_row a, tz_r a]
          have e0 : ∀ i, i ≠ 0 → i ≠ 2 → su (su (su (tz σ 0) 0 2 1) 3 D x) 4 D y 0 i = σ 0 i := fun i a b => by rw [su_row (by decide), su_row (by decide), su_at, if_neg b, tz_0 a]
          have e02 : su (su (su (tz σ 0) 0 2 1) 3 D x) 4 D y 0 2 = 1 := by rw [su_row (by decide), su_row (by decide), su_at, if_pos rfl]
          have e3 : ∀ i, su (su (su (tz σ 0) 0 2 1) 3 D x) 4 D y 3 i = if i = D then x else σ 3 i := fun i => by rw [su_row (by decide), su_at, su_row (by decide), tz_r (by decide)]
          have e4 : ∀ i, su (su (su (tz σ 0) 0 2 1) 3 D x) 4 D y 4 i = if i = D then y else σ 4 i := fun i => by rw [su_at, su_row (by decide), su_row (by decide), tz_r (by decide)]
          generalize su (su (su (tz σ 0) 0 2 1) 3 D x) 4 D y = σ2 at hQ2 er e0 e02 e3 e4
          have e73 := oAs 73 (by decide)
          have e00 := oAs 0 (by decide)
          rw [← e73, ← e00] at hQ2
          have n21 : A 2 ≠ A 1 := hr.ne (by rw [KL_f (by decide)]; decide) (by rw [KL_f (by decide)]; decide) (by decide)
          have n151 : A 15 ≠ A 1 := hr.ne (by rw [KL_f (by decide)]; decide) (by rw [KL_f (by decide)]; decide) (by decide)
          have n191 : A 19 ≠ A 1 := hr.ne (by rw [KL_f (by decide)]; decide) (by rw [KL_f (by decide)]; decide) (by decide)
          have od : ∀ d r, d < D → r < 20 → A' (dl d r) = A (dl d r) ∧ V1 (dl d r) = V (dl d r) := fun d r hd hr => oA _ (Or.inl (by unfold dl; omega))
          have h6D : σ 6 D = 0 := hs.2.2.1 D (Nat.le_refl _) hlt
          refine hQ2 _ (CX.cs (A := A') (D := D + 1) (V := V1) (n := D) (bf := bf) (nn := nn) (nr := nr) (ns := ns) ⟨⟨h2, ?_, fun d hd => ?_, fun j hj => vNode_eq (hnode j hj) ((oA _ (Or.inr (by unfold jl; omega))).2) (fun t a b => er t (by omega) (by omega) (by omega)), ?_⟩, vCen_eq hce (fun u a b => oVs u (by omega)) (er 6 (by decide) (by decide) (by decide)) (er 7 (by decide) (by decide) (by decide)) (er 8 (by decide) (by decide) (by decide)), ⟨?_, hN.rows (fun t a b => er t (by omega) (by omega) (by omega)), by unfold WG at hW ⊢; rw [er 12 (by decide) (by decide) (by decide)]; exact hW, hs.same (er 5 (by decide) (by decide) (by decide)) (er 6 (by decide) (by decide) (by decide)) (er 15 (by decide) (by decide) (by decide))⟩, ?_⟩)
          · unfold vInt at hv ⊢
            rw [oVs 1 (by decide), oVs 3 (by decide), oVs 11 (by decide), oVs 12 (by decide), oVs 13 (by decide), oVs 14 (by decide), oVs 18 (by decide), oVs 20 (by decide), oVs 21 (by decide), oVs 36 (by decide), oVs 38 (by decide), oVs 40 (by decide), er 14 (by decide) (by decide) (by decide), er 10 (by decide) (by decide) (by decide), er 11 (by decide) (by decide) (by decide), er 12 (by decide) (by decide) (by decide), er 23 (by decide) (by decide) (by decide), er 24 (by decide) (by decide) (by decide)]
            exact hv
          · by_cases cd : d = D
            · subst cd
              have hl0 : ∀ f, f < 3 → σ2 7 (d * 3 + f) = 0 := fun f hf => by rw [er 7 (by decide) (by decide) (by decide)]; exact x4 d f (Nat.le_refl _) hlt hf
              refine ⟨by rw [e3, if_pos rfl]; exact v0, by rw [e4, if_pos rfl]; exact v1, ?_, by rw [er 5 (by decide) (by decide) (by decide), x3 d (Nat.le_refl _) hlt]; exact v4, fun f hf => ?_⟩
              · rw [v3]; unfold hmF
                rw [er 6 (by decide) (by decide) (by decide), if_pos h6D, if_neg (by have := hG.1.2.1; omega)]
              · have el : lnF σ2 d f = 0 := by unfold lnF; rw [hl0 f hf]; rfl
                refine ⟨by rw [hl0 f hf, vr f hf], fun p hp => by rw [el] at hp; exact absurd hp (Nat.not_lt_zero _), 0, Nat.zero_le _, by rw [vr f hf]; rfl, fun i hi => absurd hi (Nat.not_lt_zero _), fun i j hi => absurd hi (Nat.not_lt_zero _), fun p hp => by rw [el] at hp; exact absurd hp (Nat.not_lt_zero _)⟩
            · have hd' : d < D := by omega
              have ev := fun r hr => (od d r hd' hr).2
              obtain ⟨b1, b2, b3, b4, b5⟩ := hdoc d hd'
              refine ⟨by rw [ev 0 (by decide), e3, if_neg cd]; exact b1, by rw [ev 0 (by decide), e4, if_neg cd]; exact b2, ?_, by rw [ev 0 (by decide), er 5 (by decide) (by decide) (by decide)]; exact b4, fun f hf => ?_⟩
              · rw [ev 0 (by decide), b3]; unfold hmF; rw [er 6 (by decide) (by decide) (by decide), er 15 (by decide) (by decide) (by decide)]
              · have := b5 f hf
                unfold vRow Dif tmN lnF tmF at this ⊢
                rw [ev (2 + f) (by omega), ev (5 + f) (by omega), ev (8 + f) (by omega), ev (11 + f) (by omega), er 7 (by decide) (by decide) (by decide), er 8 (by decide) (by decide) (by decide)]
                exact this
          · obtain ⟨r1, r2, r3, r4, r5, r6⟩ := hf
            refine ⟨fun d hd => ?_, ?_, fun j hj => ?_, fun p hp => ?_, by omega, Nat.le_refl _⟩
            · rw [oAs 2 (by decide), (od d 0 hd (by decide)).1, gv 2 _ (by decide) (by decide), if_neg (fun p => n21 p.1)]; exact r1 d hd
            · rw [oAs 1 (by decide), gv 1 _ (by decide) (by decide), if_pos ⟨rfl, rfl⟩, if_neg (by omega), a0]
            · rw [oAs 15 (by decide), gv 15 _ (by decide) (by decide), if_neg (fun p => n151 p.1), (oA (jl j) (Or.inr (by unfold jl; omega))).1]; exact r3 j hj
            · obtain ⟨d, hd, p1, p2⟩ := r4 p hp
              exact ⟨d, hd, by rw [er 23 (by decide) (by decide) (by decide)]; exact p1, by rw [oAs 19 (by decide), (od d 0 hd (by decide)).1, gv 19 _ (by decide) (by decide), if_neg (fun p => n191 p.1)]; exact p2⟩
          · obtain ⟨a1, a2, a3, a4, a5, a6, a7, a8⟩ := hG
            refine ⟨a1, ?_, Or.inr e02, ?_, ?_, ?_, ?_, ?_⟩
            · rw [e0 1 (by decide) (by decide), e0 9 (by decide) (by decide), e0 16 (by decide) (by decide), e0 22 (by decide) (by decide), e0 13 (by decide) (by decide)]; exact a2
            · rw [er 7 (by decide) (by decide) (by decide)]; exact a4
            · rw [er 7 (by decide) (by decide) (by decide), er 8 (by decide) (by decide) (by decide)]; exact a5
            · rw [er 5 (by decide) (by decide) (by decide), er 6 (by decide) (by decide) (by decide)]; exact a6
            · rw [er 10 (by decide) (by decide) (by decide)]; exact a7
            · rw [er 11 (by decide) (by decide) (by decide)]; exact a8
          · unfold EX
            rw [e02, er 5 (by decide) (by decide) (by decide), er 7 (by decide) (by decide) (by decide)]
            exact ⟨fun p => absurd p (by decide), fun _ => rfl, x3, fun d f hd hd6 hf => x4 d f (by omega) hd6 hf⟩
        · have : ¬ D < 60 := fun p => c4 ((nI_lt_iff (by omega) (by decide)).mpr p)
          rw [hG.d1, show D = 60 by omega]; rfl
      · have hDn := x2 c3
        rw [if_neg (by omega)]
        exact ⟨fun q => absurd q (by simp), fun _ _ => no2 (Or.inl c3)⟩
    · rw [if_pos c2]
      exact ⟨fun _ => no (Or.inr c2), fun q => absurd rfl q⟩
  · rw [if_pos c]
    exact ⟨fun _ => no (Or.inl c), fun q => absurd rfl q⟩
end COPEN2
