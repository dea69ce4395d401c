/-! THE CLASS: all nodes inside a node -/
section CQUERY2
variable {A : Nat → Nat} {D : Nat} {V σ ρ : Rows} {n bf nn nr ns cb sb : Nat} {ub : Bool} {g : gS}
theorem x_markInside (h : CR A D nn V g) (hN : NG σ nn) (hv : ∀ j, j < nn → vNode V σ j) (e14 : V 14 2 = nI nn) (hnr : ∀ j, j < nn → gR g (A 15) j = some (A (jl j))) {top : Nat} (ht : top < nn) {wn : Bool} {Q : gS → Prop} (hQ : ∀ g' V', CR A D nn V' g' → (∀ u, u ≠ 16 → V' u = V u) → (∀ a, gR g' a = gR g a) → (∀ x, x < 30 → V' 16 x = bI (insF σ wn top (top + 1) x)) → Q g') : w_X6_markInside g (A 14) (nI top) (bI (!wn)) Q := by
  have hnn := h.nn3
  unfold w_X6_markInside
  refine lpx2_i 30 (fun k g' i => i = nI k ∧ ∃ V', CR A D nn V' g' ∧ (∀ u, u ≠ 16 → V' u = V u) ∧ (∀ a, gR g' a = gR g a) ∧ ∀ x, x < k → V' 16 x = bI (insF σ wn top 0 x)) ?_ ?_ g 0 ⟨rfl, V, h, fun _ _ => rfl, fun _ => rfl, fun x hx => absurd hx (Nat.not_lt_zero _)⟩
  · rintro k g1 _ hk ⟨rfl, V1, h1, hV, hR, hx⟩ K hK
    unfold l_X6_markInside_2
    refine ⟨h1.k14, _, h1.r14_3, h1.k16, ?_⟩
    rw [h1.n16]
    have on : ∀ b : Bool, b = decide (k = top) → b_X6_markInside_26 g1 (A 14) (nI top) (bI (!wn)) (nI k) (A 16) (nI k) (bI b) Q K := by
      intro b hb
      unfold b_X6_markInside_26
      refine ⟨h1.k16, by rw [h1.n16]; exact vpi hk, bI_01 b, fun g2 e2 => ?_⟩
      subst e2
      rw [cl_nI (by omega), nI_1]
      refine hK _ _ ⟨rfl, _, h1.w 16 22 (KL_f (by decide)) (by decide) k (bI b), fun u hu => by rw [su_row hu]; exact hV u hu, fun a => hR a, fun x hx' => ?_⟩
      rw [su_at]
      by_cases e : x = k
      · rw [if_pos e, e, hb]; rfl
      · rw [if_neg e]; exact hx x (by omega)
    refine ⟨fun c => absurd c (nI_ge hk (by decide)), fun _ => ⟨_, h1.r14_3, fun c => ?_, fun c => ?_⟩⟩
    · exact on true (by rw [decide_eq_true ((nI_inj (by omega) (by omega)).mp c)])
    · exact on false (by rw [decide_eq_false (fun e => c (by rw [e]))])
  · rintro g1 _ ⟨rfl, V1, h1, hV, hR, hx⟩ K
    unfold l_X6_markInside_2
    refine ⟨h1.k14, _, h1.r14_3, h1.k16, ?_⟩
    rw [h1.n16]
    refine ⟨fun _ => ⟨_, h1.r14_3, h1.k16, ?_⟩, fun c => absurd (by decide) c⟩
    rw [h1.n16, if_neg (by rw [nI_sub1 (by decide)]; exact fun q => by have := (nI_lt_iff (show 30 - 1 < 2 ^ 31 by decide) (show top < 2 ^ 31 by omega)).mp q; omega)]
    refine lpx2_i (top + 1) (fun i g' z => z = (if i ≤ top then nI (top - i) else -1) ∧ ∃ V', CR A D nn V' g' ∧ (∀ u, u ≠ 16 → V' u = V u) ∧ (∀ a, gR g' a = gR g a) ∧ ∀ x, x < 30 → V' 16 x = bI (insF σ wn top i x)) ?_ ?_ g1 (nI top) ⟨by rw [if_pos (Nat.zero_le _)]; rfl, V1, h1, hV, hR, hx⟩
    · rintro i g2 _ hi ⟨rfl, V2, h2, hV2, hR2, hx2⟩ K2 hK2
      rw [if_pos (show i ≤ top by omega)]
      unfold l_X6_markInside_45 b_X6_markInside_77
      have z1 : nI (top - i) + (-1) = if i + 1 ≤ top then nI (top - (i + 1)) else -1 := by
        by_cases e : i + 1 ≤ top
        · rw [if_pos e]
          have : nI (top - i) = nI (top - (i + 1)) + 1 := by rw [nI_1, show top - (i + 1) + 1 = top - i by omega]
          rw [this, Int32.add_assoc]; exact Int32.add_zero _
        · rw [if_neg e, show top - i = 0 by omega]; rfl
      rw [z1]
      refine ⟨fun c => absurd c (not_lt0 (by omega)), fun _ => ⟨h2.k14, x_nodeAt h2 (by rw [hV2 14 (by omega)]; exact e14) (fun j hj => by rw [hR2]; exact hnr j hj) (show top - i < nn by omega) ⟨fun q => absurd q (by simp), fun y hy => ⟨_, h2.r14_3, h2.k16, by rw [h2.n16]; exact vpi (by omega), ?_⟩⟩⟩⟩
      have hy' : y = A (jl (top - i)) := (Option.some.inj hy).symm
      subst hy'
      rw [h2.i16, cl_nI (by omega), hx2 (top - i) (by omega)]
      refine ⟨fun c => hK2 _ _ ⟨rfl, V2, h2, hV2, hR2, fun x hx' => ?_⟩, fun c => ?_⟩
      · rw [insF, bI_0.mp c, Bool.false_and, Bool.or_false]; exact hx2 x hx'
      · have hvn : vNode V2 σ (top - i) := by
          have := hv (top - i) (by omega)
          unfold vNode at this ⊢
          rw [hV2 (jl (top - i)) (by unfold jl; omega)]; exact this
        refine x_markParts h2 hN (show top - i < nn by omega) hvn (fun g3 V3 h3 hV3 hR3 hx3 => hK2 _ _ ⟨rfl, V3, h3, fun u hu => by rw [hV3 u hu]; exact hV2 u hu, fun a => by rw [hR3]; exact hR2 a, fun x hx' => ?_⟩)
        rw [hx3 x, hx2 x hx', insF, bI_n0 c, Bool.true_and]
        cases partB σ wn (top - i) x
        · rw [Bool.or_false]; rfl
        · rw [Bool.or_true]; rfl
    · rintro g2 _ ⟨rfl, V2, h2, hV2, hR2, hx2⟩ K2
      rw [if_neg (by omega)]
      unfold l_X6_markInside_45
      exact ⟨fun _ => hQ g2 V2 h2 hV2 hR2 hx2, fun c => absurd (by decide) c⟩
end CQUERY2
