/-! THE CLASS: the cost of a node -/
theorem ins_le {σ : Rows} {wn : Bool} {top nn : Nat} (hN : NG σ nn) (hnn : nn ≤ 30) (ht : top < nn) : ∀ i x, insF σ wn top i x = true → x ≤ top
  | 0, x, h => Nat.le_of_eq (of_decide_eq_true h)
  | i + 1, x, h => by
    rw [insF, Bool.or_eq_true, Bool.and_eq_true] at h
    rcases h with h | ⟨_, h⟩
    · exact ins_le hN hnn ht i x h
    · have := part_lt (hN (top - i) (by omega)) (by omega) h
      omega
theorem tnB_eq {σ : Rows} {wn : Bool} {top nn : Nat} (hN : NG σ nn) (hnn : nn ≤ 30) (ht : top < nn) (j : Nat) : tnB σ wn top j = (insF σ wn top (top + 1) j && decide (σ 17 j = 0)) := by
  unfold tnB
  cases e : insF σ wn top (top + 1) j
  · rw [Bool.and_false]
  · rw [decide_eq_true (ins_le hN hnn ht _ _ e), Bool.true_and]
section CCOST2
variable {A : Nat → Nat} {D : Nat} {V σ : Rows} {n bf nn nr ns cb : Nat} {g : gS}
theorem x_entriesOf (h : CR A D nn V g) (hc : isC cb) (hcv : vCen V cb σ n) (hl : vLex V σ) (hG : GI σ n bf nn nr ns) (hN : NG σ nn) (hv : ∀ j, j < nn → vNode V σ j) (e14 : V 14 2 = nI nn) (hnr : ∀ j, j < nn → gR g (A 15) j = some (A (jl j))) {top : Nat} (ht : top < nn) {Q : Int32 → gS → Prop} (hQ : ∀ g' V', CR A D nn V' g' → (∀ u, u ≠ 16 → V' u = V u) → (∀ a, gR g' a = gR g a) → Q (costF σ n nn (tnB σ true top)) g') : w_X6_entriesOf g (A 14) (nI top) (A cb) Q := by
  have hnn := h.nn3
  have hcb : cb = 4 ∨ cb = 30 := hc
  unfold w_X6_entriesOf
  refine ⟨h.k14, x_markInside (wn := true) h hN hv e14 hnr ht (fun g1 V1 h1 hV1 hR1 hx1 => ?_)⟩
  have hv1 : ∀ j, j < nn → vNode V1 σ j := fun j hj => by
    have := hv j hj
    unfold vNode at this ⊢
    rw [hV1 (jl j) (by unfold jl; omega)]; exact this
  have hc1 : vCen V1 cb σ n := by
    obtain ⟨x1, x2, x3⟩ := hcv
    exact ⟨by rw [hV1 cb (by omega)]; exact x1, fun f hf => by rw [hV1 (cb + 5) (by omega)]; exact x2 f hf, fun f t hf ht => by rw [hV1 (cb + 2 + f) (by omega)]; exact x3 f t hf ht⟩
  have hl1 : vLex V1 σ := by
    unfold vLex at hl ⊢
    rw [hV1 11 (by omega), hV1 12 (by omega), hV1 13 (by omega)]; exact hl
  have e14' : V1 14 2 = nI nn := by rw [hV1 14 (by omega)]; exact e14
  have hnr1 : ∀ j, j < nn → gR g1 (A 15) j = some (A (jl j)) := fun j hj => by rw [hR1]; exact hnr j hj
  refine lpx2_s nn (fun j => isum (fun j => isum (fun f => costT σ n (tnB σ true top) j f) 3) j) (fun j => nI j) rfl rfl (fun j hj K hK => ?_) (fun K => ?_)
  · unfold l_X6_entriesOf_11 b_X6_entriesOf_43
    refine ⟨h1.k14, ?_⟩
    rw [h1.i14, e14']
    rw [isum] at hK
    refine ⟨fun c => absurd c (nI_ge hj (by omega)), fun _ => x_termInside h1 hv1 e14' hnr1 hj (hx1 j (by omega)) ?_⟩
    rw [← tnB_eq hN hnn ht j]
    cases e : tnB σ true top j
    · rw [if_neg (by decide)]
      refine ⟨fun _ => ?_, fun y hy => absurd hy (by simp)⟩
      have : isum (fun f => costT σ n (tnB σ true top) j f) 3 = 0 := isum_zero (fun f _ => by unfold costT; rw [if_pos (Or.inl e)])
      rw [this, Int32.add_zero] at hK
      rw [nI_1]; exact hK
    · rw [if_pos rfl]
      refine ⟨fun q => absurd q (by simp), fun y hy => ?_⟩
      have hy' : y = A (jl j) := (Option.some.inj hy).symm
      subst hy'
      have e0 := tnB_term e
      obtain ⟨a, b, ha, _, _, ea, _⟩ := (hN j hj).term e0
      obtain ⟨v1, v2⟩ := (hv1 j hj).2.1 e0
      refine x_entriesOfTerm h1 hc hc1 hl1 hG hj ha (v1.trans ea) v2 ?_
      have : isum (fun f => costT σ n (tnB σ true top) j f) 3 = isum (fun f => if fbit (σ 19 j) (nI f) = 0 then 0 else readF σ n a f + alR σ n a f) 3 := by
        refine isum_congr (fun f _ => ?_)
        unfold costT
        rw [ea, cl_nI (show a < 2 ^ 31 by omega)]
        by_cases c : fbit (σ 19 j) (nI f) = 0
        · rw [if_pos (Or.inr c), if_pos c]
        · rw [if_neg (nor2 (by rw [e]; decide) c), if_neg c]
      rw [this] at hK
      rw [nI_1]; exact hK
  · unfold l_X6_entriesOf_11
    refine ⟨h1.k14, ?_⟩
    rw [h1.i14, e14']
    exact ⟨fun _ => hQ g1 V1 h1 hV1 hR1, fun c => absurd (nI_le (Nat.le_refl _) (by omega)) c⟩
end CCOST2
