/-! THE CLASS: which nodes are in which -/
section CQUERY
variable {A : Nat → Nat} {D : Nat} {V σ ρ : Rows} {n bf nn nr ns cb sb : Nat} {ub : Bool} {g : gS}
theorem x_markLoop (h : CR A D nn V g) {j P : Nat} (hj : j < nn) (hP : P ≤ 30) {pp : Nat → Nat} (hpp : ∀ i, i < P → pp i < 30) (hpa : ∀ V' g', CR A D nn V' g' → V' (jl j) = V (jl j) → ∀ i, i < P → ∀ Q : Int32 → Prop, Q (nI (pp i)) → w_X5_partAt g' (A (jl j)) (nI i) Q) {Q : gS → Prop} (hQ : ∀ g' V', CR A D nn V' g' → (∀ u, u ≠ 16 → V' u = V u) → (∀ a, gR g' a = gR g a) → (∀ x, V' 16 x = if orB (fun i => decide (pp i = x)) P = true then 1 else V 16 x) → Q g') : b_X6_markParts_20 g (A 14) (A (jl j)) (nI P) Q := by
  unfold b_X6_markParts_20
  refine lpx2_i P (fun k g' i => i = nI k ∧ ∃ V', CR A D nn V' g' ∧ (∀ u, u ≠ 16 → V' u = V u) ∧ (∀ a, gR g' a = gR g a) ∧ ∀ x, V' 16 x = if orB (fun i => decide (pp i = x)) k = true then 1 else V 16 x) ?_ ?_ g 0 ⟨rfl, V, h, fun _ _ => rfl, fun _ => rfl, fun x => by rw [orB, if_neg (by decide)]⟩
  · rintro k g1 _ hk ⟨rfl, V1, h1, hV, hR, hx⟩ K hK
    unfold l_X6_markParts_24 b_X6_markParts_61
    have hp := hpp k hk
    refine ⟨fun c => absurd c (nI_ge hk (by omega)), fun _ => ⟨h1.jk hj, hpa V1 g1 h1 (hV _ (by unfold jl; omega)) k hk _ ⟨fun c => absurd c (not_lt0 (by omega)), fun _ => ⟨h1.k14, _, h1.r14_3, h1.k16, ?_⟩⟩⟩⟩
    rw [h1.n16]
    refine ⟨fun c => absurd c (nI_ge hp (by decide)), fun _ => ⟨_, h1.r14_3, h1.k16, by rw [h1.n16]; exact vpi hp, fun g2 e2 => ?_⟩⟩
    subst e2
    rw [cl_nI (by omega), nI_1]
    refine hK _ _ ⟨rfl, _, h1.w 16 22 (KL_f (by decide)) (by decide) (pp k) 1, fun u hu => by rw [su_row hu]; exact hV u hu, fun a => hR a, fun x => ?_⟩
    rw [su_at, orB]
    by_cases e : x = pp k
    · rw [if_pos e, decide_eq_true e.symm, Bool.or_true, if_pos rfl]
    · rw [if_neg e, decide_eq_false (fun q => e q.symm), Bool.or_false]; exact hx x
  · rintro g1 _ ⟨rfl, V1, h1, hV, hR, hx⟩ K
    unfold l_X6_markParts_24
    exact ⟨fun _ => hQ g1 V1 h1 hV hR hx, fun c => absurd (nI_le (Nat.le_refl _) (by omega)) c⟩
theorem x_markParts (h : CR A D nn V g) (hN : NG σ nn) {j : Nat} (hj : j < nn) (hv : vNode V σ j) {wn : Bool} {Q : gS → Prop} (hQ : ∀ g' V', CR A D nn V' g' → (∀ u, u ≠ 16 → V' u = V u) → (∀ a, gR g' a = gR g a) → (∀ x, V' 16 x = if partB σ wn j x = true then 1 else V 16 x) → Q g') : w_X6_markParts g (A 14) (A (jl j)) (bI (!wn)) Q := by
  have hnn := h.nn3
  obtain ⟨n0, n1, n2, n3, n4, n5, n6, n7⟩ := hv
  -- what partAt says, for a pair and for a row
  have pa : ∀ V' g', CR A D nn V' g' → V' (jl j) = V (jl j) → ∀ i, i < 30 → ∀ Q : Int32 → Prop, Q (if σ 17 j = 8 then V (jl j) 3 + nI i else if i = 0 then V (jl j) 3 else V (jl j) 4) → w_X5_partAt g' (A (jl j)) (nI i) Q := by
    intro V' g' h' e i hi Q2 hQ2
    have e0 : V' (jl j) 0 = σ 17 j := by rw [e]; exact n0
    exact x_partAt h' hj (by omega) e0 (by rw [e]; exact hQ2)
  have pc : ∀ {Q2 : Int32 → Prop}, Q2 (if σ 17 j = 1 ∨ σ 17 j = 2 ∨ σ 17 j = 3 ∨ σ 17 j = 4 then 2 else if σ 17 j = 7 then 1 else if σ 17 j = 8 then V (jl j) 11 else 0) → w_X5_partCount g (A (jl j)) Q2 := by
    intro Q2 hQ2
    refine x_partCount h hj n0 hQ2 ?_
    rcases hN j hj with ⟨e, _⟩ | ⟨e, _⟩ | ⟨e, _⟩ | e | ⟨e, _⟩ | ⟨e, _⟩ | ⟨e, _⟩
    · simp [e]
    · rcases e with e | e | e <;> simp [e]
    all_goals simp [e]
  unfold w_X6_markParts b_X6_markParts_16
  rw [h.ji hj, n0]
  -- the loop over P parts; P and pp by type
  have run : ∀ (P : Nat) (pp : Nat → Nat), P ≤ 30 → (∀ i, i < P → pp i < 30) → (∀ i, i < P → (if σ 17 j = 8 then V (jl j) 3 + nI i else if i = 0 then V (jl j) 3 else V (jl j) 4) = nI (pp i)) → (∀ x, orB (fun i => decide (pp i = x)) P = partB σ wn j x) → b_X6_markParts_20 g (A 14) (A (jl j)) (nI P) Q := by
    intro P pp h1 h2 h3 h4
    refine x_markLoop h hj h1 h2 (fun V' g' h' e i hi Q2 hQ2 => pa V' g' h' e i (by omega) Q2 (by rw [h3 i hi]; exact hQ2)) (fun g' V' a b c d => hQ g' V' a b c (fun x => by rw [d x, h4 x]))
  have all : ∀ P : Nat, (¬ σ 17 j = 3 ∨ wn = true) → (if σ 17 j = 1 ∨ σ 17 j = 2 ∨ σ 17 j = 3 ∨ σ 17 j = 4 then 2 else if σ 17 j = 7 then 1 else if σ 17 j = 8 then V (jl j) 11 else 0) = nI P → b_X6_markParts_20 g (A 14) (A (jl j)) (nI P) Q → (bI (!wn) = 0 → gK g (A (jl j)) = 6 ∧ w_X5_partCount g (A (jl j)) fun x18 => b_X6_markParts_20 g (A 14) (A (jl j)) x18 Q) ∧ (¬ bI (!wn) = 0 → gK g (A (jl j)) = 6 ∧ (σ 17 j = 3 → b_X6_markParts_20 g (A 14) (A (jl j)) 1 Q) ∧ (¬ σ 17 j = 3 → gK g (A (jl j)) = 6 ∧ w_X5_partCount g (A (jl j)) fun x18 => b_X6_markParts_20 g (A 14) (A (jl j)) x18 Q)) := by
    intro P h1 h2 h3
    refine ⟨fun _ => ⟨h.jk hj, pc (by rw [h2]; exact h3)⟩, fun c => ⟨h.jk hj, fun e => ?_, fun e => ⟨h.jk hj, pc (by rw [h2]; exact h3)⟩⟩⟩
    rcases h1 with h1 | h1
    · exact absurd e h1
    · rw [h1] at c; exact absurd rfl c
  rcases hN j hj with ⟨e, a, b, ha, hb1, hb8, ea, eb⟩ | ⟨e, a, b, ha, hb, ea, eb⟩ | ⟨e, a, b, c, ha, hb, e1, e2, hc1, hc2, ho, ea, eb, ec⟩ | e | ⟨e, a, ha, ea⟩ | ⟨e, a, b, ha, hb, ea, eb⟩ | ⟨e, a, b, c, hab, hb2, hb4, hc1, hcb, ea, eb, ec⟩
  · refine all 0 (Or.inl (by rw [e]; decide)) (by simp [e]; rfl) (run 0 (fun _ => 0) (by omega) (fun i hi => absurd hi (Nat.not_lt_zero _)) (fun i hi => absurd hi (Nat.not_lt_zero _)) (fun x => by simp [orB, partB, e]))
  · obtain ⟨v3, v4⟩ := n2 (by rcases e with e | e | e <;> simp [e])
    have hac := cl_nI (show a < 2 ^ 31 by omega)
    have hbc := cl_nI (show b < 2 ^ 31 by omega)
    have h8 : ¬ σ 17 j = 8 := by rcases e with e | e | e <;> (rw [e]; decide)
    have two : (∀ x, orB (fun i => decide ((if i = 0 then a else b) = x)) 2 = partB σ wn j x) → b_X6_markParts_20 g (A 14) (A (jl j)) (nI 2) Q := fun hx => run 2 (fun i => if i = 0 then a else b) (by omega) (fun i hi => by split <;> omega) (fun i hi => by
      rw [if_neg h8]
      by_cases c : i = 0
      · rw [if_pos c, if_pos c, v3, ea]
      · rw [if_neg c, if_neg c, v4, eb]) hx
    rcases e with e | e | e
    · exact all 2 (Or.inl (by rw [e]; decide)) (by simp [e]; rfl) (two (fun x => by simp [orB, partB, e, ea, eb, hac, hbc, eq_comm]))
    · exact all 2 (Or.inl (by rw [e]; decide)) (by simp [e]; rfl) (two (fun x => by simp [orB, partB, e, ea, eb, hac, hbc, eq_comm]))
    · cases wn
      · refine ⟨fun c => absurd c (by decide), fun _ => ⟨h.jk hj, fun _ => ?_, fun c => absurd e c⟩⟩
        refine run 1 (fun _ => a) (by omega) (fun i hi => by omega) (fun i hi => ?_) (fun x => by simp [orB, partB, e, ea, eb, hac, hbc, eq_comm])
        rw [if_neg h8, if_pos (by omega), v3, ea]
      · exact all 2 (Or.inr rfl) (by simp [e]; rfl) (two (fun x => by simp [orB, partB, e, ea, eb, hac, hbc, eq_comm]))
  · obtain ⟨v3, v4⟩ := n2 (by simp [e])
    have hac := cl_nI (show a < 2 ^ 31 by omega)
    have hbc := cl_nI (show b < 2 ^ 31 by omega)
    refine all 2 (Or.inl (by rw [e]; decide)) (by simp [e]; rfl) (run 2 (fun i => if i = 0 then a else b) (by omega) (fun i hi => by split <;> omega) (fun i hi => ?_) (fun x => by simp [orB, partB, e, ea, eb, hac, hbc, eq_comm]))
    rw [if_neg (by rw [e]; decide)]
    by_cases c : i = 0
    · rw [if_pos c, if_pos c, v3, ea]
    · rw [if_neg c, if_neg c, v4, eb]
  · exact all 0 (Or.inl (by rw [e]; decide)) (by simp [e]; rfl) (run 0 (fun _ => 0) (by omega) (fun i hi => absurd hi (Nat.not_lt_zero _)) (fun i hi => absurd hi (Nat.not_lt_zero _)) (fun x => by simp [orB, partB, e]))
  · exact all 0 (Or.inl (by rw [e]; decide)) (by simp [e]; rfl) (run 0 (fun _ => 0) (by omega) (fun i hi => absurd hi (Nat.not_lt_zero _)) (fun i hi => absurd hi (Nat.not_lt_zero _)) (fun x => by simp [orB, partB, e]))
  · obtain ⟨v3, _⟩ := n6 e
    have hac := cl_nI (show a < 2 ^ 31 by omega)
    refine all 1 (Or.inl (by rw [e]; decide)) (by simp [e]; rfl) (run 1 (fun _ => a) (by omega) (fun i hi => by omega) (fun i hi => ?_) (fun x => by simp [orB, partB, e, ea, hac, eq_comm]))
    rw [if_neg (by rw [e]; decide), if_pos (by omega), v3, ea]
  · obtain ⟨v3, v11, _⟩ := n7 e
    have hac := cl_nI (show a < 2 ^ 31 by omega)
    have hbc := cl_nI (show b < 2 ^ 31 by omega)
    refine all b (Or.inl (by rw [e]; decide)) (by simp [e, v11, eb]) (run b (fun i => a + i) (by omega) (fun i hi => by omega) (fun i hi => by rw [if_pos e, v3, ea, nI_add]) (fun x => ?_))
    unfold partB
    simp only [e, ea, eb, hac, hbc]
    rw [Bool.eq_iff_iff, orB_iff]
    simp
    constructor
    · rintro ⟨k, hk, ek⟩; omega
    · rintro ⟨h1, h2⟩; exact ⟨x - a, by omega, by omega⟩
end CQUERY
