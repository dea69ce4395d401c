/-! THE CLASS: the calls that add a node -/
section CNODES
variable {A : Nat → Nat} {D : Nat} {V V' V1 σ σ' τ ρ : Rows} {n bf nn nr ns cb sb q : Nat} {ub : Bool} {g g' g1 : gS}
theorem x_set3 {x : Int32} {Q : Int32 → Prop} (hQ : Q (if ¬ inR x 1 7 then 0 else 1)) : w_X10_isSetOf g 3 x Q := by
  unfold w_X10_isSetOf b_X10_isSetOf_16 b_X10_isSetOf_17
  have e : (1 : Int32) <<< ((3 : Int32) &&& 31) = 8 := by decide
  rw [e]
  refine ⟨fun c => ⟨Or.inl rfl, ?_⟩, fun c => ⟨fun c2 => ⟨Or.inl rfl, ?_⟩, fun c2 => ⟨Or.inr rfl, ?_⟩⟩⟩
  · rw [if_pos (fun q => q (Or.inl c))] at hQ; exact hQ
  · rw [if_pos (fun q => q (Or.inr (by rw [i32_lt]; rw [i32_le] at c2; have e : (8 : Int32).toInt = 8 := rfl; have e2 : (7 : Int32).toInt = 7 := rfl; omega)))] at hQ; exact hQ
  · rw [if_neg (not_not_intro (fun q => q.elim c (fun q => c2 (by rw [i32_lt] at q; rw [i32_le]; have e : (8 : Int32).toInt = 8 := rfl; have e2 : (7 : Int32).toInt = 7 := rfl; omega))))] at hQ; exact hQ
theorem x_set8 {x : Int32} {Q : Int32 → Prop} (hQ : Q (if ¬ inR x 1 255 then 0 else 1)) : w_X10_isSetOf g 8 x Q := by
  unfold w_X10_isSetOf b_X10_isSetOf_16 b_X10_isSetOf_17
  have e : (1 : Int32) <<< ((8 : Int32) &&& 31) = 256 := by decide
  rw [e]
  refine ⟨fun c => ⟨Or.inl rfl, ?_⟩, fun c => ⟨fun c2 => ⟨Or.inl rfl, ?_⟩, fun c2 => ⟨Or.inr rfl, ?_⟩⟩⟩
  · rw [if_pos (fun q => q (Or.inl c))] at hQ; exact hQ
  · rw [if_pos (fun q => q (Or.inr (by rw [i32_lt]; rw [i32_le] at c2; have e : (256 : Int32).toInt = 256 := rfl; have e2 : (255 : Int32).toInt = 255 := rfl; omega)))] at hQ; exact hQ
  · rw [if_neg (not_not_intro (fun q => q.elim c (fun q => c2 (by rw [i32_lt] at q; rw [i32_le]; have e : (256 : Int32).toInt = 256 := rfl; have e2 : (255 : Int32).toInt = 255 := rfl; omega))))] at hQ; exact hQ
theorem addO_lt (hG : GI σ n bf nn nr ns) (h : nn < 30) {f s a b c : Int32} : addO σ f s a b c = (0, nI nn, addF σ s a b c) := by
  unfold addO
  rw [hG.d16, if_neg]
  intro e
  have := (nI_inj (b := 30) (by omega) (by decide)).mp e
  omega
theorem addO_30 (hG : GI σ n bf nn nr ns) (h : nn = 30) {f s a b c : Int32} : addO σ f s a b c = bad σ f := by
  unfold addO
  rw [hG.d16, h, if_pos (show nI 30 = 30 from rfl)]
theorem p_term (h : CX A D V σ n bf nn nr ns g) {x y : Int32} {Q : Int32 → gS → Prop} {X : String → gS → Prop} (hQ : (S_term σ x y).1 = 0 → ∀ g', CS (A 0) (A 73) (S_term σ x y).2.2 g' → Q (S_term σ x y).2.1 g') (hX : (S_term σ x y).1 = 1 → X sA g) (hX2 : (S_term σ x y).1 = 2 → X sS g) : w_X10_term g (A 0) x y Q X := by
  have hr := h.1.1
  have hG := h.2.2.1.1
  have hnn := hG.nn3
  unfold w_X10_term b_X10_term_15
  have no : (¬ isT x ∨ ¬ inR y 1 7) → X sA g := fun q => by
    have e : S_term σ x y = bad σ 1 := by unfold S_term; rw [if_pos q]
    rw [e] at hX; exact hX rfl
  refine x_isTerm ?_
  by_cases c : isT x
  · rw [if_neg (not_not_intro c)]
    refine ⟨fun q => absurd q (by decide), fun _ => x_set3 ?_⟩
    by_cases c2 : inR y 1 7
    · rw [if_neg (not_not_intro c2)]
      refine ⟨fun q => absurd q (by decide), fun _ => ⟨hr.k0, _, hr.r0_2, hr.k14, ?_⟩⟩
      have e : S_term σ x y = addO σ 2 0 x y 0 := by unfold S_term; rw [if_neg (fun q => q.elim (fun q => q c) (fun q => q c2))]
      rw [e] at hQ hX2
      refine node_new h (s := 0) (Y := X sS g) (fun e30 => by rw [addO_30 hG e30] at hX2; exact hX2 rfl) (fun hlt q hq h1 => ?_)
      rw [addO_lt hG hlt] at hQ
      have hQ2 := hQ rfl
      dsimp only at hQ2
      have eA := va_up_self A (jl nn) q
      refine ⟨h1.kj eA, fun g2 e2 => ?_⟩
      subst e2
      have h2 := h1.wj eA 1 x
      refine ⟨h2.kj eA, fun g3 e3 => ?_⟩
      subst e3
      have h3 := h2.wj eA 2 y
      obtain ⟨aR, a17, a18, a19, a20⟩ := addF_R (s := 0) (a := x) (b := y) (c := 0) hG
      obtain ⟨t, ht, et⟩ := isT_nI c
      obtain ⟨b, hb1, hb7, eb⟩ := inR_b (lo := 1) (hi := 7) (by decide) (by decide) c2
      refine node_end h hlt hq h3 (fun u hu => by rw [su_row hu, su_row hu, su_row hu, va_up_ne _ _ hu]) (fun _ => rfl) aR (Or.inl ⟨a17, t, b, ht, hb1, by omega, by rw [a18]; exact et, by rw [a19]; exact eb⟩) ?_ hQ2
      unfold vNode
      rw [a17, a18, a19, a20]
      simp [su_at]
    · rw [if_pos c2]
      exact ⟨fun _ => no (Or.inr c2), fun q => absurd rfl q⟩
  · rw [if_pos c]
    exact ⟨fun _ => no (Or.inl c), fun q => absurd rfl q⟩
theorem p_pair (h : CX A D V σ n bf nn nr ns g) {s x y : Int32} (hs3 : s = 1 ∨ s = 2 ∨ s = 3) {Q : Int32 → gS → Prop} {X : String → gS → Prop} (hQ : (S_pair σ s x y).1 = 0 → ∀ g', CS (A 0) (A 73) (S_pair σ s x y).2.2 g' → Q (S_pair σ s x y).2.1 g') (hX : (S_pair σ s x y).1 = 1 → X sI' g) (hX2 : (S_pair σ s x y).1 = 2 → X sS g) : w_X10_appendPair g (A 0) s x y Q X := by
  have hr := h.1.1
  have hG := h.2.2.1.1
  have hnn := hG.nn3
  unfold w_X10_appendPair b_X10_appendPair_22
  have no : (¬ isN σ x ∨ ¬ isN σ y) → X sI' g := fun q => by
    have e : S_pair σ s x y = bad σ 1 := by unfold S_pair; rw [if_pos q]
    rw [e] at hX; exact hX rfl
  refine ⟨hr.k0, _, hr.r0_2, hr.k14, p_node h (fun a ha ea => ⟨fun q => absurd q (by decide), fun _ => ⟨_, hr.r0_2, hr.k14, p_node h (fun b hb eb => ⟨fun q => absurd q (by decide), fun _ => ⟨_, hr.r0_2, hr.k14, ?_⟩⟩) (fun q => ⟨fun _ => no (Or.inr q), fun p => absurd rfl p⟩)⟩⟩) (fun q => ⟨fun _ => no (Or.inl q), fun p => absurd rfl p⟩)⟩
  subst ea; subst eb
  have e : S_pair σ s (nI a) (nI b) = addO σ 2 s (nI a) (nI b) 0 := by unfold S_pair; rw [if_neg (fun q => q.elim (fun q => q (hG.iNn ha)) (fun q => q (hG.iNn hb)))]
  rw [e] at hQ hX2
  refine node_new h (s := s) (Y := X sS g) (fun e30 => by rw [addO_30 hG e30] at hX2; exact hX2 rfl) (fun hlt q hq h1 => ?_)
  rw [addO_lt hG hlt] at hQ
  have hQ2 := hQ rfl
  dsimp only at hQ2
  have eA := va_up_self A (jl nn) q
  refine ⟨h1.kj eA, fun g2 e2 => ?_⟩
  subst e2
  have h2 := h1.wj eA 3 (nI a)
  refine ⟨h2.kj eA, fun g3 e3 => ?_⟩
  subst e3
  have h3 := h2.wj eA 4 (nI b)
  obtain ⟨aR, a17, a18, a19, a20⟩ := addF_R (s := s) (a := nI a) (b := nI b) (c := 0) hG
  refine node_end h hlt hq h3 (fun u hu => by rw [su_row hu, su_row hu, su_row hu, va_up_ne _ _ hu]) (fun _ => rfl) aR (Or.inr (Or.inl ⟨by rw [a17]; exact hs3, a, b, ha, hb, a18, a19⟩)) ?_ hQ2
  unfold vNode
  rw [a17, a18, a19, a20]
  rcases hs3 with e | e | e <;> subst e <;> simp [su_at]
theorem p_dated (h : CX A D V σ n bf nn nr ns g) {x y : Int32} {Q : Int32 → gS → Prop} {X : String → gS → Prop} (hQ : (S_dated σ x y).1 = 0 → ∀ g', CS (A 0) (A 73) (S_dated σ x y).2.2 g' → Q (S_dated σ x y).2.1 g') (hX : (S_dated σ x y).1 = 1 → X sA g) (hX2 : (S_dated σ x y).1 = 2 → X sS g) : w_X10_dated g (A 0) x y Q X := by
  have hr := h.1.1
  have hG := h.2.2.1.1
  have hnn := hG.nn3
  unfold w_X10_dated b_X10_dated_14
  have no : (¬ inR x 0 9999 ∨ ¬ inR y 0 9999) → X sA g := fun q => by
    have e : S_dated σ x y = bad σ 1 := by unfold S_dated; rw [if_pos q]
    rw [e] at hX; exact hX rfl
  refine x_isDate ?_
  by_cases c : inR x 0 9999
  · rw [if_neg (not_not_intro c)]
    refine ⟨fun q => absurd q (by decide), fun _ => x_isDate ?_⟩
    by_cases c2 : inR y 0 9999
    · rw [if_neg (not_not_intro c2)]
      refine ⟨fun q => absurd q (by decide), fun _ => ⟨hr.k0, _, hr.r0_2, hr.k14, ?_⟩⟩
      have e : S_dated σ x y = addO σ 2 5 x y 0 := by unfold S_dated; rw [if_neg (fun q => q.elim (fun q => q c) (fun q => q c2))]
      rw [e] at hQ hX2
      refine node_new h (s := 5) (Y := X sS g) (fun e30 => by rw [addO_30 hG e30] at hX2; exact hX2 rfl) (fun hlt q hq h1 => ?_)
      rw [addO_lt hG hlt] at hQ
      have hQ2 := hQ rfl
      dsimp only at hQ2
      have eA := va_up_self A (jl nn) q
      refine ⟨h1.kj eA, fun g2 e2 => ?_⟩
      subst e2
      have h2 := h1.wj eA 7 x
      refine ⟨h2.kj eA, fun g3 e3 => ?_⟩
      subst e3
      have h3 := h2.wj eA 8 y
      obtain ⟨aR, a17, a18, a19, a20⟩ := addF_R (s := 5) (a := x) (b := y) (c := 0) hG
      refine node_end h hlt hq h3 (fun u hu => by rw [su_row hu, su_row hu, su_row hu, va_up_ne _ _ hu]) (fun _ => rfl) aR (Or.inr (Or.inr (Or.inr (Or.inl a17)))) ?_ hQ2
      unfold vNode
      rw [a17, a18, a19, a20]
      simp [su_at]
    · rw [if_pos c2]
      exact ⟨fun _ => no (Or.inr c2), fun q => absurd rfl q⟩
  · rw [if_pos c]
    exact ⟨fun _ => no (Or.inl c), fun q => absurd rfl q⟩
theorem p_kind (h : CX A D V σ n bf nn nr ns g) {x : Int32} {Q : Int32 → gS → Prop} {X : String → gS → Prop} (hQ : (S_kind σ x).1 = 0 → ∀ g', CS (A 0) (A 73) (S_kind σ x).2.2 g' → Q (S_kind σ x).2.1 g') (hX : (S_kind σ x).1 = 1 → X sA g) (hX2 : (S_kind σ x).1 = 2 → X sS g) : w_X10_kind g (A 0) x Q X := by
  have hr := h.1.1
  have hG := h.2.2.1.1
  have hnn := hG.nn3
  unfold w_X10_kind
  refine x_set8 ?_
  by_cases c : inR x 1 255
  · rw [if_neg (not_not_intro c)]
    refine ⟨fun q => absurd q (by decide), fun _ => ⟨hr.k0, _, hr.r0_2, hr.k14, ?_⟩⟩
    have e : S_kind σ x = addO σ 2 6 x 0 0 := by unfold S_kind; rw [if_neg (not_not_intro c)]
    rw [e] at hQ hX2
    refine node_new h (s := 6) (Y := X sS g) (fun e30 => by rw [addO_30 hG e30] at hX2; exact hX2 rfl) (fun hlt q hq h1 => ?_)
    rw [addO_lt hG hlt] at hQ
    have hQ2 := hQ rfl
    dsimp only at hQ2
    have eA := va_up_self A (jl nn) q
    refine ⟨h1.kj eA, fun g2 e2 => ?_⟩
    subst e2
    have h2 := h1.wj eA 9 x
    obtain ⟨aR, a17, a18, a19, a20⟩ := addF_R (s := 6) (a := x) (b := 0) (c := 0) hG
    obtain ⟨b, hb1, hb7, eb⟩ := inR_b (lo := 1) (hi := 255) (by decide) (by decide) c
    refine node_end h hlt hq h2 (fun u hu => by rw [su_row hu, su_row hu, va_up_ne _ _ hu]) (fun _ => rfl) aR (Or.inr (Or.inr (Or.inr (Or.inr (Or.inl ⟨a17, b, by omega, by rw [a18]; exact eb⟩))))) ?_ hQ2
    unfold vNode
    rw [a17, a18, a19, a20]
    simp [su_at]
  · have e : S_kind σ x = bad σ 1 := by unfold S_kind; rw [if_pos c]
    rw [e] at hX
    rw [if_pos c]
    exact ⟨fun _ => hX rfl, fun q => absurd rfl q⟩
theorem p_scaled (h : CX A D V σ n bf nn nr ns g) {x y : Int32} {Q : Int32 → gS → Prop} {X : String → gS → Prop} (hQ : (S_scaled σ x y).1 = 0 → ∀ g', CS (A 0) (A 73) (S_scaled σ x y).2.2 g' → Q (S_scaled σ x y).2.1 g') (hX : (S_scaled σ x y).1 = 1 → X sI' g) (hX2 : (S_scaled σ x y).1 = 2 → X sA g) (hX3 : (S_scaled σ x y).1 = 3 → X sS g) : w_X10_scaled g (A 0) x y Q X := by
  have hr := h.1.1
  have hG := h.2.2.1.1
  have hnn := hG.nn3
  unfold w_X10_scaled b_X10_scaled_32
  refine ⟨hr.k0, _, hr.r0_2, hr.k14, p_node h (fun a ha ea => ⟨fun q => absurd q (by decide), fun _ => ?_⟩) (fun q => ⟨fun _ => ?_, fun p => absurd rfl p⟩)⟩
  · subst ea
    have no2 : ¬ inR y 0 500 → X sA g := fun q => by
      have e : S_scaled σ (nI a) y = bad σ 2 := by unfold S_scaled; rw [if_neg (not_not_intro (hG.iNn ha)), if_pos q]
      rw [e] at hX2; exact hX2 rfl
    refine ⟨fun c2 => no2 (fun q => q (Or.inl c2)), fun c2 => ⟨fun c3 => ⟨_, hr.r0_2, hr.k14, ?_⟩, fun c3 => no2 (fun q => q (Or.inr (i32_nle.mp c3)))⟩⟩
    have c4 : inR y 0 500 := fun q => q.elim c2 (fun q => (i32_nle.mpr q) c3)
    obtain ⟨b, hb1, hb7, eb⟩ := inR_b (lo := 0) (hi := 500) (by decide) (by decide) c4
    have e : S_scaled σ (nI a) y = addO σ 3 7 (nI a) y 0 := by unfold S_scaled; rw [if_neg (not_not_intro (hG.iNn ha)), if_neg (not_not_intro c4)]
    rw [e] at hQ hX3
    refine node_new h (s := 7) (Y := X sS g) (fun e30 => by rw [addO_30 hG e30] at hX3; exact hX3 rfl) (fun hlt q hq h1 => ?_)
    rw [addO_lt hG hlt] at hQ
    have hQ2 := hQ rfl
    dsimp only at hQ2
    have eA := va_up_self A (jl nn) q
    refine ⟨h1.kj eA, fun g2 e2 => ?_⟩
    subst e2
    have h2 := h1.wj eA 3 (nI a)
    refine ⟨h2.kj eA, fun g3 e3 => ?_⟩
    subst e3
    have h3 := h2.wj eA 10 y
    obtain ⟨aR, a17, a18, a19, a20⟩ := addF_R (s := 7) (a := nI a) (b := y) (c := 0) hG
    refine node_end h hlt hq h3 (fun u hu => by rw [su_row hu, su_row hu, su_row hu, va_up_ne _ _ hu]) (fun _ => rfl) aR (Or.inr (Or.inr (Or.inr (Or.inr (Or.inr (Or.inl ⟨a17, a, b, ha, hb7, a18, by rw [a19]; exact eb⟩)))))) ?_ hQ2
    unfold vNode
    rw [a17, a18, a19, a20]
    simp [su_at]
  · have e : S_scaled σ x y = bad σ 1 := by unfold S_scaled; rw [if_pos q]
    rw [e] at hX; exact hX rfl
theorem p_most (h : CX A D V σ n bf nn nr ns g) {x y z : Int32} {Q : Int32 → gS → Prop} {X : String → gS → Prop} (hQ : (S_most σ x y z).1 = 0 → ∀ g', CS (A 0) (A 73) (S_most σ x y z).2.2 g' → Q (S_most σ x y z).2.1 g') (hX : (S_most σ x y z).1 = 1 → X sI' g) (hX2 : (S_most σ x y z).1 = 2 → X sA g) (hX3 : (S_most σ x y z).1 = 3 → X sS g) : w_X10_most g (A 0) x y z Q X := by
  have hr := h.1.1
  have hv := h.1.2.1
  have hG := h.2.2.1.1
  have hnn := hG.nn3
  unfold w_X10_most b_X10_most_24 b_X10_most_54
  have no : (¬ isN σ x ∨ σ 0 16 - x < y) → X sI' g := fun q => by
    have e : S_most σ x y z = bad σ 1 := by unfold S_most; rw [if_pos q]
    rw [e] at hX; exact hX rfl
  refine ⟨hr.k0, _, hr.r0_2, hr.k14, p_node h (fun a ha ea => ⟨fun q => absurd q (by decide), fun _ => ⟨_, hr.r0_2, hr.k14, ?_⟩⟩) (fun q => ⟨fun _ => no (Or.inl q), fun p => absurd rfl p⟩)⟩
  subst ea
  rw [hr.i14, hv.2.2.2.2.2.1]
  have d16 := hG.d16
  refine ⟨fun c => ?_, fun c => no (Or.inr (by rw [d16]; exact i32_nle.mp c))⟩
  have nb : ¬ (¬ isN σ (nI a) ∨ σ 0 16 - nI a < y) := fun q => q.elim (fun q => q (hG.iNn ha)) (fun q => by rw [d16] at q; exact (i32_nle.mpr q) c)
  have no2 : (¬ inR y 2 4 ∨ ¬ inR z 1 y) → X sA g := fun q => by
    have e : S_most σ (nI a) y z = bad σ 2 := by unfold S_most; rw [if_neg nb, if_pos q]
    rw [e] at hX2; exact hX2 rfl
  refine ⟨fun c2 => no2 (Or.inl (fun q => q (Or.inl c2))), fun c2 => ⟨fun c3 => no2 (Or.inl (fun q => q (Or.inr c3))), fun c3 => ⟨fun c4 => no2 (Or.inr (fun q => q (Or.inl c4))), fun c4 => ⟨fun c5 => ⟨_, hr.r0_2, hr.k14, ?_⟩, fun c5 => no2 (Or.inr (fun q => q (Or.inr (i32_nle.mp c5))))⟩⟩⟩⟩
  have cy : inR y 2 4 := fun q => q.elim c2 c3
  have cz : inR z 1 y := fun q => q.elim c4 (fun q => (i32_nle.mpr q) c5)
  have e : S_most σ (nI a) y z = addO σ 3 8 (nI a) y z := by unfold S_most; rw [if_neg nb, if_neg (fun q => q.elim (fun q => q cy) (fun q => q cz))]
  rw [e] at hQ hX3
  obtain ⟨b, hb2, hb4, rfl⟩ := inR_b (lo := 2) (hi := 4) (by decide) (by decide) cy
  obtain ⟨m, hm1, hm2, rfl⟩ := inR_b (lo := 1) (hi := b) (by omega) (by omega) cz
  have hab : a + b ≤ nn := by
    have es : nI nn - nI a = nI (nn - a) := by
      rw [show nn = (nn - a) + a by omega, ← nI_add, show nn - a + a - a = nn - a by omega]
      exact Int32.add_sub_cancel _ _
    rw [es] at c
    have := (nI_le_iff (by omega) (by omega)).mp c
    omega
  refine node_new h (s := 8) (Y := X sS g) (fun e30 => by rw [addO_30 hG e30] at hX3; exact hX3 rfl) (fun hlt q hq h1 => ?_)
  rw [addO_lt hG hlt] at hQ
  have hQ2 := hQ rfl
  dsimp only at hQ2
  have eA := va_up_self A (jl nn) q
  refine ⟨h1.kj eA, fun g2 e2 => ?_⟩
  subst e2
  have h2 := h1.wj eA 3 (nI a)
  refine ⟨h2.kj eA, fun g3 e3 => ?_⟩
  subst e3
  have h3 := h2.wj eA 11 (nI b)
  refine ⟨h3.kj eA, fun g4 e4 => ?_⟩
  subst e4
  have h4 := h3.wj eA 12 (nI m)
  obtain ⟨aR, a17, a18, a19, a20⟩ := addF_R (s := 8) (a := nI a) (b := nI b) (c := nI m) hG
  refine node_end h hlt hq h4 (fun u hu => by rw [su_row hu, su_row hu, su_row hu, su_row hu, va_up_ne _ _ hu]) (fun _ => rfl) aR (Or.inr (Or.inr (Or.inr (Or.inr (Or.inr (Or.inr ⟨a17, a, b, m, hab, hb2, hb4, hm1, hm2, a18, a19, a20⟩)))))) ?_ hQ2
  unfold vNode
  rw [a17, a18, a19, a20]
  simp [su_at]
theorem p_near (h : CX A D V σ n bf nn nr ns g) {x y z w : Int32} (hw : w = 0 ∨ w = 1) {Q : Int32 → gS → Prop} {X : String → gS → Prop} (hQ : (S_near σ x y z w).1 = 0 → ∀ g', CS (A 0) (A 73) (S_near σ x y z w).2.2 g' → Q (S_near σ x y z w).2.1 g') (hX : (S_near σ x y z w).1 = 1 → X sI' g) (hX2 : (S_near σ x y z w).1 = 2 → X sA g) (hX3 : (S_near σ x y z w).1 = 3 → X sS g) : w_X10_near g (A 0) x y z w Q X := by
  have hr := h.1.1
  have hv := h.1.2.1
  have hnode := h.1.2.2.2.1
  have hf := h.1.2.2.2.2
  have hG := h.2.2.1.1
  have hnn := hG.nn3
  unfold w_X10_near b_X10_near_30 b_X10_near_67
  have no : (¬ isN σ x ∨ ¬ isN σ y) → X sI' g := fun q => by
    have e : S_near σ x y z w = bad σ 1 := by unfold S_near; rw [if_pos q]
    rw [e] at hX; exact hX rfl
  have nod : ∀ {x : Int32} {Q : Option Nat → Prop}, (∀ j, j < nn → x = nI j → Q (some (A (jl j)))) → (¬ isN σ x → Q none) → w_X6_nodeAt g (A 14) x Q := by
    intro x Q h1 h2
    by_cases c : inR x 0 (nI nn - 1)
    · obtain ⟨j, hj, e⟩ := inR_nI (by omega) c
      subst e
      exact x_nodeAt hr hv.2.2.2.2.2.1 hf.2.2.1 hj (h1 j hj rfl)
    · exact x_nodeNo hr hv.2.2.2.2.2.1 c (h2 (fun q => c ((gi_iN hG).mpr q)))
  refine ⟨hr.k0, _, hr.r0_2, hr.k14, nod (fun a ha ea => ⟨_, hr.r0_2, hr.k14, nod (fun b hb eb => ⟨fun q => absurd q (by simp), fun u hu => ⟨fun q => absurd q (by simp), fun u2 hu2 => ?_⟩⟩) (fun q => ⟨fun p => absurd p (by simp), fun _ _ => ⟨fun _ => no (Or.inr q), fun _ p => absurd p (by simp)⟩⟩)⟩) (fun q => ⟨_, hr.r0_2, hr.k14, nod (fun b hb eb => ⟨fun _ => no (Or.inl q), fun _ p => absurd p (by simp)⟩) (fun _ => ⟨fun _ => no (Or.inl q), fun _ p => absurd p (by simp)⟩)⟩)⟩
  subst ea; subst eb
  have hu' : u = A (jl a) := (Option.some.inj hu).symm
  have hu2' : u2 = A (jl b) := (Option.some.inj hu2).symm
  subst hu'; subst hu2'
  have nb : ¬ (¬ isN σ (nI a) ∨ ¬ isN σ (nI b)) := fun q => q.elim (fun q => q (hG.iNn ha)) (fun q => q (hG.iNn hb))
  have no2 : (¬ σ 17 a = 0 ∨ ¬ σ 17 b = 0 ∨ ¬ inR z 1 10) → X sA g := fun q => by
    have e : S_near σ (nI a) (nI b) z w = bad σ 2 := by unfold S_near; rw [if_neg nb, show cl (nI a) = a from cl_nI (by omega), show cl (nI b) = b from cl_nI (by omega), if_pos q]
    rw [e] at hX2; exact hX2 rfl
  refine ⟨hr.jk ha, ?_⟩
  rw [hr.ji ha, (hnode a ha).1, hr.ji hb, (hnode b hb).1]
  refine ⟨fun ca => ⟨hr.jk hb, fun cb => ⟨fun c2 => no2 (Or.inr (Or.inr (fun q => q (Or.inl c2)))), fun c2 => ⟨fun c3 => ⟨_, hr.r0_2, hr.k14, ?_⟩, fun c3 => no2 (Or.inr (Or.inr (fun q => q (Or.inr (i32_nle.mp c3)))))⟩⟩, fun cb => no2 (Or.inr (Or.inl cb))⟩, fun ca => no2 (Or.inl ca)⟩
  have cz : inR z 1 10 := fun q => q.elim c2 (fun q => (i32_nle.mpr q) c3)
  obtain ⟨m, hm1, hm2, rfl⟩ := inR_b (lo := 1) (hi := 10) (by decide) (by decide) cz
  have e : S_near σ (nI a) (nI b) (nI m) w = if σ 0 16 = 30 then bad σ 3 else (0, σ 0 16, addF (su σ 21 (nnF σ) w) 4 (nI a) (nI b) (nI m)) := by
    unfold S_near
    rw [if_neg nb, show cl (nI a) = a from cl_nI (by omega), show cl (nI b) = b from cl_nI (by omega), if_neg (fun q => q.elim (fun q => q ca) (fun q => q.elim (fun q => q cb) (fun q => q cz)))]
  rw [e] at hQ hX3
  rw [hG.d16] at hQ hX3
  refine node_new h (s := 4) (Y := X sS g) (fun e30 => by rw [e30, if_pos (show nI 30 = 30 from rfl)] at hX3; exact hX3 rfl) (fun hlt q hq h1 => ?_)
  have n30 : ¬ nI nn = 30 := fun p => by
    have := (nI_inj (b := 30) (by omega) (by decide)).mp p
    omega
  rw [if_neg n30] at hQ
  have hQ2 := hQ rfl
  dsimp only at hQ2
  have eA := va_up_self A (jl nn) q
  refine ⟨h1.kj eA, fun g2 e2 => ?_⟩
  subst e2
  have h2 := h1.wj eA 3 (nI a)
  refine ⟨h2.kj eA, fun g3 e3 => ?_⟩
  subst e3
  have h3 := h2.wj eA 4 (nI b)
  refine ⟨h3.kj eA, fun g4 e4 => ?_⟩
  subst e4
  have h4 := h3.wj eA 5 (nI m)
  refine ⟨h4.kj eA, hw, fun g5 e5 => ?_⟩
  subst e5
  have h5 := h4.wj eA 6 w
  obtain ⟨aR, a17, a18, a19, a20, a21⟩ := addF_R21 (s := 4) (a := nI a) (b := nI b) (c := nI m) (o := w) hG
  refine node_end h hlt hq h5 (fun u hu => by rw [su_row hu, su_row hu, su_row hu, su_row hu, su_row hu, va_up_ne _ _ hu]) (fun _ => rfl) aR (Or.inr (Or.inr (Or.inl ⟨a17, a, b, m, ha, hb, ?_, ?_, hm1, hm2, by rw [a21]; exact hw, a18, a19, a20⟩))) ?_ hQ2
  · rw [aR.2.2.2 17 a (by decide) (by decide) (by omega)]; exact ca
  · rw [aR.2.2.2 17 b (by decide) (by decide) (by omega)]; exact cb
  · unfold vNode
    rw [a17, a18, a19, a20, a21]
    simp [su_at]
end CNODES
