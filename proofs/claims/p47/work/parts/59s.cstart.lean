/-! BOTH AT THE START -/
section CSTART
variable {A : Nat → Nat} {S : Nat → Bool} {T : Nat → Nat → Option Nat} {g : gS}
theorem fK_lt {l : Nat} (h : fK l ≠ 0) : l < 73 := by
  rcases Nat.lt_or_ge l 73 with q | q
  · exact q
  · exfalso; apply h
    unfold fK
    split <;> first | omega | rfl
theorem V0m_r {t i : Nat} (h1 : t ≠ 11) (h2 : t ≠ 12) (h3 : t ≠ 15) : V0m t i = 0 := by
  unfold V0m V1m
  rw [va_up_ne _ _ h3, va_up_ne _ _ h1, su_row h2, su_row h2, su_row h2]
theorem x_start (c : PB fK fN A S T V0c g) (hS : ∀ l, l < 73 → S l = true) (hT : ∀ l i u, fR l i = some u → T l i = some u) (h12 : T 1 2 = none) : CX A 0 V0c V0m 0 0 0 0 0 g := by
  obtain ⟨h1, h2, h3, h4⟩ := c
  have kl : ∀ l, KL 0 0 l ≠ 0 → l < 73 ∧ KL 0 0 l = fK l := fun l hl => by
    by_cases c : l < 100
    · rw [KL_f c] at hl ⊢; exact ⟨fK_lt hl, rfl⟩
    · exfalso; apply hl
      unfold KL
      rw [if_neg c]
      by_cases c2 : l < 2000
      · rw [if_pos c2, if_neg (Nat.not_lt_zero _)]
      · rw [if_neg c2, if_neg (Nat.not_lt_zero _)]
  refine ⟨⟨⟨fun l hl => ?_, fun l u hl hu e => h2 l u (hS l (kl l hl).1) (hS u (kl u hu).1) e, fun l i u hr => (h3 l i u (hT l i u hr)).2.2, fun d r i u hd => absurd hd (Nat.not_lt_zero _), by decide, by decide⟩, ⟨rfl, rfl, fun s hs => absurd hs (Nat.not_lt_zero _), fun t ht => ⟨rfl, rfl⟩, fun f hf => ?_, rfl, rfl, fun p hp => absurd hp (Nat.not_lt_zero _), rfl, rfl, rfl⟩, fun d hd => absurd hd (Nat.not_lt_zero _), fun j hj => absurd hj (Nat.not_lt_zero _), fun d hd => absurd hd (Nat.not_lt_zero _), ?_, fun j hj => absurd hj (Nat.not_lt_zero _), fun p hp => absurd hp (Nat.not_lt_zero _), Nat.le_refl _, Nat.zero_le _⟩, ⟨rfl, fun f hf => ?_, fun f t hf ht => ?_⟩, ⟨⟨by decide, ⟨rfl, rfl, rfl, rfl, rfl⟩, Or.inl rfl, fun i hi => ⟨0, Nat.zero_le _, V0m_r (by decide) (by decide) (by decide)⟩, fun d f p hd hf hp => ?_, fun d hd => ⟨Or.inl (V0m_r (by decide) (by decide) (by decide)), Or.inl (V0m_r (by decide) (by decide) (by decide))⟩, fun t ht => Or.inl (V0m_r (by decide) (by decide) (by decide)), fun t ht => Or.inl ?_⟩, fun j hj => absurd hj (Nat.not_lt_zero _), fun f hf => ⟨1, by decide, ?_⟩, fun d hd => absurd hd (Nat.not_lt_zero _), fun d _ hd => ?_, fun d _ _ => V0m_r (by decide) (by decide) (by decide), fun d hd => absurd hd (Nat.not_lt_zero _), fun s hs => absurd hs (Nat.not_lt_zero _)⟩, fun _ => rfl, fun q => absurd (show V0m 0 2 = 0 from V0m_r (by decide) (by decide) (by decide)) q, fun d _ _ => V0m_r (by decide) (by decide) (by decide), fun d f _ _ _ => V0m_r (by decide) (by decide) (by decide)⟩
  · obtain ⟨k1, k2⟩ := kl l hl
    obtain ⟨p1, p2, p3, p4⟩ := h1 l (hS l k1)
    rw [k2]
    refine ⟨p1, ?_, p3⟩
    split
    · rw [NL_f (by omega)]; exact p2
    · rfl
  · rcases f with _ | _ | _ | f
    · rfl
    · rfl
    · rfl
    · omega
  · rw [if_pos rfl]
    exact h4 1 2 (hS 1 (by decide)) h12
  · show V0c 9 f = _
    unfold V0c
    rw [su_row (by decide), su_row (by decide), su_row (by decide), va_up_ne _ _ (by decide), va_up_ne _ _ (by decide)]; rfl
  · show V0c (4 + 2 + f) t = _
    unfold V0c
    rw [su_row (by omega), su_row (by omega), su_row (by omega), va_up_ne _ _ (by omega), va_up_ne _ _ (by omega)]; rfl
  · rw [V0m_r (by decide) (by decide) (by decide)] at hp
    exact absurd hp (Nat.not_lt_zero _)
  · unfold V0m
    rw [va_up_ne _ _ (by decide), va_up_self, if_pos ht]
  · rcases f with _ | _ | _ | f
    · rfl
    · rfl
    · rfl
    · omega
  · unfold V0m
    rw [va_up_self, if_pos hd]
end CSTART
