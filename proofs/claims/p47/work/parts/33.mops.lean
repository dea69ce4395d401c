/-! THE REFERENCE'S CALLS -/
section MOPS
variable {FR : gS → Prop} {m : Nat} {μ : Nat → Nat} {σ : Rows} {n : Nat} {T : Nat → Int32} {g : gS} {bf nn nr ns : Nat}
theorem up29_su {t i : Nat} {v : Int32} (ht : t ≠ 29) : va_up (su σ t i v) 29 T = su (va_up σ 29 T) t i v := by
  funext u j
  by_cases e : u = 29
  · subst e; rw [va_up_self, su_row (fun q => ht q.symm), va_up_self]
  · rw [va_up_ne _ _ e]
    by_cases e2 : u = t
    · subst e2; rw [su_at, su_at, va_up_ne _ _ e]
    · rw [su_row e2, su_row e2, va_up_ne _ _ e]
theorem CB.su2 {σ' : Rows} (h : CB σ σ') (t i : Nat) (v : Int32) : CB (su σ t i v) (su σ' t i v) := by
  refine ⟨fun u h0 h1 h2 => ?_, fun j h1 h2 => ?_⟩
  · by_cases e : u = t
    · subst e; rw [su_self, su_self, h.1 u h0 h1 h2]
    · rw [su_row e, su_row e, h.1 u h0 h1 h2]
  · by_cases e : t = 0
    · subst e; rw [su_at, su_at]; split
      · rfl
      · exact h.2 j h1 h2
    · rw [su_row (Ne.symm e), su_row (Ne.symm e)]; exact h.2 j h1 h2
/-- what is counted looks at these alone -/
theorem Cnt.of {σ2 σ' σ3 : Rows} (h : Cnt σ σ' n) (h6 : ∀ d, d < n → σ2 6 d = σ 6 d) (h7 : ∀ d f, d < n → f < 3 → σ2 7 (d * 3 + f) = σ 7 (d * 3 + f)) (h8 : ∀ d f p, d < n → f < 3 → p < lnF σ d f → tmF σ2 d f p = tmF σ d f p) (e0 : σ3 0 26 = σ' 0 26) (e27 : σ3 27 = σ' 27) (e28 : σ3 28 = σ' 28) : Cnt σ2 σ3 n := by
  obtain ⟨a, b, c⟩ := h
  have hl : ∀ d f, d < n → f < 3 → lnF σ2 d f = lnF σ d f := fun d f hd hf => by unfold lnF; rw [h7 d f hd hf]
  refine ⟨?_, fun f hf => ?_, fun t f ht hf => ?_⟩
  · rw [e0, a]; unfold lyF; exact isum_congr (fun d hd => by rw [h6 d hd])
  · rw [e27, b f hf]; unfold leF; exact isum_congr (fun d hd => by rw [h6 d hd, h7 d f hd hf])
  · rw [e28, c t f ht hf]; unfold spF
    refine isum_congr (fun d hd => ?_)
    have : hasI (tmF σ2 d f) (lnF σ2 d f) (nI t) = hasI (tmF σ d f) (lnF σ d f) (nI t) := by
      rw [hl d f hd hf]
      unfold hasI
      have : hasB (tmF σ2 d f) (lnF σ d f) (nI t) = hasB (tmF σ d f) (lnF σ d f) (nI t) := by
        rw [Bool.eq_iff_iff, hasB_iff, hasB_iff]
        constructor
        · rintro ⟨k, hk, e⟩; exact ⟨k, hk, by rw [← h8 d f k hd hf hk]; exact e⟩
        · rintro ⟨k, hk, e⟩; exact ⟨k, hk, by rw [h8 d f k hd hf hk]; exact e⟩
      rw [this]
    rw [h6 d hd, this]
end MOPS
