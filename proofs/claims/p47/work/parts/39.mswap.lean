/-! THE REFERENCE WITH OTHER ROWS: byAlias, wouldScore -/
/-- a cell as it is -/
def Ce (q k n : Nat) (f : Nat → Int32) : gS → Prop := fun h => gK h q = k ∧ gN h q = n ∧ gI h q = f
theorem Ce.w {q k n : Nat} {f : Nat → Int32} {h : gS} (hc : Ce q k n f h) {a i : Nat} {v : Int32} (ha : q ≠ a) : Ce q k n f (sU h a i v) := by
  obtain ⟨h1, h2, h3⟩ := hc
  exact ⟨h1, h2, by show gI (sI h a _) q = f; rw [gI_sI_ne ha]; exact h3⟩
section MSWAP
variable {FR FR' : gS → Prop} {m : Nat} {μ : Nat → Nat} {σ : Rows} {n : Nat} {T : Nat → Int32} {g g' : gS} {bf nn nr ns : Nat}
theorem CB.up {σ' : Rows} (h : CB (va_up σ 29 T) σ') {t : Nat} {f : Nat → Int32} (ht : t ≠ 29) (h0 : t ≠ 0) : CB (va_up (va_up σ t f) 29 T) (va_up σ' t f) := by
  refine ⟨fun u a b c => ?_, fun i a b => ?_⟩
  · by_cases e : u = t
    · subst e; rw [va_up_self, va_up_ne _ _ ht, va_up_self]
    · rw [va_up_ne _ _ e, h.1 u a b c]
      by_cases e2 : u = 29
      · subst e2; rw [va_up_self, va_up_self]
      · rw [va_up_ne _ _ e2, va_up_ne _ _ e2, va_up_ne _ _ e]
  · rw [va_up_ne _ _ (Ne.symm h0), h.2 i a b, va_up_ne _ _ (by decide), va_up_ne _ _ (by decide), va_up_ne _ _ (Ne.symm h0)]
theorem va_up_id {α : Type} {f : Nat → α} {k : Nat} : va_up f k (f k) = f := by
  funext j; by_cases e : j = k
  · subst e; exact va_up_self _ _ _
  · exact va_up_ne _ _ e
theorem va_up_up {α : Type} {f : Nat → α} {k : Nat} {x y : α} : va_up (va_up f k x) k y = va_up f k y := by
  funext j; by_cases e : j = k
  · subst e; rw [va_up_self, va_up_self]
  · rw [va_up_ne _ _ e, va_up_ne _ _ e, va_up_ne _ _ e]
end MSWAP
