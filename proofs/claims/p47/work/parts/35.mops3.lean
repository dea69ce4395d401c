/-! THE REFERENCE'S CALLS: queries -/
section MOPS3
variable {FR : gS → Prop} {m : Nat} {μ : Nat → Nat} {σ : Rows} {n : Nat} {T : Nat → Int32} {g : gS} {bf nn nr ns : Nat}
theorem tz_su {t i : Nat} {v c : Int32} (ht : t ≠ 0) : tz (su σ t i v) c = su (tz σ c) t i v := by
  funext u j
  unfold tz
  by_cases e : u = t
  · subst e; rw [su_row ht, su_at, su_at, su_row ht]
  · rw [su_row e]
    by_cases e2 : u = 0
    · subst e2; rw [su_at, su_at, su_row e]
    · rw [su_row e2, su_row e2, su_row e]
end MOPS3
