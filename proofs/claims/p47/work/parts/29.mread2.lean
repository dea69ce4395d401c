/-! THE REFERENCE'S READERS: like, mate -/
theorem bI_and : ∀ x y : Bool, bI x &&& bI y = bI (x && y) := by decide
section MREAD2
variable {FR : gS → Prop} {m : Nat} {μ : Nat → Nat} {σ : Rows} {n : Nat} {T : Nat → Int32} {g : gS} {bf nn nr ns : Nat}
theorem cnt_s {p : Nat → Bool} {k : Nat} : cnt p (k + 1) = cnt p k + if p k = true then 1 else 0 := rfl
end MREAD2
