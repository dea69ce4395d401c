/-! THE REFERENCE'S LEAVES -/
/-- what holds of every state of the run: numbers within their bounds -/
def GI (σ : Rows) (n bf nn nr ns : Nat) : Prop :=
  (n ≤ 60 ∧ bf ≤ n ∧ nn ≤ 30 ∧ nr ≤ 60 ∧ ns ≤ 60) ∧
  (σ 0 1 = nI n ∧ σ 0 9 = nI bf ∧ σ 0 16 = nI nn ∧ σ 0 22 = nI nr ∧ σ 0 13 = nI ns) ∧
  (σ 0 2 = 0 ∨ σ 0 2 = 1) ∧
  (∀ i, i < 180 → ∃ j, j ≤ 12 ∧ σ 7 i = nI j) ∧
  (∀ d f p, d < 60 → f < 3 → p < (σ 7 (d * 3 + f)).toNatClampNeg → ∃ t, t < 200 ∧ σ 8 ((d * 3 + f) * 12 + p) = nI t) ∧
  (∀ d, d < 60 → (σ 5 d = 0 ∨ σ 5 d = 1) ∧ (σ 6 d = 0 ∨ σ 6 d = 1)) ∧
  (∀ t, t < 200 → (σ 10 t = 0 ∨ σ 10 t = 1)) ∧
  (∀ t, t < 200 → σ 11 t = -1 ∨ ∃ a, a < 200 ∧ σ 11 t = nI a)
theorem GI.n {σ : Rows} {n bf nn nr ns : Nat} (h : GI σ n bf nn nr ns) : n ≤ 60 := h.1.1
theorem GI.d1 {σ : Rows} {n bf nn nr ns : Nat} (h : GI σ n bf nn nr ns) : σ 0 1 = nI n := h.2.1.1
theorem GI.d16 {σ : Rows} {n bf nn nr ns : Nat} (h : GI σ n bf nn nr ns) : σ 0 16 = nI nn := h.2.1.2.2.1
/-- lengths and terms as numbers -/
def lnF (σ : Rows) (d f : Nat) : Nat := (σ 7 (d * 3 + f)).toNatClampNeg
theorem GI.ln {σ : Rows} {n bf nn nr ns : Nat} (h : GI σ n bf nn nr ns) {d f : Nat} (hd : d < 60) (hf : f < 3) : lnF σ d f ≤ 12 ∧ σ 7 (d * 3 + f) = nI (lnF σ d f) := by
  obtain ⟨j, hj, e⟩ := h.2.2.2.1 (d * 3 + f) (by omega)
  have : lnF σ d f = j := by unfold lnF; rw [e]; exact nI_clamp (by omega)
  rw [this]; exact ⟨hj, e⟩
def tmF (σ : Rows) (d f p : Nat) : Int32 := σ 8 ((d * 3 + f) * 12 + p)
theorem GI.tm {σ : Rows} {n bf nn nr ns : Nat} (h : GI σ n bf nn nr ns) {d f p : Nat} (hd : d < 60) (hf : f < 3) (hp : p < lnF σ d f) : ∃ t, t < 200 ∧ tmF σ d f p = nI t := h.2.2.2.2.1 d f p hd hf hp
section MLEAF
variable {FR : gS → Prop} {m : Nat} {μ : Nat → Nat} {σ : Rows} {g : gS}
/-- how often a field of a document has a term that isn't mute -/
def ctF (σ : Rows) (d f : Nat) (t : Int32) : Int32 := if σ 10 t.toNatClampNeg = 0 then isum (fun k => if tmF σ d f k = t then 1 else 0) (lnF σ d f) else 0
end MLEAF
