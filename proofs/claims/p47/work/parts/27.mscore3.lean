/-! THE REFERENCE'S SCORES: a node, and all -/
section MSCORE3
variable {FR : gS → Prop} {m : Nat} {μ : Nat → Nat} {σ : Rows} {n : Nat} {T : Nat → Int32} {g : gS} {bf nn nr ns : Nat}
/-- all nodes -/
def NG (σ : Rows) (nn : Nat) : Prop := ∀ j, j < nn → NW σ j
theorem NW.term (h : NW σ n) (e : σ 17 n = 0) : ∃ a b, a < 200 ∧ 1 ≤ b ∧ b < 8 ∧ σ 18 n = nI a ∧ σ 19 n = nI b := by
  rcases h with ⟨_, h⟩ | ⟨h, _⟩ | ⟨h, _⟩ | h | ⟨h, _⟩ | ⟨h, _⟩ | ⟨h, _⟩
  · exact h
  · rcases h with h | h | h <;> (rw [e] at h; exact absurd h (by decide))
  all_goals (rw [e] at h; exact absurd h (by decide))
theorem i32_nl {a b : Int32} : ¬ a < b ↔ b ≤ a := Int32.not_lt
theorem i32_nle {a b : Int32} : ¬ a ≤ b ↔ b < a := Int32.not_le
/-- the scores of the nodes, one after another -/
def scT (σ : Rows) (n d : Nat) (T : Nat → Int32) : Nat → Nat → Int32
  | 0 => T
  | k + 1 => upd (scT σ n d T k) k (scoreF σ n (scT σ n d T k) k d)
end MSCORE3
