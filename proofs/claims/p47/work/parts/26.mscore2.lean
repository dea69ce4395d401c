/-! THE REFERENCE'S SCORES: methods -/
theorem GI.al {σ : Rows} {n bf nn nr ns : Nat} (h : GI σ n bf nn nr ns) {t : Nat} (ht : t < 200) : σ 11 t = -1 ∨ ∃ a, a < 200 ∧ σ 11 t = nI a := h.2.2.2.2.2.2.2 t ht
theorem nI_nm1 {a : Nat} (ha : a < 2 ^ 31) : ¬ nI a = -1 := fun e => not_lt0 ha (by rw [e]; decide)
theorem bI_n0 {b : Bool} (h : ¬ bI b = 0) : b = true := by
  cases b
  · exact absurd rfl h
  · rfl
theorem absd : ∀ p, p < 12 → ∀ q, q < 12 → (if 0 ≤ nI p - nI q then nI p - nI q else 0 - (nI p - nI q)) = nI (if p ≤ q then q - p else p - q) := by decide +kernel
theorem lpx1_s {A1 : Type} {body : A1 → (A1 → Prop) → Prop} (n : Nat) (F1 : Nat → A1) {a1 : A1} (e1 : a1 = F1 0) (hs : ∀ k, k < n → ∀ K : A1 → Prop, K (F1 (k + 1)) → body (F1 k) K) (he : ∀ K : A1 → Prop, body (F1 n) K) : lpx1 body a1 := by
  rw [e1]; exact lpx1_t n F1 hs he
theorem lpx2_s {A1 : Type} {A2 : Type} {body : A1 → A2 → (A1 → A2 → Prop) → Prop} (n : Nat) (F1 : Nat → A1) (F2 : Nat → A2) {a1 : A1} {a2 : A2} (e1 : a1 = F1 0) (e2 : a2 = F2 0) (hs : ∀ k, k < n → ∀ K : A1 → A2 → Prop, K (F1 (k + 1)) (F2 (k + 1)) → body (F1 k) (F2 k) K) (he : ∀ K : A1 → A2 → Prop, body (F1 n) (F2 n) K) : lpx2 body a1 a2 := by
  rw [e1, e2]; exact lpx2_t n F1 F2 hs he
theorem lpx3_s {A1 : Type} {A2 : Type} {A3 : Type} {body : A1 → A2 → A3 → (A1 → A2 → A3 → Prop) → Prop} (n : Nat) (F1 : Nat → A1) (F2 : Nat → A2) (F3 : Nat → A3) {a1 : A1} {a2 : A2} {a3 : A3} (e1 : a1 = F1 0) (e2 : a2 = F2 0) (e3 : a3 = F3 0) (hs : ∀ k, k < n → ∀ K : A1 → A2 → A3 → Prop, K (F1 (k + 1)) (F2 (k + 1)) (F3 (k + 1)) → body (F1 k) (F2 k) (F3 k) K) (he : ∀ K : A1 → A2 → A3 → Prop, body (F1 n) (F2 n) (F3 n) K) : lpx3 body a1 a2 a3 := by
  rw [e1, e2, e3]; exact lpx3_t n F1 F2 F3 hs he
theorem lpx4_s {A1 : Type} {A2 : Type} {A3 : Type} {A4 : Type} {body : A1 → A2 → A3 → A4 → (A1 → A2 → A3 → A4 → Prop) → Prop} (n : Nat) (F1 : Nat → A1) (F2 : Nat → A2) (F3 : Nat → A3) (F4 : Nat → A4) {a1 : A1} {a2 : A2} {a3 : A3} {a4 : A4} (e1 : a1 = F1 0) (e2 : a2 = F2 0) (e3 : a3 = F3 0) (e4 : a4 = F4 0) (hs : ∀ k, k < n → ∀ K : A1 → A2 → A3 → A4 → Prop, K (F1 (k + 1)) (F2 (k + 1)) (F3 (k + 1)) (F4 (k + 1)) → body (F1 k) (F2 k) (F3 k) (F4 k) K) (he : ∀ K : A1 → A2 → A3 → A4 → Prop, body (F1 n) (F2 n) (F3 n) (F4 n) K) : lpx4 body a1 a2 a3 a4 := by
  rw [e1, e2, e3, e4]; exact lpx4_t n F1 F2 F3 F4 hs he
theorem lpx5_s {A1 : Type} {A2 : Type} {A3 : Type} {A4 : Type} {A5 : Type} {body : A1 → A2 → A3 → A4 → A5 → (A1 → A2 → A3 → A4 → A5 → Prop) → Prop} (n : Nat) (F1 : Nat → A1) (F2 : Nat → A2) (F3 : Nat → A3) (F4 : Nat → A4) (F5 : Nat → A5) {a1 : A1} {a2 : A2} {a3 : A3} {a4 : A4} {a5 : A5} (e1 : a1 = F1 0) (e2 : a2 = F2 0) (e3 : a3 = F3 0) (e4 : a4 = F4 0) (e5 : a5 = F5 0) (hs : ∀ k, k < n → ∀ K : A1 → A2 → A3 → A4 → A5 → Prop, K (F1 (k + 1)) (F2 (k + 1)) (F3 (k + 1)) (F4 (k + 1)) (F5 (k + 1)) → body (F1 k) (F2 k) (F3 k) (F4 k) (F5 k) K) (he : ∀ K : A1 → A2 → A3 → A4 → A5 → Prop, body (F1 n) (F2 n) (F3 n) (F4 n) (F5 n) K) : lpx5 body a1 a2 a3 a4 a5 := by
  rw [e1, e2, e3, e4, e5]; exact lpx5_t n F1 F2 F3 F4 F5 hs he
section MSCORE2
variable {FR : gS → Prop} {m : Nat} {μ : Nat → Nat} {σ : Rows} {n : Nat} {T : Nat → Int32} {g : gS} {bf nn nr ns : Nat}
end MSCORE2
