/-! THE REFERENCE UP TO WHAT IT COUNTED AND ITS ROW OF SCORES -/
theorem nI_div {a b : Nat} (ha : a < 2 ^ 31) (h0 : 0 < b) (hb : b < 2 ^ 31) : nI a / nI b = nI (a / b) := pk_div ha h0 hb
def MT (FR : gS → Prop) (m : Nat) (μ : Nat → Nat) (σ : Rows) (n : Nat) (T : Nat → Int32) (g : gS) : Prop :=
  ∃ σ', MR FR m μ σ' g ∧ CB (va_up σ 29 T) σ' ∧ (σ' 0 25 = 0 ∨ (σ' 0 25 = 1 ∧ Cnt σ σ' n))
theorem MT.k {FR : gS → Prop} {m : Nat} {μ : Nat → Nat} {σ : Rows} {n : Nat} {T : Nat → Int32} {g : gS} (h : MT FR m μ σ n T g) : gK g m = 12 := by obtain ⟨σ', h, _⟩ := h; exact h.k
theorem MT.s {FR : gS → Prop} {m : Nat} {μ : Nat → Nat} {σ : Rows} {n : Nat} {T : Nat → Int32} {g : gS} (h : MT FR m μ σ n T g) {i : Nat} (h1 : i ≠ 25) (h2 : i ≠ 26) : gI g m i = σ 0 i := by
  obtain ⟨σ', h, hb, _⟩ := h; rw [h.i, hb.2 i h1 h2]; rfl
theorem MT.r3 {FR : gS → Prop} {m : Nat} {μ : Nat → Nat} {σ : Rows} {n : Nat} {T : Nat → Int32} {g : gS} (h : MT FR m μ σ n T g) : gR g m 3 = some (μ 3) := by obtain ⟨σ2, h, _⟩ := h; exact h.r3
theorem MT.k3 {FR : gS → Prop} {m : Nat} {μ : Nat → Nat} {σ : Rows} {n : Nat} {T : Nat → Int32} {g : gS} (h : MT FR m μ σ n T g) : gK g (μ 3) = 21 := by obtain ⟨σ2, h, _⟩ := h; exact h.k3
theorem MT.n3 {FR : gS → Prop} {m : Nat} {μ : Nat → Nat} {σ : Rows} {n : Nat} {T : Nat → Int32} {g : gS} (h : MT FR m μ σ n T g) : gN g (μ 3) = 60 := by obtain ⟨σ2, h, _⟩ := h; exact h.n3
theorem MT.i3 {FR : gS → Prop} {m : Nat} {μ : Nat → Nat} {σ : Rows} {n : Nat} {T : Nat → Int32} {g : gS} (h : MT FR m μ σ n T g) : gI g (μ 3) = σ 3 := by obtain ⟨σ2, h, hb, _⟩ := h; rw [h.i3, hb.1 3 (by decide) (by decide) (by decide)]; rfl
theorem MT.r4 {FR : gS → Prop} {m : Nat} {μ : Nat → Nat} {σ : Rows} {n : Nat} {T : Nat → Int32} {g : gS} (h : MT FR m μ σ n T g) : gR g m 4 = some (μ 4) := by obtain ⟨σ2, h, _⟩ := h; exact h.r4
theorem MT.k4 {FR : gS → Prop} {m : Nat} {μ : Nat → Nat} {σ : Rows} {n : Nat} {T : Nat → Int32} {g : gS} (h : MT FR m μ σ n T g) : gK g (μ 4) = 21 := by obtain ⟨σ2, h, _⟩ := h; exact h.k4
theorem MT.n4 {FR : gS → Prop} {m : Nat} {μ : Nat → Nat} {σ : Rows} {n : Nat} {T : Nat → Int32} {g : gS} (h : MT FR m μ σ n T g) : gN g (μ 4) = 60 := by obtain ⟨σ2, h, _⟩ := h; exact h.n4
theorem MT.i4 {FR : gS → Prop} {m : Nat} {μ : Nat → Nat} {σ : Rows} {n : Nat} {T : Nat → Int32} {g : gS} (h : MT FR m μ σ n T g) : gI g (μ 4) = σ 4 := by obtain ⟨σ2, h, hb, _⟩ := h; rw [h.i4, hb.1 4 (by decide) (by decide) (by decide)]; rfl
theorem MT.r5 {FR : gS → Prop} {m : Nat} {μ : Nat → Nat} {σ : Rows} {n : Nat} {T : Nat → Int32} {g : gS} (h : MT FR m μ σ n T g) : gR g m 5 = some (μ 5) := by obtain ⟨σ2, h, _⟩ := h; exact h.r5
theorem MT.k5 {FR : gS → Prop} {m : Nat} {μ : Nat → Nat} {σ : Rows} {n : Nat} {T : Nat → Int32} {g : gS} (h : MT FR m μ σ n T g) : gK g (μ 5) = 22 := by obtain ⟨σ2, h, _⟩ := h; exact h.k5
theorem MT.n5 {FR : gS → Prop} {m : Nat} {μ : Nat → Nat} {σ : Rows} {n : Nat} {T : Nat → Int32} {g : gS} (h : MT FR m μ σ n T g) : gN g (μ 5) = 60 := by obtain ⟨σ2, h, _⟩ := h; exact h.n5
theorem MT.i5 {FR : gS → Prop} {m : Nat} {μ : Nat → Nat} {σ : Rows} {n : Nat} {T : Nat → Int32} {g : gS} (h : MT FR m μ σ n T g) : gI g (μ 5) = σ 5 := by obtain ⟨σ2, h, hb, _⟩ := h; rw [h.i5, hb.1 5 (by decide) (by decide) (by decide)]; rfl
theorem MT.r6 {FR : gS → Prop} {m : Nat} {μ : Nat → Nat} {σ : Rows} {n : Nat} {T : Nat → Int32} {g : gS} (h : MT FR m μ σ n T g) : gR g m 6 = some (μ 6) := by obtain ⟨σ2, h, _⟩ := h; exact h.r6
theorem MT.k6 {FR : gS → Prop} {m : Nat} {μ : Nat → Nat} {σ : Rows} {n : Nat} {T : Nat → Int32} {g : gS} (h : MT FR m μ σ n T g) : gK g (μ 6) = 22 := by obtain ⟨σ2, h, _⟩ := h; exact h.k6
theorem MT.n6 {FR : gS → Prop} {m : Nat} {μ : Nat → Nat} {σ : Rows} {n : Nat} {T : Nat → Int32} {g : gS} (h : MT FR m μ σ n T g) : gN g (μ 6) = 60 := by obtain ⟨σ2, h, _⟩ := h; exact h.n6
theorem MT.i6 {FR : gS → Prop} {m : Nat} {μ : Nat → Nat} {σ : Rows} {n : Nat} {T : Nat → Int32} {g : gS} (h : MT FR m μ σ n T g) : gI g (μ 6) = σ 6 := by obtain ⟨σ2, h, hb, _⟩ := h; rw [h.i6, hb.1 6 (by decide) (by decide) (by decide)]; rfl
theorem MT.r7 {FR : gS → Prop} {m : Nat} {μ : Nat → Nat} {σ : Rows} {n : Nat} {T : Nat → Int32} {g : gS} (h : MT FR m μ σ n T g) : gR g m 7 = some (μ 7) := by obtain ⟨σ2, h, _⟩ := h; exact h.r7
theorem MT.k7 {FR : gS → Prop} {m : Nat} {μ : Nat → Nat} {σ : Rows} {n : Nat} {T : Nat → Int32} {g : gS} (h : MT FR m μ σ n T g) : gK g (μ 7) = 21 := by obtain ⟨σ2, h, _⟩ := h; exact h.k7
theorem MT.n7 {FR : gS → Prop} {m : Nat} {μ : Nat → Nat} {σ : Rows} {n : Nat} {T : Nat → Int32} {g : gS} (h : MT FR m μ σ n T g) : gN g (μ 7) = 180 := by obtain ⟨σ2, h, _⟩ := h; exact h.n7
theorem MT.i7 {FR : gS → Prop} {m : Nat} {μ : Nat → Nat} {σ : Rows} {n : Nat} {T : Nat → Int32} {g : gS} (h : MT FR m μ σ n T g) : gI g (μ 7) = σ 7 := by obtain ⟨σ2, h, hb, _⟩ := h; rw [h.i7, hb.1 7 (by decide) (by decide) (by decide)]; rfl
theorem MT.r8 {FR : gS → Prop} {m : Nat} {μ : Nat → Nat} {σ : Rows} {n : Nat} {T : Nat → Int32} {g : gS} (h : MT FR m μ σ n T g) : gR g m 8 = some (μ 8) := by obtain ⟨σ2, h, _⟩ := h; exact h.r8
theorem MT.k8 {FR : gS → Prop} {m : Nat} {μ : Nat → Nat} {σ : Rows} {n : Nat} {T : Nat → Int32} {g : gS} (h : MT FR m μ σ n T g) : gK g (μ 8) = 21 := by obtain ⟨σ2, h, _⟩ := h; exact h.k8
theorem MT.n8 {FR : gS → Prop} {m : Nat} {μ : Nat → Nat} {σ : Rows} {n : Nat} {T : Nat → Int32} {g : gS} (h : MT FR m μ σ n T g) : gN g (μ 8) = 2160 := by obtain ⟨σ2, h, _⟩ := h; exact h.n8
theorem MT.i8 {FR : gS → Prop} {m : Nat} {μ : Nat → Nat} {σ : Rows} {n : Nat} {T : Nat → Int32} {g : gS} (h : MT FR m μ σ n T g) : gI g (μ 8) = σ 8 := by obtain ⟨σ2, h, hb, _⟩ := h; rw [h.i8, hb.1 8 (by decide) (by decide) (by decide)]; rfl
theorem MT.r10 {FR : gS → Prop} {m : Nat} {μ : Nat → Nat} {σ : Rows} {n : Nat} {T : Nat → Int32} {g : gS} (h : MT FR m μ σ n T g) : gR g m 10 = some (μ 10) := by obtain ⟨σ2, h, _⟩ := h; exact h.r10
theorem MT.k10 {FR : gS → Prop} {m : Nat} {μ : Nat → Nat} {σ : Rows} {n : Nat} {T : Nat → Int32} {g : gS} (h : MT FR m μ σ n T g) : gK g (μ 10) = 22 := by obtain ⟨σ2, h, _⟩ := h; exact h.k10
theorem MT.n10 {FR : gS → Prop} {m : Nat} {μ : Nat → Nat} {σ : Rows} {n : Nat} {T : Nat → Int32} {g : gS} (h : MT FR m μ σ n T g) : gN g (μ 10) = 200 := by obtain ⟨σ2, h, _⟩ := h; exact h.n10
theorem MT.i10 {FR : gS → Prop} {m : Nat} {μ : Nat → Nat} {σ : Rows} {n : Nat} {T : Nat → Int32} {g : gS} (h : MT FR m μ σ n T g) : gI g (μ 10) = σ 10 := by obtain ⟨σ2, h, hb, _⟩ := h; rw [h.i10, hb.1 10 (by decide) (by decide) (by decide)]; rfl
theorem MT.r11 {FR : gS → Prop} {m : Nat} {μ : Nat → Nat} {σ : Rows} {n : Nat} {T : Nat → Int32} {g : gS} (h : MT FR m μ σ n T g) : gR g m 11 = some (μ 11) := by obtain ⟨σ2, h, _⟩ := h; exact h.r11
theorem MT.k11 {FR : gS → Prop} {m : Nat} {μ : Nat → Nat} {σ : Rows} {n : Nat} {T : Nat → Int32} {g : gS} (h : MT FR m μ σ n T g) : gK g (μ 11) = 21 := by obtain ⟨σ2, h, _⟩ := h; exact h.k11
theorem MT.n11 {FR : gS → Prop} {m : Nat} {μ : Nat → Nat} {σ : Rows} {n : Nat} {T : Nat → Int32} {g : gS} (h : MT FR m μ σ n T g) : gN g (μ 11) = 200 := by obtain ⟨σ2, h, _⟩ := h; exact h.n11
theorem MT.i11 {FR : gS → Prop} {m : Nat} {μ : Nat → Nat} {σ : Rows} {n : Nat} {T : Nat → Int32} {g : gS} (h : MT FR m μ σ n T g) : gI g (μ 11) = σ 11 := by obtain ⟨σ2, h, hb, _⟩ := h; rw [h.i11, hb.1 11 (by decide) (by decide) (by decide)]; rfl
theorem MT.r12 {FR : gS → Prop} {m : Nat} {μ : Nat → Nat} {σ : Rows} {n : Nat} {T : Nat → Int32} {g : gS} (h : MT FR m μ σ n T g) : gR g m 12 = some (μ 12) := by obtain ⟨σ2, h, _⟩ := h; exact h.r12
theorem MT.k12 {FR : gS → Prop} {m : Nat} {μ : Nat → Nat} {σ : Rows} {n : Nat} {T : Nat → Int32} {g : gS} (h : MT FR m μ σ n T g) : gK g (μ 12) = 21 := by obtain ⟨σ2, h, _⟩ := h; exact h.k12
theorem MT.n12 {FR : gS → Prop} {m : Nat} {μ : Nat → Nat} {σ : Rows} {n : Nat} {T : Nat → Int32} {g : gS} (h : MT FR m μ σ n T g) : gN g (μ 12) = 3 := by obtain ⟨σ2, h, _⟩ := h; exact h.n12
theorem MT.i12 {FR : gS → Prop} {m : Nat} {μ : Nat → Nat} {σ : Rows} {n : Nat} {T : Nat → Int32} {g : gS} (h : MT FR m μ σ n T g) : gI g (μ 12) = σ 12 := by obtain ⟨σ2, h, hb, _⟩ := h; rw [h.i12, hb.1 12 (by decide) (by decide) (by decide)]; rfl
theorem MT.r14 {FR : gS → Prop} {m : Nat} {μ : Nat → Nat} {σ : Rows} {n : Nat} {T : Nat → Int32} {g : gS} (h : MT FR m μ σ n T g) : gR g m 14 = some (μ 14) := by obtain ⟨σ2, h, _⟩ := h; exact h.r14
theorem MT.k14 {FR : gS → Prop} {m : Nat} {μ : Nat → Nat} {σ : Rows} {n : Nat} {T : Nat → Int32} {g : gS} (h : MT FR m μ σ n T g) : gK g (μ 14) = 21 := by obtain ⟨σ2, h, _⟩ := h; exact h.k14
theorem MT.n14 {FR : gS → Prop} {m : Nat} {μ : Nat → Nat} {σ : Rows} {n : Nat} {T : Nat → Int32} {g : gS} (h : MT FR m μ σ n T g) : gN g (μ 14) = 61 := by obtain ⟨σ2, h, _⟩ := h; exact h.n14
theorem MT.i14 {FR : gS → Prop} {m : Nat} {μ : Nat → Nat} {σ : Rows} {n : Nat} {T : Nat → Int32} {g : gS} (h : MT FR m μ σ n T g) : gI g (μ 14) = σ 14 := by obtain ⟨σ2, h, hb, _⟩ := h; rw [h.i14, hb.1 14 (by decide) (by decide) (by decide)]; rfl
theorem MT.r15 {FR : gS → Prop} {m : Nat} {μ : Nat → Nat} {σ : Rows} {n : Nat} {T : Nat → Int32} {g : gS} (h : MT FR m μ σ n T g) : gR g m 15 = some (μ 15) := by obtain ⟨σ2, h, _⟩ := h; exact h.r15
theorem MT.k15 {FR : gS → Prop} {m : Nat} {μ : Nat → Nat} {σ : Rows} {n : Nat} {T : Nat → Int32} {g : gS} (h : MT FR m μ σ n T g) : gK g (μ 15) = 21 := by obtain ⟨σ2, h, _⟩ := h; exact h.k15
theorem MT.n15 {FR : gS → Prop} {m : Nat} {μ : Nat → Nat} {σ : Rows} {n : Nat} {T : Nat → Int32} {g : gS} (h : MT FR m μ σ n T g) : gN g (μ 15) = 60 := by obtain ⟨σ2, h, _⟩ := h; exact h.n15
theorem MT.i15 {FR : gS → Prop} {m : Nat} {μ : Nat → Nat} {σ : Rows} {n : Nat} {T : Nat → Int32} {g : gS} (h : MT FR m μ σ n T g) : gI g (μ 15) = σ 15 := by obtain ⟨σ2, h, hb, _⟩ := h; rw [h.i15, hb.1 15 (by decide) (by decide) (by decide)]; rfl
theorem MT.r17 {FR : gS → Prop} {m : Nat} {μ : Nat → Nat} {σ : Rows} {n : Nat} {T : Nat → Int32} {g : gS} (h : MT FR m μ σ n T g) : gR g m 17 = some (μ 17) := by obtain ⟨σ2, h, _⟩ := h; exact h.r17
theorem MT.k17 {FR : gS → Prop} {m : Nat} {μ : Nat → Nat} {σ : Rows} {n : Nat} {T : Nat → Int32} {g : gS} (h : MT FR m μ σ n T g) : gK g (μ 17) = 21 := by obtain ⟨σ2, h, _⟩ := h; exact h.k17
theorem MT.n17 {FR : gS → Prop} {m : Nat} {μ : Nat → Nat} {σ : Rows} {n : Nat} {T : Nat → Int32} {g : gS} (h : MT FR m μ σ n T g) : gN g (μ 17) = 30 := by obtain ⟨σ2, h, _⟩ := h; exact h.n17
theorem MT.i17 {FR : gS → Prop} {m : Nat} {μ : Nat → Nat} {σ : Rows} {n : Nat} {T : Nat → Int32} {g : gS} (h : MT FR m μ σ n T g) : gI g (μ 17) = σ 17 := by obtain ⟨σ2, h, hb, _⟩ := h; rw [h.i17, hb.1 17 (by decide) (by decide) (by decide)]; rfl
theorem MT.r18 {FR : gS → Prop} {m : Nat} {μ : Nat → Nat} {σ : Rows} {n : Nat} {T : Nat → Int32} {g : gS} (h : MT FR m μ σ n T g) : gR g m 18 = some (μ 18) := by obtain ⟨σ2, h, _⟩ := h; exact h.r18
theorem MT.k18 {FR : gS → Prop} {m : Nat} {μ : Nat → Nat} {σ : Rows} {n : Nat} {T : Nat → Int32} {g : gS} (h : MT FR m μ σ n T g) : gK g (μ 18) = 21 := by obtain ⟨σ2, h, _⟩ := h; exact h.k18
theorem MT.n18 {FR : gS → Prop} {m : Nat} {μ : Nat → Nat} {σ : Rows} {n : Nat} {T : Nat → Int32} {g : gS} (h : MT FR m μ σ n T g) : gN g (μ 18) = 30 := by obtain ⟨σ2, h, _⟩ := h; exact h.n18
theorem MT.i18 {FR : gS → Prop} {m : Nat} {μ : Nat → Nat} {σ : Rows} {n : Nat} {T : Nat → Int32} {g : gS} (h : MT FR m μ σ n T g) : gI g (μ 18) = σ 18 := by obtain ⟨σ2, h, hb, _⟩ := h; rw [h.i18, hb.1 18 (by decide) (by decide) (by decide)]; rfl
theorem MT.r19 {FR : gS → Prop} {m : Nat} {μ : Nat → Nat} {σ : Rows} {n : Nat} {T : Nat → Int32} {g : gS} (h : MT FR m μ σ n T g) : gR g m 19 = some (μ 19) := by obtain ⟨σ2, h, _⟩ := h; exact h.r19
theorem MT.k19 {FR : gS → Prop} {m : Nat} {μ : Nat → Nat} {σ : Rows} {n : Nat} {T : Nat → Int32} {g : gS} (h : MT FR m μ σ n T g) : gK g (μ 19) = 21 := by obtain ⟨σ2, h, _⟩ := h; exact h.k19
theorem MT.n19 {FR : gS → Prop} {m : Nat} {μ : Nat → Nat} {σ : Rows} {n : Nat} {T : Nat → Int32} {g : gS} (h : MT FR m μ σ n T g) : gN g (μ 19) = 30 := by obtain ⟨σ2, h, _⟩ := h; exact h.n19
theorem MT.i19 {FR : gS → Prop} {m : Nat} {μ : Nat → Nat} {σ : Rows} {n : Nat} {T : Nat → Int32} {g : gS} (h : MT FR m μ σ n T g) : gI g (μ 19) = σ 19 := by obtain ⟨σ2, h, hb, _⟩ := h; rw [h.i19, hb.1 19 (by decide) (by decide) (by decide)]; rfl
theorem MT.r20 {FR : gS → Prop} {m : Nat} {μ : Nat → Nat} {σ : Rows} {n : Nat} {T : Nat → Int32} {g : gS} (h : MT FR m μ σ n T g) : gR g m 20 = some (μ 20) := by obtain ⟨σ2, h, _⟩ := h; exact h.r20
theorem MT.k20 {FR : gS → Prop} {m : Nat} {μ : Nat → Nat} {σ : Rows} {n : Nat} {T : Nat → Int32} {g : gS} (h : MT FR m μ σ n T g) : gK g (μ 20) = 21 := by obtain ⟨σ2, h, _⟩ := h; exact h.k20
theorem MT.n20 {FR : gS → Prop} {m : Nat} {μ : Nat → Nat} {σ : Rows} {n : Nat} {T : Nat → Int32} {g : gS} (h : MT FR m μ σ n T g) : gN g (μ 20) = 30 := by obtain ⟨σ2, h, _⟩ := h; exact h.n20
theorem MT.i20 {FR : gS → Prop} {m : Nat} {μ : Nat → Nat} {σ : Rows} {n : Nat} {T : Nat → Int32} {g : gS} (h : MT FR m μ σ n T g) : gI g (μ 20) = σ 20 := by obtain ⟨σ2, h, hb, _⟩ := h; rw [h.i20, hb.1 20 (by decide) (by decide) (by decide)]; rfl
theorem MT.r21 {FR : gS → Prop} {m : Nat} {μ : Nat → Nat} {σ : Rows} {n : Nat} {T : Nat → Int32} {g : gS} (h : MT FR m μ σ n T g) : gR g m 21 = some (μ 21) := by obtain ⟨σ2, h, _⟩ := h; exact h.r21
theorem MT.k21 {FR : gS → Prop} {m : Nat} {μ : Nat → Nat} {σ : Rows} {n : Nat} {T : Nat → Int32} {g : gS} (h : MT FR m μ σ n T g) : gK g (μ 21) = 22 := by obtain ⟨σ2, h, _⟩ := h; exact h.k21
theorem MT.n21 {FR : gS → Prop} {m : Nat} {μ : Nat → Nat} {σ : Rows} {n : Nat} {T : Nat → Int32} {g : gS} (h : MT FR m μ σ n T g) : gN g (μ 21) = 30 := by obtain ⟨σ2, h, _⟩ := h; exact h.n21
theorem MT.i21 {FR : gS → Prop} {m : Nat} {μ : Nat → Nat} {σ : Rows} {n : Nat} {T : Nat → Int32} {g : gS} (h : MT FR m μ σ n T g) : gI g (μ 21) = σ 21 := by obtain ⟨σ2, h, hb, _⟩ := h; rw [h.i21, hb.1 21 (by decide) (by decide) (by decide)]; rfl
theorem MT.r23 {FR : gS → Prop} {m : Nat} {μ : Nat → Nat} {σ : Rows} {n : Nat} {T : Nat → Int32} {g : gS} (h : MT FR m μ σ n T g) : gR g m 23 = some (μ 23) := by obtain ⟨σ2, h, _⟩ := h; exact h.r23
theorem MT.k23 {FR : gS → Prop} {m : Nat} {μ : Nat → Nat} {σ : Rows} {n : Nat} {T : Nat → Int32} {g : gS} (h : MT FR m μ σ n T g) : gK g (μ 23) = 21 := by obtain ⟨σ2, h, _⟩ := h; exact h.k23
theorem MT.n23 {FR : gS → Prop} {m : Nat} {μ : Nat → Nat} {σ : Rows} {n : Nat} {T : Nat → Int32} {g : gS} (h : MT FR m μ σ n T g) : gN g (μ 23) = 60 := by obtain ⟨σ2, h, _⟩ := h; exact h.n23
theorem MT.i23 {FR : gS → Prop} {m : Nat} {μ : Nat → Nat} {σ : Rows} {n : Nat} {T : Nat → Int32} {g : gS} (h : MT FR m μ σ n T g) : gI g (μ 23) = σ 23 := by obtain ⟨σ2, h, hb, _⟩ := h; rw [h.i23, hb.1 23 (by decide) (by decide) (by decide)]; rfl
theorem MT.r24 {FR : gS → Prop} {m : Nat} {μ : Nat → Nat} {σ : Rows} {n : Nat} {T : Nat → Int32} {g : gS} (h : MT FR m μ σ n T g) : gR g m 24 = some (μ 24) := by obtain ⟨σ2, h, _⟩ := h; exact h.r24
theorem MT.k24 {FR : gS → Prop} {m : Nat} {μ : Nat → Nat} {σ : Rows} {n : Nat} {T : Nat → Int32} {g : gS} (h : MT FR m μ σ n T g) : gK g (μ 24) = 21 := by obtain ⟨σ2, h, _⟩ := h; exact h.k24
theorem MT.n24 {FR : gS → Prop} {m : Nat} {μ : Nat → Nat} {σ : Rows} {n : Nat} {T : Nat → Int32} {g : gS} (h : MT FR m μ σ n T g) : gN g (μ 24) = 60 := by obtain ⟨σ2, h, _⟩ := h; exact h.n24
theorem MT.i24 {FR : gS → Prop} {m : Nat} {μ : Nat → Nat} {σ : Rows} {n : Nat} {T : Nat → Int32} {g : gS} (h : MT FR m μ σ n T g) : gI g (μ 24) = σ 24 := by obtain ⟨σ2, h, hb, _⟩ := h; rw [h.i24, hb.1 24 (by decide) (by decide) (by decide)]; rfl
theorem MT.r27 {FR : gS → Prop} {m : Nat} {μ : Nat → Nat} {σ : Rows} {n : Nat} {T : Nat → Int32} {g : gS} (h : MT FR m μ σ n T g) : gR g m 27 = some (μ 27) := by obtain ⟨σ2, h, _⟩ := h; exact h.r27
theorem MT.k27 {FR : gS → Prop} {m : Nat} {μ : Nat → Nat} {σ : Rows} {n : Nat} {T : Nat → Int32} {g : gS} (h : MT FR m μ σ n T g) : gK g (μ 27) = 21 := by obtain ⟨σ2, h, _⟩ := h; exact h.k27
theorem MT.n27 {FR : gS → Prop} {m : Nat} {μ : Nat → Nat} {σ : Rows} {n : Nat} {T : Nat → Int32} {g : gS} (h : MT FR m μ σ n T g) : gN g (μ 27) = 3 := by obtain ⟨σ2, h, _⟩ := h; exact h.n27
theorem MT.r28 {FR : gS → Prop} {m : Nat} {μ : Nat → Nat} {σ : Rows} {n : Nat} {T : Nat → Int32} {g : gS} (h : MT FR m μ σ n T g) : gR g m 28 = some (μ 28) := by obtain ⟨σ2, h, _⟩ := h; exact h.r28
theorem MT.k28 {FR : gS → Prop} {m : Nat} {μ : Nat → Nat} {σ : Rows} {n : Nat} {T : Nat → Int32} {g : gS} (h : MT FR m μ σ n T g) : gK g (μ 28) = 21 := by obtain ⟨σ2, h, _⟩ := h; exact h.k28
theorem MT.n28 {FR : gS → Prop} {m : Nat} {μ : Nat → Nat} {σ : Rows} {n : Nat} {T : Nat → Int32} {g : gS} (h : MT FR m μ σ n T g) : gN g (μ 28) = 600 := by obtain ⟨σ2, h, _⟩ := h; exact h.n28
theorem MT.r29 {FR : gS → Prop} {m : Nat} {μ : Nat → Nat} {σ : Rows} {n : Nat} {T : Nat → Int32} {g : gS} (h : MT FR m μ σ n T g) : gR g m 29 = some (μ 29) := by obtain ⟨σ2, h, _⟩ := h; exact h.r29
theorem MT.k29 {FR : gS → Prop} {m : Nat} {μ : Nat → Nat} {σ : Rows} {n : Nat} {T : Nat → Int32} {g : gS} (h : MT FR m μ σ n T g) : gK g (μ 29) = 21 := by obtain ⟨σ2, h, _⟩ := h; exact h.k29
theorem MT.n29 {FR : gS → Prop} {m : Nat} {μ : Nat → Nat} {σ : Rows} {n : Nat} {T : Nat → Int32} {g : gS} (h : MT FR m μ σ n T g) : gN g (μ 29) = 30 := by obtain ⟨σ2, h, _⟩ := h; exact h.n29
theorem MT.i29 {FR : gS → Prop} {m : Nat} {μ : Nat → Nat} {σ : Rows} {n : Nat} {T : Nat → Int32} {g : gS} (h : MT FR m μ σ n T g) : gI g (μ 29) = T := by obtain ⟨σ2, h, hb, _⟩ := h; rw [h.i29, hb.1 29 (by decide) (by decide) (by decide)]; rfl
theorem mul3 (a : Nat) : nI a * 3 = nI (a * 3) := nI_mul a 3
theorem mul12 (a : Nat) : nI a * 12 = nI (a * 12) := nI_mul a 12
theorem vpi_iff {n N : Nat} (h : n < N) (hN : N < 2 ^ 31) : vp_in (nI n) N ↔ True := ⟨fun _ => trivial, fun _ => vp_in_nI h hN⟩
theorem MT.of {FR : gS → Prop} {m : Nat} {μ : Nat → Nat} {σ : Rows} {n : Nat} {g : gS} (h : MR FR m μ σ g) (hc : Cok σ n) : MT FR m μ σ n (σ 29) g := by
  refine ⟨σ, h, ?_, ?_⟩
  · refine ⟨fun t _ _ _ => ?_, fun i _ _ => rfl⟩
    by_cases e : t = 29
    · subst e; exact (va_up_self _ _ _).symm
    · exact (va_up_ne _ _ e).symm
  · exact hc
section MSTATE
variable {FR : gS → Prop} {m : Nat} {μ : Nat → Nat} {σ : Rows} {n : Nat} {T : Nat → Int32} {g : gS} {bf nn nr ns : Nat}
theorem GI.up29 (h : GI σ n bf nn nr ns) : GI (va_up σ 29 T) n bf nn nr ns := h
theorem mt_many (h : MT FR m μ σ n T g) {d f : Nat} (hd : d < 60) (hf : f < 3) {Q : Int32 → Prop} : w_X11_many g m (nI d) (nI f) Q ↔ Q (σ 7 (d * 3 + f)) := by
  unfold w_X11_many; simp (disch := first | omega | decide) only [h.k, h.r7, h.k7, h.n7, h.i7, true_and, Option.some.injEq, exists_eq_left', mul3, mul12, nI_mul, nI_add, cl_nI, vpi_iff]
theorem mt_at (h : MT FR m μ σ n T g) {d f p : Nat} (hd : d < 60) (hf : f < 3) (hp : p < 12) {Q : Int32 → Prop} : w_X11_at g m (nI d) (nI f) (nI p) Q ↔ Q (tmF σ d f p) := by
  unfold w_X11_at; simp (disch := first | omega | decide) only [h.k, h.r8, h.k8, h.n8, h.i8, true_and, Option.some.injEq, exists_eq_left', mul3, mul12, nI_mul, nI_add, cl_nI, vpi_iff]; exact Iff.rfl
theorem mt_count (h : MT FR m μ σ n T g) (hG : GI σ n bf nn nr ns) {d f t : Nat} (hd : d < 60) (hf : f < 3) (ht : t < 200) {Q : Int32 → Prop} (hQ : Q (ctF σ d f (nI t))) : w_X11_count g m (nI d) (nI f) (nI t) Q := by
  obtain ⟨σ2, h2, hb, _⟩ := h
  have e : ctF σ2 d f (nI t) = ctF σ d f (nI t) := by
    have e7 : σ2 7 = σ 7 := hb.1 7 (by decide) (by decide) (by decide)
    have e8 : σ2 8 = σ 8 := hb.1 8 (by decide) (by decide) (by decide)
    have e10 : σ2 10 = σ 10 := hb.1 10 (by decide) (by decide) (by decide)
    unfold ctF tmF lnF; rw [e7, e8, e10]
  exact m_count h2 (GI.cb (GI.up29 hG) hb) hd hf ht (by rw [e]; exact hQ)
theorem mt_countAll (h : MT FR m μ σ n T g) (hG : GI σ n bf nn nr ns) {Q : gS → Prop} (hQ : ∀ g', MT FR m μ σ n T g' → (gI g' m 26 = lyF σ n ∧ (∀ f, f < 3 → gI g' (μ 27) f = leF σ f n) ∧ ∀ t f, t < 200 → f < 3 → gI g' (μ 28) (t * 3 + f) = spF σ t f n) → Q g') : w_X11_countAll g m Q := by
  obtain ⟨σ2, h2, hb, hc⟩ := h
  have hG2 := GI.cb (GI.up29 (T := T) hG) hb
  refine m_countAll h2 hG2 ?_ (fun g' σ3 h3 hb3 e25 hc3 => ?_)
  · rcases hc with e | ⟨e, hc⟩
    · exact Or.inl e
    · exact Or.inr ⟨e, Cnt.cb (σ := va_up σ 29 T) hc hb⟩
  · have hb' : CB (va_up σ 29 T) σ3 := ⟨fun t a b c => (hb3.1 t a b c).trans (hb.1 t a b c), fun i a b => (hb3.2 i a b).trans (hb.2 i a b)⟩
    have hbr : CB σ2 (va_up σ 29 T) := ⟨fun t a b c => (hb.1 t a b c).symm, fun i a b => (hb.2 i a b).symm⟩
    have hc4 : Cnt σ σ3 n := Cnt.cb (σ := σ2) (σ' := va_up σ 29 T) hc3 hbr
    refine hQ g' ⟨σ3, h3, hb', Or.inr ⟨e25, hc4⟩⟩ ?_
    rw [h3.i, h3.i27, h3.i28]
    exact hc4
theorem mt_lying (h : MT FR m μ σ n T g) (hG : GI σ n bf nn nr ns) {Q : Int32 → gS → Prop} (hQ : ∀ g', MT FR m μ σ n T g' → (∀ f, f < 3 → gI g' (μ 27) f = leF σ f n) → Q (lyF σ n) g') : w_X11_lying g m Q := by
  unfold w_X11_lying
  refine ⟨h.k, mt_countAll h hG (fun g' h' hc => ⟨h'.k, ?_⟩)⟩
  rw [hc.1]; exact hQ g' h' hc.2.1
theorem mt_spreadNow (h : MT FR m μ σ n T g) (hG : GI σ n bf nn nr ns) {t f : Nat} (ht : t < 200) (hf : f < 3) {Q : Int32 → gS → Prop} (hQ : ∀ g', MT FR m μ σ n T g' → Q (spF σ t f n) g') : w_X11_spreadNow g m (nI t) (nI f) Q := by
  unfold w_X11_spreadNow
  refine ⟨h.k, mt_countAll h hG (fun g' h' hc => ⟨h'.k, _, h'.r28, h'.k28, ?_⟩)⟩
  rw [h'.n28, lit_nI, nI_mul, nI_add, cl_nI (show t * 3 + f < 2 ^ 31 by omega), hc.2.2 t f ht hf]
  exact ⟨vpi (show t * 3 + f < 600 by omega), hQ g' h'⟩
/-- roots -/
def btS : Nat → Int32
  | 0 => 16384
  | k + 1 => btS k / 2
def rtS (x : Int32) : Nat → Int32
  | 0 => 0
  | k + 1 => if x < (rtS x k + btS k) * (rtS x k + btS k) then rtS x k else rtS x k + btS k
def rootF (x : Int32) : Int32 := rtS x 15
theorem btS_pos : ∀ k, k < 15 → ¬ btS k ≤ 0 := by decide +kernel
theorem btS_end : btS 15 ≤ 0 := by decide +kernel
theorem m_root {x : Int32} {Q : Int32 → Prop} (hQ : Q (rootF x)) : w_X11_root g x Q := by
  unfold w_X11_root
  refine lpx2_t 15 (fun k => rtS x k) (fun k => btS k) (fun k hk K hK => ?_) (fun K => ?_)
  · unfold l_X11_root_6 b_X11_root_25
    refine ⟨fun c => absurd c (btS_pos k hk), fun _ => ⟨fun c => ?_, fun c => ?_⟩⟩
    · simp only [rtS, btS, if_pos c] at hK; exact hK
    · simp only [rtS, btS, if_neg c] at hK; exact hK
  · unfold l_X11_root_6
    exact ⟨fun _ => hQ, fun c => absurd btS_end c⟩
/-- counted numbers as natural ones -/
def lyN (σ : Rows) : Nat → Nat := cnt (fun d => !decide (σ 6 d = 0))
def leN (σ : Rows) (f : Nat) : Nat → Nat
  | 0 => 0
  | n + 1 => leN σ f n + if σ 6 n = 0 then 0 else lnF σ n f
def spN (σ : Rows) (t f : Nat) : Nat → Nat := cnt (fun d => !decide (σ 6 d = 0) && hasB (tmF σ d f) (lnF σ d f) (nI t))
theorem lyF_eq : lyF σ n = nI (lyN σ n) := by
  unfold lyF lyN
  rw [← isum_cnt]
  exact isum_congr (fun d _ => by by_cases c : σ 6 d = 0 <;> simp [c])
theorem spF_eq {t f : Nat} : spF σ t f n = nI (spN σ t f n) := by
  unfold spF spN
  rw [← isum_cnt]
  refine isum_congr (fun d _ => ?_)
  by_cases c : σ 6 d = 0
  · simp [c]
  · simp [c, hasI]
theorem leF_eq (hG : GI σ n bf nn nr ns) {f : Nat} (hf : f < 3) : leF σ f n = nI (leN σ f n) := by
  have key : ∀ j, j ≤ n → isum (fun d => if σ 6 d = 0 then 0 else σ 7 (d * 3 + f)) j = nI (leN σ f j) := by
    intro j
    induction j with
    | zero => exact fun _ => rfl
    | succ j ih =>
      intro hj
      rw [isum, leN, ih (by omega)]
      have := hG.n
      by_cases c : σ 6 j = 0
      · rw [if_pos c, if_pos c]; exact Int32.add_zero _
      · rw [if_neg c, if_neg c, (hG.ln (show j < 60 by omega) hf).2, nI_add]
  exact key n (Nat.le_refl n)
theorem lyN_le : lyN σ n ≤ n := cnt_le _ _
theorem spN_le {t f : Nat} : spN σ t f n ≤ n := cnt_le _ _
theorem leN_le (hG : GI σ n bf nn nr ns) {f : Nat} (hf : f < 3) : leN σ f n ≤ 12 * n := by
  have key : ∀ j, j ≤ n → leN σ f j ≤ 12 * j := by
    intro j
    induction j with
    | zero => exact fun _ => Nat.le_refl 0
    | succ j ih =>
      intro hj
      have := ih (by omega)
      have := hG.n
      have := (hG.ln (show j < 60 by omega) hf).1
      rw [leN]; split <;> omega
  exact key n (Nat.le_refl n)
theorem leN_ge {d f : Nat} (hd : d < n) (hl : σ 6 d ≠ 0) : lnF σ d f ≤ leN σ f n := by
  induction n with
  | zero => omega
  | succ j ih =>
    rw [leN]
    rcases Nat.lt_or_ge d j with h | h
    · have := ih h; omega
    · have : d = j := by omega
      subst this; rw [if_neg hl]; omega
/-- how rare a term is -/
def rareF (σ : Rows) (n t f : Nat) : Int32 := rootF (10000 * (lyF σ n + 1) / (spF σ t f n + 1))
theorem mt_rareNow (h : MT FR m μ σ n T g) (hG : GI σ n bf nn nr ns) {t f : Nat} (ht : t < 200) (hf : f < 3) {Q : Int32 → gS → Prop} (hQ : ∀ g', MT FR m μ σ n T g' → Q (rareF σ n t f) g') : w_X11_rareNow g m (nI t) (nI f) Q := by
  unfold w_X11_rareNow
  refine ⟨h.k, mt_lying h hG (fun g1 h1 _ => ⟨h1.k, mt_spreadNow h1 hG ht hf (fun g2 h2 => ⟨?_, m_root (hQ g2 h2)⟩)⟩)⟩
  have := hG.n
  have := spN_le (σ := σ) (n := n) (t := t) (f := f)
  rw [spF_eq, nI_1]
  intro e
  have := (nI_inj (show spN σ t f n + 1 < 2 ^ 31 by omega) (show 0 < 2 ^ 31 by omega)).mp e
  omega
end MSTATE
