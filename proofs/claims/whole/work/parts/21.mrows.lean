/-! THE REFERENCE BY ROWS: row 0 its ints, row t the array of its field t -/
def mK : Nat → Nat
  | 3 => 21
  | 4 => 21
  | 5 => 22
  | 6 => 22
  | 7 => 21
  | 8 => 21
  | 10 => 22
  | 11 => 21
  | 12 => 21
  | 14 => 21
  | 15 => 21
  | 17 => 21
  | 18 => 21
  | 19 => 21
  | 20 => 21
  | 21 => 22
  | 23 => 21
  | 24 => 21
  | 27 => 21
  | 28 => 21
  | 29 => 21
  | _ => 0
def mN : Nat → Nat
  | 3 => 60
  | 4 => 60
  | 5 => 60
  | 6 => 60
  | 7 => 180
  | 8 => 2160
  | 10 => 200
  | 11 => 200
  | 12 => 3
  | 14 => 61
  | 15 => 60
  | 17 => 30
  | 18 => 30
  | 19 => 30
  | 20 => 30
  | 21 => 30
  | 23 => 60
  | 24 => 60
  | 27 => 3
  | 28 => 600
  | 29 => 30
  | _ => 0
abbrev Rows : Type := Nat → Nat → Int32
def su (σ : Rows) (t i : Nat) (v : Int32) : Rows := va_up σ t (upd (σ t) i v)
theorem su_row {σ : Rows} {t i u : Nat} {v : Int32} (h : u ≠ t) : su σ t i v u = σ u := va_up_ne _ _ h
theorem su_self {σ : Rows} {t i : Nat} {v : Int32} : su σ t i v t = upd (σ t) i v := va_up_self _ _ _
theorem su_at {σ : Rows} {t i j : Nat} {v : Int32} : su σ t i v t j = if j = i then v else σ t j := by rw [su_self]; rfl
def MR (FR : gS → Prop) (m : Nat) (μ : Nat → Nat) (σ : Rows) (g : gS) : Prop :=
  gK g m = 12 ∧ gI g m = σ 0 ∧ (∀ t, mK t ≠ 0 → gR g m t = some (μ t) ∧ gK g (μ t) = mK t ∧ gN g (μ t) = mN t ∧ gI g (μ t) = σ t) ∧ (∀ t u, mK t ≠ 0 → mK u ≠ 0 → μ t = μ u → t = u) ∧ (∀ t, mK t ≠ 0 → μ t ≠ m) ∧ FR g ∧ ∀ g a i v, (a = m ∨ ∃ t, mK t ≠ 0 ∧ a = μ t) → FR g → FR (sU g a i v)
theorem MR.k {FR : gS → Prop} {m : Nat} {μ : Nat → Nat} {σ : Rows} {g : gS} (h : MR FR m μ σ g) : gK g m = 12 := h.1
theorem MR.i {FR : gS → Prop} {m : Nat} {μ : Nat → Nat} {σ : Rows} {g : gS} (h : MR FR m μ σ g) : gI g m = σ 0 := h.2.1
/-- an int of its own written -/
theorem MR.s {FR : gS → Prop} {m : Nat} {μ : Nat → Nat} {σ : Rows} {g : gS} (h : MR FR m μ σ g) (i : Nat) (v : Int32) : MR FR m μ (su σ 0 i v) (sU g m i v) := by
  obtain ⟨h1, h2, h3, h4, h5, h6, h7⟩ := h
  refine ⟨h1, ?_, fun t ht => ?_, h4, h5, h7 _ _ _ _ (Or.inl rfl) h6, h7⟩
  · show gI (sI g m (upd (gI g m) i v)) m = _
    rw [gI_sI_self, su_self, h2]
  · obtain ⟨a1, a2, a3, a4⟩ := h3 t ht
    refine ⟨a1, a2, a3, ?_⟩
    have ht0 : t ≠ 0 := fun e => ht (by rw [e]; rfl)
    show gI (sI g m (upd (gI g m) i v)) (μ t) = _
    rw [gI_sI_ne (h5 t ht), su_row ht0, a4]
/-- a place of an array written -/
theorem MR.a {FR : gS → Prop} {m : Nat} {μ : Nat → Nat} {σ : Rows} {g : gS} (h : MR FR m μ σ g) (t : Nat) (ht : mK t ≠ 0) (i : Nat) (v : Int32) : MR FR m μ (su σ t i v) (sU g (μ t) i v) := by
  obtain ⟨h1, h2, h3, h4, h5, h6, h7⟩ := h
  have ht0 : t ≠ 0 := fun e => ht (by rw [e]; rfl)
  refine ⟨h1, ?_, fun u hu => ?_, h4, h5, h7 _ _ _ _ (Or.inr ⟨t, ht, rfl⟩) h6, h7⟩
  · show gI (sI g (μ t) (upd (gI g (μ t)) i v)) m = _
    rw [gI_sI_ne (Ne.symm (h5 t ht)), su_row (Ne.symm ht0), h2]
  · obtain ⟨a1, a2, a3, a4⟩ := h3 u hu
    refine ⟨a1, a2, a3, ?_⟩
    show gI (sI g (μ t) (upd (gI g (μ t)) i v)) (μ u) = _
    by_cases e : u = t
    · subst e; rw [gI_sI_self, su_self, a4]
    · rw [gI_sI_ne (fun q => e (h4 u t hu ht q)), su_row e, a4]
theorem MR.r3 {FR : gS → Prop} {m : Nat} {μ : Nat → Nat} {σ : Rows} {g : gS} (h : MR FR m μ σ g) : gR g m 3 = some (μ 3) := (h.2.2.1 3 (by decide)).1
theorem MR.k3 {FR : gS → Prop} {m : Nat} {μ : Nat → Nat} {σ : Rows} {g : gS} (h : MR FR m μ σ g) : gK g (μ 3) = 21 := (h.2.2.1 3 (by decide)).2.1
theorem MR.n3 {FR : gS → Prop} {m : Nat} {μ : Nat → Nat} {σ : Rows} {g : gS} (h : MR FR m μ σ g) : gN g (μ 3) = 60 := (h.2.2.1 3 (by decide)).2.2.1
theorem MR.i3 {FR : gS → Prop} {m : Nat} {μ : Nat → Nat} {σ : Rows} {g : gS} (h : MR FR m μ σ g) : gI g (μ 3) = σ 3 := (h.2.2.1 3 (by decide)).2.2.2
theorem MR.r4 {FR : gS → Prop} {m : Nat} {μ : Nat → Nat} {σ : Rows} {g : gS} (h : MR FR m μ σ g) : gR g m 4 = some (μ 4) := (h.2.2.1 4 (by decide)).1
theorem MR.k4 {FR : gS → Prop} {m : Nat} {μ : Nat → Nat} {σ : Rows} {g : gS} (h : MR FR m μ σ g) : gK g (μ 4) = 21 := (h.2.2.1 4 (by decide)).2.1
theorem MR.n4 {FR : gS → Prop} {m : Nat} {μ : Nat → Nat} {σ : Rows} {g : gS} (h : MR FR m μ σ g) : gN g (μ 4) = 60 := (h.2.2.1 4 (by decide)).2.2.1
theorem MR.i4 {FR : gS → Prop} {m : Nat} {μ : Nat → Nat} {σ : Rows} {g : gS} (h : MR FR m μ σ g) : gI g (μ 4) = σ 4 := (h.2.2.1 4 (by decide)).2.2.2
theorem MR.r5 {FR : gS → Prop} {m : Nat} {μ : Nat → Nat} {σ : Rows} {g : gS} (h : MR FR m μ σ g) : gR g m 5 = some (μ 5) := (h.2.2.1 5 (by decide)).1
theorem MR.k5 {FR : gS → Prop} {m : Nat} {μ : Nat → Nat} {σ : Rows} {g : gS} (h : MR FR m μ σ g) : gK g (μ 5) = 22 := (h.2.2.1 5 (by decide)).2.1
theorem MR.n5 {FR : gS → Prop} {m : Nat} {μ : Nat → Nat} {σ : Rows} {g : gS} (h : MR FR m μ σ g) : gN g (μ 5) = 60 := (h.2.2.1 5 (by decide)).2.2.1
theorem MR.i5 {FR : gS → Prop} {m : Nat} {μ : Nat → Nat} {σ : Rows} {g : gS} (h : MR FR m μ σ g) : gI g (μ 5) = σ 5 := (h.2.2.1 5 (by decide)).2.2.2
theorem MR.r6 {FR : gS → Prop} {m : Nat} {μ : Nat → Nat} {σ : Rows} {g : gS} (h : MR FR m μ σ g) : gR g m 6 = some (μ 6) := (h.2.2.1 6 (by decide)).1
theorem MR.k6 {FR : gS → Prop} {m : Nat} {μ : Nat → Nat} {σ : Rows} {g : gS} (h : MR FR m μ σ g) : gK g (μ 6) = 22 := (h.2.2.1 6 (by decide)).2.1
theorem MR.n6 {FR : gS → Prop} {m : Nat} {μ : Nat → Nat} {σ : Rows} {g : gS} (h : MR FR m μ σ g) : gN g (μ 6) = 60 := (h.2.2.1 6 (by decide)).2.2.1
theorem MR.i6 {FR : gS → Prop} {m : Nat} {μ : Nat → Nat} {σ : Rows} {g : gS} (h : MR FR m μ σ g) : gI g (μ 6) = σ 6 := (h.2.2.1 6 (by decide)).2.2.2
theorem MR.r7 {FR : gS → Prop} {m : Nat} {μ : Nat → Nat} {σ : Rows} {g : gS} (h : MR FR m μ σ g) : gR g m 7 = some (μ 7) := (h.2.2.1 7 (by decide)).1
theorem MR.k7 {FR : gS → Prop} {m : Nat} {μ : Nat → Nat} {σ : Rows} {g : gS} (h : MR FR m μ σ g) : gK g (μ 7) = 21 := (h.2.2.1 7 (by decide)).2.1
theorem MR.n7 {FR : gS → Prop} {m : Nat} {μ : Nat → Nat} {σ : Rows} {g : gS} (h : MR FR m μ σ g) : gN g (μ 7) = 180 := (h.2.2.1 7 (by decide)).2.2.1
theorem MR.i7 {FR : gS → Prop} {m : Nat} {μ : Nat → Nat} {σ : Rows} {g : gS} (h : MR FR m μ σ g) : gI g (μ 7) = σ 7 := (h.2.2.1 7 (by decide)).2.2.2
theorem MR.r8 {FR : gS → Prop} {m : Nat} {μ : Nat → Nat} {σ : Rows} {g : gS} (h : MR FR m μ σ g) : gR g m 8 = some (μ 8) := (h.2.2.1 8 (by decide)).1
theorem MR.k8 {FR : gS → Prop} {m : Nat} {μ : Nat → Nat} {σ : Rows} {g : gS} (h : MR FR m μ σ g) : gK g (μ 8) = 21 := (h.2.2.1 8 (by decide)).2.1
theorem MR.n8 {FR : gS → Prop} {m : Nat} {μ : Nat → Nat} {σ : Rows} {g : gS} (h : MR FR m μ σ g) : gN g (μ 8) = 2160 := (h.2.2.1 8 (by decide)).2.2.1
theorem MR.i8 {FR : gS → Prop} {m : Nat} {μ : Nat → Nat} {σ : Rows} {g : gS} (h : MR FR m μ σ g) : gI g (μ 8) = σ 8 := (h.2.2.1 8 (by decide)).2.2.2
theorem MR.r10 {FR : gS → Prop} {m : Nat} {μ : Nat → Nat} {σ : Rows} {g : gS} (h : MR FR m μ σ g) : gR g m 10 = some (μ 10) := (h.2.2.1 10 (by decide)).1
theorem MR.k10 {FR : gS → Prop} {m : Nat} {μ : Nat → Nat} {σ : Rows} {g : gS} (h : MR FR m μ σ g) : gK g (μ 10) = 22 := (h.2.2.1 10 (by decide)).2.1
theorem MR.n10 {FR : gS → Prop} {m : Nat} {μ : Nat → Nat} {σ : Rows} {g : gS} (h : MR FR m μ σ g) : gN g (μ 10) = 200 := (h.2.2.1 10 (by decide)).2.2.1
theorem MR.i10 {FR : gS → Prop} {m : Nat} {μ : Nat → Nat} {σ : Rows} {g : gS} (h : MR FR m μ σ g) : gI g (μ 10) = σ 10 := (h.2.2.1 10 (by decide)).2.2.2
theorem MR.r11 {FR : gS → Prop} {m : Nat} {μ : Nat → Nat} {σ : Rows} {g : gS} (h : MR FR m μ σ g) : gR g m 11 = some (μ 11) := (h.2.2.1 11 (by decide)).1
theorem MR.k11 {FR : gS → Prop} {m : Nat} {μ : Nat → Nat} {σ : Rows} {g : gS} (h : MR FR m μ σ g) : gK g (μ 11) = 21 := (h.2.2.1 11 (by decide)).2.1
theorem MR.n11 {FR : gS → Prop} {m : Nat} {μ : Nat → Nat} {σ : Rows} {g : gS} (h : MR FR m μ σ g) : gN g (μ 11) = 200 := (h.2.2.1 11 (by decide)).2.2.1
theorem MR.i11 {FR : gS → Prop} {m : Nat} {μ : Nat → Nat} {σ : Rows} {g : gS} (h : MR FR m μ σ g) : gI g (μ 11) = σ 11 := (h.2.2.1 11 (by decide)).2.2.2
theorem MR.r12 {FR : gS → Prop} {m : Nat} {μ : Nat → Nat} {σ : Rows} {g : gS} (h : MR FR m μ σ g) : gR g m 12 = some (μ 12) := (h.2.2.1 12 (by decide)).1
theorem MR.k12 {FR : gS → Prop} {m : Nat} {μ : Nat → Nat} {σ : Rows} {g : gS} (h : MR FR m μ σ g) : gK g (μ 12) = 21 := (h.2.2.1 12 (by decide)).2.1
theorem MR.n12 {FR : gS → Prop} {m : Nat} {μ : Nat → Nat} {σ : Rows} {g : gS} (h : MR FR m μ σ g) : gN g (μ 12) = 3 := (h.2.2.1 12 (by decide)).2.2.1
theorem MR.i12 {FR : gS → Prop} {m : Nat} {μ : Nat → Nat} {σ : Rows} {g : gS} (h : MR FR m μ σ g) : gI g (μ 12) = σ 12 := (h.2.2.1 12 (by decide)).2.2.2
theorem MR.r14 {FR : gS → Prop} {m : Nat} {μ : Nat → Nat} {σ : Rows} {g : gS} (h : MR FR m μ σ g) : gR g m 14 = some (μ 14) := (h.2.2.1 14 (by decide)).1
theorem MR.k14 {FR : gS → Prop} {m : Nat} {μ : Nat → Nat} {σ : Rows} {g : gS} (h : MR FR m μ σ g) : gK g (μ 14) = 21 := (h.2.2.1 14 (by decide)).2.1
theorem MR.n14 {FR : gS → Prop} {m : Nat} {μ : Nat → Nat} {σ : Rows} {g : gS} (h : MR FR m μ σ g) : gN g (μ 14) = 61 := (h.2.2.1 14 (by decide)).2.2.1
theorem MR.i14 {FR : gS → Prop} {m : Nat} {μ : Nat → Nat} {σ : Rows} {g : gS} (h : MR FR m μ σ g) : gI g (μ 14) = σ 14 := (h.2.2.1 14 (by decide)).2.2.2
theorem MR.r15 {FR : gS → Prop} {m : Nat} {μ : Nat → Nat} {σ : Rows} {g : gS} (h : MR FR m μ σ g) : gR g m 15 = some (μ 15) := (h.2.2.1 15 (by decide)).1
theorem MR.k15 {FR : gS → Prop} {m : Nat} {μ : Nat → Nat} {σ : Rows} {g : gS} (h : MR FR m μ σ g) : gK g (μ 15) = 21 := (h.2.2.1 15 (by decide)).2.1
theorem MR.n15 {FR : gS → Prop} {m : Nat} {μ : Nat → Nat} {σ : Rows} {g : gS} (h : MR FR m μ σ g) : gN g (μ 15) = 60 := (h.2.2.1 15 (by decide)).2.2.1
theorem MR.i15 {FR : gS → Prop} {m : Nat} {μ : Nat → Nat} {σ : Rows} {g : gS} (h : MR FR m μ σ g) : gI g (μ 15) = σ 15 := (h.2.2.1 15 (by decide)).2.2.2
theorem MR.r17 {FR : gS → Prop} {m : Nat} {μ : Nat → Nat} {σ : Rows} {g : gS} (h : MR FR m μ σ g) : gR g m 17 = some (μ 17) := (h.2.2.1 17 (by decide)).1
theorem MR.k17 {FR : gS → Prop} {m : Nat} {μ : Nat → Nat} {σ : Rows} {g : gS} (h : MR FR m μ σ g) : gK g (μ 17) = 21 := (h.2.2.1 17 (by decide)).2.1
theorem MR.n17 {FR : gS → Prop} {m : Nat} {μ : Nat → Nat} {σ : Rows} {g : gS} (h : MR FR m μ σ g) : gN g (μ 17) = 30 := (h.2.2.1 17 (by decide)).2.2.1
theorem MR.i17 {FR : gS → Prop} {m : Nat} {μ : Nat → Nat} {σ : Rows} {g : gS} (h : MR FR m μ σ g) : gI g (μ 17) = σ 17 := (h.2.2.1 17 (by decide)).2.2.2
theorem MR.r18 {FR : gS → Prop} {m : Nat} {μ : Nat → Nat} {σ : Rows} {g : gS} (h : MR FR m μ σ g) : gR g m 18 = some (μ 18) := (h.2.2.1 18 (by decide)).1
theorem MR.k18 {FR : gS → Prop} {m : Nat} {μ : Nat → Nat} {σ : Rows} {g : gS} (h : MR FR m μ σ g) : gK g (μ 18) = 21 := (h.2.2.1 18 (by decide)).2.1
theorem MR.n18 {FR : gS → Prop} {m : Nat} {μ : Nat → Nat} {σ : Rows} {g : gS} (h : MR FR m μ σ g) : gN g (μ 18) = 30 := (h.2.2.1 18 (by decide)).2.2.1
theorem MR.i18 {FR : gS → Prop} {m : Nat} {μ : Nat → Nat} {σ : Rows} {g : gS} (h : MR FR m μ σ g) : gI g (μ 18) = σ 18 := (h.2.2.1 18 (by decide)).2.2.2
theorem MR.r19 {FR : gS → Prop} {m : Nat} {μ : Nat → Nat} {σ : Rows} {g : gS} (h : MR FR m μ σ g) : gR g m 19 = some (μ 19) := (h.2.2.1 19 (by decide)).1
theorem MR.k19 {FR : gS → Prop} {m : Nat} {μ : Nat → Nat} {σ : Rows} {g : gS} (h : MR FR m μ σ g) : gK g (μ 19) = 21 := (h.2.2.1 19 (by decide)).2.1
theorem MR.n19 {FR : gS → Prop} {m : Nat} {μ : Nat → Nat} {σ : Rows} {g : gS} (h : MR FR m μ σ g) : gN g (μ 19) = 30 := (h.2.2.1 19 (by decide)).2.2.1
theorem MR.i19 {FR : gS → Prop} {m : Nat} {μ : Nat → Nat} {σ : Rows} {g : gS} (h : MR FR m μ σ g) : gI g (μ 19) = σ 19 := (h.2.2.1 19 (by decide)).2.2.2
theorem MR.r20 {FR : gS → Prop} {m : Nat} {μ : Nat → Nat} {σ : Rows} {g : gS} (h : MR FR m μ σ g) : gR g m 20 = some (μ 20) := (h.2.2.1 20 (by decide)).1
theorem MR.k20 {FR : gS → Prop} {m : Nat} {μ : Nat → Nat} {σ : Rows} {g : gS} (h : MR FR m μ σ g) : gK g (μ 20) = 21 := (h.2.2.1 20 (by decide)).2.1
theorem MR.n20 {FR : gS → Prop} {m : Nat} {μ : Nat → Nat} {σ : Rows} {g : gS} (h : MR FR m μ σ g) : gN g (μ 20) = 30 := (h.2.2.1 20 (by decide)).2.2.1
theorem MR.i20 {FR : gS → Prop} {m : Nat} {μ : Nat → Nat} {σ : Rows} {g : gS} (h : MR FR m μ σ g) : gI g (μ 20) = σ 20 := (h.2.2.1 20 (by decide)).2.2.2
theorem MR.r21 {FR : gS → Prop} {m : Nat} {μ : Nat → Nat} {σ : Rows} {g : gS} (h : MR FR m μ σ g) : gR g m 21 = some (μ 21) := (h.2.2.1 21 (by decide)).1
theorem MR.k21 {FR : gS → Prop} {m : Nat} {μ : Nat → Nat} {σ : Rows} {g : gS} (h : MR FR m μ σ g) : gK g (μ 21) = 22 := (h.2.2.1 21 (by decide)).2.1
theorem MR.n21 {FR : gS → Prop} {m : Nat} {μ : Nat → Nat} {σ : Rows} {g : gS} (h : MR FR m μ σ g) : gN g (μ 21) = 30 := (h.2.2.1 21 (by decide)).2.2.1
theorem MR.i21 {FR : gS → Prop} {m : Nat} {μ : Nat → Nat} {σ : Rows} {g : gS} (h : MR FR m μ σ g) : gI g (μ 21) = σ 21 := (h.2.2.1 21 (by decide)).2.2.2
theorem MR.r23 {FR : gS → Prop} {m : Nat} {μ : Nat → Nat} {σ : Rows} {g : gS} (h : MR FR m μ σ g) : gR g m 23 = some (μ 23) := (h.2.2.1 23 (by decide)).1
theorem MR.k23 {FR : gS → Prop} {m : Nat} {μ : Nat → Nat} {σ : Rows} {g : gS} (h : MR FR m μ σ g) : gK g (μ 23) = 21 := (h.2.2.1 23 (by decide)).2.1
theorem MR.n23 {FR : gS → Prop} {m : Nat} {μ : Nat → Nat} {σ : Rows} {g : gS} (h : MR FR m μ σ g) : gN g (μ 23) = 60 := (h.2.2.1 23 (by decide)).2.2.1
theorem MR.i23 {FR : gS → Prop} {m : Nat} {μ : Nat → Nat} {σ : Rows} {g : gS} (h : MR FR m μ σ g) : gI g (μ 23) = σ 23 := (h.2.2.1 23 (by decide)).2.2.2
theorem MR.r24 {FR : gS → Prop} {m : Nat} {μ : Nat → Nat} {σ : Rows} {g : gS} (h : MR FR m μ σ g) : gR g m 24 = some (μ 24) := (h.2.2.1 24 (by decide)).1
theorem MR.k24 {FR : gS → Prop} {m : Nat} {μ : Nat → Nat} {σ : Rows} {g : gS} (h : MR FR m μ σ g) : gK g (μ 24) = 21 := (h.2.2.1 24 (by decide)).2.1
theorem MR.n24 {FR : gS → Prop} {m : Nat} {μ : Nat → Nat} {σ : Rows} {g : gS} (h : MR FR m μ σ g) : gN g (μ 24) = 60 := (h.2.2.1 24 (by decide)).2.2.1
theorem MR.i24 {FR : gS → Prop} {m : Nat} {μ : Nat → Nat} {σ : Rows} {g : gS} (h : MR FR m μ σ g) : gI g (μ 24) = σ 24 := (h.2.2.1 24 (by decide)).2.2.2
theorem MR.r27 {FR : gS → Prop} {m : Nat} {μ : Nat → Nat} {σ : Rows} {g : gS} (h : MR FR m μ σ g) : gR g m 27 = some (μ 27) := (h.2.2.1 27 (by decide)).1
theorem MR.k27 {FR : gS → Prop} {m : Nat} {μ : Nat → Nat} {σ : Rows} {g : gS} (h : MR FR m μ σ g) : gK g (μ 27) = 21 := (h.2.2.1 27 (by decide)).2.1
theorem MR.n27 {FR : gS → Prop} {m : Nat} {μ : Nat → Nat} {σ : Rows} {g : gS} (h : MR FR m μ σ g) : gN g (μ 27) = 3 := (h.2.2.1 27 (by decide)).2.2.1
theorem MR.i27 {FR : gS → Prop} {m : Nat} {μ : Nat → Nat} {σ : Rows} {g : gS} (h : MR FR m μ σ g) : gI g (μ 27) = σ 27 := (h.2.2.1 27 (by decide)).2.2.2
theorem MR.r28 {FR : gS → Prop} {m : Nat} {μ : Nat → Nat} {σ : Rows} {g : gS} (h : MR FR m μ σ g) : gR g m 28 = some (μ 28) := (h.2.2.1 28 (by decide)).1
theorem MR.k28 {FR : gS → Prop} {m : Nat} {μ : Nat → Nat} {σ : Rows} {g : gS} (h : MR FR m μ σ g) : gK g (μ 28) = 21 := (h.2.2.1 28 (by decide)).2.1
theorem MR.n28 {FR : gS → Prop} {m : Nat} {μ : Nat → Nat} {σ : Rows} {g : gS} (h : MR FR m μ σ g) : gN g (μ 28) = 600 := (h.2.2.1 28 (by decide)).2.2.1
theorem MR.i28 {FR : gS → Prop} {m : Nat} {μ : Nat → Nat} {σ : Rows} {g : gS} (h : MR FR m μ σ g) : gI g (μ 28) = σ 28 := (h.2.2.1 28 (by decide)).2.2.2
theorem MR.r29 {FR : gS → Prop} {m : Nat} {μ : Nat → Nat} {σ : Rows} {g : gS} (h : MR FR m μ σ g) : gR g m 29 = some (μ 29) := (h.2.2.1 29 (by decide)).1
theorem MR.k29 {FR : gS → Prop} {m : Nat} {μ : Nat → Nat} {σ : Rows} {g : gS} (h : MR FR m μ σ g) : gK g (μ 29) = 21 := (h.2.2.1 29 (by decide)).2.1
theorem MR.n29 {FR : gS → Prop} {m : Nat} {μ : Nat → Nat} {σ : Rows} {g : gS} (h : MR FR m μ σ g) : gN g (μ 29) = 30 := (h.2.2.1 29 (by decide)).2.2.1
theorem MR.i29 {FR : gS → Prop} {m : Nat} {μ : Nat → Nat} {σ : Rows} {g : gS} (h : MR FR m μ σ g) : gI g (μ 29) = σ 29 := (h.2.2.1 29 (by decide)).2.2.2
