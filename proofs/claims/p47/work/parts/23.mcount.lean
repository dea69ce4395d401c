/-! THE REFERENCE COUNTS: what lies in segments, lengths, spreads -/
def hasB (a : Nat → Int32) : Nat → Int32 → Bool
  | 0, _ => false
  | n + 1, t => hasB a n t || decide (a n = t)
def hasI (a : Nat → Int32) (n : Nat) (t : Int32) : Int32 := if hasB a n t = true then 1 else 0
theorem hasB_iff {a : Nat → Int32} {t : Int32} : ∀ {n : Nat}, hasB a n t = true ↔ ∃ k, k < n ∧ a k = t
  | 0 => by simp [hasB]
  | n + 1 => by
    rw [hasB, Bool.or_eq_true, hasB_iff, decide_eq_true_eq]
    constructor
    · rintro (⟨k, hk, e⟩ | e)
      · exact ⟨k, by omega, e⟩
      · exact ⟨n, by omega, e⟩
    · rintro ⟨k, hk, e⟩
      rcases Nat.lt_or_ge k n with h | h
      · exact Or.inl ⟨k, h, e⟩
      · have : k = n := by omega
        subst this; exact Or.inr e
def lyF (σ : Rows) : Nat → Int32 := isum (fun d => if σ 6 d = 0 then 0 else 1)
def leF (σ : Rows) (f : Nat) : Nat → Int32 := isum (fun d => if σ 6 d = 0 then 0 else σ 7 (d * 3 + f))
def spF (σ : Rows) (t f : Nat) : Nat → Int32 := isum (fun d => if σ 6 d = 0 then 0 else hasI (tmF σ d f) (lnF σ d f) (nI t))
/-- σ' is σ but for what is counted -/
def CB (σ σ' : Rows) : Prop := (∀ t, t ≠ 0 → t ≠ 27 → t ≠ 28 → σ' t = σ t) ∧ ∀ i, i ≠ 25 → i ≠ 26 → σ' 0 i = σ 0 i
theorem CB.rf {σ : Rows} : CB σ σ := ⟨fun _ _ _ _ => rfl, fun _ _ _ => rfl⟩
theorem CB.s {σ σ' : Rows} (h : CB σ σ') (i : Nat) (v : Int32) (hi : i = 25 ∨ i = 26) : CB σ (su σ' 0 i v) := by
  refine ⟨fun t h0 h1 h2 => by rw [su_row h0]; exact h.1 t h0 h1 h2, fun j h1 h2 => ?_⟩
  rw [su_at, if_neg (by omega)]; exact h.2 j h1 h2
theorem CB.a {σ σ' : Rows} (h : CB σ σ') (u i : Nat) (v : Int32) (hu : u = 27 ∨ u = 28) : CB σ (su σ' u i v) := by
  refine ⟨fun t h0 h1 h2 => by rw [su_row (by omega)]; exact h.1 t h0 h1 h2, fun j h1 h2 => ?_⟩
  rw [su_row (by omega)]; exact h.2 j h1 h2
/-- counted: as the numbers are -/
def Cnt (σ σ' : Rows) (n : Nat) : Prop := σ' 0 26 = lyF σ n ∧ (∀ f, f < 3 → σ' 27 f = leF σ f n) ∧ ∀ t f, t < 200 → f < 3 → σ' 28 (t * 3 + f) = spF σ t f n
theorem GI.cb {σ σ' : Rows} {n bf nn nr ns : Nat} (h : GI σ n bf nn nr ns) (hb : CB σ σ') : GI σ' n bf nn nr ns := by
  obtain ⟨h1, h2, h3, h4, h5, h6, h7, h8⟩ := h
  obtain ⟨b1, b2⟩ := hb
  refine ⟨h1, ?_, ?_, ?_, ?_, ?_, ?_, ?_⟩
  · simp only [b2 1 (by decide) (by decide), b2 9 (by decide) (by decide), b2 16 (by decide) (by decide), b2 22 (by decide) (by decide), b2 13 (by decide) (by decide)]; exact h2
  · rw [b2 2 (by decide) (by decide)]; exact h3
  · rw [b1 7 (by decide) (by decide) (by decide)]; exact h4
  · rw [b1 7 (by decide) (by decide) (by decide), b1 8 (by decide) (by decide) (by decide)]; exact h5
  · rw [b1 5 (by decide) (by decide) (by decide), b1 6 (by decide) (by decide) (by decide)]; exact h6
  · rw [b1 10 (by decide) (by decide) (by decide)]; exact h7
  · rw [b1 11 (by decide) (by decide) (by decide)]; exact h8
theorem lnF_cb {σ σ' : Rows} (hb : CB σ σ') {d f : Nat} : lnF σ' d f = lnF σ d f := by unfold lnF; rw [hb.1 7 (by decide) (by decide) (by decide)]
theorem tmF_cb {σ σ' : Rows} (hb : CB σ σ') {d f : Nat} : tmF σ' d f = tmF σ d f := by unfold tmF; rw [hb.1 8 (by decide) (by decide) (by decide)]
section MCOUNT
variable {FR : gS → Prop} {m : Nat} {μ : Nat → Nat} {σ : Rows} {g : gS} {n bf nn nr ns : Nat}
theorem hasI_succ {a : Nat → Int32} {k : Nat} {t : Int32} : hasI a (k + 1) t = if a k = t then 1 else hasI a k t := by
  unfold hasI; rw [hasB]
  by_cases h : a k = t
  · simp [h]
  · simp [h]
theorem hasI_01 {a : Nat → Int32} {k : Nat} {t : Int32} : hasI a k t = 0 ∨ hasI a k t = 1 := by unfold hasI; split <;> simp
/-- not counted, or rightly -/
def Cok (σ : Rows) (n : Nat) : Prop := σ 0 25 = 0 ∨ (σ 0 25 = 1 ∧ Cnt σ σ n)
theorem Cnt.cb {σ σ' σ2 : Rows} {n : Nat} (h : Cnt σ σ2 n) (hb : CB σ σ') : Cnt σ' σ2 n := by
  have e : (lyF σ' = lyF σ ∧ leF σ' = leF σ) ∧ spF σ' = spF σ := by
    unfold lyF leF spF
    rw [hb.1 6 (by decide) (by decide) (by decide), hb.1 7 (by decide) (by decide) (by decide)]
    refine ⟨⟨rfl, rfl⟩, ?_⟩
    funext t f
    congr 1
    funext d
    rw [lnF_cb hb, tmF_cb hb]
  unfold Cnt
  rw [e.1.1, e.1.2, e.2]; exact h
end MCOUNT
