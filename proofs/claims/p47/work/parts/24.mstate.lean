/-! THE REFERENCE UP TO WHAT IT COUNTED AND ITS ROW OF SCORES -/
theorem nI_div {a b : Nat} (ha : a < 2 ^ 31) (h0 : 0 < b) (hb : b < 2 ^ 31) : nI a / nI b = nI (a / b) := pk_div ha h0 hb
theorem mul3 (a : Nat) : nI a * 3 = nI (a * 3) := nI_mul a 3
theorem mul12 (a : Nat) : nI a * 12 = nI (a * 12) := nI_mul a 12
theorem vpi_iff {n N : Nat} (h : n < N) (hN : N < 2 ^ 31) : vp_in (nI n) N ↔ True := ⟨fun _ => trivial, fun _ => vp_in_nI h hN⟩
section MSTATE
variable {FR : gS → Prop} {m : Nat} {μ : Nat → Nat} {σ : Rows} {n : Nat} {T : Nat → Int32} {g : gS} {bf nn nr ns : Nat}
theorem GI.up29 (h : GI σ n bf nn nr ns) : GI (va_up σ 29 T) n bf nn nr ns := h
/-- roots -/
def btS : Nat → Int32
  | 0 => 16384
  | k + 1 => btS k / 2
def rtS (x : Int32) : Nat → Int32
  | 0 => 0
  | k + 1 => if x < (rtS x k + btS k) * (rtS x k + btS k) then rtS x k else rtS x k + btS k
def rootF (x : Int32) : Int32 := rtS x 15
theorem btS_pos : ∀ k, k < 15 → ¬ btS k ≤ 0 := by decide +kernel
theorem btS_end : btS 15 ≤ 0 := by decide +kernel
/-- counted numbers as natural ones -/
def lyN (σ : Rows) : Nat → Nat := cnt (fun d => !decide (σ 6 d = 0))
def leN (σ : Rows) (f : Nat) : Nat → Nat
  | 0 => 0
  | n + 1 => leN σ f n + if σ 6 n = 0 then 0 else lnF σ n f
def spN (σ : Rows) (t f : Nat) : Nat → Nat := cnt (fun d => !decide (σ 6 d = 0) && hasB (tmF σ d f) (lnF σ d f) (nI t))
theorem lyF_eq : lyF σ n = nI (lyN σ n) := by
  unfold lyF lyN
  rw [← isum_cnt]
  exact isum_congr (fun d _ => by by_cases c : σ 6 d = 0 <;> simp [c])
theorem spF_eq {t f : Nat} : spF σ t f n = nI (spN σ t f n) := by
  unfold spF spN
  rw [← isum_cnt]
  refine isum_congr (fun d _ => ?_)
  by_cases c : σ 6 d = 0
  · simp [c]
  · simp [c, hasI]
theorem leF_eq (hG : GI σ n bf nn nr ns) {f : Nat} (hf : f < 3) : leF σ f n = nI (leN σ f n) := by
  have key : ∀ j, j ≤ n → isum (fun d => if σ 6 d = 0 then 0 else σ 7 (d * 3 + f)) j = nI (leN σ f j) := by
    intro j
    induction j with
    | zero => exact fun _ => rfl
    | succ j ih =>
      intro hj
      rw [isum, leN, ih (by omega)]
      have := hG.n
      by_cases c : σ 6 j = 0
      · rw [if_pos c, if_pos c]; exact Int32.add_zero _
      · rw [if_neg c, if_neg c, (hG.ln (show j < 60 by omega) hf).2, nI_add]
  exact key n (Nat.le_refl n)
theorem lyN_le : lyN σ n ≤ n := cnt_le _ _
theorem spN_le {t f : Nat} : spN σ t f n ≤ n := cnt_le _ _
theorem leN_le (hG : GI σ n bf nn nr ns) {f : Nat} (hf : f < 3) : leN σ f n ≤ 12 * n := by
  have key : ∀ j, j ≤ n → leN σ f j ≤ 12 * j := by
    intro j
    induction j with
    | zero => exact fun _ => Nat.le_refl 0
    | succ j ih =>
      intro hj
      have := ih (by omega)
      have := hG.n
      have := (hG.ln (show j < 60 by omega) hf).1
      rw [leN]; split <;> omega
  exact key n (Nat.le_refl n)
theorem leN_ge {d f : Nat} (hd : d < n) (hl : σ 6 d ≠ 0) : lnF σ d f ≤ leN σ f n := by
  induction n with
  | zero => omega
  | succ j ih =>
    rw [leN]
    rcases Nat.lt_or_ge d j with h | h
    · have := ih h; omega
    · have : d = j := by omega
      subst this; rw [if_neg hl]; omega
/-- how rare a term is -/
def rareF (σ : Rows) (n t f : Nat) : Int32 := rootF (10000 * (lyF σ n + 1) / (spF σ t f n + 1))
end MSTATE
