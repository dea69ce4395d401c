/-! THE REFERENCE SEARCHES, AND WHAT IT ASKS WITH OTHER ROWS -/
def shR (its : Int32) (d : Nat) : Nat → Rows → Rows
  | 0, σ => su (su σ 23 0 (nI d)) 24 0 its
  | k + 1, σ => if σ 24 k < its ∨ (its = σ 24 k ∧ ¬ σ 3 d ≤ σ 3 (cl (σ 23 k))) then shR its d k (su (su σ 23 (k + 1) (σ 23 k)) 24 (k + 1) (σ 24 k)) else su (su σ 23 (k + 1) (nI d)) 24 (k + 1) its
def srF (σ : Rows) (n j : Nat) : Nat → Rows
  | 0 => su (tz σ 0) 0 22 0
  | d + 1 => if scoreNowF σ n d j < 0 then srF σ n j d else shR (scoreNowF σ n d j) d (cl (srF σ n j d 0 22)) (su (srF σ n j d) 0 22 (srF σ n j d 0 22 + 1))
def S_search (σ : Rows) (j : Int32) : Out := if ¬ isN σ j then bad σ 1 else (0, srF σ (nF σ) (cl j) (nF σ) 0 22, srF σ (nF σ) (cl j) (nF σ))
def noAl (σ : Rows) : Rows := va_up σ 11 (fun i => if i < 200 then -1 else 0)
def S_byAlias (σ : Rows) (j : Int32) : Out :=
  if ¬ isN σ j then bad σ 1 else good σ (nI (cnt (fun d => !decide (scoreNowF σ (nF σ) d (cl j) < 0) && decide (scoreNowF (noAl σ) (nF σ) d (cl j) < 0)) (nF σ)))
def fuR (σ : Rows) (n : Nat) : Rows := va_up σ 6 (fun i => if i < n ∧ σ 5 i = 0 then 1 else 0)
def S_wouldScore (σ : Rows) (j d : Int32) : Out := if ¬ isN σ j ∨ ¬ isD σ d then bad σ 1 else good σ (scoreNowF (fuR σ (nF σ)) (nF σ) (cl d) (cl j))
def goneN (σ : Rows) : Nat → Nat := cnt (fun d => !decide (σ 6 d = 0) && !decide (σ 5 d = 0))
def wasteF (σ : Rows) (n : Nat) : UInt64 := if lyF σ n = 0 then 0 else FP.ddiv (FP.i2d (nI (goneN σ n))) (FP.i2d (lyF σ n))
theorem shR_r {its : Int32} {d u : Nat} (h1 : u ≠ 23) (h2 : u ≠ 24) : ∀ k (σ : Rows), shR its d k σ u = σ u
  | 0, σ => by rw [shR, su_row h2, su_row h1]
  | k + 1, σ => by
    rw [shR]; split
    · rw [shR_r h1 h2 k, su_row h2, su_row h1]
    · rw [su_row h2, su_row h1]
/-- what scores look at is the same -/
def Sam (σ σ2 : Rows) : Prop := ∀ t, t ≠ 0 → t ≠ 23 → t ≠ 24 → σ2 t = σ t
theorem srF_r {σ : Rows} {n j : Nat} : ∀ d, Sam σ (srF σ n j d) ∧ ∀ i, i ≠ 0 → i ≠ 22 → srF σ n j d 0 i = σ 0 i
  | 0 => ⟨fun t h0 _ _ => by rw [srF, su_row h0]; exact tz_r h0, fun i h0 h1 => by rw [srF, su_at, if_neg h1]; exact tz_0 h0⟩
  | d + 1 => by
    obtain ⟨a, b⟩ := srF_r (σ := σ) (n := n) (j := j) d
    rw [srF]
    split
    · exact ⟨a, b⟩
    · refine ⟨fun t h0 h1 h2 => by rw [shR_r h1 h2, su_row h0]; exact a t h0 h1 h2, fun i h0 h1 => ?_⟩
      rw [shR_r (by decide) (by decide), su_at, if_neg h1]; exact b i h0 h1
/-- scores of a row that is the same where scores look -/
theorem Sam.scoreF {σ σ2 : Rows} (h : Sam σ σ2) {n j d : Nat} {T : Nat → Int32} : scoreF σ2 n T j d = scoreF σ n T j d := by
  have e3 := h 3 (by decide) (by decide) (by decide)
  have e4 := h 4 (by decide) (by decide) (by decide)
  have e6 := h 6 (by decide) (by decide) (by decide)
  have e7 := h 7 (by decide) (by decide) (by decide)
  have e8 := h 8 (by decide) (by decide) (by decide)
  have e10 := h 10 (by decide) (by decide) (by decide)
  have e11 := h 11 (by decide) (by decide) (by decide)
  have e12 := h 12 (by decide) (by decide) (by decide)
  have e17 := h 17 (by decide) (by decide) (by decide)
  have e18 := h 18 (by decide) (by decide) (by decide)
  have e19 := h 19 (by decide) (by decide) (by decide)
  have e20 := h 20 (by decide) (by decide) (by decide)
  have e21 := h 21 (by decide) (by decide) (by decide)
  unfold _root_.Jvm.Pilot.CQuarryIndexLaw_law_r2112_e0b1ed.scoreF termF tsIs tsSum alT tasteF rareF nearF nearIn lkB ctF spF leF lyF tmF lnF
  simp only [e3, e4, e6, e7, e8, e10, e11, e12, e17, e18, e19, e20, e21]
  try rfl
theorem Sam.scT {σ σ2 : Rows} (h : Sam σ σ2) {n d : Nat} {T : Nat → Int32} : ∀ k, scT σ2 n d T k = scT σ n d T k
  | 0 => rfl
  | k + 1 => by rw [_root_.Jvm.Pilot.CQuarryIndexLaw_law_r2112_e0b1ed.scT, _root_.Jvm.Pilot.CQuarryIndexLaw_law_r2112_e0b1ed.scT, Sam.scT h k, h.scoreF]
theorem Sam.now {σ σ2 : Rows} (h : Sam σ σ2) {n d j : Nat} : scoreNowF σ2 n d j = scoreNowF σ n d j := by
  unfold scoreNowF scV there
  rw [h.scT, h 5 (by decide) (by decide) (by decide), h 6 (by decide) (by decide) (by decide)]
section MSEARCH
variable {FR : gS → Prop} {m : Nat} {μ : Nat → Nat} {σ : Rows} {n : Nat} {T : Nat → Int32} {g : gS} {bf nn nr ns : Nat}
theorem NG.sam {σ2 : Rows} (h : NG σ nn) (hs : Sam σ σ2) : NG σ2 nn := by
  intro j hj
  have := h j hj
  unfold NW at this ⊢
  rw [hs 17 (by decide) (by decide) (by decide), hs 18 (by decide) (by decide) (by decide), hs 19 (by decide) (by decide) (by decide), hs 20 (by decide) (by decide) (by decide), hs 21 (by decide) (by decide) (by decide)]
  exact this
theorem GI.sam {σ2 : Rows} {nr2 : Nat} (h : GI σ n bf nn nr ns) (hs : Sam σ σ2) (h0 : ∀ i, i ≠ 0 → i ≠ 22 → σ2 0 i = σ 0 i) (hr : nr2 ≤ 60) (h22 : σ2 0 22 = nI nr2) : GI σ2 n bf nn nr2 ns := by
  obtain ⟨⟨a1, a2, a3, a4, a5⟩, ⟨b1, b2, b3, b4, b5⟩, c, d, e, f, g2, i⟩ := h
  refine ⟨⟨a1, a2, a3, hr, a5⟩, ⟨?_, ?_, ?_, h22, ?_⟩, ?_, ?_, ?_, ?_, ?_, ?_⟩
  · rw [h0 1 (by decide) (by decide)]; exact b1
  · rw [h0 9 (by decide) (by decide)]; exact b2
  · rw [h0 16 (by decide) (by decide)]; exact b3
  · rw [h0 13 (by decide) (by decide)]; exact b5
  · rw [h0 2 (by decide) (by decide)]; exact c
  · rw [hs 7 (by decide) (by decide) (by decide)]; exact d
  · rw [hs 7 (by decide) (by decide) (by decide), hs 8 (by decide) (by decide) (by decide)]; exact e
  · rw [hs 5 (by decide) (by decide) (by decide), hs 6 (by decide) (by decide) (by decide)]; exact f
  · rw [hs 10 (by decide) (by decide) (by decide)]; exact g2
  · rw [hs 11 (by decide) (by decide) (by decide)]; exact i
theorem shR_23 {its : Int32} {d D : Nat} (hd : d < D) : ∀ (k : Nat) (σ : Rows), (∀ p, p < k → ∃ e, e < D ∧ σ 23 p = nI e) → ∀ p, p < k + 1 → ∃ e, e < D ∧ shR its d k σ 23 p = nI e
  | 0, σ, _ => fun p hp => ⟨d, hd, by rw [shR, su_row (by decide), su_at, if_pos (by omega)]⟩
  | k + 1, σ, h => by
    intro p hp
    rw [shR]
    split
    · by_cases e : p = k + 1
      · -- the place behind keeps what was shifted there
        subst e
        have keep : ∀ (r : Nat) (τ : Rows) (q : Nat), r < q → shR its d r τ 23 q = τ 23 q := by
          intro r
          induction r with
          | zero => intro τ q hq; rw [shR, su_row (by decide), su_at, if_neg (by omega)]
          | succ r ih =>
            intro τ q hq
            rw [shR]; split
            · rw [ih _ q (by omega), su_row (by decide), su_at, if_neg (by omega)]
            · rw [su_row (by decide), su_at, if_neg (by omega)]
        rw [keep k _ (k + 1) (by omega), su_row (by decide), su_at, if_pos rfl]
        exact h k (by omega)
      · refine shR_23 hd k _ (fun q hq => ?_) p (by omega)
        rw [su_row (by decide), su_at, if_neg (by omega)]
        exact h q (by omega)
    · rw [su_row (by decide), su_at]
      split
      · exact ⟨d, hd, rfl⟩
      · exact h p (by omega)
/-- how many results so far -/
theorem srF_n {σ : Rows} {n j : Nat} : ∀ d, d ≤ 60 → ∃ r, r ≤ d ∧ srF σ n j d 0 22 = nI r ∧ ∀ p, p < r → ∃ e, e < d ∧ srF σ n j d 23 p = nI e
  | 0, _ => ⟨0, Nat.le_refl 0, by rw [srF, su_at, if_pos rfl]; rfl, fun p hp => absurd hp (Nat.not_lt_zero _)⟩
  | d + 1, hd60 => by
    obtain ⟨r, hr, e, hp⟩ := srF_n (σ := σ) (n := n) (j := j) d (by omega)
    rw [srF]
    split
    · exact ⟨r, by omega, e, fun p hp' => by obtain ⟨x, hx, ex⟩ := hp p hp'; exact ⟨x, by omega, ex⟩⟩
    · have ecl : cl (srF σ n j d 0 22) = r := by rw [e]; exact cl_nI (by omega)
      refine ⟨r + 1, by omega, ?_, ?_⟩
      · rw [shR_r (by decide) (by decide), su_at, if_pos rfl, e, nI_1]
      · rw [ecl]
        refine shR_23 (by omega) r _ (fun p hp' => ?_)
        rw [su_row (by decide)]
        obtain ⟨x, hx, ex⟩ := hp p hp'; exact ⟨x, by omega, ex⟩
end MSEARCH
