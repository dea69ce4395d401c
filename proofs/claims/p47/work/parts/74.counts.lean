/-! THE LAW'S SUMS -/
section CNTS
variable {σ τ : Rows} {n bf nn nr ns d j : Nat}
theorem cnt_or {p q : Nat → Bool} : ∀ {n : Nat}, (∀ k, k < n → p k = true → q k = true → False) → cnt (fun k => p k || q k) n = cnt p n + cnt q n
  | 0, _ => rfl
  | n + 1, h => by
    have ih := cnt_or (p := p) (q := q) (n := n) (fun k hk => h k (by omega))
    rw [cnt, cnt, cnt, ih]
    cases hp : p n <;> cases hq : q n
    · simp
    · simp; omega
    · simp; omega
    · exact (h n (by omega) hp hq).elim
theorem cnt_all {p : Nat → Bool} : ∀ {n : Nat}, (∀ k, k < n → p k = true) → cnt p n = n
  | 0, _ => rfl
  | n + 1, h => by rw [cnt, if_pos (h n (by omega)), cnt_all (fun k hk => h k (by omega))]
/-- the sizes of the first segments -/
def szS (σ : Rows) (n : Nat) : Nat → Nat
  | 0 => 0
  | k + 1 => szS σ n k + sizeF σ n (nI k)
theorem szS_or : ∀ k, k ≤ 60 → szS σ n k = cnt (fun d => orB (fun s => decide (σ 15 d = nI s)) k) n
  | 0, _ => (cnt_zero (fun _ _ => rfl)).symm
  | k + 1, hk => by
    rw [szS, szS_or k (by omega)]
    unfold sizeF
    refine (cnt_or fun d _ h1 h2 => ?_).symm
    obtain ⟨s, hs, e⟩ := orB_iff.mp h1
    have e1 : σ 15 d = nI s := of_decide_eq_true e
    have e2 : σ 15 d = nI k := of_decide_eq_true h2
    have := (nI_inj (show s < 2 ^ 31 by omega) (show k < 2 ^ 31 by omega)).mp (e1.symm.trans e2)
    omega
theorem szS_ly (h : PK σ n bf nn nr ns) : szS σ n ns = lyN σ n := by
  have hn := h.1.n
  rw [szS_or ns h.1.ns6]
  unfold lyN
  refine cnt_congr fun d hd => ?_
  by_cases c : σ 6 d = 0
  · rw [decide_eq_true c]
    cases e : orB (fun s => decide (σ 15 d = nI s)) ns with
    | false => rfl
    | true =>
      obtain ⟨s, hs, e1⟩ := orB_iff.mp e
      have e1 : σ 15 d = nI s := of_decide_eq_true e1
      have e2 := h.2.2.2.2.1 d c (by omega)
      have := h.1.ns6
      exact absurd (e1.symm.trans e2) (fun q => nI_nm1 (show s < 2 ^ 31 by omega) q)
  · rw [decide_eq_false c]
    obtain ⟨-, s, hs, -, e⟩ := h.2.2.2.1 d hd c
    exact orB_iff.mpr ⟨s, hs, decide_eq_true e⟩
/-- how many are there -/
def thN (σ : Rows) : Nat → Nat := cnt (fun d => there σ d)
theorem st2_iff (h : PK σ n bf nn nr ns) (hd : d < n) : stF σ d = 2 ↔ there σ d = true := by
  have hn := h.1.n
  have hb := h.1.1.2.1
  unfold stF there
  rw [h.1.d9, Bool.and_eq_true, decide_eq_true_eq]
  by_cases c5 : σ 5 d = 0
  · rw [if_pos c5]
    by_cases c : d < bf
    · rw [if_pos ((nI_lt_iff (by omega) (by omega)).mpr c)]
      refine ⟨fun _ => ⟨?_, c5⟩, fun _ => rfl⟩
      rw [decide_eq_false (fun q => h.2.2.2.2.2.2.1 d c q c5)]; rfl
    · rw [if_neg (fun q => c ((nI_lt_iff (by omega) (by omega)).mp q))]
      refine ⟨fun q => absurd q (by decide), fun q => ?_⟩
      have : ¬ σ 6 d = 0 := fun r => by
        have q1 := q.1
        rw [decide_eq_true r] at q1
        exact absurd q1 (by decide)
      exact absurd (h.2.2.2.1 d hd this).1 c
  · rw [if_neg c5]
    exact ⟨fun q => absurd q (by decide), fun q => absurd q.2 c5⟩
theorem ly_sum : thN σ n + goneN σ n = lyN σ n := by
  unfold thN goneN lyN
  have := cnt_or (p := fun d => there σ d) (q := fun d => !decide (σ 6 d = 0) && !decide (σ 5 d = 0)) (n := n) (fun d _ h1 h2 => by
    unfold there at h1
    rw [Bool.and_eq_true] at h1 h2
    rw [h1.2] at h2
    exact absurd h2.2 (by decide))
  rw [← this]
  refine cnt_congr fun d _ => ?_
  show (there σ d || _) = _
  unfold there
  cases decide (σ 6 d = 0) <;> cases decide (σ 5 d = 0) <;> rfl
theorem th_le : thN σ n ≤ lyN σ n := by have := ly_sum (σ := σ) (n := n); omega
/-- costs aren't below 0 -/
theorem isum_b {f : Nat → Int32} {b : Nat} : ∀ {n : Nat}, (∀ k, k < n → ∃ m, m ≤ b ∧ f k = nI m) → ∃ m, m ≤ b * n ∧ isum f n = nI m
  | 0, _ => ⟨0, Nat.zero_le _, rfl⟩
  | n + 1, h => by
    obtain ⟨m, hm, e⟩ := isum_b (f := f) (b := b) (n := n) (fun k hk => h k (by omega))
    obtain ⟨x, hx, ex⟩ := h n (by omega)
    rw [isum, e, ex, nI_add]
    exact ⟨m + x, by rw [Nat.mul_succ]; omega, rfl⟩
theorem cost_ge (hn : n ≤ 60) (hnn : nn ≤ 30) {N : Nat → Bool} : ¬ costF σ n nn N < 0 := by
  have hr : ∀ t f, ∃ m, m ≤ 60 ∧ readF σ n t f = nI m := fun t f => by
    unfold readF
    split
    · rw [spF_eq]; exact ⟨_, Nat.le_trans spN_le hn, rfl⟩
    · exact ⟨0, by decide, rfl⟩
  have ht : ∀ j f, ∃ m, m ≤ 120 ∧ costT σ n N j f = nI m := fun j f => by
    unfold costT
    split
    · exact ⟨0, by decide, rfl⟩
    · obtain ⟨x, hx, ex⟩ := hr (σ 18 j).toNatClampNeg f
      have ha : ∃ m, m ≤ 60 ∧ alR σ n (σ 18 j).toNatClampNeg f = nI m := by
        unfold alR
        split
        · exact ⟨0, by decide, rfl⟩
        · exact hr _ _
      obtain ⟨y, hy, ey⟩ := ha
      rw [ex, ey, nI_add]
      exact ⟨x + y, by omega, rfl⟩
  unfold costF
  obtain ⟨m, hm, e⟩ := isum_b (f := fun j => isum (fun f => costT σ n N j f) 3) (b := 120 * 3) (n := nn) (fun j _ => isum_b (fun f _ => ht j f))
  rw [e]
  have : 120 * 3 * nn ≤ 120 * 3 * 30 := Nat.mul_le_mul_left _ hnn
  exact not_lt0 (by omega)
theorem bst_is {ok : Nat → Bool} {v : Nat → Int32} : ∀ k, (bst ok v k).1 = -1 ∨ ∃ d, d < k ∧ ok d = true ∧ (bst ok v k).1 = nI d
  | 0 => Or.inl rfl
  | k + 1 => by
    rw [bst]
    split
    · rename_i c
      exact Or.inr ⟨k, by omega, c.1, rfl⟩
    · rcases bst_is (ok := ok) (v := v) k with e | ⟨d, hd, h1, h2⟩
      · exact Or.inl e
      · exact Or.inr ⟨d, by omega, h1, h2⟩
theorem like_is {e : Nat} : likeF σ n e = -1 ∨ ∃ d, d < n ∧ d ≠ e ∧ there σ d = true ∧ likeF σ n e = nI d := by
  unfold likeF
  rcases bst_is (ok := fun d => !decide (d = e) && there σ d) (v := lkSum σ n e) n with h | ⟨d, hd, h1, h2⟩
  · exact Or.inl h
  · rw [Bool.and_eq_true] at h1
    refine Or.inr ⟨d, hd, fun q => ?_, h1.2, h2⟩
    have := h1.1
    rw [decide_eq_true q] at this
    exact absurd this (by decide)
/-- kinds and dates are within their bounds -/
def KD (σ : Rows) (n : Nat) : Prop := ∀ d, d < n → (∃ k, k < 8 ∧ σ 4 d = nI k) ∧ ∃ t, t < 10000 ∧ σ 3 d = nI t
def kdS (σ : Rows) (nr : Nat) : Nat → Nat
  | 0 => 0
  | k + 1 => kdS σ nr k + kindF σ nr (nI k)
theorem kdS_or {nr : Nat} : ∀ k, k ≤ 8 → kdS σ nr k = cnt (fun p => orB (fun s => decide (σ 4 (σ 23 p).toNatClampNeg = nI s)) k) nr
  | 0, _ => (cnt_zero (fun _ _ => rfl)).symm
  | k + 1, hk => by
    rw [kdS, kdS_or k (by omega)]
    unfold kindF
    refine (cnt_or fun p _ h1 h2 => ?_).symm
    obtain ⟨s, hs, e⟩ := orB_iff.mp h1
    have e1 : σ 4 (σ 23 p).toNatClampNeg = nI s := of_decide_eq_true e
    have e2 : σ 4 (σ 23 p).toNatClampNeg = nI k := of_decide_eq_true h2
    have := (nI_inj (show s < 2 ^ 31 by omega) (show k < 2 ^ 31 by omega)).mp (e1.symm.trans e2)
    omega
theorem kdS_all {nr : Nat} (hn : n ≤ 60) (hK : KD σ n) (hr : ∀ p, p < nr → ∃ e, e < n ∧ σ 23 p = nI e) : kdS σ nr 8 = nr := by
  rw [kdS_or 8 (Nat.le_refl 8)]
  refine cnt_all fun p hp => ?_
  obtain ⟨e, he, ee⟩ := hr p hp
  obtain ⟨k, hk, ek⟩ := (hK e he).1
  refine orB_iff.mpr ⟨k, hk, decide_eq_true ?_⟩
  rw [ee, cl_nI (show e < 2 ^ 31 by omega)]
  exact ek
theorem dates_all {nr : Nat} (hn : n ≤ 60) (hK : KD σ n) (hr : ∀ p, p < nr → ∃ e, e < n ∧ σ 23 p = nI e) : datesF σ nr 0 9999 = nr := by
  unfold datesF
  refine cnt_all fun p hp => ?_
  obtain ⟨e, he, ee⟩ := hr p hp
  obtain ⟨t, ht, et⟩ := (hK e he).2
  rw [ee, cl_nI (show e < 2 ^ 31 by omega), et]
  exact decide_eq_true (nI_rng (lo := 0) (hi := 9999) (by decide) (by omega) (by omega))
end CNTS
