/-! WHAT A SEARCH LEAVES: all that are found, in their order, each once -/
/-- goes ahead of: a document d of a score x, one e of a score y -/
def ahd (σ : Rows) (d : Nat) (x : Int32) (e : Nat) (y : Int32) : Prop := y < x ∨ (x = y ∧ (σ 3 e < σ 3 d ∨ (σ 3 d = σ 3 e ∧ d < e)))
theorem cnt_t {p : Nat → Bool} {n : Nat} (h : p n = true) : cnt p (n + 1) = cnt p n + 1 := by rw [cnt, if_pos h]
theorem cnt_f {p : Nat → Bool} {n : Nat} (h : p n = false) : cnt p (n + 1) = cnt p n := by rw [cnt, if_neg (by rw [h]; decide)]; rfl
section SRCH
variable {σ τ : Rows} {n j : Nat}
theorem shR_spec {its : Int32} {d : Nat} : ∀ (k : Nat) (τ : Rows), ∃ m, m ≤ k ∧ (∀ p, p < m → shR its d k τ 23 p = τ 23 p ∧ shR its d k τ 24 p = τ 24 p) ∧ shR its d k τ 23 m = nI d ∧ shR its d k τ 24 m = its ∧
    (∀ p, m ≤ p → p < k → shR its d k τ 23 (p + 1) = τ 23 p ∧ shR its d k τ 24 (p + 1) = τ 24 p ∧ (τ 24 p < its ∨ (its = τ 24 p ∧ ¬ τ 3 d ≤ τ 3 (cl (τ 23 p))))) ∧
    (0 < m → ¬ (τ 24 (m - 1) < its ∨ (its = τ 24 (m - 1) ∧ ¬ τ 3 d ≤ τ 3 (cl (τ 23 (m - 1)))))) ∧ (∀ p, k < p → shR its d k τ 23 p = τ 23 p ∧ shR its d k τ 24 p = τ 24 p)
  | 0, τ => by
    refine ⟨0, Nat.le_refl 0, fun p hp => absurd hp (Nat.not_lt_zero _), ?_, ?_, fun p _ hp => absurd hp (Nat.not_lt_zero _), fun q => absurd q (Nat.lt_irrefl 0), fun p hp => ?_⟩
    · rw [shR, su_row (by decide), su_at, if_pos rfl]
    · rw [shR, su_at, if_pos rfl]
    · rw [shR, su_row (show 23 ≠ 24 by decide), su_at, su_at, if_neg (by omega), if_neg (by omega), su_row (by decide)]
      exact ⟨rfl, rfl⟩
  | k + 1, τ => by
    rw [shR]
    by_cases c : τ 24 k < its ∨ (its = τ 24 k ∧ ¬ τ 3 d ≤ τ 3 (cl (τ 23 k)))
    · rw [if_pos c]
      have u23 : ∀ p, p ≠ k + 1 → su (su τ 23 (k + 1) (τ 23 k)) 24 (k + 1) (τ 24 k) 23 p = τ 23 p := fun p hp => by rw [su_row (by decide), su_at, if_neg hp]
      have u24 : ∀ p, p ≠ k + 1 → su (su τ 23 (k + 1) (τ 23 k)) 24 (k + 1) (τ 24 k) 24 p = τ 24 p := fun p hp => by rw [su_at, if_neg hp, su_row (by decide)]
      have v23 : su (su τ 23 (k + 1) (τ 23 k)) 24 (k + 1) (τ 24 k) 23 (k + 1) = τ 23 k := by rw [su_row (by decide), su_at, if_pos rfl]
      have v24 : su (su τ 23 (k + 1) (τ 23 k)) 24 (k + 1) (τ 24 k) 24 (k + 1) = τ 24 k := by rw [su_at, if_pos rfl]
      have u3 : su (su τ 23 (k + 1) (τ 23 k)) 24 (k + 1) (τ 24 k) 3 = τ 3 := by rw [su_row (by decide), su_row (by decide)]
      obtain ⟨m, hm, h1, h2, h3, h4, h5, h6⟩ := shR_spec (its := its) (d := d) k (su (su τ 23 (k + 1) (τ 23 k)) 24 (k + 1) (τ 24 k))
      refine ⟨m, by omega, fun p hp => ?_, h2, h3, fun p hp1 hp2 => ?_, fun q => ?_, fun p hp => ?_⟩
      · rw [← u23 p (by omega), ← u24 p (by omega)]; exact h1 p hp
      · rcases Nat.lt_or_ge p k with hpk | hpk
        · have := h4 p hp1 hpk
          rw [u23 p (by omega), u24 p (by omega), u3] at this
          exact this
        · have e : p = k := by omega
          subst e
          obtain ⟨a, b⟩ := h6 (p + 1) (by omega)
          rw [a, b, v23, v24]
          exact ⟨rfl, rfl, c⟩
      · have := h5 q
        rw [u23 (m - 1) (by omega), u24 (m - 1) (by omega), u3] at this
        exact this
      · obtain ⟨a, b⟩ := h6 p (by omega)
        rw [a, b]
        exact ⟨u23 p (by omega), u24 p (by omega)⟩
    · rw [if_neg c]
      refine ⟨k + 1, Nat.le_refl _, fun p hp => ?_, ?_, ?_, fun p h1 h2 => absurd h2 (by omega), fun _ => c, fun p hp => ?_⟩
      · rw [su_row (show 23 ≠ 24 by decide), su_at, su_at, if_neg (by omega), if_neg (by omega), su_row (by decide)]
        exact ⟨rfl, rfl⟩
      · rw [su_row (by decide), su_at, if_pos rfl]
      · rw [su_at, if_pos rfl]
      · rw [su_row (show 23 ≠ 24 by decide), su_at, su_at, if_neg (by omega), if_neg (by omega), su_row (by decide)]
        exact ⟨rfl, rfl⟩
/-- the results among the first d documents -/
def RS (σ : Rows) (n j d r : Nat) (τ : Rows) : Prop :=
  (∀ p, p < r → ∃ e, e < d ∧ τ 23 p = nI e ∧ τ 24 p = scoreNowF σ n e j ∧ ¬ scoreNowF σ n e j < 0) ∧
  (∀ p e f, p + 1 < r → e < 60 → f < 60 → τ 23 p = nI e → τ 23 (p + 1) = nI f → ahd σ e (τ 24 p) f (τ 24 (p + 1))) ∧
  r = cnt (fun e => !decide (scoreNowF σ n e j < 0)) d
theorem le_of_not {x y : Int32} (h : ¬ x < y) : y ≤ x := Int32.not_lt.mp h
theorem srF_rs : ∀ d, d ≤ 60 → ∃ r, srF σ n j d 0 22 = nI r ∧ r ≤ d ∧ RS σ n j d r (srF σ n j d)
  | 0, _ => ⟨0, by rw [srF, su_at, if_pos rfl]; rfl, Nat.le_refl 0, fun p hp => absurd hp (Nat.not_lt_zero _), fun p e f hp => absurd hp (Nat.not_lt_zero _), rfl⟩
  | d + 1, hd => by
    obtain ⟨r, e22, hr, h1, h2, h3⟩ := srF_rs d (by omega)
    rw [srF]
    by_cases c : scoreNowF σ n d j < 0
    · rw [if_pos c]
      refine ⟨r, e22, by omega, fun p hp => ?_, h2, ?_⟩
      · obtain ⟨e, he, q⟩ := h1 p hp
        exact ⟨e, by omega, q⟩
      · rw [cnt_f (p := fun e => !decide (scoreNowF σ n e j < 0)) (by show (!decide _) = false; rw [decide_eq_true c]; rfl)]; exact h3
    · rw [if_neg c, e22, show cl (nI r) = r from cl_nI (by omega)]
      have ecnt : cnt (fun e => !decide (scoreNowF σ n e j < 0)) (d + 1) = r + 1 := by
        rw [cnt_t (p := fun e => !decide (scoreNowF σ n e j < 0)) (by show (!decide _) = true; rw [decide_eq_false c]; rfl), ← h3]
      generalize hτ : su (srF σ n j d) 0 22 (nI r + 1) = τ
      have t23 : τ 23 = srF σ n j d 23 := by rw [← hτ, su_row (by decide)]
      have t24 : τ 24 = srF σ n j d 24 := by rw [← hτ, su_row (by decide)]
      have t3 : τ 3 = σ 3 := by rw [← hτ, su_row (by decide)]; exact (srF_r (σ := σ) (n := n) (j := j) d).1 3 (by decide) (by decide) (by decide)
      rw [← t23, ← t24] at h2
      have h1' : ∀ p, p < r → ∃ e, e < d ∧ τ 23 p = nI e ∧ τ 24 p = scoreNowF σ n e j ∧ ¬ scoreNowF σ n e j < 0 := fun p hp => by rw [t23, t24]; exact h1 p hp
      obtain ⟨m, hm, q1, q2, q3, q4, q5, q6⟩ := shR_spec (its := scoreNowF σ n d j) (d := d) r τ
      refine ⟨r + 1, ?_, by omega, fun p hp => ?_, fun p e f hp he hf ee ef => ?_, ecnt.symm⟩
      · rw [shR_r (by decide) (by decide), ← hτ, su_at, if_pos rfl, nI_1]
      · rcases Nat.lt_trichotomy p m with c1 | c1 | c1
        · obtain ⟨a, b⟩ := q1 p c1
          rw [a, b]
          obtain ⟨e, he, q⟩ := h1' p (by omega)
          exact ⟨e, by omega, q⟩
        · subst c1
          rw [q2, q3]
          exact ⟨d, by omega, rfl, rfl, c⟩
        · obtain ⟨a, b, -⟩ := q4 (p - 1) (by omega) (by omega)
          rw [show p - 1 + 1 = p by omega] at a b
          rw [a, b]
          obtain ⟨e, he, q⟩ := h1' (p - 1) (by omega)
          exact ⟨e, by omega, q⟩
      · rcases Nat.lt_trichotomy (p + 1) m with c1 | c1 | c1
        · obtain ⟨a, b⟩ := q1 p (by omega)
          obtain ⟨a', b'⟩ := q1 (p + 1) c1
          rw [a] at ee
          rw [a'] at ef
          rw [b, b']
          exact h2 p e f (by omega) he hf ee ef
        · obtain ⟨a, b⟩ := q1 p (by omega)
          rw [c1, q2] at ef
          rw [a] at ee
          rw [b, c1, q3]
          have nb := q5 (by omega)
          rw [← c1, show p + 1 - 1 = p by omega, t3, ee, clI (by omega)] at nb
          have ed : f = d := (nI_inj (by omega) (by omega)).mp ef.symm
          subst ed
          obtain ⟨e', he', ee', es', -⟩ := h1' p (by omega)
          have e1 : e' = e := (nI_inj (by omega) (by omega)).mp (ee'.symm.trans ee)
          subst e1
          have n1 : ¬ τ 24 p < scoreNowF σ n f j := fun q => nb (Or.inl q)
          by_cases c2 : τ 24 p = scoreNowF σ n f j
          · refine Or.inr ⟨c2, ?_⟩
            have n2 : σ 3 f ≤ σ 3 e' := by
              by_cases q : σ 3 f ≤ σ 3 e'
              · exact q
              · exact absurd (Or.inr ⟨c2.symm, q⟩) nb
            by_cases c3 : σ 3 e' = σ 3 f
            · exact Or.inr ⟨c3, he'⟩
            · refine Or.inl ?_
              exact Int32.lt_of_le_of_ne n2 (fun q => c3 q.symm)
          · exact Or.inl (Int32.lt_of_le_of_ne (le_of_not n1) (fun q => c2 q.symm))
        · by_cases c2 : p = m
          · subst c2
            obtain ⟨a, b, bt⟩ := q4 p (Nat.le_refl _) (by omega)
            rw [q2] at ee
            rw [a] at ef
            rw [q3, b]
            have ed : e = d := (nI_inj (by omega) (by omega)).mp ee.symm
            subst ed
            rw [t3, ef, clI (by omega)] at bt
            rcases bt with bt | ⟨b1, b2⟩
            · exact Or.inl bt
            · exact Or.inr ⟨b1, Or.inl (Int32.not_le.mp b2)⟩
          · obtain ⟨a, b, -⟩ := q4 (p - 1) (by omega) (by omega)
            obtain ⟨a', b', -⟩ := q4 p (by omega) (by omega)
            rw [show p - 1 + 1 = p by omega] at a b
            rw [a] at ee
            rw [a'] at ef
            rw [b, b']
            have := h2 (p - 1) e f (by omega) he hf ee (by rw [show p - 1 + 1 = p by omega]; exact ef)
            rw [show p - 1 + 1 = p by omega] at this
            exact this
end SRCH
