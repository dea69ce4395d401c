/-! THE REFERENCE MERGES -/
def mgK (σ : Rows) (a : Nat) : Nat → Rows
  | 0 => σ
  | k + 1 => if mgK σ a k 15 k < nI a then mgK σ a k else if mgK σ a k 5 k = 0 then su (mgK σ a k) 15 k (nI a) else su (su (mgK σ a k) 15 k (-1)) 6 k 0
def mgD (σ : Rows) (a : Nat) : Nat → Nat := cnt (fun i => !decide (σ 15 i < nI a) && !decide (σ 5 i = 0))
def mgL (σ : Rows) (a : Nat) : Nat → Nat := cnt (fun i => !decide (σ 15 i < nI a) && decide (σ 5 i = 0))
theorem mgK_r {σ : Rows} {a u : Nat} (h1 : u ≠ 15) (h2 : u ≠ 6) : ∀ k, mgK σ a k u = σ u
  | 0 => rfl
  | k + 1 => by
    rw [mgK]; split
    · exact mgK_r h1 h2 k
    · split
      · rw [su_row h1]; exact mgK_r h1 h2 k
      · rw [su_row h2, su_row h1]; exact mgK_r h1 h2 k
theorem mgK_15 {σ : Rows} {a : Nat} : ∀ k i, mgK σ a k 15 i = if i < k ∧ ¬ σ 15 i < nI a then (if σ 5 i = 0 then nI a else -1) else σ 15 i
  | 0, i => by rw [if_neg (by omega)]; rfl
  | k + 1, i => by
    have h5 : mgK σ a k 5 k = σ 5 k := by rw [mgK_r (by decide) (by decide)]
    have hk : mgK σ a k 15 k = σ 15 k := by rw [mgK_15 k k, if_neg (by omega)]
    rw [mgK, hk, h5]
    by_cases c : σ 15 k < nI a
    · rw [if_pos c, mgK_15 k i]
      by_cases e : i = k
      · subst e; rw [if_neg (by omega), if_neg (fun q => q.2 c)]
      · by_cases e2 : i < k
        · simp [e2, show i < k + 1 by omega]
        · simp [e2, show ¬ i < k + 1 by omega]
    · rw [if_neg c]
      by_cases e : i = k
      · subst e
        have pp : i < i + 1 ∧ ¬ σ 15 i < nI a := ⟨by omega, c⟩
        rw [if_pos pp]
        by_cases c2 : σ 5 i = 0
        · rw [if_pos c2, if_pos c2, su_at, if_pos rfl]
        · rw [if_neg c2, if_neg c2, su_row (by decide), su_at, if_pos rfl]
      · have : ∀ r : Rows, r 15 i = mgK σ a k 15 i → r 15 i = if i < k + 1 ∧ ¬ σ 15 i < nI a then (if σ 5 i = 0 then nI a else -1) else σ 15 i := by
          intro r hr
          rw [hr, mgK_15 k i]
          by_cases e2 : i < k
          · simp [e2, show i < k + 1 by omega]
          · simp [e2, show ¬ i < k + 1 by omega]
        by_cases c2 : σ 5 k = 0
        · rw [if_pos c2]; exact this _ (by rw [su_at, if_neg e])
        · rw [if_neg c2]; exact this _ (by rw [su_row (by decide), su_at, if_neg e])
theorem mgK_6 {σ : Rows} {a : Nat} : ∀ k i, mgK σ a k 6 i = if i < k ∧ ¬ σ 15 i < nI a ∧ ¬ σ 5 i = 0 then 0 else σ 6 i
  | 0, i => by rw [if_neg (by omega)]; rfl
  | k + 1, i => by
    have h5 : mgK σ a k 5 k = σ 5 k := by rw [mgK_r (by decide) (by decide)]
    have hk : mgK σ a k 15 k = σ 15 k := by rw [mgK_15 k k, if_neg (by omega)]
    rw [mgK, hk, h5]
    have : ∀ r : Rows, r 6 i = mgK σ a k 6 i → ¬ (i = k ∧ ¬ σ 15 k < nI a ∧ ¬ σ 5 k = 0) → r 6 i = if i < k + 1 ∧ ¬ σ 15 i < nI a ∧ ¬ σ 5 i = 0 then 0 else σ 6 i := by
      intro r hr hne
      rw [hr, mgK_6 k i]
      by_cases e : i = k
      · subst e
        rw [if_neg (by omega), if_neg (fun q => hne ⟨rfl, q.2⟩)]
      · by_cases e2 : i < k
        · simp [e2, show i < k + 1 by omega]
        · simp [e2, show ¬ i < k + 1 by omega]
    by_cases c : σ 15 k < nI a
    · rw [if_pos c]; exact this _ rfl (fun q => q.2.1 c)
    · rw [if_neg c]
      by_cases c2 : σ 5 k = 0
      · rw [if_pos c2]; exact this _ (by rw [su_row (by decide)]) (fun q => q.2.2 c2)
      · rw [if_neg c2]
        by_cases e : i = k
        · subst e; rw [su_at, if_pos rfl, if_pos ⟨by omega, c, c2⟩]
        · exact this _ (by rw [su_at, if_neg e, su_row (by decide)]) (fun q => e q.1)
def mergeR (σ : Rows) (n a : Nat) (t : Int32) : Rows := su (su (mgK σ a n) 0 13 (if mgL σ a n = 0 then nI a else nI (a + 1))) 14 a t
def flA (σ : Rows) (bf : Nat) (s : Int32) : Nat → Rows
  | 0 => σ
  | k + 1 => su (su (flA σ bf s k) 15 (bf + k) s) 6 (bf + k) 1
abbrev c3 (σ : Rows) : Prop := 2 < cl (σ 0 13) ∧ σ 14 (cl (σ 0 13) - 1) = σ 14 (cl (σ 0 13) - 2) ∧ σ 14 (cl (σ 0 13) - 2) = σ 14 (cl (σ 0 13) - 3)
def flL (n : Nat) : Nat → Rows → Rows
  | 0, σ => σ
  | k + 1, σ => if c3 σ then flL n k (mergeR σ n (cl (σ 0 13) - 3) (σ 14 (cl (σ 0 13) - 1) + 1)) else σ
def flB (σ : Rows) : Rows := if σ 0 9 < σ 0 1 then su (su (flA (tz σ 0) (cl (σ 0 9)) (σ 0 13) (nF σ - cl (σ 0 9))) 0 13 (σ 0 13 + 1)) 14 (cl (σ 0 13)) 0 else tz σ 0
def S_flush (σ : Rows) : Out := (0, σ 0 1 - σ 0 9, flL (nF σ) 60 (su (flB σ) 0 9 (σ 0 1)))
def mxF (σ : Rows) : Nat → Int32
  | 0 => 0
  | k + 1 => if mxF σ k < σ 14 k then σ 14 k else mxF σ k
def S_compact (σ : Rows) : Out := if σ 0 13 = 0 then good σ 0 else (0, nI (mgD σ 0 (nF σ)), mergeR (tz σ 0) (nF σ) 0 (mxF σ (cl (σ 0 13))))
section MMERGE
variable {FR : gS → Prop} {m : Nat} {μ : Nat → Nat} {σ : Rows} {n : Nat} {T : Nat → Int32} {g : gS} {bf nn nr ns : Nat}
theorem flA_0 {s : Int32} {u : Nat} (h1 : u ≠ 15) (h2 : u ≠ 6) : ∀ k, flA σ bf s k u = σ u
  | 0 => rfl
  | k + 1 => by rw [flA, su_row h2, su_row h1]; exact flA_0 h1 h2 k
theorem merge_0 {a : Nat} {t : Int32} {i : Nat} (hi : i ≠ 13) : mergeR σ n a t 0 i = σ 0 i := by
  unfold mergeR; rw [su_row (by decide), su_at, if_neg hi, mgK_r (by decide) (by decide)]
theorem merge_13 {a : Nat} {t : Int32} : mergeR σ n a t 0 13 = if mgL σ a n = 0 then nI a else nI (a + 1) := by
  unfold mergeR; rw [su_row (by decide), su_at, if_pos rfl]
end MMERGE
