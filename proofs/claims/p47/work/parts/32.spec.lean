/-! WHAT EACH CALL DOES: thrown, answer, state -/
def tz (σ : Rows) (c : Int32) : Rows := su σ 0 0 c
abbrev Out : Type := Int32 × Int32 × Rows
abbrev inR (x lo hi : Int32) : Prop := ¬ (x < lo ∨ hi < x)
abbrev isT (t : Int32) : Prop := inR t 0 199
abbrev isF (f : Int32) : Prop := inR f 0 2
abbrev isD (σ : Rows) (d : Int32) : Prop := inR d 0 (σ 0 1 - 1)
abbrev isN (σ : Rows) (j : Int32) : Prop := inR j 0 (σ 0 16 - 1)
abbrev cl (x : Int32) : Nat := x.toNatClampNeg
def bad (σ : Rows) (c : Int32) : Out := (c, 0, tz σ c)
def good (σ : Rows) (v : Int32) : Out := (0, v, tz σ 0)
def nF (σ : Rows) : Nat := cl (σ 0 1)
def nnF (σ : Rows) : Nat := cl (σ 0 16)
def nrF (σ : Rows) : Nat := cl (σ 0 22)
def S_open (σ : Rows) (a b : Int32) : Out :=
  if ¬ inR a 0 9999 ∨ ¬ inR b 0 7 then bad σ 1 else if ¬ σ 0 2 = 0 ∨ σ 0 1 = 60 then bad σ 2
  else (0, σ 0 1, su (su (su (tz σ 0) 0 2 1) 3 (nF σ) a) 4 (nF σ) b)
def S_write (σ : Rows) (f t : Int32) : Out :=
  if ¬ isF f ∨ ¬ isT t then bad σ 1 else if σ 0 2 = 0 ∨ σ 7 (nF σ * 3 + cl f) = 12 then bad σ 2
  else (0, σ 7 (nF σ * 3 + cl f) + 1, su (su (tz σ 0) 8 ((nF σ * 3 + cl f) * 12 + cl (σ 7 (nF σ * 3 + cl f))) t) 7 (nF σ * 3 + cl f) (σ 7 (nF σ * 3 + cl f) + 1))
def S_close (σ : Rows) : Out :=
  if σ 0 2 = 0 then bad σ 1 else (0, σ 0 1 + 1 - σ 0 9, su (su (tz σ 0) 0 2 0) 0 1 (σ 0 1 + 1))
def S_remove (σ : Rows) (d : Int32) : Out :=
  if ¬ isD σ d then bad σ 1 else (0, (if σ 5 (cl d) = 0 then 1 else 0), su (tz σ 0) 5 (cl d) 1)
def S_setMute (σ : Rows) (t b : Int32) : Out :=
  if ¬ isT t then bad σ 1 else (0, σ 10 (cl t), su (tz σ 0) 10 (cl t) b)
def S_setAlias (σ : Rows) (t a : Int32) : Out :=
  if ¬ isT t ∨ ¬ inR a (-1) 199 ∨ a = t then bad σ 1 else (0, σ 11 (cl t), su (tz σ 0) 11 (cl t) a)
def S_setWeight (σ : Rows) (f w : Int32) : Out :=
  if ¬ isF f ∨ ¬ inR w 1 9 then bad σ 1 else (0, σ 12 (cl f), su (tz σ 0) 12 (cl f) w)
def stF (σ : Rows) (d : Nat) : Int32 := if σ 5 d = 0 then (if nI d < σ 0 9 then 2 else 1) else 0
def S_stateOf (σ : Rows) (d : Int32) : Out := if ¬ isD σ d then bad σ 1 else good σ (stF σ (cl d))
def S_termAt (σ : Rows) (d f p : Int32) : Out :=
  if ¬ isD σ d ∨ ¬ isF f then bad σ 1 else if ¬ inR p 0 (σ 7 (cl d * 3 + cl f) - 1) then bad σ 1 else good σ (tmF σ (cl d) (cl f) (cl p))
def S_tierOf (σ : Rows) (s : Int32) : Out := if ¬ inR s 0 (σ 0 13 - 1) then bad σ 1 else good σ (σ 14 (cl s))
def S_sizeOf (σ : Rows) (s : Int32) : Out := if ¬ inR s 0 (σ 0 13 - 1) then bad σ 1 else good σ (nI (sizeF σ (nF σ) s))
def S_spread (σ : Rows) (t f : Int32) : Out := if ¬ isT t ∨ ¬ isF f then bad σ 1 else good σ (spF σ (cl t) (cl f) (nF σ))
def S_rare (σ : Rows) (t f : Int32) : Out := if ¬ isT t ∨ ¬ isF f then bad σ 1 else good σ (rareF σ (nF σ) (cl t) (cl f))
def addF (σ : Rows) (s a b c : Int32) : Rows := su (su (su (su (su (tz σ 0) 17 (nnF σ) s) 18 (nnF σ) a) 19 (nnF σ) b) 20 (nnF σ) c) 0 16 (σ 0 16 + 1)
def addO (σ : Rows) (full : Int32) (s a b c : Int32) : Out := if σ 0 16 = 30 then bad σ full else (0, σ 0 16, addF σ s a b c)
def S_term (σ : Rows) (t f : Int32) : Out := if ¬ isT t ∨ ¬ inR f 1 7 then bad σ 1 else addO σ 2 0 t f 0
def S_pair (σ : Rows) (s a b : Int32) : Out := if ¬ isN σ a ∨ ¬ isN σ b then bad σ 1 else addO σ 2 s a b 0
def S_near (σ : Rows) (a b c o : Int32) : Out :=
  if ¬ isN σ a ∨ ¬ isN σ b then bad σ 1 else if ¬ σ 17 (cl a) = 0 ∨ ¬ σ 17 (cl b) = 0 ∨ ¬ inR c 1 10 then bad σ 2
  else if σ 0 16 = 30 then bad σ 3 else (0, σ 0 16, addF (su σ 21 (nnF σ) o) 4 a b c)
def S_dated (σ : Rows) (a b : Int32) : Out := if ¬ inR a 0 9999 ∨ ¬ inR b 0 9999 then bad σ 1 else addO σ 2 5 a b 0
def S_kind (σ : Rows) (a : Int32) : Out := if ¬ inR a 1 255 then bad σ 1 else addO σ 2 6 a 0 0
def S_scaled (σ : Rows) (a b : Int32) : Out := if ¬ isN σ a then bad σ 1 else if ¬ inR b 0 500 then bad σ 2 else addO σ 3 7 a b 0
def S_most (σ : Rows) (a b c : Int32) : Out :=
  if ¬ isN σ a ∨ σ 0 16 - a < b then bad σ 1 else if ¬ inR b 2 4 ∨ ¬ inR c 1 b then bad σ 2 else addO σ 3 8 a b c
def S_clear (σ : Rows) : Out := (0, σ 0 16, su (tz σ 0) 0 16 0)
def S_score (σ : Rows) (j d : Int32) : Out := if ¬ isN σ j ∨ ¬ isD σ d then bad σ 1 else good σ (scoreNowF σ (nF σ) (cl d) (cl j))
def S_found (σ : Rows) (j : Int32) : Out := if ¬ isN σ j then bad σ 1 else good σ (nI (foundF σ (nF σ) (cl j) (nF σ)))
def S_resultAt (σ : Rows) (p : Int32) : Out := if ¬ inR p 0 (σ 0 22 - 1) then bad σ 1 else good σ (σ 23 (cl p))
def S_scoreAt (σ : Rows) (p : Int32) : Out := if ¬ inR p 0 (σ 0 22 - 1) then bad σ 1 else good σ (σ 24 (cl p))
def S_ofKind (σ : Rows) (k : Int32) : Out := if ¬ inR k 0 7 then bad σ 1 else good σ (nI (kindF σ (nrF σ) k))
def S_ofDates (σ : Rows) (a w : Int32) : Out := if ¬ inR a 0 9999 ∨ ¬ inR w 1 10000 then bad σ 1 else good σ (nI (datesF σ (nrF σ) a (a + w - 1)))
def S_window (σ : Rows) (d j f w : Int32) : Out :=
  if ¬ isD σ d ∨ ¬ isN σ j ∨ ¬ isF f then bad σ 1 else if ¬ inR w 1 12 then bad σ 2 else good σ (windowF σ (nnF σ) (tnB σ false (cl j)) (cl d) (cl f) (cl w))
def S_like (σ : Rows) (d : Int32) : Out := if ¬ isD σ d then bad σ 1 else good σ (likeF σ (nF σ) (cl d))
def S_mate (σ : Rows) (t : Int32) : Out := if ¬ isT t then bad σ 1 else if ¬ σ 10 (cl t) = 0 then bad σ 1 else good σ (mtS σ (nF σ) (cl t) 200).1
def S_cost (σ : Rows) (j : Int32) : Out := if ¬ isN σ j then bad σ 1 else good σ (costF σ (nF σ) (nnF σ) (tnB σ true (cl j)))
theorem su_su {σ : Rows} {t i : Nat} {v w : Int32} : su (su σ t i v) t i w = su σ t i w := by
  funext u j
  by_cases e : u = t
  · subst e; rw [su_at, su_at, su_at]; split <;> rfl
  · rw [su_row e, su_row e, su_row e]
theorem tz_tz {σ : Rows} {a b : Int32} : tz (tz σ a) b = tz σ b := su_su
theorem tz_r {σ : Rows} {c : Int32} {t : Nat} (h : t ≠ 0) : tz σ c t = σ t := su_row h
theorem tz_0 {σ : Rows} {c : Int32} {i : Nat} (h : i ≠ 0) : tz σ c 0 i = σ 0 i := by unfold tz; rw [su_at, if_neg h]
theorem m_if {P A B : Prop} [Decidable P] (h1 : P → A) (h2 : ¬ P → B) : ((if P then (0 : Int32) else 1) = 0 → A) ∧ (¬ (if P then (0 : Int32) else 1) = 0 → B) := by
  by_cases c : P
  · rw [if_pos c]; exact ⟨fun _ => h1 c, fun q => absurd rfl q⟩
  · rw [if_neg c]; exact ⟨fun q => absurd q (by decide), fun _ => h2 c⟩
theorem inR_nI {x : Int32} {n : Nat} (hn : n < 2 ^ 31) (h : inR x 0 (nI n - 1)) : ∃ k, k < n ∧ x = nI k := by
  unfold inR at h
  have h0 : ¬ x < 0 := fun q => h (Or.inl q)
  obtain ⟨k, hk, rfl⟩ := nI_of h0
  refine ⟨k, ?_, rfl⟩
  rcases Nat.eq_zero_or_pos n with e | e
  · subst e
    exact absurd (Or.inr ((i32_lt _ _).mpr (by rw [nI_toInt hk]; show (-1 : Int) < k; omega))) h
  · rcases Nat.lt_or_ge k n with q | q
    · exact q
    · refine absurd (Or.inr ?_) h
      have : nI n - 1 = nI (n - 1) := by
        have : nI n = nI (n - 1) + 1 := by rw [nI_1, show n - 1 + 1 = n by omega]
        rw [this]; exact Int32.add_sub_cancel _ _
      rw [this]
      exact nI_lt (by omega) hk
theorem nI_sub1 {n : Nat} (h : 0 < n) : nI n - 1 = nI (n - 1) := by
  have : nI n = nI (n - 1) + 1 := by rw [nI_1, show n - 1 + 1 = n by omega]
  rw [this]; exact Int32.add_sub_cancel _ _
theorem nI_inR {k n : Nat} (hn : n < 2 ^ 31) (h : k < n) : inR (nI k) 0 (nI n - 1) := by
  unfold inR
  rintro (q | q)
  · exact absurd q (not_lt0 (by omega))
  · rw [nI_sub1 (by omega)] at q
    have := (nI_lt_iff (show n - 1 < 2 ^ 31 by omega) (show k < 2 ^ 31 by omega)).mp q
    omega
theorem isT_nI {x : Int32} (h : isT x) : ∃ k, k < 200 ∧ x = nI k := by
  have : inR x 0 (nI 200 - 1) := h
  exact inR_nI (by decide) this
theorem isF_nI {x : Int32} (h : isF x) : ∃ k, k < 3 ∧ x = nI k := by
  have : inR x 0 (nI 3 - 1) := h
  exact inR_nI (by decide) this
theorem inR_b {x : Int32} {lo hi : Nat} (hh : hi < 2 ^ 31 - 1) (hl : lo ≤ hi) (h : inR x (nI lo) (nI hi)) : ∃ k, lo ≤ k ∧ k ≤ hi ∧ x = nI k := by
  unfold inR at h
  have h1 : ¬ x < nI lo := fun q => h (Or.inl q)
  have h2 : ¬ nI hi < x := fun q => h (Or.inr q)
  have h0 : ¬ x < 0 := fun q => h1 ((i32_lt _ _).mpr (by rw [nI_toInt (by omega)]; have := (i32_lt _ _).mp q; have e : (0 : Int32).toInt = 0 := rfl; omega))
  obtain ⟨k, hk, rfl⟩ := nI_of h0
  refine ⟨k, ?_, ?_, rfl⟩
  · rcases Nat.lt_or_ge k lo with q | q
    · exact absurd ((nI_lt_iff hk (by omega)).mpr q) h1
    · exact q
  · rcases Nat.lt_or_ge hi k with q | q
    · exact absurd ((nI_lt_iff (by omega) hk).mpr q) h2
    · exact q
