/-! FLUSHED AND MERGED: what stays, what goes -/
theorem nI_sb {a b : Nat} (h : b ≤ a) : nI a - nI b = nI (a - b) := by
  have : nI a = nI (a - b) + nI b := by rw [nI_add, show a - b + b = a by omega]
  rw [this]; exact Int32.add_sub_cancel _ _
section MRG
variable {σ τ : Rows} {n bf nn nr ns bf' nr' ns' a : Nat} {t : Int32} {g : gS}
theorem mergeR_r {u : Nat} (h0 : u ≠ 0) (h6 : u ≠ 6) (h14 : u ≠ 14) (h15 : u ≠ 15) : mergeR σ n a t u = σ u := by
  unfold mergeR
  rw [su_row h14, su_row h0, mgK_r h15 h6]
theorem mergeR_0 {i : Nat} (h : i ≠ 13) : mergeR σ n a t 0 i = σ 0 i := by
  unfold mergeR
  rw [su_row (by decide), su_at, if_neg h, mgK_r (by decide) (by decide)]
theorem mergeR_13 : mergeR σ n a t 0 13 = if mgL σ a n = 0 then nI a else nI (a + 1) := by
  unfold mergeR
  rw [su_row (by decide), su_at, if_pos rfl]
theorem mergeR_14 {i : Nat} : mergeR σ n a t 14 i = if i = a then t else σ 14 i := by
  unfold mergeR
  rw [su_at, su_row (by decide), mgK_r (by decide) (by decide)]
theorem mergeR_6 {i : Nat} : mergeR σ n a t 6 i = if i < n ∧ ¬ σ 15 i < nI a ∧ ¬ σ 5 i = 0 then 0 else σ 6 i := by
  unfold mergeR
  rw [su_row (by decide), su_row (by decide), mgK_6]
theorem mergeR_15 {i : Nat} : mergeR σ n a t 15 i = if i < n ∧ ¬ σ 15 i < nI a then (if σ 5 i = 0 then nI a else -1) else σ 15 i := by
  unfold mergeR
  rw [su_row (by decide), su_row (by decide), mgK_15]
theorem mergeR_ce : CE σ (mergeR σ n a t) := fun _ h0 h6 h14 h15 => mergeR_r h0 h6 h14 h15
theorem CE.rf : CE σ σ := fun _ _ _ _ _ => rfl
theorem CE.trans {ρ υ : Rows} (h1 : CE σ ρ) (h2 : CE ρ υ) : CE σ υ := fun u a b c d => (h2 u a b c d).trans (h1 u a b c d)
theorem flL_ce : ∀ (k : Nat) (τ : Rows), CE τ (flL n k τ) ∧ ∀ i, i ≠ 13 → flL n k τ 0 i = τ 0 i
  | 0, τ => ⟨CE.rf, fun _ _ => rfl⟩
  | k + 1, τ => by
    rw [flL]
    split
    · obtain ⟨h1, h2⟩ := flL_ce k (mergeR τ n (cl (τ 0 13) - 3) (τ 14 (cl (τ 0 13) - 1) + 1))
      exact ⟨mergeR_ce.trans h1, fun i hi => by rw [h2 i hi, mergeR_0 hi]⟩
    · exact ⟨CE.rf, fun _ _ => rfl⟩
theorem cl_lt (x : Int32) : cl x < 2 ^ 31 := by
  have := Int32.toInt_lt x
  show x.toInt.toNat < 2 ^ 31
  omega
theorem flL_done : ∀ (k : Nat) (τ : Rows), cl (τ 0 13) ≤ 2 * k + 2 → ¬ c3 (flL n k τ)
  | 0, τ, h => fun c => by
    have := c.1
    rw [flL] at this
    omega
  | k + 1, τ, h => by
    rw [flL]
    by_cases c : c3 τ
    · rw [if_pos c]
      refine flL_done k _ ?_
      have h2 := c.1
      have h3 := cl_lt (τ 0 13)
      rw [mergeR_13]
      split
      · rw [clI (by omega)]; omega
      · rw [clI (by omega)]; omega
    · rw [if_neg c]; exact c
theorem flA_r : ∀ (k : Nat), CE σ (flA σ bf t k) ∧ flA σ bf t k 0 = σ 0 ∧ flA σ bf t k 14 = σ 14
  | 0 => ⟨CE.rf, rfl, rfl⟩
  | k + 1 => by
    obtain ⟨h1, h2, h3⟩ := flA_r k
    rw [flA]
    refine ⟨fun u h0 h6 h14 h15 => ?_, ?_, ?_⟩
    · rw [su_row h6, su_row h15]; exact h1 u h0 h6 h14 h15
    · rw [su_row (by decide), su_row (by decide)]; exact h2
    · rw [su_row (by decide), su_row (by decide)]; exact h3
/-- what the buffer becomes, before anything is merged -/
def flC (σ : Rows) : Rows := su (flB σ) 0 9 (σ 0 1)
theorem flC_ce : CE σ (flC σ) := by
  intro u h0 h6 h14 h15
  unfold flC flB
  rw [su_row h0]
  split
  · rw [su_row h14, su_row h0, (flA_r _).1 u h0 h6 h14 h15, tz_r h0]
  · exact tz_r h0
theorem flC_0 {i : Nat} (h0 : i ≠ 0) (h9 : i ≠ 9) (h13 : i ≠ 13) : flC σ 0 i = σ 0 i := by
  unfold flC flB
  rw [su_at, if_neg h9]
  split
  · rw [su_row (by decide), su_at, if_neg h13, (flA_r _).2.1, tz_0 h0]
  · exact tz_0 h0
theorem flC_9 : flC σ 0 9 = σ 0 1 := by
  unfold flC
  rw [su_at, if_pos rfl]
theorem GI.lt91 (h : GI σ n bf nn nr ns) : (σ 0 9 < σ 0 1) ↔ bf < n := by
  have hn := h.n
  have hb := h.1.2.1
  rw [h.d9, h.d1]
  exact nI_lt_iff (by omega) (by omega)
/-- the flushed documents are one more segment -/
theorem flC_some (h : GI σ n bf nn nr ns) (c : bf < n) : flC σ 0 13 = nI (ns + 1) ∧ (∀ i, flC σ 14 i = if i = ns then 0 else σ 14 i) ∧ (∀ i, flC σ 15 i = if bf ≤ i ∧ i < n then nI ns else σ 15 i) ∧ ∀ i, flC σ 6 i = if bf ≤ i ∧ i < n then 1 else σ 6 i := by
  have hn := h.n
  have h6 := h.ns6
  have e9 : cl (σ 0 9) = bf := by rw [h.d9]; exact cl_nI (by omega)
  have e13 : cl (σ 0 13) = ns := by rw [h.d13]; exact cl_nI (by omega)
  have en : bf + (n - bf) = n := by omega
  unfold flC flB
  rw [if_pos (h.lt91.mpr c), h.nF, e9, e13]
  refine ⟨?_, fun i => ?_, fun i => ?_, fun i => ?_⟩
  · rw [su_at, if_neg (by decide), su_row (by decide), su_at, if_pos rfl, h.d13, nI_1]
  · rw [su_row (by decide), su_at]
    by_cases e : i = ns
    · rw [if_pos e, if_pos e]
    · rw [if_neg e, if_neg e, su_row (by decide), (flA_r _).2.2, tz_r (by decide)]
  · rw [su_row (by decide), su_row (by decide), su_row (by decide), flA_15, en, tz_r (by decide), h.d13]
  · rw [su_row (by decide), su_row (by decide), su_row (by decide), flA_6, en, tz_r (by decide)]
theorem flC_none (h : GI σ n bf nn nr ns) (c : ¬ bf < n) : flC σ 0 13 = nI ns ∧ flC σ 14 = σ 14 ∧ flC σ 15 = σ 15 ∧ flC σ 6 = σ 6 := by
  unfold flC flB
  rw [if_neg (fun q => c (h.lt91.mp q))]
  refine ⟨?_, ?_, ?_, ?_⟩
  · rw [su_at, if_neg (by decide), tz_0 (by decide), h.d13]
  · rw [su_row (by decide), tz_r (by decide)]
  · rw [su_row (by decide), tz_r (by decide)]
  · rw [su_row (by decide), tz_r (by decide)]
/-- behind a flush -/
def fl1 (σ : Rows) : Rows := (S_flush σ).2.2
theorem fl1_eq : fl1 σ = flL (nF σ) 60 (flC σ) := by
  unfold fl1 S_flush flC
  dsimp only
theorem fl1_ce : CE σ (fl1 σ) := flC_ce.trans (flL_ce 60 (flC σ)).1
theorem fl1_0 {i : Nat} (h0 : i ≠ 0) (h9 : i ≠ 9) (h13 : i ≠ 13) : fl1 σ 0 i = σ 0 i := by rw [fl1_eq, (flL_ce 60 (flC σ)).2 i h13, flC_0 h0 h9 h13]
theorem fl1_9 : fl1 σ 0 9 = σ 0 1 := by rw [fl1_eq, (flL_ce 60 (flC σ)).2 9 (by decide), flC_9]
theorem fl1_c3 (h : GI σ n bf nn nr ns) : ¬ c3 (fl1 σ) := by
  rw [fl1_eq]
  refine flL_done 60 _ ?_
  have h6 := h.ns6
  by_cases c : bf < n
  · rw [(flC_some h c).1, clI (by omega)]; omega
  · rw [(flC_none h c).1, clI (by omega)]; omega
theorem q_flush (h : EE a σ n bf nn nr ns g) {Q : Int32 → gS → Prop} (hQ : ∀ g' ns', EE a (fl1 σ) n n nn nr ns' g' → Q (nI (n - bf)) g') : w_X10_flush g a Q := by
  obtain ⟨A, D, V, rfl, hx⟩ := id h
  have hn := h.gi.n
  have hb := h.gi.1.2.1
  refine p_flush hx (fun g' hg => ?_)
  have e : (S_flush σ).2.1 = nI (n - bf) := by
    show σ 0 1 - σ 0 9 = _
    rw [h.gi.d1, h.gi.d9]
    exact nI_sb hb
  rw [e]
  obtain ⟨A', D', V', n1, bf1, nn1, nr1, ns1, e1, e2, hx'⟩ := id hg
  have hG := hx'.2.2.1.1
  have e01 : fl1 σ 0 1 = σ 0 1 := fl1_0 (by decide) (by decide) (by decide)
  have e16 : fl1 σ 0 16 = σ 0 16 := fl1_0 (by decide) (by decide) (by decide)
  have e22 : fl1 σ 0 22 = σ 0 22 := fl1_0 (by decide) (by decide) (by decide)
  have q1 : n1 = n := (nI_inj (by have := hG.n; omega) (by omega)).mp (hG.d1.symm.trans (e01.trans h.gi.d1))
  have q2 : bf1 = n := (nI_inj (by have := hG.n; have := hG.1.2.1; omega) (by omega)).mp (hG.d9.symm.trans (fl1_9.trans h.gi.d1))
  have q3 : nn1 = nn := (nI_inj (by have := hG.nn3; omega) (by have := h.gi.nn3; omega)).mp (hG.d16.symm.trans (e16.trans h.gi.d16))
  have q4 : nr1 = nr := (nI_inj (by have := hG.nr6; omega) (by have := h.gi.nr6; omega)).mp (hG.d22.symm.trans (e22.trans h.gi.d22))
  subst q1; subst q2; subst q3; subst q4
  exact hQ g' ns1 (EE.of hg hG)
/-- behind compacting -/
def co1 (σ : Rows) : Rows := (S_compact σ).2.2
theorem co1_ce : CE σ (co1 σ) := by
  unfold co1 S_compact
  split
  · exact fun u h0 _ _ _ => tz_r h0
  · exact fun u h0 h6 h14 h15 => (mergeR_r h0 h6 h14 h15).trans (tz_r h0)
theorem co1_0 {i : Nat} (h0 : i ≠ 0) (h13 : i ≠ 13) : co1 σ 0 i = σ 0 i := by
  unfold co1 S_compact
  split
  · exact tz_0 h0
  · exact (mergeR_0 (t := mxF σ (cl (σ 0 13))) h13).trans (tz_0 h0)
theorem SG.lies (h : SG σ n bf ns) (hn : n ≤ 60) {d : Nat} (hd : d < n) : ¬ σ 15 d < 0 ↔ ¬ σ 6 d = 0 := by
  constructor
  · intro c q
    exact c (by rw [h.2.1 d q (by omega)]; decide)
  · intro q
    obtain ⟨-, s, hs, hsd, e⟩ := h.1 d hd q
    rw [e]; exact not_lt0 (by omega)
theorem gone_eq (h : PK σ n bf nn nr ns) : mgD σ 0 n = goneN σ n := by
  have hn := h.1.n
  unfold mgD goneN
  refine cnt_congr fun i hi => ?_
  rw [show nI 0 = 0 from rfl]
  have := h.2.2.2.lies hn hi
  by_cases c : σ 6 i = 0
  · rw [decide_eq_true c, decide_eq_true (show σ 15 i < 0 by
      by_cases q : σ 15 i < 0
      · exact q
      · exact absurd c (this.mp q))]
  · rw [decide_eq_false c, decide_eq_false (this.mpr c)]
theorem co1_ans (h : PK σ n bf nn nr ns) : (S_compact σ).2.1 = nI (goneN σ n) := by
  have hn := h.1.n
  unfold S_compact
  split
  · rename_i c
    show (0 : Int32) = _
    have e0 : ns = 0 := (nI_inj (by have := h.1.ns6; omega) (by decide)).mp (h.1.d13.symm.trans c)
    have : goneN σ n = 0 := by
      unfold goneN
      refine cnt_zero fun d hd => ?_
      by_cases c6 : σ 6 d = 0
      · rw [decide_eq_true c6]; rfl
      · obtain ⟨-, s, hs, -⟩ := h.2.2.2.1 d hd c6
        omega
    rw [this]; rfl
  · show nI (mgD σ 0 (nF σ)) = _
    rw [h.1.nF, gone_eq h]
theorem q_compact (h : EE a σ n bf nn nr ns g) {Q : Int32 → gS → Prop} (hQ : ∀ g' ns', EE a (co1 σ) n bf nn nr ns' g' → Q (nI (goneN σ n)) g') : w_X10_compact g a Q := by
  obtain ⟨A, D, V, rfl, hx⟩ := id h
  have hn := h.gi.n
  have hb := h.gi.1.2.1
  refine p_compact hx (fun g' hg => ?_)
  rw [co1_ans h.pk]
  obtain ⟨A', D', V', n1, bf1, nn1, nr1, ns1, e1, e2, hx'⟩ := id hg
  have hG := hx'.2.2.1.1
  have q1 : n1 = n := (nI_inj (by have := hG.n; omega) (by omega)).mp (hG.d1.symm.trans ((co1_0 (σ := σ) (by decide) (by decide)).trans h.gi.d1))
  have q2 : bf1 = bf := (nI_inj (by have := hG.n; have := hG.1.2.1; omega) (by omega)).mp (hG.d9.symm.trans ((co1_0 (σ := σ) (by decide) (by decide)).trans h.gi.d9))
  have q3 : nn1 = nn := (nI_inj (by have := hG.nn3; omega) (by have := h.gi.nn3; omega)).mp (hG.d16.symm.trans ((co1_0 (σ := σ) (by decide) (by decide)).trans h.gi.d16))
  have q4 : nr1 = nr := (nI_inj (by have := hG.nr6; omega) (by have := h.gi.nr6; omega)).mp (hG.d22.symm.trans ((co1_0 (σ := σ) (by decide) (by decide)).trans h.gi.d22))
  subst q1; subst q2; subst q3; subst q4
  exact hQ g' ns1 (EE.of hg hG)
theorem co1_6 (h : PK σ n n nn nr ns) (h' : PK (co1 σ) n n nn nr ns') {d : Nat} (hd : d < n) : co1 σ 6 d = 0 ↔ ¬ σ 5 d = 0 := by
  have hn := h.1.n
  have e5 : co1 σ 5 = σ 5 := co1_ce 5 (by decide) (by decide) (by decide) (by decide)
  constructor
  · intro c
    have := h'.2.2.2.2.2.2.1 d hd c
    rw [e5] at this
    exact this
  · intro c
    unfold co1 S_compact
    split
    · rename_i c13
      show tz σ 0 6 d = 0
      rw [tz_r (by decide)]
      have e0 : ns = 0 := (nI_inj (by have := h.1.ns6; omega) (by decide)).mp (h.1.d13.symm.trans c13)
      by_cases c6 : σ 6 d = 0
      · exact c6
      · obtain ⟨-, s, hs, -⟩ := h.2.2.2.1 d hd c6
        omega
    · show mergeR (tz σ 0) (nF σ) 0 (mxF σ (cl (σ 0 13))) 6 d = 0
      rw [mergeR_6, tz_r (by decide), tz_r (by decide), tz_r (by decide), h.1.nF, show nI 0 = 0 from rfl]
      by_cases c15 : σ 15 d < 0
      · rw [if_neg (fun q => q.2.1 c15)]
        by_cases c6 : σ 6 d = 0
        · exact c6
        · exact absurd c15 ((h.2.2.2.lies hn hd).mpr c6)
      · rw [if_pos ⟨hd, c15, c⟩]
theorem fuR_ce : CE σ (fuR σ n) := by
  intro u h0 h6 h14 h15
  unfold fuR
  exact va_up_ne _ _ h6
/-- what it would score is what it scores -/
theorem would_eq (h : PK (fl1 σ) n n nn nr ns) (h' : PK (co1 (fl1 σ)) n n nn nr ns') {d j : Nat} (hd : d < n) : scoreNowF (co1 (fl1 σ)) n d j = scoreNowF (fuR σ n) n d j := by
  have hn := h.1.n
  refine now_cen (fun u h0 h6 h14 h15 => ?_) (fun e he => ?_) hd
  · rw [co1_ce u h0 h6 h14 h15, fl1_ce u h0 h6 h14 h15, fuR_ce u h0 h6 h14 h15]
  · rw [co1_6 h h' he, fl1_ce 5 (by decide) (by decide) (by decide) (by decide)]
    unfold fuR
    rw [va_up_self]
    show (if e < n ∧ σ 5 e = 0 then (1 : Int32) else 0) = 0 ↔ _
    by_cases c : σ 5 e = 0
    · rw [if_pos ⟨he, c⟩]; exact ⟨fun q => absurd q (by decide), fun q => absurd c q⟩
    · rw [if_neg (fun q => c q.2)]; exact ⟨fun _ => c, fun _ => rfl⟩
theorem co1_c3 (h : GI (co1 σ) n bf nn nr ns) (h' : PK σ n bf nn nr ns') : ¬ c3 (co1 σ) := by
  intro c
  have h1 := c.1
  have hn := h'.1.ns6
  unfold co1 S_compact at h1
  split at h1
  · rename_i c13
    have h1 : 2 < cl (tz σ 0 0 13) := h1
    rw [tz_0 (by decide), c13] at h1
    exact absurd h1 (by decide)
  · have h1 : 2 < cl (mergeR (tz σ 0) (nF σ) 0 (mxF σ (cl (σ 0 13))) 0 13) := h1
    rw [mergeR_13] at h1
    split at h1
    · exact absurd h1 (by decide)
    · exact absurd h1 (by decide)
/-- of the documents that are there none goes -/
theorem there_fl (h : PK σ n bf nn nr ns) (h' : PK (co1 (fl1 σ)) n n nn nr ns') {d : Nat} (hd : d < n) (ht : there σ d = true) : there (co1 (fl1 σ)) d = true := by
  unfold there at ht ⊢
  rw [Bool.and_eq_true, decide_eq_true_eq] at ht
  have e5 : co1 (fl1 σ) 5 = σ 5 := (co1_ce 5 (by decide) (by decide) (by decide) (by decide)).trans (fl1_ce 5 (by decide) (by decide) (by decide) (by decide))
  rw [e5, Bool.and_eq_true, decide_eq_true_eq]
  refine ⟨?_, ht.2⟩
  by_cases c : co1 (fl1 σ) 6 d = 0
  · have := h'.2.2.2.2.2.2.1 d hd c
    rw [e5] at this
    exact absurd ht.2 this
  · rw [decide_eq_false c]; rfl
end MRG
