/-! THE REFERENCE'S READERS -/
/-- what a node's score looks at -/
theorem mostSum_congr {T T' : Nat → Int32} {a : Nat} : ∀ {b : Nat}, (∀ k, k < b → T (a + k) = T' (a + k)) → mostSum T a b = mostSum T' a b := by
  intro b h; unfold mostSum; exact isum_congr (fun k hk => by rw [h k hk])
theorem mostCnt_congr {T T' : Nat → Int32} {a : Nat} : ∀ {b : Nat}, (∀ k, k < b → T (a + k) = T' (a + k)) → mostCnt T a b = mostCnt T' a b := by
  intro b h; unfold mostCnt; exact cnt_congr (fun k hk => by rw [h k hk])
theorem scoreF_congr {σ : Rows} {n : Nat} {T T' : Nat → Int32} {j d : Nat} (hW : NW σ j) (h : ∀ i, i < j → T i = T' i) (hj : j < 30) : scoreF σ n T j d = scoreF σ n T' j d := by
  unfold scoreF
  dsimp only
  rcases hW with ⟨e, a, b, ha, hb1, hb8, ea, eb⟩ | ⟨e, a, b, ha, hb, ea, eb⟩ | ⟨e, a, b, c, ha, hb, e1, e2, hc1, hc2, ho, ea, eb, ec⟩ | e | ⟨e, a, ha, ea⟩ | ⟨e, a, b, ha, hb, ea, eb⟩ | ⟨e, a, b, c, hab, hb2, hb4, hc1, hcb, ea, eb, ec⟩
  · simp [e]
  · have hac := cl_nI (show a < 2 ^ 31 by omega)
    have hbc := cl_nI (show b < 2 ^ 31 by omega)
    rw [ea, eb, hac, hbc, h a ha, h b hb]
    rcases e with e | e | e <;> simp [e]
  · have hac := cl_nI (show a < 2 ^ 31 by omega)
    have hbc := cl_nI (show b < 2 ^ 31 by omega)
    rw [ea, eb, hac, hbc, h a ha, h b hb]
    simp [e]
  · simp [e]
  · simp [e]
  · have hac := cl_nI (show a < 2 ^ 31 by omega)
    rw [ea, hac, h a ha]
    simp [e]
  · have hac := cl_nI (show a < 2 ^ 31 by omega)
    have hbc := cl_nI (show b < 2 ^ 31 by omega)
    rw [ea, eb, hac, hbc, mostSum_congr (T := T) (T' := T') (a := a) (b := b) (fun k hk => h (a + k) (by omega)), mostCnt_congr (T := T) (T' := T') (a := a) (b := b) (fun k hk => h (a + k) (by omega))]
    simp [e]
def scV (σ : Rows) (n d j : Nat) : Int32 := scT σ n d (fun _ => 0) (j + 1) j
theorem scT_eq {σ : Rows} {n nn : Nat} {T : Nat → Int32} {d : Nat} (hN : NG σ nn) (hnn : nn ≤ 30) : ∀ k, k ≤ nn → ∀ j, j < k → scT σ n d T k j = scV σ n d j := by
  have key : ∀ k, k ≤ nn → ∀ T T' j, j < k → scT σ n d T k j = scT σ n d T' k j := by
    intro k
    induction k with
    | zero => exact fun _ _ _ j hj => absurd hj (Nat.not_lt_zero _)
    | succ k ih =>
      intro hk T T' j hj
      show upd (scT σ n d T k) k _ j = upd (scT σ n d T' k) k _ j
      unfold upd
      by_cases e : j = k
      · rw [if_pos e, if_pos e]
        exact scoreF_congr (hN k (by omega)) (fun i hi => ih (by omega) T T' i hi) (by omega)
      · rw [if_neg e, if_neg e]; exact ih (by omega) T T' j (by omega)
  intro k
  induction k with
  | zero => exact fun _ j hj => absurd hj (Nat.not_lt_zero _)
  | succ k ih =>
    intro hk j hj
    by_cases e : j = k
    · subst e; exact key (j + 1) hk T _ j hj
    · show upd (scT σ n d T k) k _ j = _
      unfold upd
      rw [if_neg e]; exact ih (by omega) j (by omega)
/-- a node's score by the scores before it -/
theorem scV_eq {σ : Rows} {n nn d j : Nat} (hN : NG σ nn) (hnn : nn ≤ 30) (hj : j < nn) : scV σ n d j = scoreF σ n (scV σ n d) j d := by
  unfold scV
  show upd (scT σ n d (fun _ => 0) j) j _ j = _
  unfold upd
  rw [if_pos rfl]
  exact scoreF_congr (hN j hj) (fun i hi => scT_eq hN hnn j (by omega) i hi) (by omega)
def there (σ : Rows) (d : Nat) : Bool := !decide (σ 6 d = 0) && decide (σ 5 d = 0)
def scoreNowF (σ : Rows) (n d j : Nat) : Int32 := if there σ d = true then scV σ n d j else -1
/-- the best of some -/
def bst (ok : Nat → Bool) (v : Nat → Int32) : Nat → Int32 × Int32
  | 0 => (-1, 0)
  | k + 1 => if ok k = true ∧ (bst ok v k).2 < v k then (nI k, v k) else bst ok v k
def hasF (σ : Rows) (d t : Nat) : Bool := orB (fun f => !decide (ctN σ d f t = 0)) 3
def lkVal (σ : Rows) (n e d f k : Nat) : Int32 := if !decide (ctF σ d f (tmF σ e f k) = 0) && !(hasB (tmF σ e f) k (tmF σ e f k)) then rareF σ n (tmF σ e f k).toNatClampNeg f else 0
def lkSum (σ : Rows) (n e d : Nat) : Int32 := isum (fun f => isum (fun k => lkVal σ n e d f k) (lnF σ e f)) 3
def likeF (σ : Rows) (n e : Nat) : Int32 := (bst (fun d => !decide (d = e) && there σ d) (lkSum σ n e) n).1
def mtAll (σ : Rows) (t : Nat) : Nat → Nat := cnt (fun d => there σ d && hasF σ d t)
def mtBoth (σ : Rows) (s t : Nat) : Nat → Nat := cnt (fun d => there σ d && hasF σ d t && hasF σ d s)
def mtS (σ : Rows) (n s : Nat) : Nat → Int32 × Nat × Nat
  | 0 => (-1, 0, 0)
  | t + 1 =>
    let p := mtS σ n s t
    if t ≠ s ∧ σ 10 t = 0 ∧ (p.2.1 < mtBoth σ s t n ∨ mtBoth σ s t n = p.2.1 ∧ 0 < mtBoth σ s t n ∧ mtAll σ t n < p.2.2) then (nI t, mtBoth σ s t n, mtAll σ t n) else p
def foundF (σ : Rows) (n j : Nat) : Nat → Nat := cnt (fun d => !decide (scoreNowF σ n d j < 0))
def kindF (σ : Rows) (nr : Nat) (k : Int32) : Nat := cnt (fun p => decide (σ 4 (σ 23 p).toNatClampNeg = k)) nr
def datesF (σ : Rows) (nr : Nat) (lo hi : Int32) : Nat := cnt (fun p => decide (¬ (σ 3 (σ 23 p).toNatClampNeg < lo ∨ hi < σ 3 (σ 23 p).toNatClampNeg))) nr
def sizeF (σ : Rows) (n : Nat) (s : Int32) : Nat := cnt (fun d => decide (σ 15 d = s)) n
section MREAD
variable {FR : gS → Prop} {m : Nat} {μ : Nat → Nat} {σ : Rows} {n : Nat} {T : Nat → Int32} {g : gS} {bf nn nr ns : Nat}
/-- results are numbers of documents -/
def RG (σ : Rows) (n nr : Nat) : Prop := ∀ p, p < nr → ∃ d, d < n ∧ σ 23 p = nI d
end MREAD
