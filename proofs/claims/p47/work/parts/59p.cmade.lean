/-! CELLS MADE ONE BY ONE -/
def PB (K N : Nat → Nat) (A : Nat → Nat) (S : Nat → Bool) (T : Nat → Nat → Option Nat) (V : Rows) (g : gS) : Prop :=
  (∀ l, S l = true → gK g (A l) = K l ∧ gN g (A l) = N l ∧ gI g (A l) = V l ∧ K l ≠ 0) ∧ (∀ l u, S l = true → S u = true → A l = A u → l = u) ∧
  (∀ l i u, T l i = some u → S l = true ∧ S u = true ∧ gR g (A l) i = some (A u)) ∧ ∀ l i, S l = true → T l i = none → gR g (A l) i = none
section PBUILD
variable {K N A : Nat → Nat} {S : Nat → Bool} {T : Nat → Nat → Option Nat} {V : Rows} {g g' : gS} {a b q k n : Nat}
theorem PB.kk (h : PB K N A S T V g) (l : Nat) (ha : A l = a) (hS : S l = true) (hk : K l = k) : gK g a = k := by
  rw [← ha, (h.1 l hS).1, hk]
theorem PB.nn (h : PB K N A S T V g) (l : Nat) (ha : A l = a) (hS : S l = true) (hk : N l = k) : gN g a = k := by
  rw [← ha, (h.1 l hS).2.1, hk]
theorem PB.r (h : PB K N A S T V g) (l i u : Nat) (hT : T l i = some u) (ha : A l = a) (hb : A u = b) : gR g a i = some b := by
  rw [← ha, ← hb]; exact (h.2.2.1 l i u hT).2.2
theorem PB.new (h : PB K N A S T V g) (l : Nat) (e : g' = sNew g q k n) (hq : gK g q = 0) (hk : K l = k) (hn : N l = n) (h0 : k ≠ 0) (hS : S l = false) (hT : ∀ i, T l i = none) (hV : V l = fun _ => 0) : PB K N (va_up A l q) (fun x => S x || decide (x = l)) T V g' := by
  subst e
  obtain ⟨h1, h2, h3, h4⟩ := h
  have hne : ∀ u, S u = true → A u ≠ q := fun u hu e => by
    obtain ⟨p1, _, _, p4⟩ := h1 u hu
    rw [e, hq] at p1
    exact p4 p1.symm
  have cs : ∀ u, (S u || decide (u = l)) = true → u = l ∨ (u ≠ l ∧ S u = true) := fun u hu => by
    by_cases c : u = l
    · exact Or.inl c
    · rw [decide_eq_false c, Bool.or_false] at hu; exact Or.inr ⟨c, hu⟩
  have sl : ∀ u, S u = true → u ≠ l := fun u hu e => by rw [e, hS] at hu; exact absurd hu (by decide)
  refine ⟨fun u hu => ?_, fun u w hu hw e => ?_, fun u i w hT' => ?_, fun u i hu hT' => ?_⟩
  · rcases cs u hu with c | ⟨c, hu'⟩
    · subst c
      rw [va_up_self, gK_new, gN_new, gI_new, hk, hn, hV]; exact ⟨rfl, rfl, rfl, h0⟩
    · rw [va_up_ne _ _ c, gK_new_ne (hne u hu'), gN_new_ne (hne u hu'), gI_new_ne (hne u hu')]; exact h1 u hu'
  · rcases cs u hu with c | ⟨c, hu'⟩ <;> rcases cs w hw with c2 | ⟨c2, hw'⟩
    · rw [c, c2]
    · rw [c, va_up_self, va_up_ne _ _ c2] at e; exact absurd e.symm (hne w hw')
    · rw [c2, va_up_self, va_up_ne _ _ c] at e; exact absurd e (hne u hu')
    · rw [va_up_ne _ _ c, va_up_ne _ _ c2] at e; exact h2 u w hu' hw' e
  · obtain ⟨p1, p2, p3⟩ := h3 u i w hT'
    refine ⟨by show (S u || _) = true; rw [p1]; rfl, by show (S w || _) = true; rw [p2]; rfl, ?_⟩
    rw [va_up_ne _ _ (sl u p1), va_up_ne _ _ (sl w p2), gR_new_ne (hne u p1)]; exact p3
  · rcases cs u hu with c | ⟨c, hu'⟩
    · subst c; rw [va_up_self, gR_new]
    · rw [va_up_ne _ _ c, gR_new_ne (hne u hu')]; exact h4 u i hu' hT'
theorem PB.ref (h : PB K N A S T V g) (l i u : Nat) (e : g' = sV g a i (some b)) (ha : A l = a) (hb : A u = b) (hl : S l = true) (hu : S u = true) : PB K N A S (fun x y => if x = l ∧ y = i then some u else T x y) V g' := by
  subst e; subst ha; subst hb
  obtain ⟨h1, h2, h3, h4⟩ := h
  refine ⟨h1, h2, fun x y w hT => ?_, fun x y hx hT => ?_⟩
  · replace hT : (if x = l ∧ y = i then some u else T x y) = some w := hT
    by_cases c : x = l ∧ y = i
    · rw [if_pos c] at hT
      obtain ⟨c1, c2⟩ := c
      subst c1; subst c2
      cases hT
      exact ⟨hl, hu, by rw [gR_sV, if_pos ⟨rfl, rfl⟩]⟩
    · rw [if_neg c] at hT
      obtain ⟨p1, p2, p3⟩ := h3 x y w hT
      refine ⟨p1, p2, ?_⟩
      rw [gR_sV, if_neg (fun q => c ⟨h2 x l p1 hl q.1, q.2⟩)]; exact p3
  · replace hT : (if x = l ∧ y = i then some u else T x y) = none := hT
    by_cases c : x = l ∧ y = i
    · rw [if_pos c] at hT; cases hT
    · rw [if_neg c] at hT
      rw [gR_sV, if_neg (fun q => c ⟨h2 x l hx hl q.1, q.2⟩)]; exact h4 x y hx hT
theorem PB.w {i : Nat} {v : Int32} (h : PB K N A S T V g) (l : Nat) (e : g' = sU g a i v) (ha : A l = a) (hl : S l = true) : PB K N A S T (su V l i v) g' := by
  subst e; subst ha
  obtain ⟨h1, h2, h3, h4⟩ := h
  refine ⟨fun u hu => ?_, h2, h3, h4⟩
  obtain ⟨p1, p2, p3, p4⟩ := h1 u hu
  refine ⟨p1, p2, ?_, p4⟩
  show gI (sI g (A l) (upd (gI g (A l)) i v)) (A u) = _
  by_cases e : u = l
  · subst e; rw [gI_sI_self, su_self, p3]
  · rw [gI_sI_ne (fun q => e (h2 u l hu hl q)), su_row e, p3]
theorem PB.grid {r : Nat → Nat} {m : Nat} (h : PB K N A S T V g) (b r0 : Nat) (e : g' = sGrid g q r n m) (hf : gFresh g q r n) (hb : b < r0) (hK : K b = 24) (hN : N b = n) (hKr : ∀ i, i < n → K (r0 + i) = 21 ∧ N (r0 + i) = m) (hS : S b = false) (hSr : ∀ i, i < n → S (r0 + i) = false) (hV : V b = fun _ => 0) (hVr : ∀ i, i < n → V (r0 + i) = fun _ => 0) (hT : ∀ i, T b i = none) (hTr : ∀ j i, j < n → T (r0 + j) i = none) : PB K N (fun l => if l = b then q else if r0 ≤ l ∧ l < r0 + n then r (l - r0) else A l) (fun x => S x || decide (x = b ∨ (r0 ≤ x ∧ x < r0 + n))) (fun x y => if x = b ∧ y < n then some (r0 + y) else T x y) V g' := by
  subst e
  obtain ⟨f1, f2, f3⟩ := hf
  obtain ⟨h1, h2, h3, h4⟩ := h
  have hne : ∀ u, S u = true → A u ≠ q ∧ A u ∉ (List.range n).map r := fun u hu => by
    obtain ⟨p1, _, _, p4⟩ := h1 u hu
    refine ⟨fun e => by rw [e, f1] at p1; exact p4 p1.symm, fun e => ?_⟩
    obtain ⟨i, hi, ei⟩ := List.mem_map.mp e
    have := (f2 i (List.mem_range.mp hi)).1
    rw [← ei, this] at p1; exact p4 p1.symm
  have sb : ∀ u, S u = true → u ≠ b ∧ ¬ (r0 ≤ u ∧ u < r0 + n) := fun u hu => by
    refine ⟨fun e => by rw [e, hS] at hu; exact absurd hu (by decide), fun e => ?_⟩
    have := hSr (u - r0) (by omega)
    rw [show r0 + (u - r0) = u by omega, hu] at this
    exact absurd this (by decide)
  have cs : ∀ u, (S u || decide (u = b ∨ (r0 ≤ u ∧ u < r0 + n))) = true → u = b ∨ (∃ i, i < n ∧ u = r0 + i) ∨ S u = true := fun u hu => by
    rw [Bool.or_eq_true, decide_eq_true_iff] at hu
    rcases hu with hu | hu | hu
    · exact Or.inr (Or.inr hu)
    · exact Or.inl hu
    · exact Or.inr (Or.inl ⟨u - r0, by omega, by omega⟩)
  have Ab : (fun l => if l = b then q else if r0 ≤ l ∧ l < r0 + n then r (l - r0) else A l) b = q := if_pos rfl
  have Ar : ∀ i, i < n → (fun l => if l = b then q else if r0 ≤ l ∧ l < r0 + n then r (l - r0) else A l) (r0 + i) = r i := fun i hi => by
    show (if r0 + i = b then q else if r0 ≤ r0 + i ∧ r0 + i < r0 + n then r (r0 + i - r0) else A (r0 + i)) = _
    rw [if_neg (by omega), if_pos (by omega), show r0 + i - r0 = i by omega]
  have Ao : ∀ u, S u = true → (fun l => if l = b then q else if r0 ≤ l ∧ l < r0 + n then r (l - r0) else A l) u = A u := fun u hu => by
    show (if u = b then q else if r0 ≤ u ∧ u < r0 + n then r (u - r0) else A u) = _
    rw [if_neg (sb u hu).1, if_neg (sb u hu).2]
  generalize (fun l => if l = b then q else if r0 ≤ l ∧ l < r0 + n then r (l - r0) else A l) = B at Ab Ar Ao
  have mr : ∀ i, i < n → r i ∈ (List.range n).map r := fun i hi => List.mem_map.mpr ⟨i, List.mem_range.mpr hi, rfl⟩
  refine ⟨fun u hu => ?_, fun u w hu hw e => ?_, fun u i w hT' => ?_, fun u i hu hT' => ?_⟩
  · rcases cs u hu with c | ⟨i, hi, c⟩ | hu'
    · subst c
      rw [Ab, gK_grid, gN_grid, hK, hN, hV]
      exact ⟨rfl, rfl, if_pos (Or.inl rfl), by decide⟩
    · subst c
      rw [Ar i hi, gK_gridr (f2 i hi).2 (mr i hi), gN_gridr (f2 i hi).2 (mr i hi), gI_gridr (mr i hi), (hKr i hi).1, (hKr i hi).2, hVr i hi]
      exact ⟨rfl, rfl, rfl, by decide⟩
    · obtain ⟨n1, n2⟩ := hne u hu'
      rw [Ao u hu', gK_gridn n1 n2, gN_gridn n1 n2, gI_gridn n1 n2]
      exact h1 u hu'
  · rcases cs u hu with c | ⟨i, hi, c⟩ | hu' <;> rcases cs w hw with c2 | ⟨j, hj, c2⟩ | hw'
    · rw [c, c2]
    · subst c; subst c2; rw [Ab, Ar j hj] at e; exact absurd e.symm (f2 j hj).2
    · subst c; rw [Ab, Ao w hw'] at e; exact absurd e.symm (hne w hw').1
    · subst c; subst c2; rw [Ab, Ar i hi] at e; exact absurd e (f2 i hi).2
    · subst c; subst c2; rw [Ar i hi, Ar j hj] at e; rw [f3 i j hi hj e]
    · subst c; rw [Ar i hi, Ao w hw'] at e; exact absurd (by rw [← e]; exact mr i hi) (hne w hw').2
    · subst c2; rw [Ab, Ao u hu'] at e; exact absurd e (hne u hu').1
    · subst c2; rw [Ar j hj, Ao u hu'] at e; exact absurd (by rw [e]; exact mr j hj) (hne u hu').2
    · rw [Ao u hu', Ao w hw'] at e; exact h2 u w hu' hw' e
  · replace hT' : (if u = b ∧ i < n then some (r0 + i) else T u i) = some w := hT'
    by_cases c : u = b ∧ i < n
    · rw [if_pos c] at hT'
      obtain ⟨c1, c2⟩ := c
      subst c1
      cases hT'
      refine ⟨by show (S u || _) = true; rw [decide_eq_true (Or.inl rfl), Bool.or_true], by show (S (r0 + i) || _) = true; rw [decide_eq_true (Or.inr (by omega)), Bool.or_true], ?_⟩
      rw [Ab, gR_grid, Ar i c2]; exact if_pos c2
    · rw [if_neg c] at hT'
      obtain ⟨p1, p2, p3⟩ := h3 u i w hT'
      obtain ⟨n1, n2⟩ := hne u p1
      refine ⟨by show (S u || _) = true; rw [p1]; rfl, by show (S w || _) = true; rw [p2]; rfl, ?_⟩
      rw [Ao u p1, Ao w p2, gR_gridn n1 n2]; exact p3
  · replace hT' : (if u = b ∧ i < n then some (r0 + i) else T u i) = none := hT'
    rcases cs u hu with c | ⟨j, hj, c⟩ | hu'
    · subst c
      by_cases c2 : i < n
      · rw [if_pos ⟨rfl, c2⟩] at hT'; cases hT'
      · rw [Ab, gR_grid]; exact if_neg c2
    · subst c
      rw [Ar j hj]
      show (if r j = q then _ else if r j ∈ (List.range n).map r then (fun _ => none) else _) i = none
      rw [if_neg (f2 j hj).2, if_pos (mr j hj)]
    · have c : ¬ (u = b ∧ i < n) := fun c => (sb u hu').1 c.1
      rw [if_neg c] at hT'
      obtain ⟨n1, n2⟩ := hne u hu'
      rw [Ao u hu', gR_gridn n1 n2]; exact h4 u i hu' hT'
/-- an array filled -/
theorem PB.fill {v : Int32} {Q : gS → Prop} (h : PB K N A S T V g) (l : Nat) {M : Nat} (ha : A l = a) (hl : S l = true) (hK : K l = 21) (hN : N l = M) (hM : M < 2 ^ 31) (hQ : ∀ g', PB K N A S T (va_up V l (fun i => if i < M then v else V l i)) g' → Q g') : w_J7_fill_53178 g a v Q := by
  unfold w_J7_fill_53178
  refine ⟨h.kk l ha hl hK, ?_⟩
  rw [h.nn l ha hl hN]
  refine lpx2_i M (fun k g' i => i = nI k ∧ PB K N A S T (va_up V l (fun i => if i < k then v else V l i)) g') ?_ ?_ g 0 ⟨rfl, ?_⟩
  · rintro k g1 _ hk ⟨rfl, h1⟩ K2 hK2
    unfold l_J7_fill_53178_5
    refine ⟨fun c => absurd c (nI_ge hk hM), fun _ => ⟨h1.kk l ha hl hK, by rw [h1.nn l ha hl hN]; exact vpi hk hM, fun g2 e2 => ?_⟩⟩
    rw [cl_nI (by omega)] at e2
    have h2 := h1.w l e2 ha hl
    rw [nI_1]
    refine hK2 _ _ ⟨rfl, ?_⟩
    have : su (va_up V l (fun i => if i < k then v else V l i)) l k v = va_up V l (fun i => if i < k + 1 then v else V l i) := by
      funext u j
      by_cases c : u = l
      · subst c
        rw [su_at, va_up_self, va_up_self]
        by_cases c2 : j = k
        · rw [if_pos c2, if_pos (by omega)]
        · rw [if_neg c2]
          by_cases c3 : j < k
          · rw [if_pos c3, if_pos (by omega)]
          · rw [if_neg c3, if_neg (by omega)]
      · rw [su_row c, va_up_ne _ _ c, va_up_ne _ _ c]
    rw [this] at h2; exact h2
  · rintro g1 _ ⟨rfl, h1⟩ K2
    unfold l_J7_fill_53178_5
    exact ⟨fun _ => hQ g1 h1, fun c => absurd (nI_le (Nat.le_refl _) hM) c⟩
  · have : va_up V l (fun i => if i < 0 then v else V l i) = V := by
      funext u j
      by_cases c : u = l
      · subst c; rw [va_up_self, if_neg (Nat.not_lt_zero _)]
      · rw [va_up_ne _ _ c]
    rw [this]; exact h
end PBUILD
