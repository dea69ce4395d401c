/-! THE SHELF IS MADE -/
def shK (l : Nat) : Nat := if l = 191 then 22 else if l = 190 then 21 else SKd 0 l
def sNn (l : Nat) : Nat := if l = 8 ∨ l = 191 then 12 else if l = 190 then 3 else if l ≤ 5 then 40 else if l = 7 then 30 else if 10 ≤ l ∧ l < 50 then 3 else 0
def cuB (l : Nat) : Bool := decide (l = 1 ∨ (10 ≤ l ∧ l < 50) ∨ (60 ≤ l ∧ l < 180))
def cuA (A : Nat → Nat) (q l : Nat) : Nat := if l = 1 then q else if 10 ≤ l ∧ l < 50 then q + 1 + (l - 10) * 4 else if 60 ≤ l ∧ l < 180 then q + 1 + (l - 60) / 3 * 4 + 1 + (l - 60) % 3 else A l
def cuT (T : Nat → Nat → Option Nat) (x i : Nat) : Option Nat := if x = 1 ∧ i < 40 then some (10 + i) else if 10 ≤ x ∧ x < 50 ∧ i < 3 then some (60 + 3 * (x - 10) + i) else T x i
section SINIT
variable {A : Nat → Nat} {S : Nat → Bool} {T : Nat → Nat → Option Nat} {V σ : Rows} {g g' m0 gm : gS} {p0 q b k n : Nat} {R0 : Nat → Option Nat}
theorem PB.kp {K N : Nat → Nat} (h : PB K N A S T V g) (hk : Kp g g' q) (hq : ∀ l, S l = true → A l ≠ q) : PB K N A S T V g' := by
  obtain ⟨h1, h2, h3, h4⟩ := h
  refine ⟨fun l hl => ?_, h2, fun l i u hT => ?_, fun l i hl hT => ?_⟩
  · obtain ⟨a1, a2, a3, a4⟩ := hk (A l) (hq l hl)
    rw [a1, a2, a3]; exact h1 l hl
  · obtain ⟨p1, p2, p3⟩ := h3 l i u hT
    exact ⟨p1, p2, by rw [(hk (A l) (hq l p1)).2.2.2]; exact p3⟩
  · rw [(hk (A l) (hq l hl)).2.2.2]; exact h4 l i hl hT
/-- the cells made so far, and the shelf's own -/
def PZ (p0 : Nat) (A : Nat → Nat) (S : Nat → Bool) (T : Nat → Nat → Option Nat) (V : Rows) (R0 : Nat → Option Nat) (g : gS) : Prop := PB shK sNn A S T V g ∧ gK g p0 = 12 ∧ (∀ i, gR g p0 i = R0 i) ∧ (∀ i, gI g p0 i = 0) ∧ ∀ l, S l = true → A l ≠ p0
theorem PZ.kk (h : PZ p0 A S T V R0 g) : gK g p0 = 12 := h.2.1
theorem PZ.new (h : PZ p0 A S T V R0 g) (l : Nat) (e : g' = sNew g q k n) (hq : gK g q = 0) (hk : shK l = k) (hn : sNn l = n) (h0 : k ≠ 0) (hS : S l = false) (hT : ∀ i, T l i = none) (hV : V l = fun _ => 0) : PZ p0 (va_up A l q) (fun x => S x || decide (x = l)) T V R0 g' := by
  obtain ⟨h1, h2, h3, h4, h5⟩ := h
  have hp : p0 ≠ q := fun z => by rw [z, hq] at h2; exact absurd h2 (by decide)
  have hb := h1.new l e hq hk hn h0 hS hT hV
  subst e
  have hk' := Kp.new (g := g) (q := q) (k := k) (m := n) p0 hp
  refine ⟨hb, hk'.1.trans h2, fun i => by rw [hk'.2.2.2]; exact h3 i, fun i => by rw [hk'.2.2.1]; exact h4 i, fun x hx => ?_⟩
  by_cases c : x = l
  · subst c; rw [va_up_self]; exact fun z => hp z.symm
  · have hx : (S x || decide (x = l)) = true := hx
    rw [decide_eq_false c, Bool.or_false] at hx
    rw [va_up_ne _ _ c]; exact h5 x hx
theorem PZ.fld (h : PZ p0 A S T V R0 g) {i : Nat} {z : Option Nat} (e : g' = sV g p0 i z) : PZ p0 A S T V (fun x => if x = i then z else R0 x) g' := by
  subst e
  obtain ⟨h1, h2, h3, h4, h5⟩ := h
  refine ⟨h1.kp Kp.sV h5, h2, fun x => ?_, h4, h5⟩
  rw [gR_sVs]
  show (if x = i then z else gR g p0 x) = if x = i then z else R0 x
  by_cases c : x = i
  · rw [if_pos c, if_pos c]
  · rw [if_neg c, if_neg c]; exact h3 x
theorem PZ.w (h : PZ p0 A S T V R0 g) (l : Nat) {i : Nat} {v : Int32} (e : g' = sU g q i v) (ha : A l = q) (hl : S l = true) : PZ p0 A S T (su V l i v) R0 g' := by
  obtain ⟨h1, h2, h3, h4, h5⟩ := h
  have hb := h1.w l e ha hl
  subst e
  have hp : p0 ≠ q := fun z => h5 l hl (ha.trans z.symm)
  have hk' := Kp.sU (g := g) (q := q) (k := i) (v := v) p0 hp
  exact ⟨hb, hk'.1.trans h2, fun x => by rw [hk'.2.2.2]; exact h3 x, fun x => by rw [hk'.2.2.1]; exact h4 x, h5⟩
theorem cuB_iff {l : Nat} : cuB l = true ↔ (l = 1 ∨ (10 ≤ l ∧ l < 50) ∨ (60 ≤ l ∧ l < 180)) := by
  unfold cuB; exact decide_eq_true_iff
theorem cuA_o {l : Nat} (h : ¬ cuB l = true) : cuA A q l = A l := by
  rw [cuB_iff] at h
  unfold cuA
  rw [if_neg (by omega), if_neg (by omega), if_neg (by omega)]
theorem cuA_in {l : Nat} (h : cuB l = true) : q ≤ cuA A q l ∧ cuA A q l < q + 1 + 40 * (1 + 3) := by
  rw [cuB_iff] at h
  unfold cuA
  split
  · omega
  · split
    · omega
    · split
      · omega
      · omega
/-- what the cells of a block of rows of rows hold -/
theorem cube_1 : gK (sCube g q 40 3 0) q = 28 ∧ gN (sCube g q 40 3 0) q = 40 ∧ gI (sCube g q 40 3 0) q = (fun _ => 0) ∧ ∀ i, gR (sCube g q 40 3 0) q i = if i < 40 then some (q + 1 + i * 4) else none := by
  refine ⟨?_, ?_, ?_, fun i => ?_⟩
  · show (if _ then _ else if _ then _ else _) = _
    rw [if_neg (by omega), if_pos rfl]
  · show (if _ then _ else if _ then _ else _) = _
    rw [if_neg (by omega), if_pos rfl]
  · show (if _ then _ else _) = _
    rw [if_neg (by omega)]
  · show (if _ then _ else if _ then _ else _ : Nat → Option Nat) i = _
    rw [if_neg (by omega), if_pos rfl]
theorem cube_2 {d : Nat} (hd : d < 40) : gK (sCube g q 40 3 0) (q + 1 + d * 4) = 24 ∧ gN (sCube g q 40 3 0) (q + 1 + d * 4) = 3 ∧ gI (sCube g q 40 3 0) (q + 1 + d * 4) = (fun _ => 0) ∧ ∀ i, gR (sCube g q 40 3 0) (q + 1 + d * 4) i = if i < 3 then some (q + 1 + d * 4 + 1 + i) else none := by
  refine ⟨?_, ?_, ?_, fun i => ?_⟩
  · show (if _ then _ else if _ then _ else if _ then _ else _) = _
    rw [if_neg (by omega), if_neg (by omega), if_pos (by omega)]
  · show (if _ then _ else if _ then _ else if _ then _ else _) = _
    rw [if_neg (by omega), if_neg (by omega), if_pos (by omega)]
  · show (if _ then _ else _) = _
    rw [if_neg (by omega)]
  · show (if _ then _ else if _ then _ else if _ then _ else _ : Nat → Option Nat) i = _
    rw [if_neg (by omega), if_neg (by omega), if_pos (by omega)]
theorem cube_3 {d f : Nat} (hd : d < 40) (hf : f < 3) : gK (sCube g q 40 3 0) (q + 1 + d * 4 + 1 + f) = 21 ∧ gN (sCube g q 40 3 0) (q + 1 + d * 4 + 1 + f) = 0 ∧ gI (sCube g q 40 3 0) (q + 1 + d * 4 + 1 + f) = (fun _ => 0) ∧ ∀ i, gR (sCube g q 40 3 0) (q + 1 + d * 4 + 1 + f) i = none := by
  refine ⟨?_, ?_, ?_, fun i => ?_⟩
  · show (if _ then _ else if _ then _ else if _ then _ else _) = _
    rw [if_neg (by omega), if_neg (by omega), if_neg (by omega)]
  · show (if _ then _ else if _ then _ else if _ then _ else _) = _
    rw [if_neg (by omega), if_neg (by omega), if_neg (by omega)]
  · show (if _ then _ else _) = _
    rw [if_neg (by omega)]
  · show (if _ then _ else if _ then _ else if _ then _ else _ : Nat → Option Nat) i = _
    rw [if_neg (by omega), if_neg (by omega), if_neg (by omega)]
theorem cube_o {a : Nat} (h : a < q ∨ q + 1 + 40 * (1 + 3) ≤ a) : gK (sCube g q 40 3 0) a = gK g a ∧ gN (sCube g q 40 3 0) a = gN g a ∧ gI (sCube g q 40 3 0) a = gI g a ∧ gR (sCube g q 40 3 0) a = gR g a := ⟨if_pos h, if_pos h, if_pos h, if_pos h⟩
theorem PZ.cube (h : PZ p0 A S T V R0 g) (e : g' = sCube g q 40 3 0) (hf : ∀ a, q ≤ a → gK g a = 0) (hS : ∀ l, S l = false) (hT : ∀ l i, T l i = none) (hV : ∀ l, V l = fun _ => 0) : PZ p0 (cuA A q) cuB (cuT T) V R0 g' := by
  subst e
  obtain ⟨h1, h2, h3, h4, h5⟩ := h
  have hp : p0 < q := by
    rcases Nat.lt_or_ge p0 q with z | z
    · exact z
    · rw [hf p0 z] at h2; exact absurd h2 (by decide)
  obtain ⟨o1, o2, o3, o4⟩ := cube_o (g := g) (q := q) (a := p0) (Or.inl hp)
  have a1 : cuA A q 1 = q := if_pos rfl
  have a2 : ∀ d, d < 40 → cuA A q (10 + d) = q + 1 + d * 4 := fun d hd => by
    unfold cuA
    rw [if_neg (by omega), if_pos (by omega), show 10 + d - 10 = d by omega]
  have a3 : ∀ d f, d < 40 → f < 3 → cuA A q (60 + 3 * d + f) = q + 1 + d * 4 + 1 + f := fun d f hd hf => by
    unfold cuA
    rw [if_neg (by omega), if_neg (by omega), if_pos (by omega), show (60 + 3 * d + f - 60) / 3 = d by omega, show (60 + 3 * d + f - 60) % 3 = f by omega]
  have cs : ∀ l, cuB l = true → l = 1 ∨ (∃ d, d < 40 ∧ l = 10 + d) ∨ ∃ d f, d < 40 ∧ f < 3 ∧ l = 60 + 3 * d + f := fun l hl => by
    rcases cuB_iff.mp hl with z | z | z
    · exact Or.inl z
    · exact Or.inr (Or.inl ⟨l - 10, by omega, by omega⟩)
    · exact Or.inr (Or.inr ⟨(l - 60) / 3, (l - 60) % 3, by omega, by omega, by omega⟩)
  refine ⟨⟨fun l hl => ?_, fun l u hl hu e => ?_, fun l i u hT' => ?_, fun l i hl hT' => ?_⟩, o1.trans h2, fun i => by rw [o4]; exact h3 i, fun i => by rw [o3]; exact h4 i, fun l hl => ?_⟩
  · rw [hV l]
    rcases cs l hl with z | ⟨d, hd, z⟩ | ⟨d, f, hd, hf', z⟩
    · subst z
      rw [a1]
      obtain ⟨c1, c2, c3, -⟩ := cube_1 (g := g) (q := q)
      exact ⟨c1, c2, c3, by decide⟩
    · subst z
      rw [a2 d hd]
      obtain ⟨c1, c2, c3, -⟩ := cube_2 (g := g) (q := q) hd
      have e1 : shK (10 + d) = 24 := by unfold shK; rw [if_neg (by omega), if_neg (by omega)]; exact k10 hd
      have e2 : sNn (10 + d) = 3 := by unfold sNn; rw [if_neg (by omega), if_neg (by omega), if_neg (by omega), if_neg (by omega), if_pos (by omega)]
      rw [e1, e2]
      exact ⟨c1, c2, c3, by decide⟩
    · subst z
      rw [a3 d f hd hf']
      obtain ⟨c1, c2, c3, -⟩ := cube_3 (g := g) (q := q) hd hf'
      have e1 : shK (60 + 3 * d + f) = 21 := by unfold shK; rw [if_neg (by omega), if_neg (by omega)]; exact k60 hd hf'
      have e2 : sNn (60 + 3 * d + f) = 0 := by unfold sNn; rw [if_neg (by omega), if_neg (by omega), if_neg (by omega), if_neg (by omega), if_neg (by omega)]
      rw [e1, e2]
      exact ⟨c1, c2, c3, by decide⟩
  · rcases cs l hl with z | ⟨d, hd, z⟩ | ⟨d, f, hd, hf', z⟩ <;> rcases cs u hu with w | ⟨c, hc, w⟩ | ⟨c, f', hc, hf2, w⟩
    · omega
    · subst z; subst w; rw [a1, a2 c hc] at e; omega
    · subst z; subst w; rw [a1, a3 c f' hc hf2] at e; omega
    · subst z; subst w; rw [a1, a2 d hd] at e; omega
    · subst z; subst w; rw [a2 d hd, a2 c hc] at e; omega
    · subst z; subst w; rw [a2 d hd, a3 c f' hc hf2] at e; omega
    · subst z; subst w; rw [a1, a3 d f hd hf'] at e; omega
    · subst z; subst w; rw [a2 c hc, a3 d f hd hf'] at e; omega
    · subst z; subst w; rw [a3 d f hd hf', a3 c f' hc hf2] at e; omega
  · unfold cuT at hT'
    split at hT'
    · rename_i c
      obtain ⟨rfl, hi⟩ := c
      cases hT'
      refine ⟨by decide, cuB_iff.mpr (by omega), ?_⟩
      rw [a1, a2 i hi, (cube_1 (g := g) (q := q)).2.2.2 i, if_pos hi]
    · split at hT'
      · rename_i c
        obtain ⟨c1, c2, c3⟩ := c
        cases hT'
        refine ⟨cuB_iff.mpr (by omega), cuB_iff.mpr (by omega), ?_⟩
        have e1 := a2 (l - 10) (by omega)
        rw [show 10 + (l - 10) = l by omega] at e1
        rw [e1, a3 (l - 10) i (by omega) c3, (cube_2 (g := g) (q := q) (show l - 10 < 40 by omega)).2.2.2 i, if_pos c3]
      · rw [hT l i] at hT'; cases hT'
  · unfold cuT at hT'
    rcases cs l hl with z | ⟨d, hd, z⟩ | ⟨d, f, hd, hf', z⟩
    · subst z
      rw [a1, (cube_1 (g := g) (q := q)).2.2.2 i]
      by_cases c : i < 40
      · rw [if_pos ⟨rfl, c⟩] at hT'; cases hT'
      · rw [if_neg c]
    · subst z
      rw [a2 d hd, (cube_2 (g := g) (q := q) hd).2.2.2 i]
      by_cases c : i < 3
      · rw [if_neg (by omega), if_pos (by omega)] at hT'; cases hT'
      · rw [if_neg c]
    · subst z
      rw [a3 d f hd hf']
      exact (cube_3 (g := g) (q := q) hd hf').2.2.2 i
  · have := (cuA_in (A := A) (q := q) hl).1
    omega
end SINIT
