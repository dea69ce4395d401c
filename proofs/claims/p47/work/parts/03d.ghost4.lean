/-! new T[n][m] over the ghost heap -/
def gFresh (g : gS) (q : Nat) (r : Nat → Nat) (N : Nat) : Prop := gK g q = 0 ∧ (∀ i, i < N → gK g (r i) = 0 ∧ r i ≠ q) ∧ ∀ i j, i < N → j < N → r i = r j → i = j
theorem gK_grid {g : gS} {q n m : Nat} {r : Nat → Nat} : gK (sGrid g q r n m) q = 24 := if_pos rfl
theorem gN_grid {g : gS} {q n m : Nat} {r : Nat → Nat} : gN (sGrid g q r n m) q = n := if_pos rfl
theorem gR_grid {g : gS} {q n m : Nat} {r : Nat → Nat} : gR (sGrid g q r n m) q = fun i => if i < n then some (r i) else none := if_pos rfl
theorem gK_gridr {g : gS} {q n m a : Nat} {r : Nat → Nat} (h : a ≠ q) (h2 : a ∈ (List.range n).map r) : gK (sGrid g q r n m) a = 21 := (if_neg h).trans (if_pos h2)
theorem gN_gridr {g : gS} {q n m a : Nat} {r : Nat → Nat} (h : a ≠ q) (h2 : a ∈ (List.range n).map r) : gN (sGrid g q r n m) a = m := (if_neg h).trans (if_pos h2)
theorem gI_gridr {g : gS} {q n m a : Nat} {r : Nat → Nat} (h2 : a ∈ (List.range n).map r) : gI (sGrid g q r n m) a = fun _ => 0 := if_pos (Or.inr h2)
theorem gK_gridn {g : gS} {q n m a : Nat} {r : Nat → Nat} (h : a ≠ q) (h2 : a ∉ (List.range n).map r) : gK (sGrid g q r n m) a = gK g a := (if_neg h).trans (if_neg h2)
theorem gN_gridn {g : gS} {q n m a : Nat} {r : Nat → Nat} (h : a ≠ q) (h2 : a ∉ (List.range n).map r) : gN (sGrid g q r n m) a = gN g a := (if_neg h).trans (if_neg h2)
theorem gI_gridn {g : gS} {q n m a : Nat} {r : Nat → Nat} (h : a ≠ q) (h2 : a ∉ (List.range n).map r) : gI (sGrid g q r n m) a = gI g a := if_neg (fun z => z.elim h h2)
theorem gR_gridn {g : gS} {q n m a : Nat} {r : Nat → Nat} (h : a ≠ q) (h2 : a ∉ (List.range n).map r) : gR (sGrid g q r n m) a = gR g a := (if_neg h).trans (if_neg h2)
theorem gJ_gridn {g : gS} {q n m a : Nat} {r : Nat → Nat} (h : a ≠ q) (h2 : a ∉ (List.range n).map r) : gJ (sGrid g q r n m) a = gJ g a := if_neg (fun z => z.elim h h2)
section GROWS4
variable {p : Program} {l : Launch} {e : Env} {R : Room} {s : State} {m : MethodId} {args : Array Value} {below : List Frame} {meth : Method} {c : Code} {H : Heap} {locs : List Loc} {cells slots : Nat} {Q : State → Prop}
variable {cc : ByteArray} {pc nL : Nat} {ls : Array Slot} {rest st0 : List Value} {D : va_G} {cA : Nat → ClassId} {A : Nat → Prop} {a : Nat} {g g0 : gS} {Ts : List Cond} {own : String} {arr : Array Value} {mc ms sz : Nat}
theorem g_mna (CF : CallFix p m c cc nL s args Ts own) (hc : gC D cA A s g H locs) {index : Nat} (hcl : Cond.classLink own index "[[I" ∈ Ts) (harr : Cond.arrayClass .int ∈ Ts) {n k : Int32} {N M : Nat} (hn : ¬ n < 0) (hk : ¬ k < 0) (hN : n.toNatClampNeg = N) (hM : k.toNatClampNeg = M) (hb1 : N ≤ 134217728) (hb2 : M ≤ 134217728) (hcells : cells + (1 + N) ≤ R.cells) (hslots : slots + (N + N * M) ≤ R.slots) (hdg : decode cc pc = .ok (.multianewarray index 2, 4))
    (kk : ∀ (q : Nat) (r : Nat → Nat) (H1 : Heap) (locs1 : List Loc), gFresh g q r N → gC D cA A s (sGrid g q r N M) H1 locs1 → W p l e R s m args below meth c H1 locs1 (cells + 1 + N) (slots + N + N * M) Q (F0 m (pc + 4) ls (.ref q :: rest))) : W p l e R s m args below meth c H locs cells slots Q (F0 m pc ls (.int k :: .int n :: rest)) := by
  obtain ⟨hx, hb, hml, hown, hts⟩ := CF
  obtain ⟨P, hPm, hP, hD⟩ := hc.2.2.2.1
  have hDA : va_D A (va_pl P (gE cA g)) := va_D_of hD (fun k q hk => hc.2.2.2.2.1 _ ((hPm _).mp (va_pl_mem hk)))
  have hcy : s.vm.findClass (FieldType.array .int).toString = some (cA 0) := (hc.1.1.2 0 (cA 0, .int) rfl).2
  refine va_mna (X := []) (L := P) (f := gE cA g) (ty := .int) (z := (M, .inl (fun _ => 0))) hx hb hown (hts _ hcl) hc.1.2.2.2.2.2.2.1 (hts _ harr) hcy hc.1.1 hP hDA hc.2.2.2.2.2 hc.2.1 hn hk hN hM (by omega) (by show M * 4 ≤ _; omega) (by omega) rfl rfl hcells hslots (fun c => ?_) hdg (fun q r cA' H1 hinj hfr hK1 hP1 hD1 hS1 => ?_)
  · show ({ cls := c, slots := Array.replicate M (.int 0), vm := .none } : Cell) = vp_cell c (M, .inl (fun _ => 0))
    rw [arrV_new]; rfl
  have e : cA' = cA 3 := va_RA_inj (hK1.2 8 (cA', .array .int) rfl).2 (hc.1.1.2 3 (cA 3, .array .int) rfl).2
  subst e
  have hq0 : ∀ (k : Nat) (x : Nat × va_E), (va_pl (P ++ (List.range N).map r) (vr_up (gE cA g) ((List.range N).map r) (.inl (cA 0, (M, .inl (fun _ => 0))))))[k]? = some x → x.1 ≠ q := by
    intro k x hx2 he
    have h1 := hD1.1 0 (k + 1) _ x (by rfl) (by rw [List.getElem?_append_right (by simp)]; simpa using hx2) he.symm
    omega
  have hqP : ∀ b, b ∈ P ++ (List.range N).map r → b ≠ q := by
    intro b hb2
    obtain ⟨j, hj⟩ := va_pl_get (X := []) (f := vr_up (gE cA g) ((List.range N).map r) (.inl (cA 0, (M, .inl (fun _ => 0))))) hb2
    exact hq0 j _ hj
  have h0 : gK g q = 0 := by
    by_cases h : gK g q = 0
    · exact h
    · exact absurd rfl (hqP q (List.mem_append_left _ ((hPm q).mpr h)))
  have hr0 : ∀ i, i < N → gK g (r i) = 0 ∧ r i ≠ q := by
    intro i hi
    refine ⟨?_, hqP _ (List.mem_append_right _ (List.mem_map.mpr ⟨i, List.mem_range.mpr hi, rfl⟩))⟩
    by_cases h : gK g (r i) = 0
    · exact h
    · exact absurd ((hPm _).mpr h) (hfr i hi)
  have hPr : ∀ b, b ∈ P → b ∉ (List.range N).map r := by
    intro b hb2 hm
    obtain ⟨i, hi, he⟩ := List.mem_map.mp hm
    exact hfr i (List.mem_range.mp hi) (he ▸ hb2)
  have hl : ([] ++ [(q, (.inl (cA 3, N, .inr (.inr (.inr (.inr (fun i => if i < N then some (r i) else none))))) : va_E))]) ++ va_pl (P ++ (List.range N).map r) (vr_up (gE cA g) ((List.range N).map r) (.inl (cA 0, (M, .inl (fun _ => 0))))) = va_pl (q :: (P ++ (List.range N).map r)) (gE cA (sGrid g q r N M)) := by
    show (q, _) :: va_pl _ _ = (q, gE cA (sGrid g q r N M) q) :: va_pl _ _
    rw [gE_q (j := 0) gK_grid (by omega), gN_grid, gR_grid]
    refine congrArg (fun x => _ :: x) ?_
    unfold va_pl
    apply List.map_congr_left
    intro b hb2
    have hbq := hqP b hb2
    by_cases hbr : b ∈ (List.range N).map r
    · rw [vr_up_in hbr, gE_i (gK_gridr hbq hbr), gN_gridr hbq hbr, gI_gridr hbr]
    · rw [vr_up_ne hbr]
      exact congrArg (fun x => (b, x)) (gE_congr (gK_gridn hbq hbr).symm (gN_gridn hbq hbr).symm (gI_gridn hbq hbr).symm (gR_gridn hbq hbr).symm (gJ_gridn hbq hbr).symm)
  rw [hl] at hP1 hD1
  obtain ⟨c1, c2, c3, c4, c5, c6⟩ := hc
  refine kk q r H1 _ ⟨h0, hr0, hinj⟩ ⟨c1, c2, c3, ⟨q :: (P ++ (List.range N).map r), fun b => ?_, hP1, va_D_of hD1 (fun _ _ _ => trivial)⟩, fun b hb2 => ?_, hS1⟩
  · by_cases hbq : b = q
    · subst hbq; simp [gK_grid]
    · by_cases hbr : b ∈ (List.range N).map r
      · rw [gK_gridr hbq hbr]; simp only [List.mem_cons, List.mem_append, hbr, or_true, ne_eq, true_iff]; decide
      · rw [gK_gridn hbq hbr]; simp only [List.mem_cons, List.mem_append, hbq, hbr, or_false, false_or]; exact hPm b
  · by_cases hbq : b = q
    · obtain ⟨j, hj⟩ := va_pl_get (X := []) (L := q :: (P ++ (List.range N).map r)) (f := gE cA (sGrid g q r N M)) (a := b) (by simp [hbq])
      exact hD1.2 j _ hj
    · by_cases hbr : b ∈ (List.range N).map r
      · obtain ⟨j, hj⟩ := va_pl_get (X := []) (L := q :: (P ++ (List.range N).map r)) (f := gE cA (sGrid g q r N M)) (a := b) (by simp only [List.mem_cons, List.mem_append, hbr, or_true])
        exact hD1.2 j _ hj
      · rw [gK_gridn hbq hbr] at hb2; exact c5 b hb2
end GROWS4
