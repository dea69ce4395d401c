/-! THE SHELF MERGES: the whole method -/
section SMERGE2
variable {A : Nat → Nat} {U : Nat × (Nat → Int32)} {mA b vm : Nat} {σ : Rows} {n bf ns nn dr : Nat} {g g' g2 m0 : gS} {q : Nat}
/-- one round over the documents -/
theorem x_m134 {K : gS → Nat → Nat → Option Nat → Int32 → Prop} {C S mc ms : Nat} {r0 : Nat} {i1 i4 : Int32} {o3 : Option Nat} {Q : gS → gS → Prop} (h : K g C S o3 (i4 + 1)) : b_X11_merge_134 g m0 C S r0 i1 o3 i4 mc ms Q K := h
theorem whM_s {a d e : Nat} : whM σ a bf (d + 1) e = if e = d ∧ ¬ σ 15 e < nI a ∧ ¬ σ 5 e = 0 then 2 else whM σ a bf d e := by
  unfold whM
  by_cases c : e = d ∧ ¬ σ 15 e < nI a ∧ ¬ σ 5 e = 0
  · rw [if_pos c, if_pos ⟨by omega, c.2⟩]
  · rw [if_neg c]
    by_cases c2 : e < d ∧ ¬ σ 15 e < nI a ∧ ¬ σ 5 e = 0
    · rw [if_pos c2, if_pos ⟨by omega, c2.2⟩]
    · rw [if_neg c2, if_neg (fun q => by
        rcases Nat.lt_or_ge e d with z | z
        · exact c2 ⟨z, q.2⟩
        · exact c ⟨by omega, q.2⟩)]
theorem mdP_s {a d e : Nat} : mdP σ a (d + 1) e = (mdP σ a d e || (decide (d = e) && (!decide (σ 15 e < nI a) && decide (σ 5 e = 0)))) := by
  unfold mdP
  by_cases c : e = d
  · subst c
    rw [decide_eq_true (show e < e + 1 by omega), decide_eq_false (Nat.lt_irrefl e), decide_eq_true (rfl : e = e)]
    simp
  · rw [decide_eq_false (show ¬ d = e by omega)]
    by_cases c2 : e < d
    · rw [decide_eq_true c2, decide_eq_true (show e < d + 1 by omega)]; simp
    · rw [decide_eq_false c2, decide_eq_false (show ¬ e < d + 1 by omega)]; simp
/-- what was there keeps kind and length -/
def ON (g0 g : gS) : Prop := ∀ a, gK g0 a ≠ 0 → gK g a = gK g0 a ∧ gN g a = gN g0 a
theorem ON.rf : ON g g := fun _ _ => ⟨rfl, rfl⟩
theorem ON.kp {g0 : gS} (h : ON g0 g) (h0 : gK g q = 0) (hk : Kp g g' q) : ON g0 g' := fun a ha => by
  obtain ⟨a1, a2⟩ := h a ha
  have hq : a ≠ q := fun e => ha (by rw [← a1, e, h0])
  exact ⟨(hk a hq).1.trans a1, (hk a hq).2.1.trans a2⟩
theorem ON.kn {g0 : gS} (h : ON g0 g) (hk : ∀ a, gK g' a = gK g a) (hN : ∀ a, gN g' a = gN g a) : ON g0 g' := fun a ha => ⟨(hk a).trans (h a ha).1, (hN a).trans (h a ha).2⟩
/-- what holds ahead of document d -/
def MI (A : Nat → Nat) (mA b vm : Nat) (U : Nat × (Nat → Int32)) (σ : Rows) (n bf ns nn dr a : Nat) (t : Int32) (g0 : gS) (d : Nat) (g : gS) (C S : Nat) (o : Option Nat) (i : Int32) : Prop :=
  ON g0 g ∧ i = nI d ∧ C ≤ 1 + d ∧ S ≤ 1 + 64 * d ∧ SA A mA b vm U σ n ns nn dr (whM σ a bf d) g ∧ ∃ y, o = some y ∧ (∀ l, SKd ns l ≠ 0 → A l ≠ y) ∧ isL g y t 40 (mgL σ a d) (mdP σ a d)
theorem x_mstep {g0 : gS} {a d : Nat} {t : Int32} {C S : Nat} {o3 : Option Nat} {i4 : Int32} (hs : SG σ n bf ns) (hn16 : n ≤ 16) (ha : a ≤ ns) (hd : d < n) (h : MI A mA b vm U σ n bf ns nn dr a t g0 d g C S o3 i4) {Q : gS → gS → Prop} {K : gS → Nat → Nat → Option Nat → Int32 → Prop}
    (hK : ∀ g' C' S' o' i', MI A mA b vm U σ n bf ns nn dr a t g0 (d + 1) g' C' S' o' i' → K g' C' S' o' i') : l_X11_merge_11 m0 (A 0) (nI a) 20 1300 Q g C S o3 i4 K := by
  obtain ⟨hO, rfl, hC, hS, hA, y, rfl, hy, hL⟩ := h
  have hns := hA.2.2.2.2.2.1
  have mgl : mgL σ a d ≤ d := cnt_le _ _
  obtain ⟨f0, f1, f2, f3, f4, f5, f6, f7⟩ := hA.f
  obtain ⟨r0, r1, r4, r5, r6, r7, r8, r12, r14⟩ := hA.r
  obtain ⟨l1, l2, l3, l4, l5, l6, l7⟩ := hA.l
  have g5 : gI g (A 4) d = σ 5 d := hA.2.2.2.1.2.2.1 d (by omega)
  unfold l_X11_merge_11
  refine ⟨f0, fun c => ?_, fun _ => ?_⟩
  · rw [hA.n3] at c
    exact absurd c (nI_ge hd (by omega))
  · refine x_in hA hs ha hd (fun K26 => ?_)
    unfold l_X11_merge_26
    refine ⟨f0, _, r12, f6, fun _ => ?_, fun c => absurd ?_ c⟩
    · have v4 : vp_in (nI d) (gN g (A 4)) := by rw [l4]; exact vp_in_nI (by omega) (by decide)
      have v5 : vp_in (nI d) (gN g (A 5)) := by rw [l5]; exact vp_in_nI (by omega) (by decide)
      have cd : Int32.toNatClampNeg (nI d) = d := cl_nI (by omega)
      by_cases c15 : σ 15 d < nI a
      · -- it does not lie there
        have i0 : bI (!decide (σ 15 d < nI a)) = 0 := by rw [decide_eq_true c15]; rfl
        rw [i0]
        refine ⟨fun _ => ?_, fun c => absurd rfl c⟩
        unfold b_X11_merge_112
        refine ⟨fun _ => x_m134 ?_, fun c => absurd rfl c⟩
        rw [nI_1]
        refine hK _ _ _ _ _ ⟨hO, rfl, by omega, by omega, hA.whc (fun e he => ?_), y, rfl, hy, ?_⟩
        · rw [whM_s, if_neg (fun q => by obtain ⟨rfl, q2, -⟩ := q; exact q2 c15)]
        · have e1 : mgL σ a (d + 1) = mgL σ a d := by rw [mgL_s, if_neg (by rw [decide_eq_true c15]; simp)]; rfl
          rw [e1]
          refine hL.ext fun e he => ?_
          rw [mdP_s]
          by_cases q : d = e
          · subst q; rw [decide_eq_true c15]; simp
          · rw [decide_eq_false q]; simp
      · have i1 : bI (!decide (σ 15 d < nI a)) = 1 := by rw [decide_eq_false c15]; rfl
        rw [i1]
        refine ⟨fun c => absurd c (by decide), fun _ => ⟨_, r7, f4, v4, ?_⟩⟩
        rw [cd, g5]
        refine ⟨fun c5 => ?_, fun c5 => ⟨_, r8, f5, v5, fun g75 e75 => ?_⟩⟩
        · -- it stays
          unfold b_X11_merge_112
          refine ⟨fun c => absurd c (by decide), fun _ => ⟨f0, _, r7, f4, v4, ?_⟩⟩
          rw [cd, g5]
          refine ⟨fun _ => ⟨y, rfl, ⟨by omega, by omega⟩, ?_⟩, fun c => absurd c5 c⟩
          refine x_with hL.1 hL.2.1 (by omega) (fun q g' h0 hk k1' k2 k3 k4 => x_m134 ?_)
          rw [nI_1]
          have hq : ∀ l, SKd ns l ≠ 0 → A l ≠ q := fun l hl => hA.1.new h0 hl
          refine hK _ _ _ _ _ ⟨hO.kp h0 hk, rfl, by omega, by omega, (hA.keep hk hq).whc (fun e he => ?_), q, rfl, hq, ?_⟩
          · rw [whM_s, if_neg (fun z => by obtain ⟨rfl, -, z2⟩ := z; exact z2 c5)]
          · have e1 : mgL σ a (d + 1) = mgL σ a d + 1 := by rw [mgL_s, if_pos (by rw [decide_eq_false c15, decide_eq_true c5]; rfl)]
            rw [e1]
            refine (hL.more (show d < 40 by omega) (by omega) k1' k2 k3 k4).ext fun e he => ?_
            rw [mdP_s]
            by_cases z : d = e
            · subst z; rw [decide_eq_false c15, decide_eq_true c5]; simp
            · rw [decide_eq_false z]; simp
        · -- it goes
          subst e75
          have hA' := hA.where' (d := d) (v := 2)
          have hk : Kp g (sU g (A 5) d 2) (A 5) := Kp.sU
          have g5' : gI (sU g (A 5) d 2) (A 4) d = σ 5 d := by rw [(hk (A 4) (hA.1.ne (k1 (by decide)) (k1 (by decide)) (by decide))).2.2.1]; exact g5
          unfold b_X11_merge_112
          refine ⟨fun c => absurd c (by decide), fun _ => ⟨f0, _, r7, f4, v4, ?_⟩⟩
          rw [cd, g5']
          refine ⟨fun c => absurd c c5, fun _ => x_m134 ?_⟩
          rw [nI_1]
          refine hK _ _ _ _ _ ⟨hO.kn (fun _ => rfl) (fun _ => rfl), rfl, by omega, by omega, hA'.whc (fun e he => ?_), y, rfl, hy, ?_⟩
          · rw [whM_s]
            by_cases z : e = d
            · subst z; rw [if_pos rfl, if_pos ⟨rfl, c15, c5⟩]
            · rw [if_neg z, if_neg (fun w => z w.1)]
          · have e1 : mgL σ a (d + 1) = mgL σ a d := by rw [mgL_s, if_neg (by rw [decide_eq_false c5]; simp)]; rfl
            rw [e1]
            refine (hL.kp hk (fun z => hy 5 (k1 (by decide)) z.symm)).ext fun e he => ?_
            rw [mdP_s]
            by_cases z : d = e
            · subst z; rw [decide_eq_false c5]; simp
            · rw [decide_eq_false z]; simp
    · rw [l6]
      exact (nI_le_iff (by omega) (by omega)).mpr (Nat.le_refl _)
theorem m_size {a k : Nat} {t : Int32} (hs : SG σ n bf ns) (hn : n ≤ 60) (hns : ns ≤ 60) (ha : a ≤ ns) (hk : k < a) {d : Nat} : (mergeR σ n a t 15 d = nI k) ↔ σ 15 d = nI k := by
  rw [mergeR_15]
  by_cases c : σ 15 d < nI a
  · rw [if_neg (fun q => q.2 c)]
  · by_cases hd : d < n
    · rw [if_pos ⟨hd, c⟩]
      constructor
      · intro q
        by_cases c5 : σ 5 d = 0
        · rw [if_pos c5] at q
          have := (nI_inj (show a < 2 ^ 31 by omega) (show k < 2 ^ 31 by omega)).mp q
          omega
        · rw [if_neg c5] at q
          exact absurd q.symm (nI_nm1 (show k < 2 ^ 31 by omega))
      · intro q
        rw [q] at c
        exact absurd ((nI_lt_iff (show k < 2 ^ 31 by omega) (show a < 2 ^ 31 by omega)).mpr hk) c
    · rw [if_neg (fun q => hd q.1)]
theorem m_sizea {a : Nat} {t : Int32} (hs : SG σ n bf ns) (hn : n ≤ 60) (ha : a ≤ 60) {d : Nat} (hd6 : d < 60) : (mergeR σ n a t 15 d = nI a) ↔ (¬ σ 15 d < nI a ∧ σ 5 d = 0) := by
  rw [mergeR_15]
  by_cases c : σ 15 d < nI a
  · rw [if_neg (fun q => q.2 c)]
    refine ⟨fun q => ?_, fun q => absurd c q.1⟩
    rw [q] at c
    exact absurd ((nI_lt_iff (show a < 2 ^ 31 by omega) (show a < 2 ^ 31 by omega)).mp c) (Nat.lt_irrefl _)
  · have hd : d < n := by
      rcases Nat.lt_or_ge d n with z | z
      · exact z
      · exfalso; apply c
        rw [hs.2.1 d (hs.2.2.1 d z hd6) hd6, i32_lt, nI_toInt (show a < 2 ^ 31 by omega)]
        show (-1 : Int) < a
        omega
    rw [if_pos ⟨hd, c⟩]
    by_cases c5 : σ 5 d = 0
    · rw [if_pos c5]; exact ⟨fun _ => ⟨c, c5⟩, fun _ => rfl⟩
    · rw [if_neg c5]
      exact ⟨fun q => absurd q.symm (nI_nm1 (show a < 2 ^ 31 by omega)), fun q => absurd q.2 c5⟩
theorem whM_end {a : Nat} {t : Int32} (hs : SG σ n bf ns) (hn : n ≤ 60) (ha : a ≤ 60) {e : Nat} (he : e < 60) : whM σ a bf n e = whF (mergeR σ n a t) bf e := by
  unfold whM whF
  rw [mergeR_6]
  by_cases c : e < n ∧ ¬ σ 15 e < nI a ∧ ¬ σ 5 e = 0
  · rw [if_pos c, if_pos c]
    have h6 : ¬ σ 6 e = 0 := fun q => c.2.1 (by
      rw [hs.2.1 e q he, i32_lt, nI_toInt (show a < 2 ^ 31 by omega)]
      show (-1 : Int) < a
      omega)
    have := (hs.1 e c.1 h6).1
    rw [if_neg (by omega), if_pos rfl]
  · rw [if_neg c, if_neg c]
end SMERGE2
