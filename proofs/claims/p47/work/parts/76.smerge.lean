/-! THE SHELF MERGES as the engine does -/
section SMERGE
variable {A : Nat → Nat} {U : Nat × (Nat → Int32)} {mA b vm : Nat} {σ : Rows} {n bf ns nn dr : Nat} {wh : Nat → Int32} {g g' g2 m0 : gS} {q : Nat}
theorem SA.f (h : SA A mA b vm U σ n ns nn dr wh g) : gK g (A 0) = 12 ∧ gK g (A 1) = 28 ∧ gK g (A 2) = 21 ∧ gK g (A 3) = 21 ∧ gK g (A 4) = 22 ∧ gK g (A 5) = 21 ∧ gK g (A 6) = 24 ∧ gK g (A 7) = 24 :=
  ⟨h.1.1 0 (k1 (by decide)), h.1.1 1 (k1 (by decide)), h.1.1 2 (k1 (by decide)), h.1.1 3 (k1 (by decide)), h.1.1 4 (k1 (by decide)), h.1.1 5 (k1 (by decide)), h.1.1 6 (k1 (by decide)), h.1.1 7 (k1 (by decide))⟩
theorem SA.r (h : SA A mA b vm U σ n ns nn dr wh g) : gR g (A 0) 0 = some mA ∧ gR g (A 0) 1 = some b ∧ gR g (A 0) 4 = some (A 1) ∧ gR g (A 0) 5 = some (A 2) ∧ gR g (A 0) 6 = some (A 3) ∧ gR g (A 0) 7 = some (A 4) ∧ gR g (A 0) 8 = some (A 5) ∧ gR g (A 0) 12 = some (A 6) ∧ gR g (A 0) 14 = some (A 7) := h.2.1.1
theorem SA.l (h : SA A mA b vm U σ n ns nn dr wh g) : gN g (A 1) = 40 ∧ gN g (A 2) = 40 ∧ gN g (A 3) = 40 ∧ gN g (A 4) = 40 ∧ gN g (A 5) = 40 ∧ gN g (A 6) = ns ∧ gN g (A 7) = 30 := h.2.2.1.1
theorem SA.sg (h : SA A mA b vm U σ n ns nn dr wh g) {k : Nat} (hk : k < ns) : gR g (A 6) k = some (A (200 + k)) ∧ isL g (A (200 + k)) (σ 14 k) 40 (sizeF σ n (nI k)) (fun d => decide (σ 15 d = nI k)) := ⟨h.2.1.2.2.2 k hk, h.2.2.2.1.2.2.2.2.2 k hk⟩
theorem SA.n3 (h : SA A mA b vm U σ n ns nn dr wh g) : gI g (A 0) 3 = nI n := h.2.2.2.1.1.2.1
theorem sizeF_le {s : Int32} : sizeF σ n s ≤ n := cnt_le _ _
/-- is a document in a segment from one on -/
theorem m_in (hs : SG σ n bf ns) (hn : n ≤ 60) (hns : ns ≤ 60) {a d : Nat} (ha : a ≤ ns) (hd : d < n) : orB (fun s => decide (σ 15 d = nI (a + s))) (ns - a) = !decide (σ 15 d < nI a) := by
  by_cases c6 : σ 6 d = 0
  · have e := hs.2.1 d c6 (by omega)
    rw [e, decide_eq_true (show (-1 : Int32) < nI a by
      rw [i32_lt, nI_toInt (show a < 2 ^ 31 by omega)]
      show (-1 : Int) < a
      omega)]
    cases e1 : orB (fun s => decide ((-1 : Int32) = nI (a + s))) (ns - a) with
    | false => rfl
    | true =>
      obtain ⟨s, hs1, e2⟩ := orB_iff.mp e1
      exact absurd (of_decide_eq_true e2).symm (nI_nm1 (show a + s < 2 ^ 31 by omega))
  · obtain ⟨-, s, hs1, -, e⟩ := hs.1 d hd c6
    rw [e]
    by_cases c : s < a
    · rw [decide_eq_true ((nI_lt_iff (show s < 2 ^ 31 by omega) (show a < 2 ^ 31 by omega)).mpr c)]
      cases e1 : orB (fun t => decide (nI s = nI (a + t))) (ns - a) with
      | false => rfl
      | true =>
        obtain ⟨t, ht, e2⟩ := orB_iff.mp e1
        have := (nI_inj (show s < 2 ^ 31 by omega) (show a + t < 2 ^ 31 by omega)).mp (of_decide_eq_true e2)
        omega
    · rw [decide_eq_false (fun q => c ((nI_lt_iff (show s < 2 ^ 31 by omega) (show a < 2 ^ 31 by omega)).mp q))]
      refine orB_iff.mpr ⟨s - a, by omega, decide_eq_true ?_⟩
      rw [show a + (s - a) = s by omega]
/-- whether a document lies in the segments from one on -/
theorem x_in (h : SA A mA b vm U σ n ns nn dr wh g) (hs : SG σ n bf ns) {a d C S : Nat} {o3 : Option Nat} (ha : a ≤ ns) (hd : d < n) {mc ms : Nat} {Q : gS → gS → Prop} {K : gS → Nat → Nat → Option Nat → Int32 → Prop}
    (hQ : ∀ K26 : Int32 → Int32 → Prop, l_X11_merge_26 g m0 C S (A 0) (nI a) o3 (nI d) mc ms Q K (bI (!decide (σ 15 d < nI a))) (nI ns) K26) : lpx2 (l_X11_merge_26 g m0 C S (A 0) (nI a) o3 (nI d) mc ms Q K) 0 (nI a) := by
  obtain ⟨f0, f1, f2, f3, f4, f5, f6, f7⟩ := h.f
  obtain ⟨r0, r1, r4, r5, r6, r7, r8, r12, r14⟩ := h.r
  obtain ⟨l1, l2, l3, l4, l5, l6, l7⟩ := h.l
  have hn := h.2.2.2.2.1
  have hns := h.2.2.2.2.2.1
  refine lpx2_s (ns - a) (fun j => bI (orB (fun s => decide (σ 15 d = nI (a + s))) j)) (fun j => nI (a + j)) rfl rfl (fun j hj K26 hK => ?_) (fun K26 => ?_)
  · have hk : a + j < ns := by omega
    obtain ⟨s1, s2, s3, s4, s5⟩ := h.sg hk
    have hm : sizeF σ n (nI (a + j)) ≤ n := sizeF_le
    generalize sizeF σ n (nI (a + j)) = m at s3 s5 hm
    unfold l_X11_merge_26
    refine ⟨f0, _, r12, f6, fun c => ?_, fun _ => ?_⟩
    · rw [l6] at c
      exact absurd c (nI_ge hk (by omega))
    · refine lpx2_s m (fun i => bI (orB (fun s => decide (σ 15 d = nI (a + s))) j || orB (fun i => decide (gI g (A (200 + (a + j))) (1 + i) = nI d)) i)) (fun i => nI (1 + i)) (by rw [orB, Bool.or_false]) rfl (fun i hi K39 hK39 => ?_) (fun K39 => ?_)
      · unfold l_X11_merge_39 b_X11_merge_74
        have vk : vp_in (nI (a + j)) (gN g (A 6)) := by rw [l6]; exact vp_in_nI hk (by omega)
        have gr : gR g (A 6) (Int32.toNatClampNeg (nI (a + j))) = some (A (200 + (a + j))) := by rw [cl_nI (by omega)]; exact s1
        refine ⟨f0, _, r12, f6, vk, _, gr, s2, fun c => ?_, fun _ => ⟨_, r12, f6, vk, _, gr, s2, ?_, ?_⟩⟩
        · rw [s3] at c
          exact absurd c (nI_ge (show 1 + i < 1 + m by omega) (by omega))
        · rw [s3]; exact vp_in_nI (by omega) (by omega)
        · rw [cl_nI (show 1 + i < 2 ^ 31 by omega)]
          have hK39 : K39 (bI (orB (fun s => decide (σ 15 d = nI (a + s))) j || (orB (fun i => decide (gI g (A (200 + (a + j))) (1 + i) = nI d)) i || decide (gI g (A (200 + (a + j))) (1 + i) = nI d)))) (nI (1 + (i + 1))) := hK39
          rw [← Bool.or_assoc, show 1 + (i + 1) = 1 + i + 1 by omega, ← nI_1, ← bI_or] at hK39
          refine ⟨fun c => ?_, fun c => ?_⟩
          · rw [decide_eq_true c] at hK39; exact hK39
          · rw [decide_eq_false c] at hK39; exact hK39
      · unfold l_X11_merge_39
        have vk : vp_in (nI (a + j)) (gN g (A 6)) := by rw [l6]; exact vp_in_nI hk (by omega)
        have gr : gR g (A 6) (Int32.toNatClampNeg (nI (a + j))) = some (A (200 + (a + j))) := by rw [cl_nI (by omega)]; exact s1
        refine ⟨f0, _, r12, f6, vk, _, gr, s2, fun _ => ?_, fun c => absurd ?_ c⟩
        · rw [s5 d (by omega)]
          have hK : K26 (bI (orB (fun s => decide (σ 15 d = nI (a + s))) j || decide (σ 15 d = nI (a + j)))) (nI (a + (j + 1))) := hK
          rw [show a + (j + 1) = a + j + 1 by omega, ← nI_1] at hK
          exact hK
        · rw [s3]
          exact (nI_le_iff (by omega) (by omega)).mpr (Nat.le_refl _)
  · rw [m_in hs (by omega) hns ha hd, show a + (ns - a) = ns by omega]
    exact hQ K26
/-- where each document is while the first ones are merged -/
def whM (σ : Rows) (a bf d : Nat) (e : Nat) : Int32 := if e < d ∧ ¬ σ 15 e < nI a ∧ ¬ σ 5 e = 0 then 2 else whF σ bf e
def mdP (σ : Rows) (a d : Nat) (e : Nat) : Bool := decide (e < d) && (!decide (σ 15 e < nI a) && decide (σ 5 e = 0))
theorem isL.kp {y : Nat} {t : Int32} {m : Nat} {P : Nat → Bool} (h : isL g y t n m P) (hk : Kp g g' q) (hq : y ≠ q) : isL g' y t n m P := by
  obtain ⟨a1, a2, a3, a4⟩ := hk y hq
  unfold isL at h ⊢
  rw [a1, a2, a3]; exact h
theorem isL.ext {y : Nat} {t : Int32} {m : Nat} {P P' : Nat → Bool} (h : isL g y t n m P) (hP : ∀ d, d < n → P d = P' d) : isL g y t n m P' := ⟨h.1, h.2.1, h.2.2.1, fun d hd => (h.2.2.2 d hd).trans (hP d hd)⟩
/-- one more document in a row -/
theorem isL.more {y q d : Nat} {t : Int32} {m : Nat} {P : Nat → Bool} (h : isL g y t n m P) (hd : d < n) (hn : n ≤ 40) (k1' : gK g' q = 21) (k2 : gN g' q = 1 + m + 1) (k3 : ∀ i, i < 1 + m → gI g' q i = gI g y i) (k4 : gI g' q (1 + m) = nI d) : isL g' q t n (m + 1) (fun e => P e || decide (d = e)) := by
  refine ⟨k1', by rw [k2]; omega, by rw [k3 0 (by omega)]; exact h.2.2.1, fun e he => ?_⟩
  show orB (fun i => decide (gI g' q (1 + i) = nI e)) (m + 1) = (P e || decide (d = e))
  rw [orB, k4, ← h.2.2.2 e he]
  have e1 : orB (fun i => decide (gI g' q (1 + i) = nI e)) m = orB (fun i => decide (gI g y (1 + i) = nI e)) m := by
    rw [Bool.eq_iff_iff, orB_iff, orB_iff]
    constructor
    · rintro ⟨i, hi, q⟩
      exact ⟨i, hi, by rw [← k3 (1 + i) (by omega)]; exact q⟩
    · rintro ⟨i, hi, q⟩
      exact ⟨i, hi, by rw [k3 (1 + i) (by omega)]; exact q⟩
  rw [e1, decide_eq_decide.mpr (nI_inj (show d < 2 ^ 31 by omega) (show e < 2 ^ 31 by omega))]
theorem mgL_s {a d : Nat} : mgL σ a (d + 1) = mgL σ a d + if (!decide (σ 15 d < nI a) && decide (σ 5 d = 0)) = true then 1 else 0 := rfl
theorem SA.whc (h : SA A mA b vm U σ n ns nn dr wh g) {wh' : Nat → Int32} (e : ∀ d, d < 40 → wh d = wh' d) : SA A mA b vm U σ n ns nn dr wh' g := by
  obtain ⟨r, l, nnl, ⟨v0, vd, vg, vw, vf, vs⟩, hb⟩ := h
  exact ⟨r, l, nnl, ⟨v0, vd, vg, fun d hd => (vw d hd).trans (e d hd), vf, vs⟩, hb⟩
end SMERGE
