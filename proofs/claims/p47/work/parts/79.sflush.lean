/-! THE SHELF FLUSHES as the engine does -/
section SFLUSH
variable {A : Nat → Nat} {U : Nat × (Nat → Int32)} {mA b vm p0 p8 : Nat} {σ σ' τ : Rows} {n bf ns nn nnE nr nsE dr : Nat} {wh : Nat → Int32} {g g' g2 m0 : gS} {q : Nat}
theorem SG.n15 (h : SG σ n bf ns) (hn : n ≤ 60) (hns : ns ≤ 60) {d s : Nat} (hd : d < 60) (hs : ns ≤ s) (hs2 : s < 2 ^ 31) : ¬ σ 15 d = nI s := by
  intro z
  by_cases c6 : σ 6 d = 0
  · rw [h.2.1 d c6 hd] at z
    exact absurd z.symm (nI_nm1 hs2)
  · have hdn : d < n := by
      rcases Nat.lt_or_ge d n with q | q
      · exact q
      · exact absurd (h.2.2.1 d q hd) c6
    obtain ⟨-, s', hs1, -, e⟩ := h.1 d hdn c6
    rw [e] at z
    have := (nI_inj (show s' < 2 ^ 31 by omega) hs2).mp z
    omega
/-- rows that the shelf doesn't look at may change -/
theorem SA.rows3 (h : SA A mA b vm U σ n ns nn dr wh g) (h3 : ∀ d, d < n → σ' 3 d = σ 3 d) (h5 : σ' 5 = σ 5) (h14 : σ' 14 = σ 14) (h15 : σ' 15 = σ 15) : SA A mA b vm U σ' n ns nn dr wh g := by
  obtain ⟨r, l, nnl, ⟨v0, vd, vg, vw, vf, vs⟩, hb⟩ := h
  refine ⟨r, l, nnl, ⟨v0, fun d hd => by rw [h3 d hd]; exact vd d hd, fun d hd => by rw [h5]; exact vg d hd, vw, vf, fun k hk => ?_⟩, hb⟩
  have := vs k hk
  unfold sizeF at this ⊢
  rw [h14, h15]
  exact this
theorem SA.rows (h : SA A mA b vm U σ n ns nn dr wh g) (h3 : σ' 3 = σ 3) (h5 : σ' 5 = σ 5) (h14 : σ' 14 = σ 14) (h15 : σ' 15 = σ 15) : SA A mA b vm U σ' n ns nn dr wh g := h.rows3 (fun d _ => congrFun h3 d) h5 h14 h15
def whL (σ : Rows) (bf d e : Nat) : Int32 := if e < d ∧ bf ≤ e then 1 else whF σ bf e
def fbP (bf d e : Nat) : Bool := decide (e < d) && decide (bf ≤ e)
theorem whL_s {d e : Nat} : whL σ bf (d + 1) e = if e = d ∧ bf ≤ e then 1 else whL σ bf d e := by
  unfold whL
  by_cases c : e = d ∧ bf ≤ e
  · rw [if_pos c, if_pos ⟨by omega, c.2⟩]
  · rw [if_neg c]
    by_cases c2 : e < d ∧ bf ≤ e
    · rw [if_pos c2, if_pos ⟨by omega, c2.2⟩]
    · rw [if_neg c2, if_neg (fun q => by
        rcases Nat.lt_or_ge e d with z | z
        · exact c2 ⟨z, q.2⟩
        · exact c ⟨by omega, q.2⟩)]
theorem whL_0 {d : Nat} : whL σ bf d d = whF σ bf d := by
  unfold whL
  rw [if_neg (fun q => absurd q.1 (Nat.lt_irrefl d))]
theorem whF_0 {d : Nat} : whF σ bf d = 0 ↔ bf ≤ d := by
  unfold whF
  by_cases c : bf ≤ d
  · rw [if_pos c]; exact ⟨fun _ => c, fun _ => rfl⟩
  · rw [if_neg c]
    refine ⟨fun q => ?_, fun q => absurd q c⟩
    split at q
    · exact absurd q (by decide)
    · exact absurd q (by decide)
theorem fbP_s {d e : Nat} : fbP bf (d + 1) e = (fbP bf d e || (decide (d = e) && decide (bf ≤ e))) := by
  unfold fbP
  by_cases c : e = d
  · subst c
    rw [decide_eq_true (show e < e + 1 by omega), decide_eq_false (Nat.lt_irrefl e), decide_eq_true (rfl : e = e)]
    simp
  · rw [decide_eq_false (show ¬ d = e by omega)]
    by_cases c2 : e < d
    · rw [decide_eq_true c2, decide_eq_true (show e < d + 1 by omega)]; simp
    · rw [decide_eq_false c2, decide_eq_false (show ¬ e < d + 1 by omega)]; simp
/-- what holds ahead of document d -/
def FI (A : Nat → Nat) (mA b vm : Nat) (U : Nat × (Nat → Int32)) (σ : Rows) (n bf ns nn dr d : Nat) (g : gS) (C S : Nat) (o : Option Nat) (i : Int32) : Prop :=
  i = nI d ∧ C ≤ 1 + d ∧ S ≤ 1 + 64 * d ∧ SA A mA b vm U σ n ns nn dr (whL σ bf d) g ∧ ∃ y, o = some y ∧ (∀ l, SKd ns l ≠ 0 → A l ≠ y) ∧ isL g y 0 40 (d - bf) (fbP bf d)
theorem x_fstep {d L : Nat} {xs : Nat → Int32} {C S : Nat} {o1 : Option Nat} {i2 : Int32} (hn16 : n ≤ 16) (hd : d < n) (h : FI A mA b vm U σ n bf ns nn dr d g C S o1 i2) {Q : Int32 → gS → gS → Prop} {K : gS → Nat → Nat → Option Nat → Int32 → Prop}
    (hK : ∀ g' C' S' o' i', FI A mA b vm U σ n bf ns nn dr (d + 1) g' C' S' o' i' → K g' C' S' o' i') : l_X11_flush_10 m0 (A 0) b L xs 220 14000 Q g C S o1 i2 K := by
  obtain ⟨rfl, hC, hS, hA, y, rfl, hy, hL⟩ := h
  obtain ⟨f0, f1, f2, f3, f4, f5, f6, f7⟩ := hA.f
  obtain ⟨r0, r1, r4, r5, r6, r7, r8, r12, r14⟩ := hA.r
  obtain ⟨l1, l2, l3, l4, l5, l6, l7⟩ := hA.l
  have w5 : gI g (A 5) d = whF σ bf d := (hA.2.2.2.1.2.2.2.1 d (by omega)).trans whL_0
  have cd : Int32.toNatClampNeg (nI d) = d := cl_nI (by omega)
  have v5 : vp_in (nI d) (gN g (A 5)) := by rw [l5]; exact vp_in_nI (by omega) (by decide)
  unfold l_X11_flush_10 b_X11_flush_43
  refine ⟨f0, fun c => ?_, fun _ => ⟨_, r8, f5, v5, ?_⟩⟩
  · rw [hA.n3] at c
    exact absurd c (nI_ge hd (by omega))
  · rw [cd, w5, nI_1]
    refine ⟨fun c => ?_, fun c => ?_⟩
    · have hb : bf ≤ d := whF_0.mp c
      refine ⟨y, rfl, ⟨by omega, by omega⟩, ?_⟩
      refine x_with hL.1 hL.2.1 (by omega) (fun q g' h0 hk k1' k2 k3 k4 => ?_)
      have hq : ∀ l, SKd ns l ≠ 0 → A l ≠ q := fun l hl => hA.1.new h0 hl
      have hA' := hA.keep hk hq
      have l5' := hA'.l.2.2.2.2.1
      refine ⟨hA'.f.1, A 5, hA'.r.2.2.2.2.2.2.1, hA'.f.2.2.2.2.2.1, by rw [l5']; exact vp_in_nI (by omega) (by decide), fun g27 e27 => ?_⟩
      subst e27
      refine hK _ _ _ _ _ ⟨rfl, by omega, by omega, (hA'.where' (d := d) (v := 1)).whc (fun e he => ?_), q, rfl, hq, ?_⟩
      · rw [whL_s]
        by_cases z : e = d
        · subst z; rw [if_pos rfl, if_pos ⟨rfl, hb⟩]
        · rw [if_neg z, if_neg (fun w => z w.1)]
      · have e1 : d + 1 - bf = d - bf + 1 := by omega
        rw [e1]
        refine ((hL.more (show d < 40 by omega) (by omega) k1' k2 k3 k4).kp Kp.sU (fun z => hq 5 (k1 (by decide)) z.symm)).ext fun e he => ?_
        rw [fbP_s]
        by_cases z : d = e
        · subst z; rw [decide_eq_true hb]; simp
        · rw [decide_eq_false z]; simp
    · have hb : ¬ bf ≤ d := fun q => c (whF_0.mpr q)
      refine hK _ _ _ _ _ ⟨rfl, by omega, by omega, hA.whc (fun e he => ?_), y, rfl, hy, ?_⟩
      · rw [whL_s, if_neg (fun q => by obtain ⟨rfl, q2⟩ := q; exact hb q2)]
      · rw [show d + 1 - bf = d - bf by omega]
        refine hL.ext fun e he => ?_
        rw [fbP_s]
        by_cases z : d = e
        · subst z; rw [decide_eq_false hb]; simp
        · rw [decide_eq_false z]; simp
theorem SA.tier (h : SA A mA b vm U σ n ns nn dr wh g) {k : Nat} (hk : k < ns) : gR g (A 6) k = some (A (200 + k)) ∧ gK g (A (200 + k)) = 21 ∧ vp_in 0 (gN g (A (200 + k))) ∧ gI g (A (200 + k)) (Int32.toNatClampNeg 0) = σ 14 k := by
  obtain ⟨s1, s2, s3, s4, s5⟩ := h.sg hk
  have hm : sizeF σ n (nI k) ≤ n := sizeF_le
  have hn := h.2.2.2.2.1
  refine ⟨s1, s2, ?_, s4⟩
  rw [s3]
  exact vp_in_nI (n := 0) (by omega) (by omega)
/-- what holds while segments are merged behind a flush -/
def FL (p0 p8 mA b vm : Nat) (U : Nat × (Nat → Int32)) (σ : Rows) (n bf nn dr y : Nat) (g : gS) (C S : Nat) (i : Int32) : Prop :=
  ∃ τ k ns A, A 0 = p0 ∧ A 8 = p8 ∧ flL n k τ = fl1 σ ∧ cl (τ 0 13) ≤ 2 * k + 2 ∧ SA A mA b vm U τ n ns nn dr (whF τ n) g ∧ SG τ n n ns ∧ τ 0 13 = nI ns ∧ i = nI ns ∧ C + 10 * ns ≤ 190 ∧ S + 650 * ns ≤ 12100 ∧ gK g y = 21 ∧ gN g y = 1 + (n - bf)
theorem x_floop {y L : Nat} {xs : Nat → Int32} {Q : Int32 → gS → gS → Prop} (hn16 : n ≤ 16)
    (hend : ∀ g' A' ns', A' 0 = p0 → A' 8 = p8 → SA A' mA b vm U (fl1 σ) n ns' nn dr (whF (fl1 σ) n) g' → SG (fl1 σ) n n ns' → fl1 σ 0 13 = nI ns' → gK g' y = 21 → gN g' y = 1 + (n - bf) → ∀ C S, b_X11_flush_179 g' m0 C S p0 (some y) b L xs 220 14000 Q) :
    ∀ g C S i, FL p0 p8 mA b vm U σ n bf nn dr y g C S i → lpx4 (l_X11_flush_100 m0 p0 (some y) b L xs 220 14000 Q) g C S i := by
  refine lpx4_m (FL p0 p8 mA b vm U σ n bf nn dr y) (fun _ _ _ i => cl i) (fun g C S i hI K hK => ?_)
  obtain ⟨τ, k, ns1, A1, e0, e8, ek, hk, hA, hs, e13, rfl, hC, hS, hy1, hy2⟩ := hI
  have hns : ns1 ≤ 60 := hA.2.2.2.2.2.1
  have stop : ¬ c3 τ → b_X11_flush_179 g m0 C S p0 (some y) b L xs 220 14000 Q := fun c => by
    have e : τ = fl1 σ := by
      rw [← ek]
      cases k with
      | zero => rfl
      | succ k => rw [flL, if_neg c]
    rw [e] at hA hs e13
    exact hend g A1 ns1 e0 e8 hA hs e13 hy1 hy2 C S
  unfold l_X11_flush_100
  refine ⟨fun c => stop (fun q => ?_), fun c => ?_⟩
  · have := (nI_le_iff (b := 2) (show ns1 < 2 ^ 31 by omega) (by decide)).mp c
    have q1 := q.1
    rw [e13, clI (by omega)] at q1
    omega
  · have h3 : 3 ≤ ns1 := by
      rcases Nat.lt_or_ge ns1 3 with z | z
      · exact absurd ((nI_le_iff (b := 2) (show ns1 < 2 ^ 31 by omega) (by decide)).mpr (by omega)) c
      · exact z
    have s1 : nI ns1 - 1 = nI (ns1 - 1) := nI_sb (b := 1) (by omega)
    have s2 : nI ns1 - 2 = nI (ns1 - 2) := nI_sb (b := 2) (by omega)
    have s3 : nI ns1 - 3 = nI (ns1 - 3) := nI_sb (b := 3) (by omega)
    have z1 : Int32.toNatClampNeg (nI (ns1 - 1)) = ns1 - 1 := cl_nI (by omega)
    have z2 : Int32.toNatClampNeg (nI (ns1 - 2)) = ns1 - 2 := cl_nI (by omega)
    have z3 : Int32.toNatClampNeg (nI (ns1 - 3)) = ns1 - 3 := cl_nI (by omega)
    have f0 : gK g p0 = 12 := by rw [← e0]; exact hA.f.1
    have f6 : gK g (A1 6) = 24 := hA.f.2.2.2.2.2.2.1
    have r12 : gR g p0 12 = some (A1 6) := by rw [← e0]; exact hA.r.2.2.2.2.2.2.2.1
    have l6 := hA.l.2.2.2.2.2.1
    obtain ⟨t1, a1, b1, d1⟩ := hA.tier (k := ns1 - 1) (by omega)
    obtain ⟨t2, a2, b2, d2⟩ := hA.tier (k := ns1 - 2) (by omega)
    obtain ⟨t3, a3, b3, d3⟩ := hA.tier (k := ns1 - 3) (by omega)
    have v1 : vp_in (nI (ns1 - 1)) (gN g (A1 6)) := by rw [l6]; exact vp_in_nI (by omega) (by omega)
    have v2 : vp_in (nI (ns1 - 2)) (gN g (A1 6)) := by rw [l6]; exact vp_in_nI (by omega) (by omega)
    have v3 : vp_in (nI (ns1 - 3)) (gN g (A1 6)) := by rw [l6]; exact vp_in_nI (by omega) (by omega)
    have ec : cl (τ 0 13) = ns1 := by rw [e13]; exact cl_nI (by omega)
    rw [s1, s2, s3, z1, z2, z3]
    refine ⟨f0, A1 6, r12, f6, v1, A1 (200 + (ns1 - 1)), t1, a1, b1, A1 6, r12, f6, v2, A1 (200 + (ns1 - 2)), t2, a2, b2, fun c12 => ⟨A1 6, r12, f6, v2, A1 (200 + (ns1 - 2)), t2, a2, b2, A1 6, r12, f6, v3, A1 (200 + (ns1 - 3)), t3, a3, b3, fun c23 => ?_, fun c23 => stop (fun q => ?_)⟩, fun c12 => stop (fun q => ?_)⟩
    · rw [d1, d2] at c12
      rw [d2, d3] at c23
      have hc3 : c3 τ := by
        show 2 < cl (τ 0 13) ∧ τ 14 (cl (τ 0 13) - 1) = τ 14 (cl (τ 0 13) - 2) ∧ τ 14 (cl (τ 0 13) - 2) = τ 14 (cl (τ 0 13) - 3)
        rw [ec]
        exact ⟨by omega, c12, c23⟩
      obtain ⟨k', rfl⟩ : ∃ k', k = k' + 1 := by
        cases k with
        | zero => rw [ec] at hk; omega
        | succ k => exact ⟨k, rfl⟩
      rw [flL, if_pos hc3, ec] at ek
      refine ⟨A1 6, r12, f6, v1, A1 (200 + (ns1 - 1)), t1, a1, b1, ⟨by omega, by omega⟩, ?_⟩
      rw [d1, ← e0]
      refine x_smerge (bf := n) hA hs hn16 (a := ns1 - 3) (by omega) (by omega) (fun A' g' e' e8' hO hA' => ?_)
      have hs' := hs.merge (by omega) (Nat.le_refl n) (a := ns1 - 3) (t := τ 14 (ns1 - 1) + 1) (by omega) (by omega)
      have e13' : mergeR τ n (ns1 - 3) (τ 14 (ns1 - 1) + 1) 0 13 = nI (if mgL τ (ns1 - 3) n = 0 then ns1 - 3 else ns1 - 3 + 1) := by
        rw [mergeR_13]
        by_cases c : mgL τ (ns1 - 3) n = 0
        · rw [if_pos c, if_pos c]
        · rw [if_neg c, if_neg c]
      have hN : (if mgL τ (ns1 - 3) n = 0 then ns1 - 3 else ns1 - 3 + 1) ≤ ns1 - 2 := by split <;> omega
      generalize (if mgL τ (ns1 - 3) n = 0 then ns1 - 3 else ns1 - 3 + 1) = N at hs' e13' hN hA'
      have r12' : gR g' (A1 0) 12 = some (A' 6) := by rw [← e']; exact hA'.r.2.2.2.2.2.2.2.1
      obtain ⟨o1, o2⟩ := hO y (by rw [hy1]; decide)
      refine ⟨by rw [← e']; exact hA'.f.1, A' 6, r12', hA'.f.2.2.2.2.2.2.1, ?_⟩
      rw [hA'.l.2.2.2.2.2.1]
      refine hK _ _ _ _ ⟨_, k', N, A', e'.trans e0, e8'.trans e8, ek, ?_, hA', hs', e13', rfl, by omega, by omega, o1.trans hy1, o2.trans hy2⟩ ?_
      · rw [e13', clI (by omega)]
        rw [ec] at hk
        omega
      · show cl (nI N) < cl (nI ns1)
        rw [show cl (nI N) = N from cl_nI (by omega), show cl (nI ns1) = ns1 from cl_nI (by omega)]
        omega
    · have q2 := q.2.2
      rw [ec, ← d2, ← d3] at q2
      exact c23 q2
    · have q2 := q.2.1
      rw [ec, ← d1, ← d2] at q2
      exact c12 q2
theorem EE.kind (h : EE mA σ n bf nnE nr nsE m0) : gK m0 mA = 11 := by
  obtain ⟨A, D, V, rfl, hx⟩ := h
  exact hx.1.1.k0
theorem x_fend {y L : Nat} {xs : Nat → Int32} (hE : EE mA σ n bf nnE nr nsE m0) (hA : SA A mA b vm U τ n ns nn dr wh g) (hn : n ≤ 60) (hy1 : gK g y = 21) (hy2 : gN g y = 1 + (n - bf)) {Q : Int32 → gS → gS → Prop} (hQ : ∀ m' ns', EE mA (fl1 σ) n n nnE nr ns' m' → Q 1 g m') : ∀ C S, b_X11_flush_179 g m0 C S (A 0) (some y) b L xs 220 14000 Q := by
  intro C S
  unfold b_X11_flush_179 b_X11_flush_198
  refine ⟨hA.f.1, mA, hA.r.1, hE.kind, q_flush hE (fun m' ns' hE' => ⟨y, rfl, hy1, fun _ => ⟨Or.inr rfl, hQ m' ns' hE'⟩, fun c => absurd ?_ c⟩)⟩
  have e : nI (1 + (n - bf)) - nI 1 = nI (1 + (n - bf) - 1) := nI_sb (by omega)
  rw [show 1 + (n - bf) - 1 = n - bf by omega] at e
  rw [hy2]
  exact e.symm
theorem flC_apd (h : GI σ n bf nn nr ns) (c : bf < n) : Apd σ (flC σ) n bf ns := by
  obtain ⟨e13, e14, e15, e6⟩ := flC_some h c
  refine ⟨flC_ce, e6, e15, by rw [e14, if_pos rfl], fun s hs => by rw [e14, if_neg (by omega)]⟩
theorem flC_sg (h : GI σ n bf nn nr ns) (hs : SG σ n bf ns) : ∃ ns', SG (flC σ) n n ns' ∧ flC σ 0 13 = nI ns' ∧ ns' = (if bf < n then ns + 1 else ns) := by
  have hn := h.n
  have hb := h.1.2.1
  by_cases c : bf < n
  · rw [if_pos c]
    exact ⟨ns + 1, hs.apd hn c (hs.nsb hn h.ns6) (flC_apd h c), (flC_some h c).1, rfl⟩
  · rw [if_neg c]
    obtain ⟨e13, e14, e15, e6⟩ := flC_none h c
    have e : bf = n := by omega
    subst e
    exact ⟨ns, hs.same (flC_ce 5 (by decide) (by decide) (by decide) (by decide)) e6 e15, e13, rfl⟩
theorem whL_end (h : GI σ n bf nn nr ns) {e : Nat} : whL σ bf n e = whF (flC σ) n e := by
  have hb := h.1.2.1
  have e6 : flC σ 6 e = if bf ≤ e ∧ e < n then 1 else σ 6 e := by
    by_cases c : bf < n
    · exact (flC_some h c).2.2.2 e
    · rw [(flC_none h c).2.2.2, if_neg (by omega)]
  unfold whL whF
  rw [e6]
  by_cases c1 : n ≤ e
  · rw [if_neg (by omega), if_pos (by omega), if_pos c1]
  · by_cases c2 : bf ≤ e
    · rw [if_pos (show e < n ∧ bf ≤ e from ⟨by omega, c2⟩), if_neg c1, if_pos (show bf ≤ e ∧ e < n from ⟨c2, by omega⟩), if_neg (show ¬ (1 : Int32) = 0 by decide)]
    · rw [if_neg (show ¬ (e < n ∧ bf ≤ e) from fun q => c2 q.2), if_neg c2, if_neg c1, if_neg (show ¬ (bf ≤ e ∧ e < n) from fun q => c2 q.1)]
theorem x_sflush {L : Nat} {xs : Nat → Int32} (h : SA A mA b vm U σ n ns nn dr (whF σ bf) g) (hE : EE mA σ n bf nnE nr ns m0) (hn16 : n ≤ 16) {Q : Int32 → gS → gS → Prop} (hQ : ∀ A' g' m' ns', A' 0 = A 0 → A' 8 = A 8 → SA A' mA b vm U (fl1 σ) n ns' nn dr (whF (fl1 σ) n) g' → EE mA (fl1 σ) n n nnE nr ns' m' → Q 1 g' m') : w_X11_flush g m0 (A 0) b L xs 220 14000 Q := by
  have hG := hE.gi
  have hs := hE.pk.2.2.2
  have hb := hG.1.2.1
  have hns := hs.nsb (by omega) hG.ns6
  have hend : ∀ y g' A' ns', A' 0 = A 0 → A' 8 = A 8 → SA A' mA b vm U (fl1 σ) n ns' nn dr (whF (fl1 σ) n) g' → SG (fl1 σ) n n ns' → fl1 σ 0 13 = nI ns' → gK g' y = 21 → gN g' y = 1 + (n - bf) → ∀ C S, b_X11_flush_179 g' m0 C S (A 0) (some y) b L xs 220 14000 Q := by
    intro y g' A' ns' e0 e8 hA' hs' e13 hy1 hy2 C S
    rw [← e0]
    refine x_fend hE hA' (by omega) hy1 hy2 (fun m' ns2 hE' => ?_) C S
    have e2 := hE'.gi.2.1.2.2.2.2
    have e3 : ns2 = ns' := (nI_inj (by have := hE'.gi.ns6; omega) (by have := hA'.2.2.2.2.2.1; omega)).mp (e2.symm.trans e13)
    subst e3
    exact hQ A' g' m' ns2 e0 e8 hA' hE'
  obtain ⟨ns9, hs9, e9, en9⟩ := flC_sg hG hs
  have start : ∀ (y : Nat) (g1 : gS) (A1 : Nat → Nat) (C S : Nat), A1 0 = A 0 → A1 8 = A 8 → SA A1 mA b vm U (flC σ) n ns9 nn dr (whF (flC σ) n) g1 → gK g1 y = 21 → gN g1 y = 1 + (n - bf) → C ≤ 18 → S ≤ 1042 → b_X11_flush_94 g1 m0 C S (A 0) (some y) b L xs 220 14000 Q := by
    intro y g1 A1 C S e0 e8 hA1 hy1 hy2 hC hS
    have hn9 : ns9 ≤ 17 := by rw [en9]; split <;> omega
    unfold b_X11_flush_94
    refine ⟨by rw [← e0]; exact hA1.f.1, A1 6, by rw [← e0]; exact hA1.r.2.2.2.2.2.2.2.1, hA1.f.2.2.2.2.2.2.1, ?_⟩
    rw [hA1.l.2.2.2.2.2.1]
    refine x_floop (p8 := A 8) (σ := σ) (bf := bf) hn16 (hend y) _ _ _ _ ⟨flC σ, 60, ns9, A1, e0, e8, ?_, ?_, hA1, hs9, e9, rfl, by omega, by omega, hy1, hy2⟩
    · rw [fl1_eq, hG.nF]
    · rw [e9, show cl (nI ns9) = ns9 from cl_nI (by omega)]; omega
  unfold w_X11_flush
  refine ⟨⟨by decide, by decide⟩, fun y0 hy0 g88 e88 => ?_⟩
  subst e88
  refine ⟨gK_new, by rw [gN_new]; exact vp_in_nI (n := 0) (by decide) (by decide), fun g92 e92 => ?_⟩
  have e92 : g92 = sU (sNew g y0 21 1) y0 0 0 := e92
  have hkp : Kp g g92 y0 := by rw [e92]; exact Kp.new.trans Kp.sU
  have hy : ∀ l, SKd ns l ≠ 0 → A l ≠ y0 := fun l hl => h.1.new hy0 hl
  refine lpx5_i n (FI A mA b vm U σ n bf ns nn dr) (fun d g1 C1 S1 o1 i1 hd hI K hK => x_fstep hn16 hd hI hK) (fun g1 C1 S1 o1 i1 hI K => ?_) _ _ _ _ _ ⟨rfl, by decide, by decide, (h.keep hkp hy).whc (fun e he => ?_), y0, rfl, hy, ?_⟩
  · obtain ⟨rfl, hC, hS, hA, y, rfl, hy, hL⟩ := hI
    have hA : SA A mA b vm U σ n ns nn dr (whF (flC σ) n) g1 := hA.whc (fun e _ => whL_end hG)
    obtain ⟨f0, f1, f2, f3, f4, f5, f6, f7⟩ := hA.f
    obtain ⟨r0, r1, r4, r5, r6, r7, r8, r12, r14⟩ := hA.r
    obtain ⟨l1, l2, l3, l4, l5, l6, l7⟩ := hA.l
    unfold l_X11_flush_10
    refine ⟨f0, fun _ => ⟨y, rfl, hL.1, fun c => ?_, fun c => ?_⟩, fun c => absurd ?_ c⟩
    · rw [hL.2.1] at c
      have c2 : ¬ bf < n := fun q => by
        have := (nI_le_iff (b := 1) (show 1 + (n - bf) < 2 ^ 31 by omega) (by decide)).mp c
        omega
      obtain ⟨e13, e14, e15, e6⟩ := flC_none hG c2
      rw [if_neg c2] at en9
      subst en9
      exact start y g1 A C1 S1 rfl rfl (hA.rows (flC_ce 3 (by decide) (by decide) (by decide) (by decide)) (flC_ce 5 (by decide) (by decide) (by decide) (by decide)) e14 e15) hL.1 hL.2.1 (by omega) (by omega)
    · rw [hL.2.1] at c
      have c2 : bf < n := by
        rcases Nat.lt_or_ge bf n with z | z
        · exact z
        · exact absurd ((nI_le_iff (b := 1) (show 1 + (n - bf) < 2 ^ 31 by omega) (by decide)).mpr (by omega)) c
      obtain ⟨e13, e14, e15, e6⟩ := flC_some hG c2
      rw [if_pos c2] at en9
      subst en9
      obtain ⟨p1, p2⟩ := nI_p1 (N := ns) (by omega)
      refine ⟨A 6, r12, f6, ?_⟩
      rw [l6, p2]
      refine ⟨⟨p1, by omega⟩, ⟨by omega, by omega⟩, fun q hq0 g85 e85 => ?_⟩
      subst e85
      have hq : ∀ l, SKd ns l ≠ 0 → A l ≠ q := fun l hl => hA.1.new hq0 hl
      have hyq : y ≠ q := fun e => by have := hL.1; rw [e, hq0] at this; exact absurd this (by decide)
      have kp : Kp g1 (sNew g1 q 24 (ns + 1)) q := Kp.new
      have k0 := kp (A 0) (hq 0 (k1 (by decide)))
      have k6 := kp (A 6) (hq 6 (k1 (by decide)))
      have ky := kp y hyq
      have r12' : gR (sNew g1 q 24 (ns + 1)) (A 0) 12 = some (A 6) := by rw [k0.2.2.2]; exact r12
      have n6 : gN (sNew g1 q 24 (ns + 1)) (A 6) = ns := k6.2.1.trans l6
      refine ⟨k0.1.trans f0, A 6, r12', A 6, r12', k6.1.trans f6, k6.1.trans f6, gK_new, ?_, fun g96 e96 => ?_⟩
      · rw [n6, cl_nI (show ns < 2 ^ 31 by omega), gN_new]
        refine ⟨not_lt0 (by omega), by show 0 + ns ≤ ns; omega, by show 0 + ns ≤ ns + 1; omega, fun i hi z hz => ?_⟩
        have hz : gR (sNew g1 q 24 (ns + 1)) (A 6) (0 + i) = some z := hz
        rw [k6.2.2.2, show 0 + i = i by omega, (hA.sg (show i < ns by omega)).1] at hz
        have hz' : A (200 + i) = z := Option.some.inj hz
        rw [← hz', (kp _ (hq _ (kn200 (show i < ns by omega)))).1]
        exact (hA.sg (show i < ns by omega)).2.1
      · rw [n6, cl_nI (show ns < 2 ^ 31 by omega)] at e96
        have e96 : g96 = sR (sNew g1 q 24 (ns + 1)) q (va_cpy (gR (sNew g1 q 24 (ns + 1)) (A 6)) (gR (sNew g1 q 24 (ns + 1)) q) 0 0 ns) := e96
        rw [k6.2.2.2, gR_new] at e96
        have kp2 : Kp g1 g96 q := by rw [e96]; exact kp.trans Kp.sR
        have c1 : gK g96 q = 24 := by rw [e96]; exact gK_new (n := ns + 1)
        have cN : gN g96 q = ns + 1 := by rw [e96]; exact gN_new (k := 24)
        have cR : ∀ k, k < ns → gR g96 q k = gR g1 (A 6) k := fun k hk => by
          rw [e96, gR_sR_self]
          show (if 0 ≤ k ∧ k < 0 + ns then gR g1 (A 6) (0 + (k - 0)) else none) = _
          rw [if_pos (by omega), show 0 + (k - 0) = k by omega]
        have m0' := kp2 (A 0) (hq 0 (k1 (by decide)))
        have m6' := kp2 (A 6) (hq 6 (k1 (by decide)))
        have my' := kp2 y hyq
        have n6' : gN g96 (A 6) = ns := m6'.2.1.trans l6
        refine ⟨m0'.1.trans f0, A 6, by rw [m0'.2.2.2]; exact r12, m6'.1.trans f6, c1, my'.1.trans hL.1, ?_, fun g105 e105 => ?_⟩
        · rw [n6', cN]; exact vp_in_nI (by omega) (by omega)
        · rw [n6', cl_nI (show ns < 2 ^ 31 by omega)] at e105
          subst e105
          refine ⟨m0'.1.trans f0, fun g108 e108 => ?_⟩
          subst e108
          have kp3 : Kp g1 (sV g96 q ns (some y)) q := kp2.trans Kp.sV
          have hcut := hA.cut (σ' := flC σ) (a := ns) (y := y) (more := true) (ns' := ns + 1) (Nat.le_refl ns) (by rw [if_pos rfl]) (by omega) hq hy hyq kp3 c1 cN (fun k hk => by rw [gR_sVs, if_neg (by omega)]; exact cR k hk) (fun _ => by rw [gR_sVs, if_pos rfl]) (fun t ht => by rcases ht with rfl | rfl <;> exact flC_ce _ (by decide) (by decide) (by decide) (by decide)) (fun k hk => by rw [e14, if_neg (by omega)]) (fun k hk d hd => ?_) (fun _ => ?_)
          · have ky3 := kp3 y hyq
            have hy0 : y ≠ A 0 := fun e => hy 0 (k1 (by decide)) e.symm
            have ky4 := Kp.sV (g := sV g96 q ns (some y)) (q := A 0) (k := 12) (v := some q) y hy0
            exact start y _ _ _ _ (by unfold lbl; rw [if_neg (by decide), if_neg (by omega)]) (by unfold lbl; rw [if_neg (by decide), if_neg (by omega)]) hcut (ky4.1.trans (ky3.1.trans hL.1)) (ky4.2.1.trans (ky3.2.1.trans hL.2.1)) (by omega) (by omega)
          · rw [e15]
            by_cases c4 : bf ≤ d ∧ d < n
            · rw [if_pos c4]
              refine ⟨fun z => ?_, fun z => ?_⟩
              · have := (nI_inj (show ns < 2 ^ 31 by omega) (show k < 2 ^ 31 by omega)).mp z
                omega
              · have h6 : σ 6 d = 0 := by
                  by_cases c6 : σ 6 d = 0
                  · exact c6
                  · have := (hs.1 d c4.2 c6).1; omega
                rw [hs.2.1 d h6 (by omega)] at z
                exact absurd z.symm (nI_nm1 (show k < 2 ^ 31 by omega))
            · rw [if_neg c4]
          · have e1 : sizeF (flC σ) n (nI ns) = n - bf := by
              unfold sizeF
              rw [← cnt_from hb]
              refine cnt_congr fun d hd => ?_
              rw [e15]
              by_cases c4 : bf ≤ d
              · rw [if_pos ⟨c4, hd⟩, decide_eq_true rfl, decide_eq_true c4]
              · rw [if_neg (fun q => c4 q.1), decide_eq_false c4, decide_eq_false (hs.n15 (by omega) hG.ns6 (by omega) (Nat.le_refl ns) (by omega))]
            rw [e1, e14, if_pos rfl]
            refine hL.ext fun d hd => ?_
            rw [e15]
            unfold fbP
            by_cases c4 : bf ≤ d ∧ d < n
            · rw [if_pos c4, decide_eq_true c4.2, decide_eq_true c4.1, decide_eq_true rfl]; rfl
            · rw [if_neg c4, decide_eq_false (hs.n15 (by omega) hG.ns6 (by omega) (Nat.le_refl ns) (by omega))]
              rcases Nat.lt_or_ge d n with z | z
              · rw [decide_eq_false (show ¬ bf ≤ d from fun q => c4 ⟨q, z⟩)]; simp
              · rw [decide_eq_false (Nat.not_lt.mpr z)]; rfl
    · rw [hA.n3]
      exact Int32.le_refl _
  · unfold whL
    rw [if_neg (fun q => absurd q.1 (Nat.not_lt_zero _))]
  · refine ⟨by rw [e92]; exact gK_new (n := 1), by rw [e92]; exact (gN_new (g := g) (k := 21)).trans (by omega), by rw [e92, gI_sU, if_pos rfl], fun d hd => ?_⟩
    rw [show 0 - bf = 0 by omega]
    show false = fbP bf 0 d
    unfold fbP
    rw [decide_eq_false (Nat.not_lt_zero d)]; rfl
end SFLUSH
