/-! THE CLASS: a document more -/
def KS (D nn : Nat) (S : Nat → Bool) (l : Nat) : Nat := if 100 + 20 * D ≤ l ∧ l < 120 + 20 * D then (if S (l - (100 + 20 * D)) = true then dK (l - (100 + 20 * D)) else 0) else KL D nn l
def CD (A : Nat → Nat) (D nn : Nat) (R : Nat → Nat → Option Nat) (S : Nat → Bool) (T : Nat → Nat → Bool) (V : Rows) (g : gS) : Prop :=
  (∀ l, KS D nn S l ≠ 0 → gK g (A l) = KS D nn S l ∧ gN g (A l) = (if 21 ≤ KS D nn S l then NL l else gN g (A l)) ∧ gI g (A l) = V l) ∧
  (∀ l u, KS D nn S l ≠ 0 → KS D nn S u ≠ 0 → A l = A u → l = u) ∧
  (∀ l i, l < 100 → fK l ≠ 0 → gR g (A l) i = R l i) ∧ (∀ l i u, fR l i = some u → R l i = some (A u)) ∧
  (∀ d r i u, d < D → dR r i = some u → gR g (A (dl d r)) i = some (A (dl d u))) ∧
  (∀ r i u, T r i = true → dR r i = some u → S r = true ∧ S u = true ∧ gR g (A (dl D r)) i = some (A (dl D u))) ∧ D < 60 ∧ nn ≤ 30
section COPEN
variable {A : Nat → Nat} {D : Nat} {V V' V1 σ σ' τ ρ : Rows} {n bf nn nr ns cb sb q : Nat} {ub : Bool} {g g' g1 : gS} {R : Nat → Nat → Option Nat} {S : Nat → Bool} {T : Nat → Nat → Bool}
theorem KS_d {r : Nat} (hr : r < 20) (hS : S r = true) : KS D nn S (dl D r) = dK r := by
  unfold KS dl
  rw [if_pos (by omega), show 100 + 20 * D + r - (100 + 20 * D) = r by omega, if_pos hS]
theorem KS_o {l : Nat} (h : l < 100 + 20 * D ∨ 120 + 20 * D ≤ l) : KS D nn S l = KL D nn l := by
  unfold KS; rw [if_neg (by omega)]
theorem CR.cd (h : CR A D nn V g) (hD : D < 60) : CD A D nn (fun l => gR g (A l)) (fun _ => false) (fun _ _ => false) V g := by
  obtain ⟨h1, h2, h3, h4, h5, h6⟩ := h
  have e : ∀ l, KS D nn (fun _ => false) l ≠ 0 → KS D nn (fun _ => false) l = KL D nn l := fun l hl => by
    unfold KS at hl ⊢
    by_cases c : 100 + 20 * D ≤ l ∧ l < 120 + 20 * D
    · rw [if_pos c, if_neg Bool.false_ne_true] at hl; exact absurd rfl hl
    · rw [if_neg c]
  refine ⟨fun l hl => ?_, fun l u hl hu => h2 l u (by rw [← e l hl]; exact hl) (by rw [← e u hu]; exact hu), fun _ _ _ _ => rfl, h3, h4, fun r i u q => absurd q Bool.false_ne_true, hD, h6⟩
  have := h1 l (by rw [← e l hl]; exact hl)
  rw [e l hl]; exact this
theorem CD.cr (h : CD A D nn R S T V g) (hS : ∀ r, r < 14 → S r = true) (hT : ∀ r i u, dR r i = some u → T r i = true) : CR A (D + 1) nn V g := by
  obtain ⟨h1, h2, h3, h3b, h4, h5, h6, h7⟩ := h
  have e : ∀ l, KL (D + 1) nn l ≠ 0 → KS D nn S l = KL (D + 1) nn l := fun l hl => by
    by_cases c : 100 + 20 * D ≤ l ∧ l < 120 + 20 * D
    · have hl' : l = dl D (l - (100 + 20 * D)) := by unfold dl; omega
      have hk : KL (D + 1) nn l = dK (l - (100 + 20 * D)) := by
        rw [hl', KL_d (by omega) (by omega) (by omega)]
        congr 1
        unfold dl; omega
      have h14 : l - (100 + 20 * D) < 14 := by
        rcases Nat.lt_or_ge (l - (100 + 20 * D)) 14 with q | q
        · exact q
        · rw [hk] at hl
          exfalso; apply hl
          generalize l - (100 + 20 * D) = r at q
          unfold dK
          split <;> first | omega | rfl
      rw [hk]
      unfold KS
      rw [if_pos c, if_pos (hS _ h14)]
    · rw [KS_o (by omega)]
      unfold KL
      by_cases c1 : l < 100
      · rw [if_pos c1, if_pos c1]
      · rw [if_neg c1, if_neg c1]
        by_cases c2 : l < 2000
        · rw [if_pos c2, if_pos c2]
          by_cases c3 : (l - 100) / 20 < D
          · rw [if_pos c3, if_pos (by omega)]
          · rw [if_neg c3, if_neg (by omega)]
        · rw [if_neg c2, if_neg c2]
  refine ⟨fun l hl => ?_, fun l u hl hu => h2 l u (by rw [e l hl]; exact hl) (by rw [e u hu]; exact hu), fun l i u hr => by have p := fR_k hr; rw [h3 l i p.1 p.2]; exact h3b l i u hr, fun d r i u hd hr => ?_, by omega, h7⟩
  · have := h1 l (by rw [e l hl]; exact hl)
    rw [e l hl] at this; exact this
  · by_cases c : d = D
    · subst c; exact (h5 r i u (hT r i u hr) hr).2.2
    · exact h4 d r i u (by omega) hr
theorem CD.new (h : CD A D nn R S T V g) {r : Nat} (hr : r < 14) (hS : S r = false) (hq : gK g q = 0) : ∃ A' V', CD A' D nn R (fun x => S x || decide (x = r)) T V' (sNew g q (dK r) (dN r)) ∧ A' (dl D r) = q ∧ (∀ l, l ≠ dl D r → A' l = A l ∧ V' l = V l) ∧ V' (dl D r) = fun _ => 0 := by
  obtain ⟨h1, h2, h3, h3b, h4, h5, h6, h7⟩ := h
  have hne : ∀ l, KS D nn S l ≠ 0 → A l ≠ q := fun l hl e => by
    have := (h1 l hl).1
    rw [e, hq] at this
    exact hl this.symm
  have hA : ∀ l, l ≠ dl D r → va_up A (dl D r) q l = A l := fun l hl => va_up_ne _ _ hl
  have k0 : ∀ l, l ≠ dl D r → KS D nn (fun x => S x || decide (x = r)) l = KS D nn S l := fun l hl => by
    unfold KS
    by_cases c : 100 + 20 * D ≤ l ∧ l < 120 + 20 * D
    · rw [if_pos c, if_pos c]
      show (if (S (l - (100 + 20 * D)) || decide (l - (100 + 20 * D) = r)) = true then _ else _) = _
      rw [decide_eq_false (show ¬ l - (100 + 20 * D) = r by unfold dl at hl; omega), Bool.or_false]
    · rw [if_neg c, if_neg c]
  have kr : KS D nn (fun x => S x || decide (x = r)) (dl D r) = dK r := KS_d (by omega) (by rw [decide_eq_true rfl, Bool.or_true])
  have kz : KS D nn S (dl D r) = 0 := by
    unfold KS dl
    rw [if_pos (by omega), show 100 + 20 * D + r - (100 + 20 * D) = r by omega, hS, if_neg (by decide)]
  refine ⟨va_up A (dl D r) q, va_up V (dl D r) (fun _ => 0), ⟨fun l hl => ?_, fun l u hl hu e => ?_, fun l i hl hk => ?_, fun l i u hu => ?_, fun d r' i u hd hu => ?_, fun r' i u ht hu => ?_, h6, h7⟩, va_up_self _ _ _, fun l hl => ⟨va_up_ne _ _ hl, va_up_ne _ _ hl⟩, va_up_self _ _ _⟩
  · by_cases c : l = dl D r
    · subst c
      rw [va_up_self, va_up_self, kr, gK_new, gN_new, gI_new]
      refine ⟨rfl, ?_, rfl⟩
      split
      · rw [NL_d (by omega) (by omega)]
      · rfl
    · have hl' : KS D nn S l ≠ 0 := by rw [← k0 l c]; exact hl
      obtain ⟨a1, a2, a3⟩ := h1 l hl'
      rw [hA l c, va_up_ne _ _ c, gK_new_ne (hne l hl'), gN_new_ne (hne l hl'), gI_new_ne (hne l hl'), k0 l c]
      exact ⟨a1, a2, a3⟩
  · by_cases cl : l = dl D r
    · by_cases cu : u = dl D r
      · rw [cl, cu]
      · rw [cl, va_up_self, hA u cu] at e
        exact absurd e.symm (hne u (by rw [← k0 u cu]; exact hu))
    · by_cases cu : u = dl D r
      · rw [cu, va_up_self, hA l cl] at e
        exact absurd e (hne l (by rw [← k0 l cl]; exact hl))
      · rw [hA l cl, hA u cu] at e
        exact h2 l u (by rw [← k0 l cl]; exact hl) (by rw [← k0 u cu]; exact hu) e
  · have kl : KS D nn S l ≠ 0 := by rw [KS_o (by omega), KL_f hl]; exact hk
    rw [hA l (by unfold dl; omega), gR_new_ne (hne l kl)]
    exact h3 l i hl hk
  · have pu := fR_u hu
    rw [hA u (by unfold dl; omega)]
    exact h3b l i u hu
  · have p := dR_k hu
    have pu := dR_u hu
    have kl : KS D nn S (dl d r') ≠ 0 := by rw [KS_o (by unfold dl; omega), KL_d hd (by omega) p.1]; exact p.2
    rw [hA _ (by unfold dl; omega), hA _ (by unfold dl; omega), gR_new_ne (hne _ kl)]
    exact h4 d r' i u hd hu
  · have p := dR_k hu
    have pu := dR_u hu
    obtain ⟨s1, s2, s3⟩ := h5 r' i u ht hu
    have n1 : r' ≠ r := fun e => by rw [e, hS] at s1; exact absurd s1 (by decide)
    have n2 : u ≠ r := fun e => by rw [e, hS] at s2; exact absurd s2 (by decide)
    refine ⟨by show (S r' || _) = true; rw [s1]; rfl, by show (S u || _) = true; rw [s2]; rfl, ?_⟩
    rw [hA _ (by unfold dl; omega), hA _ (by unfold dl; omega), gR_new_ne (hne _ (by rw [KS_d p.1 s1]; exact p.2))]
    exact s3
theorem CD.ref (h : CD A D nn R S T V g) {r i u : Nat} (hr : dR r i = some u) (hS : S r = true) (hU : S u = true) : CD A D nn R S (fun x y => T x y || (decide (x = r) && decide (y = i))) V (sV g (A (dl D r)) i (some (A (dl D u)))) := by
  obtain ⟨h1, h2, h3, h3b, h4, h5, h6, h7⟩ := h
  have p := dR_k hr
  have kr : KS D nn S (dl D r) ≠ 0 := by rw [KS_d p.1 hS]; exact p.2
  refine ⟨h1, h2, fun l j hl hk => ?_, h3b, fun d r' j w hd hu => ?_, fun r' j w ht hu => ?_, h6, h7⟩
  · rw [gR_sV, if_neg]
    · exact h3 l j hl hk
    · rintro ⟨e, _⟩
      have := h2 l (dl D r) (by rw [KS_o (by omega), KL_f hl]; exact hk) kr e
      unfold dl at this; omega
  · have pl := dR_k hu
    rw [gR_sV, if_neg]
    · exact h4 d r' j w hd hu
    · rintro ⟨e, _⟩
      have := h2 (dl d r') (dl D r) (by rw [KS_o (by unfold dl; omega), KL_d hd (by omega) pl.1]; exact pl.2) kr e
      unfold dl at this; omega
  · have pl := dR_k hu
    rw [gR_sV]
    by_cases c : r' = r ∧ j = i
    · obtain ⟨c1, c2⟩ := c
      subst c1; subst c2
      rw [hr] at hu
      cases hu
      exact ⟨hS, hU, by rw [if_pos ⟨rfl, rfl⟩]⟩
    · have ht' : T r' j = true := by
        rw [Bool.or_eq_true, Bool.and_eq_true, decide_eq_true_iff, decide_eq_true_iff] at ht
        exact ht.elim id (fun q => absurd q c)
      obtain ⟨s1, s2, s3⟩ := h5 r' j w ht' hu
      refine ⟨s1, s2, ?_⟩
      rw [if_neg]
      · exact s3
      · rintro ⟨e, e2⟩
        have := h2 (dl D r') (dl D r) (by rw [KS_d pl.1 s1]; exact pl.2) kr e
        exact c ⟨by unfold dl at this; omega, e2⟩
theorem CD.w (h : CD A D nn R S T V g) {r : Nat} (hr : r < 14) (hS : S r = true) (i : Nat) (v : Int32) : CD A D nn R S T (su V (dl D r) i v) (sU g (A (dl D r)) i v) := by
  obtain ⟨h1, h2, h3, h3b, h4, h5, h6, h7⟩ := h
  have kr : KS D nn S (dl D r) ≠ 0 := by
    rw [KS_d (by omega) hS]
    intro e
    have : ∀ r, r < 14 → dK r ≠ 0 := by decide
    exact this r hr e
  refine ⟨fun l hl => ?_, h2, h3, h3b, h4, h5, h6, h7⟩
  obtain ⟨a1, a2, a3⟩ := h1 l hl
  refine ⟨a1, a2, ?_⟩
  show gI (sI g (A (dl D r)) (upd (gI g (A (dl D r))) i v)) (A l) = _
  by_cases e : l = dl D r
  · subst e; rw [gI_sI_self, su_self, a3]
  · rw [gI_sI_ne (fun q => e (h2 l (dl D r) hl kr q)), su_row e, a3]
theorem CD.k (h : CD A D nn R S T V g) {r k : Nat} (hr : r < 14) (hS : S r = true) (hk : dK r = k) : gK g (A (dl D r)) = k := by
  have e : KS D nn S (dl D r) = dK r := KS_d (by omega) hS
  have h0 : ∀ r, r < 14 → dK r ≠ 0 := by decide
  have := (h.1 (dl D r) (by rw [e]; exact h0 r hr)).1
  rw [this, e, hk]
theorem CD.n3 (h : CD A D nn R S T V g) (hS : S 1 = true) : gN g (A (dl D 1)) = 3 := by
  have e : KS D nn S (dl D 1) = dK 1 := KS_d (by omega) hS
  have := (h.1 (dl D 1) (by rw [e]; decide)).2.1
  rw [e, if_pos (by decide), NL_d (by have := h.2.2.2.2.2.2.1; omega) (by decide)] at this
  exact this
theorem CD.r (h : CD A D nn R S T V g) {r i u : Nat} (hT : T r i = true) (hr : dR r i = some u) : gR g (A (dl D r)) i = some (A (dl D u)) := (h.2.2.2.2.2.1 r i u hT hr).2.2
theorem CD.f (h : CD A D nn R S T V g) {l : Nat} (hl : l < 100) (h0 : fK l ≠ 0) : gK g (A l) = fK l := by
  have e : KS D nn S l = fK l := by rw [KS_o (by omega), KL_f hl]
  have := (h.1 l (by rw [e]; exact h0)).1
  rw [this, e]
/-- a row of terms, made -/
theorem x_rowInit (h : CD A D nn R S T V g) {f : Nat} (hf : f < 3) (h2 : S (2 + f) = true) (h5 : S (5 + f) = false) (h8 : S (8 + f) = false) (h11 : S (11 + f) = false) {Q : gS → Prop} (hQ : ∀ A' V' g', CD A' D nn R (fun x => ((S x || decide (x = 5 + f)) || decide (x = 8 + f)) || decide (x = 11 + f)) (fun x y => ((T x y || (decide (x = 2 + f) && decide (y = 0))) || (decide (x = 2 + f) && decide (y = 1))) || (decide (x = 2 + f) && decide (y = 2))) V' g' → (∀ l, l ≠ dl D (5 + f) → l ≠ dl D (8 + f) → l ≠ dl D (11 + f) → A' l = A l ∧ V' l = V l) → Q g') : w_X9_init g (A (dl D (2 + f))) Q := by
  have k10 : dK (2 + f) = 10 := dK_t hf
  have eP : dK (5 + f) = 21 ∧ dN (5 + f) = 12 := ⟨dK_p hf, by rcases f with _ | _ | _ | f <;> first | rfl | omega⟩
  have eQ : dK (8 + f) = 21 ∧ dN (8 + f) = 12 := ⟨dK_q hf, by rcases f with _ | _ | _ | f <;> first | rfl | omega⟩
  have eC : dK (11 + f) = 21 ∧ dN (11 + f) = 12 := ⟨dK_c hf, by rcases f with _ | _ | _ | f <;> first | rfl | omega⟩
  have rP : dR (2 + f) 0 = some (5 + f) := by rcases f with _ | _ | _ | f <;> first | rfl | omega
  have rQ : dR (2 + f) 1 = some (8 + f) := by rcases f with _ | _ | _ | f <;> first | rfl | omega
  have rC : dR (2 + f) 2 = some (11 + f) := by rcases f with _ | _ | _ | f <;> first | rfl | omega
  unfold w_X9_init
  intro q1 hq1 g1 e1
  subst e1
  obtain ⟨A1, V1, c1, a1, b1, z1⟩ := h.new (r := 5 + f) (by omega) h5 hq1
  rw [eP.1, eP.2] at c1
  have t1 : A1 (dl D (2 + f)) = A (dl D (2 + f)) := (b1 _ (by unfold dl; omega)).1
  rw [← t1]
  refine ⟨c1.k (by omega) (by rw [h2]; rfl) k10, fun g2 e2 => ?_⟩
  subst e2
  have c2 := c1.ref rP (by rw [h2]; rfl) (by rw [decide_eq_true rfl, Bool.or_true])
  rw [a1] at c2
  intro q2 hq2 g3 e3
  subst e3
  obtain ⟨A2, V2, c3, a2, b2, z2⟩ := c2.new (r := 8 + f) (by omega) (by rw [h8, decide_eq_false (by omega)]; rfl) hq2
  rw [eQ.1, eQ.2] at c3
  have t2 : A2 (dl D (2 + f)) = A1 (dl D (2 + f)) := (b2 _ (by unfold dl; omega)).1
  rw [← t2] at c3 ⊢
  refine ⟨c3.k (by omega) (by rw [h2]; rfl) k10, fun g4 e4 => ?_⟩
  subst e4
  have c4 := c3.ref rQ (by rw [h2]; rfl) (by rw [decide_eq_true rfl, Bool.or_true])
  rw [a2] at c4
  intro q3 hq3 g5 e5
  subst e5
  obtain ⟨A3, V3, c5, a3, b3, z3⟩ := c4.new (r := 11 + f) (by omega) (by rw [h11, decide_eq_false (by omega), decide_eq_false (by omega)]; rfl) hq3
  rw [eC.1, eC.2] at c5
  have t3 : A3 (dl D (2 + f)) = A2 (dl D (2 + f)) := (b3 _ (by unfold dl; omega)).1
  rw [← t3] at c5 ⊢
  refine ⟨c5.k (by omega) (by rw [h2]; rfl) k10, fun g6 e6 => ?_⟩
  subst e6
  have c6 := c5.ref rC (by rw [h2]; rfl) (by rw [decide_eq_true rfl, Bool.or_true])
  rw [a3] at c6
  refine hQ A3 V3 _ c6 (fun l l1 l2 l3 => ?_)
  obtain ⟨x1, y1⟩ := b1 l l1
  obtain ⟨x2, y2⟩ := b2 l l2
  obtain ⟨x3, y3⟩ := b3 l l3
  exact ⟨by rw [x3, x2, x1], by rw [y3, y2, y1]⟩
/-- a field's row, made and put in its place -/
theorem x_fieldInit (h : CD A D nn R S T V g) {f : Nat} (hf : f < 3) (h0 : S 0 = true) (h1 : S 1 = true) (hT : T 0 2 = true) (h2 : S (2 + f) = false) (h5 : S (5 + f) = false) (h8 : S (8 + f) = false) (h11 : S (11 + f) = false) {i : Int32} (hi : i = nI f) {P : gS → Prop} (hP : ∀ A' V' g', CD A' D nn R (fun x => (((S x || decide (x = 2 + f)) || decide (x = 5 + f)) || decide (x = 8 + f)) || decide (x = 11 + f)) (fun x y => (((T x y || (decide (x = 2 + f) && decide (y = 0))) || (decide (x = 2 + f) && decide (y = 1))) || (decide (x = 2 + f) && decide (y = 2))) || (decide (x = 1) && decide (y = f))) V' g' → (∀ l, l ≠ dl D (2 + f) → l ≠ dl D (5 + f) → l ≠ dl D (8 + f) → l ≠ dl D (11 + f) → A' l = A l ∧ V' l = V l) → V' (dl D (2 + f)) = (fun _ => 0) → P g') : ∃ y, gR g (A (dl D 0)) 2 = some y ∧ ∀ q, gK g q = 0 → ∀ g2, g2 = sNew g q 10 0 → w_X9_init g2 q (fun g3 => gK g3 y = 26 ∧ vp_in i (gN g3 y) ∧ gK g3 q = 10 ∧ ∀ g4, g4 = sV g3 y (Int32.toNatClampNeg i) (some q) → P g4) := by
  subst hi
  have d1f : dR 1 f = some (2 + f) := by rcases f with _ | _ | _ | f <;> first | rfl | omega
  have k10 : dK (2 + f) = 10 ∧ dN (2 + f) = 0 := ⟨dK_t hf, by rcases f with _ | _ | _ | f <;> first | rfl | omega⟩
  refine ⟨_, h.r hT rfl, fun q hq g2 e2 => ?_⟩
  subst e2
  obtain ⟨A1, V1, c1, a1, b1, z1⟩ := h.new (r := 2 + f) (by omega) h2 hq
  rw [k10.1, k10.2] at c1
  have t1 : A1 (dl D 1) = A (dl D 1) := (b1 _ (by unfold dl; omega)).1
  rw [← a1, ← t1]
  rw [← a1] at c1
  refine x_rowInit c1 hf (by show (S (2 + f) || decide (2 + f = 2 + f)) = true; rw [decide_eq_true rfl, Bool.or_true]) (by show (S (5 + f) || decide (5 + f = 2 + f)) = false; rw [h5, decide_eq_false (by omega)]; rfl) (by show (S (8 + f) || decide (8 + f = 2 + f)) = false; rw [h8, decide_eq_false (by omega)]; rfl) (by show (S (11 + f) || decide (11 + f = 2 + f)) = false; rw [h11, decide_eq_false (by omega)]; rfl) (fun A2 V2 g3 c2 b2 => ?_)
  have t2 : A2 (dl D 1) = A1 (dl D 1) := (b2 _ (by unfold dl; omega) (by unfold dl; omega) (by unfold dl; omega)).1
  have u2 : A2 (dl D (2 + f)) = A1 (dl D (2 + f)) := (b2 _ (by unfold dl; omega) (by unfold dl; omega) (by unfold dl; omega)).1
  have s1 : (((S 1 || decide (1 = 2 + f)) || decide (1 = 5 + f)) || decide (1 = 8 + f) || decide (1 = 11 + f)) = true := by rw [h1]; rfl
  have s2 : (((S (2 + f) || decide (2 + f = 2 + f)) || decide (2 + f = 5 + f)) || decide (2 + f = 8 + f) || decide (2 + f = 11 + f)) = true := by rw [decide_eq_true rfl, Bool.or_true]; rfl
  rw [← t2, ← u2]
  refine ⟨c2.k (by decide) s1 rfl, ?_, c2.k (by omega) s2 k10.1, fun g4 e4 => ?_⟩
  · rw [c2.n3 s1]; exact vpi hf
  · subst e4
    rw [cl_nI (by omega)]
    have c3 := c2.ref d1f s1 s2
    refine hP A2 V2 _ c3 (fun l l0 l1 l2 l3 => ?_) ?_
    · obtain ⟨x1, y1⟩ := b1 l l0
      obtain ⟨x2, y2⟩ := b2 l l1 l2 l3
      exact ⟨by rw [x2, x1], by rw [y2, y1]⟩
    · rw [(b2 _ (by unfold dl; omega) (by unfold dl; omega) (by unfold dl; omega)).2]; exact z1
/-- a document, made -/
theorem x_docInit (h : CR A D nn V g) (hD : D < 60) {q : Nat} (hq : gK g q = 0) {a b : Int32} {Q : gS → Prop} (hQ : ∀ A' V' g', CR A' (D + 1) nn V' g' → A' (dl D 0) = q → (∀ l, (l < 100 + 20 * D ∨ 120 + 20 * D ≤ l) → A' l = A l ∧ V' l = V l) → V' (dl D 0) 0 = a → V' (dl D 0) 1 = b → V' (dl D 0) 3 = -1 → V' (dl D 0) 4 = 0 → (∀ f, f < 3 → V' (dl D (2 + f)) = fun _ => 0) → (∀ l i, l < 100 → fK l ≠ 0 → gR g' (A l) i = gR g (A l) i) → Q g') : w_X2_init (sNew g q 3 0) q a b Q := by
  obtain ⟨A1, V1, c1, a1, b1, z1⟩ := (h.cd hD).new (r := 0) (by decide) rfl hq
  have c1' : CD A1 D nn (fun l => gR g (A l)) (fun x => false || decide (x = 0)) (fun _ _ => false) V1 (sNew g q 3 0) := c1
  clear c1
  rw [← a1] at c1' ⊢
  rw [← a1] at hQ
  generalize sNew g (A1 (dl D 0)) 3 0 = g1 at c1' ⊢
  unfold w_X2_init
  intro q1 hq1 g2 e2
  subst e2
  obtain ⟨A2, V2, c2, a2, b2, z2⟩ := c1'.new (r := 1) (by decide) rfl hq1
  have c2' : CD A2 D nn (fun l => gR g (A l)) (fun x => (false || decide (x = 0)) || decide (x = 1)) (fun _ _ => false) V2 (sNew g1 q1 26 3) := c2
  clear c2
  have t2 : A2 (dl D 0) = A1 (dl D 0) := (b2 _ (by unfold dl; omega)).1
  rw [← t2]
  rw [← a2] at c2' ⊢
  generalize sNew g1 (A2 (dl D 1)) 26 3 = g2 at c2' ⊢
  refine ⟨c2'.k (by decide) rfl rfl, fun g3 e3 => ?_⟩
  subst e3
  have c3 := c2'.ref (r := 0) (i := 2) (u := 1) rfl rfl rfl
  generalize sV g2 (A2 (dl D 0)) 2 (some (A2 (dl D 1))) = g3 at c3 ⊢
  refine ⟨c3.k (by decide) rfl rfl, fun g4 e4 => ?_⟩
  subst e4
  have c4 := c3.w (r := 0) (by decide) rfl 3 (-1)
  refine ⟨c4.k (by decide) rfl rfl, fun g5 e5 => ?_⟩
  subst e5
  have c5 := c4.w (r := 0) (by decide) rfl 0 a
  refine ⟨c5.k (by decide) rfl rfl, fun g6 e6 => ?_⟩
  subst e6
  have c6 := c5.w (r := 0) (by decide) rfl 1 b
  have v0 : su (su (su V2 (dl D 0) 3 (-1)) (dl D 0) 0 a) (dl D 0) 1 b (dl D 0) 0 = a ∧ su (su (su V2 (dl D 0) 3 (-1)) (dl D 0) 0 a) (dl D 0) 1 b (dl D 0) 1 = b ∧ su (su (su V2 (dl D 0) 3 (-1)) (dl D 0) 0 a) (dl D 0) 1 b (dl D 0) 3 = -1 ∧ su (su (su V2 (dl D 0) 3 (-1)) (dl D 0) 0 a) (dl D 0) 1 b (dl D 0) 4 = 0 := by
    have z : V2 (dl D 0) 4 = 0 := by rw [(b2 _ (by unfold dl; omega)).2, z1]
    simp [su_at, z]
  have vo : ∀ l, l ≠ dl D 0 → su (su (su V2 (dl D 0) 3 (-1)) (dl D 0) 0 a) (dl D 0) 1 b l = V2 l := fun l hl => by rw [su_row hl, su_row hl, su_row hl]
  generalize su (su (su V2 (dl D 0) 3 (-1)) (dl D 0) 0 a) (dl D 0) 1 b = V6 at c6 v0 vo
  generalize sU (sU (sU g3 (A2 (dl D 0)) 3 (-1)) (A2 (dl D 0)) 0 a) (A2 (dl D 0)) 1 b = g6 at c6 ⊢
  refine ⟨c6.k (by decide) rfl rfl, _, c6.r (r := 0) (i := 2) (u := 1) rfl rfl, c6.k (by decide) rfl rfl, ?_⟩
  rw [c6.n3 rfl]
  refine ⟨fun c => absurd c (by decide), fun _ => x_fieldInit c6 (f := 0) (by decide) rfl rfl rfl rfl rfl rfl rfl rfl (fun A7 V7 g7 c7 b7 z7 => ?_)⟩
  have t7 : A7 (dl D 0) = A2 (dl D 0) := (b7 _ (by unfold dl; omega) (by unfold dl; omega) (by unfold dl; omega) (by unfold dl; omega)).1
  rw [← t7]
  refine ⟨c7.k (by decide) rfl rfl, _, c7.r (r := 0) (i := 2) (u := 1) rfl rfl, c7.k (by decide) rfl rfl, ?_⟩
  rw [c7.n3 rfl]
  refine ⟨fun c => absurd c (by decide), fun _ => x_fieldInit c7 (f := 1) (by decide) rfl rfl rfl rfl rfl rfl rfl rfl (fun A8 V8 g8 c8 b8 z8 => ?_)⟩
  have t8 : A8 (dl D 0) = A7 (dl D 0) := (b8 _ (by unfold dl; omega) (by unfold dl; omega) (by unfold dl; omega) (by unfold dl; omega)).1
  rw [← t8]
  refine ⟨c8.k (by decide) rfl rfl, _, c8.r (r := 0) (i := 2) (u := 1) rfl rfl, c8.k (by decide) rfl rfl, ?_⟩
  rw [c8.n3 rfl]
  refine ⟨fun c => absurd c (by decide), fun _ => x_fieldInit c8 (f := 2) (by decide) rfl rfl rfl rfl rfl rfl rfl rfl (fun A9 V9 g9 c9 b9 z9 => ?_)⟩
  have t9 : A9 (dl D 0) = A8 (dl D 0) := (b9 _ (by unfold dl; omega) (by unfold dl; omega) (by unfold dl; omega) (by unfold dl; omega)).1
  rw [← t9]
  refine ⟨c9.k (by decide) rfl rfl, _, c9.r (r := 0) (i := 2) (u := 1) rfl rfl, c9.k (by decide) rfl rfl, ?_⟩
  rw [c9.n3 rfl]
  refine ⟨fun _ => ?_, fun c => absurd (by decide) c⟩
  have hcr := c9.cr (by decide) (fun r i u hr => by
    unfold dR at hr
    split at hr <;> first | rfl | cases hr)
  have oA : ∀ l, (l < 100 + 20 * D ∨ 120 + 20 * D ≤ l) → A9 l = A l ∧ V9 l = V l := fun l hl => by
    have n : ∀ r, r < 20 → l ≠ dl D r := fun r hr => by unfold dl; omega
    obtain ⟨p9, q9⟩ := b9 l (n _ (by decide)) (n _ (by decide)) (n _ (by decide)) (n _ (by decide))
    obtain ⟨p8, q8⟩ := b8 l (n _ (by decide)) (n _ (by decide)) (n _ (by decide)) (n _ (by decide))
    obtain ⟨p7, q7⟩ := b7 l (n _ (by decide)) (n _ (by decide)) (n _ (by decide)) (n _ (by decide))
    obtain ⟨p2, q2⟩ := b2 l (n _ (by decide))
    obtain ⟨p1, q1⟩ := b1 l (n _ (by decide))
    exact ⟨by rw [p9, p8, p7, p2, p1], by rw [q9, q8, q7, vo l (n _ (by decide)), q2, q1]⟩
  have d : ∀ {r r' : Nat}, r ≠ r' → dl D r ≠ dl D r' := fun h => by unfold dl; omega
  have e0 : V9 (dl D 0) = V6 (dl D 0) := by
    rw [(b9 _ (d (by decide)) (d (by decide)) (d (by decide)) (d (by decide))).2, (b8 _ (d (by decide)) (d (by decide)) (d (by decide)) (d (by decide))).2, (b7 _ (d (by decide)) (d (by decide)) (d (by decide)) (d (by decide))).2]
  refine hQ A9 V9 g9 hcr (by rw [t9, t8, t7, t2]) oA (by rw [e0]; exact v0.1) (by rw [e0]; exact v0.2.1) (by rw [e0]; exact v0.2.2.1) (by rw [e0]; exact v0.2.2.2) (fun f hf => ?_) (fun l i hl hk => ?_)
  · rcases f with _ | _ | _ | f
    · rw [(b9 _ (d (by decide)) (d (by decide)) (d (by decide)) (d (by decide))).2, (b8 _ (d (by decide)) (d (by decide)) (d (by decide)) (d (by decide))).2]; exact z7
    · rw [(b9 _ (d (by decide)) (d (by decide)) (d (by decide)) (d (by decide))).2]; exact z8
    · exact z9
    · omega
  · have := c9.2.2.1 l i hl hk
    rw [(oA l (Or.inl (by omega))).1] at this
    exact this
end COPEN
