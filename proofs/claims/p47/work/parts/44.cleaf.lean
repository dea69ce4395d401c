/-! THE CLASS: what its cells hold, and its leaves -/
def hmF (σ : Rows) (bf d : Nat) : Int32 := if σ 6 d = 0 then (if d < bf then -2 else -1) else σ 15 d
def tmN (σ : Rows) (d f t : Nat) : Nat := cnt (fun p => decide (tmF σ d f p = nI t)) (lnF σ d f)
def Dif (σ : Rows) (d f k : Nat) (X C : Nat → Int32) : Prop :=
  (∀ i, i < k → ∃ t, t < 200 ∧ X i = nI t ∧ C i = nI (tmN σ d f t) ∧ 0 < tmN σ d f t) ∧ (∀ i j, i < k → j < k → X i = X j → i = j) ∧ ∀ p, p < lnF σ d f → ∃ i, i < k ∧ X i = tmF σ d f p
def vRow (V σ : Rows) (d f : Nat) : Prop :=
  V (dl d (2 + f)) 3 = σ 7 (d * 3 + f) ∧ (∀ p, p < lnF σ d f → V (dl d (5 + f)) p = tmF σ d f p) ∧ ∃ k, k ≤ lnF σ d f ∧ V (dl d (2 + f)) 4 = nI k ∧ Dif σ d f k (V (dl d (8 + f))) (V (dl d (11 + f)))
def vDoc (V σ : Rows) (bf d : Nat) : Prop := V (dl d 0) 0 = σ 3 d ∧ V (dl d 0) 1 = σ 4 d ∧ V (dl d 0) 3 = hmF σ bf d ∧ V (dl d 0) 4 = σ 5 d ∧ ∀ f, f < 3 → vRow V σ d f
def vNode (V σ : Rows) (j : Nat) : Prop :=
  V (jl j) 0 = σ 17 j ∧ (σ 17 j = 0 → V (jl j) 1 = σ 18 j ∧ V (jl j) 2 = σ 19 j) ∧ (σ 17 j = 1 ∨ σ 17 j = 2 ∨ σ 17 j = 3 ∨ σ 17 j = 4 → V (jl j) 3 = σ 18 j ∧ V (jl j) 4 = σ 19 j) ∧
  (σ 17 j = 4 → V (jl j) 5 = σ 20 j ∧ V (jl j) 6 = σ 21 j) ∧ (σ 17 j = 5 → V (jl j) 7 = σ 18 j ∧ V (jl j) 8 = σ 19 j) ∧ (σ 17 j = 6 → V (jl j) 9 = σ 18 j) ∧
  (σ 17 j = 7 → V (jl j) 3 = σ 18 j ∧ V (jl j) 10 = σ 19 j) ∧ (σ 17 j = 8 → V (jl j) 3 = σ 18 j ∧ V (jl j) 11 = σ 19 j ∧ V (jl j) 12 = σ 20 j)
def vCen (V : Rows) (cb : Nat) (ρ : Rows) (n : Nat) : Prop := V cb 2 = lyF ρ n ∧ (∀ f, f < 3 → V (cb + 5) f = leF ρ f n) ∧ ∀ f t, f < 3 → t < 200 → V (cb + 2 + f) t = spF ρ t f n
def vInt (V σ : Rows) (n nn nr ns : Nat) : Prop :=
  V 1 1 = nI n ∧ V 1 4 = nI ns ∧ (∀ s, s < ns → V 3 s = σ 14 s) ∧ (∀ t, t < 200 → V 11 t = σ 10 t ∧ V 12 t = σ 11 t) ∧ (∀ f, f < 3 → V 13 f = σ 12 f) ∧ V 14 2 = nI nn ∧ V 18 3 = nI nr ∧ (∀ p, p < nr → V 20 p = σ 23 p ∧ V 21 p = σ 24 p) ∧ V 36 3 = 1 ∧ V 38 3 = 0 ∧ V 40 3 = 1
def cRef (A : Nat → Nat) (D : Nat) (σ : Rows) (n nn nr : Nat) (g : gS) : Prop :=
  (∀ d, d < n → gR g (A 2) d = some (A (dl d 0))) ∧ gR g (A 1) 2 = (if D = n then none else some (A (dl n 0))) ∧ (∀ j, j < nn → gR g (A 15) j = some (A (jl j))) ∧ (∀ p, p < nr → ∃ d, d < n ∧ σ 23 p = nI d ∧ gR g (A 19) p = some (A (dl d 0))) ∧ n ≤ D ∧ D ≤ n + 1
def CC (A : Nat → Nat) (D : Nat) (V σ : Rows) (n bf nn nr ns : Nat) (g : gS) : Prop :=
  CR A D nn V g ∧ vInt V σ n nn nr ns ∧ (∀ d, d < D → vDoc V σ bf d) ∧ (∀ j, j < nn → vNode V σ j) ∧ cRef A D σ n nn nr g
section CLEAF
variable {A : Nat → Nat} {D : Nat} {V σ ρ : Rows} {n bf nn nr ns : Nat} {g : gS}
theorem x_docAt (h : CC A D V σ n bf nn nr ns g) {k : Nat} (hk : k < n) {Q : Option Nat → Prop} (hQ : Q (some (A (dl k 0)))) : w_X0_documentAt g (A 1) (nI k) Q := by
  obtain ⟨hr, hv, _, _, hf⟩ := h
  have := hr.D6
  have hnD := hf.2.2.2.2.1
  unfold w_X0_documentAt b_X0_documentAt_21 b_X0_documentAt_31
  refine ⟨fun c => absurd c (not_lt0 (by omega)), fun _ => ⟨hr.k1, ?_⟩⟩
  rw [hr.i1, hv.1]
  refine ⟨fun c => absurd c (nI_ge hk (by omega)), fun _ => ⟨_, hr.r1_0, hr.k2, ?_⟩⟩
  rw [hr.n2]
  refine ⟨fun _ => ⟨_, hr.r1_0, hr.k2, by rw [hr.n2]; exact vpi (by omega), fun o ho => ?_⟩, fun c => absurd ((nI_lt_iff (by omega) (by decide)).mpr (show k < 60 by omega)) c⟩
  subst ho
  rw [cl_nI (by omega), hf.1 k hk]; exact hQ
theorem x_docNo (h : CC A D V σ n bf nn nr ns g) {x : Int32} (hx : ¬ inR x 0 (nI n - 1)) {Q : Option Nat → Prop} (hQ : Q none) : w_X0_documentAt g (A 1) x Q := by
  obtain ⟨hr, hv, _, _, hf⟩ := h
  have := hr.D6
  have hnD := hf.2.2.2.2.1
  unfold w_X0_documentAt b_X0_documentAt_21 b_X0_documentAt_31
  refine ⟨fun _ => hQ, fun c => ⟨hr.k1, ?_⟩⟩
  rw [hr.i1, hv.1]
  refine ⟨fun _ => hQ, fun c2 => ?_⟩
  obtain ⟨k, hk, rfl⟩ := nI_of c
  have hkn : k < n := by
    rcases Nat.lt_or_ge k n with q | q
    · exact q
    · exact absurd (nI_le q hk) c2
  exact absurd (nI_inR (by omega) hkn) hx
theorem x_rowOf (h : CR A D nn V g) {d f : Nat} (hd : d < D) (hf : f < 3) {Q : Option Nat → Prop} (hQ : Q (some (A (dl d (2 + f))))) : w_X2_rowOf g (A (dl d 0)) (nI f) Q := by
  unfold w_X2_rowOf b_X2_rowOf_13 b_X2_rowOf_23
  refine ⟨fun c => absurd c (not_lt0 (by omega)), fun _ => ⟨h.d0k hd, _, h.d0r hd, h.d1k hd, ?_⟩⟩
  rw [h.d1n hd]
  refine ⟨fun _ => ⟨_, h.d0r hd, h.d1k hd, by rw [h.d1n hd]; exact vpi hf, fun o ho => ?_⟩, fun c => absurd ((nI_lt_iff (by omega) (by decide)).mpr hf) c⟩
  subst ho
  rw [cl_nI (by omega), h.d1r hd hf]; exact hQ
theorem x_rowNo (h : CR A D nn V g) {d : Nat} (hd : d < D) {x : Int32} (hx : ¬ isF x) {Q : Option Nat → Prop} (hQ : Q none) : w_X2_rowOf g (A (dl d 0)) x Q := by
  unfold w_X2_rowOf b_X2_rowOf_13 b_X2_rowOf_23
  refine ⟨fun _ => hQ, fun c => ⟨h.d0k hd, _, h.d0r hd, h.d1k hd, ?_⟩⟩
  rw [h.d1n hd]
  refine ⟨fun c2 => ?_, fun _ => hQ⟩
  obtain ⟨k, hk, rfl⟩ := in_nI (by decide) c c2
  exact absurd (nI_inR (n := 3) (by decide) hk) hx
theorem x_lies (h : CC A D V σ n bf nn nr ns g) {d : Nat} (hd : d < D) (h15 : σ 6 d ≠ 0 → ¬ σ 15 d < 0) {Q : Int32 → Prop} (hQ : Q (bI (!decide (σ 6 d = 0)))) : w_X2_liesInSegment g (A (dl d 0)) Q := by
  obtain ⟨hr, hv, hdoc, _, hf⟩ := h
  unfold w_X2_liesInSegment b_X2_liesInSegment_12
  refine ⟨hr.d0k hd, ?_⟩
  rw [hr.d0i hd, (hdoc d hd).2.2.1]
  unfold hmF
  by_cases c : σ 6 d = 0
  · rw [if_pos c]
    rw [decide_eq_true c] at hQ
    have : (if d < bf then (-2 : Int32) else -1) < 0 := by split <;> decide
    exact ⟨fun _ => ⟨Or.inl rfl, hQ⟩, fun q => absurd this q⟩
  · rw [if_neg c]
    rw [decide_eq_false c] at hQ
    exact ⟨fun q => absurd q (h15 c), fun _ => ⟨Or.inr rfl, hQ⟩⟩
theorem x_canBeFound (h : CC A D V σ n bf nn nr ns g) {d : Nat} (hd : d < D) (h15 : σ 6 d ≠ 0 → ¬ σ 15 d < 0) {Q : Int32 → Prop} (hQ : Q (bI (there σ d))) : w_X2_canBeFound g (A (dl d 0)) Q := by
  have hc := h
  obtain ⟨hr, hv, hdoc, _, hf⟩ := h
  unfold w_X2_canBeFound b_X2_canBeFound_18 b_X2_canBeFound_19
  unfold there at hQ
  refine ⟨hr.d0k hd, ?_⟩
  rw [hr.d0i hd, (hdoc d hd).2.2.2.1]
  refine ⟨fun c => x_lies hc hd h15 ⟨fun c2 => ⟨Or.inl rfl, ?_⟩, fun c2 => ⟨Or.inr rfl, ?_⟩⟩, fun c => ⟨Or.inl rfl, ?_⟩⟩
  · rw [bI_0.mp c2] at hQ; exact hQ
  · rw [bI_n0 c2, decide_eq_true c] at hQ; exact hQ
  · rw [decide_eq_false c, Bool.and_false] at hQ; exact hQ
theorem x_state (h : CC A D V σ n bf nn nr ns g) {d : Nat} (hd : d < D) (h15 : σ 6 d ≠ 0 → ¬ σ 15 d < 0) {Q : Int32 → Prop} (hQ : Q (if σ 5 d = 0 then (if σ 6 d = 0 then 1 else 2) else 0)) : w_X2_state g (A (dl d 0)) Q := by
  have hc := h
  obtain ⟨hr, hv, hdoc, _, hf⟩ := h
  unfold w_X2_state b_X2_state_21
  refine ⟨hr.d0k hd, ?_⟩
  rw [hr.d0i hd, (hdoc d hd).2.2.2.1]
  refine ⟨fun c => x_lies hc hd h15 ⟨fun c2 => ?_, fun c2 => ?_⟩, fun c => ?_⟩
  · have : σ 6 d = 0 := by have := bI_0.mp c2; simpa using this
    rw [if_pos c, if_pos this] at hQ; exact hQ
  · have : ¬ σ 6 d = 0 := by have := bI_n0 c2; simpa using this
    rw [if_pos c, if_neg this] at hQ; exact hQ
  · rw [if_neg c] at hQ; exact hQ
theorem x_termOn (h : CR A D nn V g) {d f p : Nat} (hd : d < D) (hf : f < 3) (hl : lnF σ d f ≤ 12) (e3 : V (dl d (2 + f)) 3 = nI (lnF σ d f)) (ep : V (dl d (5 + f)) p = tmF σ d f p) (hp : p < lnF σ d f) {Q : Int32 → Prop} (hQ : Q (tmF σ d f p)) : w_X9_termOn g (A (dl d (2 + f))) (nI p) Q := by
  unfold w_X9_termOn b_X9_termOn_21 b_X9_termOn_31
  refine ⟨fun c => absurd c (not_lt0 (by omega)), fun _ => ⟨h.tk hd hf, ?_⟩⟩
  rw [h.ti hd hf, e3]
  refine ⟨fun c => absurd c (nI_ge hp (by omega)), fun _ => ⟨_, h.tpr hd hf, h.pk hd hf, ?_⟩⟩
  rw [h.pn hd hf]
  refine ⟨fun _ => ⟨_, h.tpr hd hf, h.pk hd hf, by rw [h.pn hd hf]; exact vpi (by omega), ?_⟩, fun c => absurd ((nI_lt_iff (by omega) (by decide)).mpr (show p < 12 by omega)) c⟩
  rw [h.pi hd hf, cl_nI (by omega), ep]; exact hQ
theorem x_difOn (h : CR A D nn V g) {d f i k : Nat} (hd : d < D) (hf : f < 3) (hk : k ≤ 12) (e4 : V (dl d (2 + f)) 4 = nI k) (hi : i < k) {Q : Int32 → Prop} (hQ : Q (V (dl d (8 + f)) i)) : w_X9_differentTermOn g (A (dl d (2 + f))) (nI i) Q := by
  unfold w_X9_differentTermOn b_X9_differentTermOn_21 b_X9_differentTermOn_31
  refine ⟨fun c => absurd c (not_lt0 (by omega)), fun _ => ⟨h.tk hd hf, ?_⟩⟩
  rw [h.ti hd hf, e4]
  refine ⟨fun c => absurd c (nI_ge hi (by omega)), fun _ => ⟨_, h.tqr hd hf, h.qk hd hf, ?_⟩⟩
  rw [h.qn hd hf]
  refine ⟨fun _ => ⟨_, h.tqr hd hf, h.qk hd hf, by rw [h.qn hd hf]; exact vpi (by omega), ?_⟩, fun c => absurd ((nI_lt_iff (by omega) (by decide)).mpr (show i < 12 by omega)) c⟩
  rw [h.qi hd hf, cl_nI (by omega)]; exact hQ
/-- where a term stands among the different ones -/
theorem x_indexOf (h : CR A D nn V g) {d f k : Nat} (hd : d < D) (hf : f < 3) (hk : k ≤ 12) (e4 : V (dl d (2 + f)) 4 = nI k) {x : Int32} {Q : Int32 → Prop} (h1 : ∀ i, i < k → V (dl d (8 + f)) i = x → (∀ j, j < i → V (dl d (8 + f)) j ≠ x) → Q (nI i)) (h2 : (∀ i, i < k → V (dl d (8 + f)) i ≠ x) → Q (-1)) : w_X9_indexOf g (A (dl d (2 + f))) x Q := by
  unfold w_X9_indexOf
  refine lpx1_i k (fun q a => a = nI q ∧ ∀ j, j < q → V (dl d (8 + f)) j ≠ x) ?_ ?_ 0 ⟨rfl, fun j hj => absurd hj (Nat.not_lt_zero _)⟩
  · rintro q _ hq ⟨rfl, hne⟩ K hK
    unfold l_X9_indexOf_2 b_X9_indexOf_37
    refine ⟨h.tk hd hf, ?_⟩
    rw [h.ti hd hf, e4]
    refine ⟨fun c => absurd c (nI_ge hq (by omega)), fun _ => ⟨_, h.tqr hd hf, h.qk hd hf, ?_⟩⟩
    rw [h.qn hd hf]
    refine ⟨fun c => absurd c (nI_ge (show q < 12 by omega) (by decide)), fun _ => ⟨_, h.tqr hd hf, h.qk hd hf, by rw [h.qn hd hf]; exact vpi (by omega), ?_⟩⟩
    rw [h.qi hd hf, cl_nI (by omega)]
    refine ⟨fun c => h1 q hq c hne, fun c => ?_⟩
    rw [nI_1]
    refine hK _ ⟨rfl, fun j hj => ?_⟩
    by_cases e : j = q
    · subst e; exact c
    · exact hne j (by omega)
  · rintro _ ⟨rfl, hne⟩ K
    unfold l_X9_indexOf_2 b_X9_indexOf_37
    refine ⟨h.tk hd hf, ?_⟩
    rw [h.ti hd hf, e4]
    exact ⟨fun _ => h2 hne, fun c => absurd (nI_le (Nat.le_refl _) (by omega)) c⟩
/-- how often a term stands in a row, mute or not -/
theorem x_countOf (h : CR A D nn V g) {d f : Nat} (hd : d < D) (hf : f < 3) (hl : lnF σ d f ≤ 12) (hv : vRow V σ d f) {t : Nat} (ht : t < 200) {Q : Int32 → Prop} (hQ : Q (nI (tmN σ d f t))) : w_X9_countOf g (A (dl d (2 + f))) (nI t) Q := by
  obtain ⟨_, hp, k, hk, e4, d1, d2, d3⟩ := hv
  unfold w_X9_countOf b_X9_countOf_19 b_X9_countOf_29
  refine ⟨h.tk hd hf, x_indexOf h hd hf (by omega) e4 (fun i hi e _ => ?_) (fun hne => ?_)⟩
  · obtain ⟨t', ht', a1, a2, a3⟩ := d1 i hi
    have : t' = t := (nI_inj (by omega) (by omega)).mp (by rw [← a1, e])
    subst this
    refine ⟨fun c => absurd c (not_lt0 (by omega)), fun _ => ⟨_, h.tcr hd hf, h.ck hd hf, ?_⟩⟩
    rw [h.cn hd hf]
    refine ⟨fun _ => ⟨_, h.tcr hd hf, h.ck hd hf, by rw [h.cn hd hf]; exact vpi (by omega), ?_⟩, fun c => absurd ((nI_lt_iff (by omega) (by decide)).mpr (show i < 12 by omega)) c⟩
    rw [h.ci hd hf, cl_nI (by omega), a2]; exact hQ
  · have : tmN σ d f t = 0 := by
      refine cnt_zero (fun p hp' => decide_eq_false (fun e => ?_))
      obtain ⟨i, hi, ei⟩ := d3 p hp'
      exact hne i hi (by rw [ei, e])
    rw [this] at hQ
    exact ⟨fun _ => hQ, fun c => absurd (by decide) c⟩
theorem x_countNo (h : CR A D nn V g) {d f : Nat} (hd : d < D) (hf : f < 3) (hl : lnF σ d f ≤ 12) (hv : vRow V σ d f) {Q : Int32 → Prop} (hQ : Q 0) : w_X9_countOf g (A (dl d (2 + f))) (-1) Q := by
  obtain ⟨_, hp, k, hk, e4, d1, d2, d3⟩ := hv
  unfold w_X9_countOf b_X9_countOf_19 b_X9_countOf_29
  refine ⟨h.tk hd hf, x_indexOf h hd hf (by omega) e4 (fun i hi e _ => ?_) (fun _ => ⟨fun _ => hQ, fun c => absurd (by decide) c⟩)⟩
  obtain ⟨t', ht', a1, a2, a3⟩ := d1 i hi
  exact absurd (by rw [← a1, e]) (nI_nm1 (show t' < 2 ^ 31 by omega))
end CLEAF
