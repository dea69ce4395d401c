/-! THE REFERENCE'S LEAVES -/
/-- what holds of every state of the run: numbers within their bounds -/
def GI (σ : Rows) (n bf nn nr ns : Nat) : Prop :=
  (n ≤ 60 ∧ bf ≤ n ∧ nn ≤ 30 ∧ nr ≤ 60 ∧ ns ≤ 60) ∧
  (σ 0 1 = nI n ∧ σ 0 9 = nI bf ∧ σ 0 16 = nI nn ∧ σ 0 22 = nI nr ∧ σ 0 13 = nI ns) ∧
  (σ 0 2 = 0 ∨ σ 0 2 = 1) ∧
  (∀ i, i < 180 → ∃ j, j ≤ 12 ∧ σ 7 i = nI j) ∧
  (∀ d f p, d < 60 → f < 3 → p < (σ 7 (d * 3 + f)).toNatClampNeg → ∃ t, t < 200 ∧ σ 8 ((d * 3 + f) * 12 + p) = nI t) ∧
  (∀ d, d < 60 → (σ 5 d = 0 ∨ σ 5 d = 1) ∧ (σ 6 d = 0 ∨ σ 6 d = 1)) ∧
  (∀ t, t < 200 → (σ 10 t = 0 ∨ σ 10 t = 1)) ∧
  (∀ t, t < 200 → σ 11 t = -1 ∨ ∃ a, a < 200 ∧ σ 11 t = nI a)
theorem GI.n {σ : Rows} {n bf nn nr ns : Nat} (h : GI σ n bf nn nr ns) : n ≤ 60 := h.1.1
theorem GI.d1 {σ : Rows} {n bf nn nr ns : Nat} (h : GI σ n bf nn nr ns) : σ 0 1 = nI n := h.2.1.1
theorem GI.d16 {σ : Rows} {n bf nn nr ns : Nat} (h : GI σ n bf nn nr ns) : σ 0 16 = nI nn := h.2.1.2.2.1
/-- lengths and terms as numbers -/
def lnF (σ : Rows) (d f : Nat) : Nat := (σ 7 (d * 3 + f)).toNatClampNeg
theorem GI.ln {σ : Rows} {n bf nn nr ns : Nat} (h : GI σ n bf nn nr ns) {d f : Nat} (hd : d < 60) (hf : f < 3) : lnF σ d f ≤ 12 ∧ σ 7 (d * 3 + f) = nI (lnF σ d f) := by
  obtain ⟨j, hj, e⟩ := h.2.2.2.1 (d * 3 + f) (by omega)
  have : lnF σ d f = j := by unfold lnF; rw [e]; exact nI_clamp (by omega)
  rw [this]; exact ⟨hj, e⟩
def tmF (σ : Rows) (d f p : Nat) : Int32 := σ 8 ((d * 3 + f) * 12 + p)
theorem GI.tm {σ : Rows} {n bf nn nr ns : Nat} (h : GI σ n bf nn nr ns) {d f p : Nat} (hd : d < 60) (hf : f < 3) (hp : p < lnF σ d f) : ∃ t, t < 200 ∧ tmF σ d f p = nI t := h.2.2.2.2.1 d f p hd hf hp
section MLEAF
variable {FR : gS → Prop} {m : Nat} {μ : Nat → Nat} {σ : Rows} {g : gS}
theorem m_isIn {x lo hi : Int32} {Q : Int32 → Prop} : w_X11_isIn g x lo hi Q ↔ Q (if x < lo ∨ hi < x then 0 else 1) := by
  unfold w_X11_isIn b_X11_isIn_14 b_X11_isIn_15
  by_cases h1 : x < lo
  · simp [h1]
  · by_cases h2 : hi < x
    · simp [h1, h2]
    · simp [h1, h2]
theorem m_isTerm {x : Int32} {Q : Int32 → Prop} : w_X11_isTerm g x Q ↔ Q (if x < 0 ∨ 199 < x then 0 else 1) := by
  unfold w_X11_isTerm
  simp only [m_isIn]
  constructor
  · exact fun h => h.2
  · exact fun h => ⟨by split <;> simp, h⟩
theorem m_isField {x : Int32} {Q : Int32 → Prop} : w_X11_isField g x Q ↔ Q (if x < 0 ∨ 2 < x then 0 else 1) := by
  unfold w_X11_isField
  simp only [m_isIn]
  constructor
  · exact fun h => h.2
  · exact fun h => ⟨by split <;> simp, h⟩
theorem m_isDocument (h : MR FR m μ σ g) {x : Int32} {Q : Int32 → Prop} : w_X11_isDocument g m x Q ↔ Q (if x < 0 ∨ σ 0 1 - 1 < x then 0 else 1) := by
  unfold w_X11_isDocument
  simp only [m_isIn, h.k, h.i, true_and]
  constructor
  · exact fun h => h.2
  · exact fun h => ⟨by split <;> simp, h⟩
theorem m_isNode (h : MR FR m μ σ g) {x : Int32} {Q : Int32 → Prop} : w_X11_isNode g m x Q ↔ Q (if x < 0 ∨ σ 0 16 - 1 < x then 0 else 1) := by
  unfold w_X11_isNode
  simp only [m_isIn, h.k, h.i, true_and]
  constructor
  · exact fun h => h.2
  · exact fun h => ⟨by split <;> simp, h⟩
theorem m_many (h : MR FR m μ σ g) {d f : Nat} (hd : d < 60) (hf : f < 3) {Q : Int32 → Prop} : w_X11_many g m (nI d) (nI f) Q ↔ Q (σ 7 (d * 3 + f)) := by
  unfold w_X11_many
  simp only [h.k, h.r7, h.k7, h.n7, h.i7, true_and, Option.some.injEq, exists_eq_left', lit_nI, nI_mul, nI_add]
  rw [cl_nI (by omega)]
  simp only [vpi (show d * 3 + f < 180 by omega), true_and]
theorem m_at (h : MR FR m μ σ g) {d f p : Nat} (hd : d < 60) (hf : f < 3) (hp : p < 12) {Q : Int32 → Prop} : w_X11_at g m (nI d) (nI f) (nI p) Q ↔ Q (tmF σ d f p) := by
  unfold w_X11_at
  simp only [h.k, h.r8, h.k8, h.n8, h.i8, true_and, Option.some.injEq, exists_eq_left', lit_nI, nI_mul, nI_add]
  rw [cl_nI (by omega)]
  simp only [vpi (show (d * 3 + f) * 12 + p < 2160 by omega), true_and]
  rfl
theorem m_no (h : MR FR m μ σ g) {x : Int32} {Q : Int32 → gS → Prop} (hQ : ∀ g', MR FR m μ (su σ 0 0 x) g' → Q 0 g') : w_X11_no g m x Q := by
  unfold w_X11_no
  refine ⟨h.k, fun g2 e => ?_⟩
  subst e
  exact hQ _ (h.s 0 x)
theorem m_ok (h : MR FR m μ σ g) {x : Int32} {Q : Int32 → gS → Prop} (hQ : ∀ g', MR FR m μ (su σ 0 0 0) g' → Q x g') : w_X11_ok g m x Q := by
  unfold w_X11_ok
  refine ⟨h.k, fun g2 e => ?_⟩
  subst e
  exact hQ _ (h.s 0 0)
/-- how often a field of a document has a term that isn't mute -/
def ctF (σ : Rows) (d f : Nat) (t : Int32) : Int32 := if σ 10 t.toNatClampNeg = 0 then isum (fun k => if tmF σ d f k = t then 1 else 0) (lnF σ d f) else 0
theorem m_count (h : MR FR m μ σ g) {n bf nn nr ns : Nat} (hG : GI σ n bf nn nr ns) {d f t : Nat} (hd : d < 60) (hf : f < 3) (ht : t < 200) {Q : Int32 → Prop} (hQ : Q (ctF σ d f (nI t))) : w_X11_count g m (nI d) (nI f) (nI t) Q := by
  unfold w_X11_count
  obtain ⟨hl, el⟩ := hG.ln hd hf
  refine lpx2_t (lnF σ d f) (fun k => isum (fun k => if tmF σ d f k = nI t then 1 else 0) k) (fun k => nI k) (fun k hk K hK => ?_) (fun K => ?_)
  · unfold l_X11_count_6 b_X11_count_36
    refine ⟨h.k, (m_many h hd hf).mpr ⟨fun c => ?_, fun _ => (m_at h hd hf (by omega)).mpr ⟨fun c => ?_, fun c => ?_⟩⟩⟩
    · rw [el] at c; exact absurd c (nI_ge hk (by omega))
    · simp only [isum, c, if_true] at hK; rw [← nI_1] at hK; exact hK
    · simp only [isum, c, if_false] at hK; rw [← nI_1] at hK; exact hK
  · unfold l_X11_count_6 b_X11_count_60
    refine ⟨h.k, (m_many h hd hf).mpr ⟨fun _ => ⟨_, h.r10, h.k10, ?_, ?_⟩, fun c => ?_⟩⟩
    · rw [h.n10]; exact vpi ht
    · rw [h.i10, cl_nI (by omega)]
      unfold ctF at hQ
      rw [cl_nI (by omega)] at hQ
      refine ⟨fun c => ?_, fun c => ?_⟩
      · rw [if_pos c] at hQ; exact hQ
      · rw [if_neg c] at hQ; exact hQ
    · rw [el] at c; exact absurd (nI_le (Nat.le_refl _) (by omega)) c
end MLEAF
