/-! THE REFERENCE COUNTS: what lies in segments, lengths, spreads -/
def hasB (a : Nat → Int32) : Nat → Int32 → Bool
  | 0, _ => false
  | n + 1, t => hasB a n t || decide (a n = t)
def hasI (a : Nat → Int32) (n : Nat) (t : Int32) : Int32 := if hasB a n t = true then 1 else 0
theorem hasB_iff {a : Nat → Int32} {t : Int32} : ∀ {n : Nat}, hasB a n t = true ↔ ∃ k, k < n ∧ a k = t
  | 0 => by simp [hasB]
  | n + 1 => by
    rw [hasB, Bool.or_eq_true, hasB_iff, decide_eq_true_eq]
    constructor
    · rintro (⟨k, hk, e⟩ | e)
      · exact ⟨k, by omega, e⟩
      · exact ⟨n, by omega, e⟩
    · rintro ⟨k, hk, e⟩
      rcases Nat.lt_or_ge k n with h | h
      · exact Or.inl ⟨k, h, e⟩
      · have : k = n := by omega
        subst this; exact Or.inr e
def lyF (σ : Rows) : Nat → Int32 := isum (fun d => if σ 6 d = 0 then 0 else 1)
def leF (σ : Rows) (f : Nat) : Nat → Int32 := isum (fun d => if σ 6 d = 0 then 0 else σ 7 (d * 3 + f))
def spF (σ : Rows) (t f : Nat) : Nat → Int32 := isum (fun d => if σ 6 d = 0 then 0 else hasI (tmF σ d f) (lnF σ d f) (nI t))
/-- σ' is σ but for what is counted -/
def CB (σ σ' : Rows) : Prop := (∀ t, t ≠ 0 → t ≠ 27 → t ≠ 28 → σ' t = σ t) ∧ ∀ i, i ≠ 25 → i ≠ 26 → σ' 0 i = σ 0 i
theorem CB.rf {σ : Rows} : CB σ σ := ⟨fun _ _ _ _ => rfl, fun _ _ _ => rfl⟩
theorem CB.s {σ σ' : Rows} (h : CB σ σ') (i : Nat) (v : Int32) (hi : i = 25 ∨ i = 26) : CB σ (su σ' 0 i v) := by
  refine ⟨fun t h0 h1 h2 => by rw [su_row h0]; exact h.1 t h0 h1 h2, fun j h1 h2 => ?_⟩
  rw [su_at, if_neg (by omega)]; exact h.2 j h1 h2
theorem CB.a {σ σ' : Rows} (h : CB σ σ') (u i : Nat) (v : Int32) (hu : u = 27 ∨ u = 28) : CB σ (su σ' u i v) := by
  refine ⟨fun t h0 h1 h2 => by rw [su_row (by omega)]; exact h.1 t h0 h1 h2, fun j h1 h2 => ?_⟩
  rw [su_row (by omega)]; exact h.2 j h1 h2
/-- counted: as the numbers are -/
def Cnt (σ σ' : Rows) (n : Nat) : Prop := σ' 0 26 = lyF σ n ∧ (∀ f, f < 3 → σ' 27 f = leF σ f n) ∧ ∀ t f, t < 200 → f < 3 → σ' 28 (t * 3 + f) = spF σ t f n
theorem GI.cb {σ σ' : Rows} {n bf nn nr ns : Nat} (h : GI σ n bf nn nr ns) (hb : CB σ σ') : GI σ' n bf nn nr ns := by
  obtain ⟨h1, h2, h3, h4, h5, h6, h7, h8⟩ := h
  obtain ⟨b1, b2⟩ := hb
  refine ⟨h1, ?_, ?_, ?_, ?_, ?_, ?_, ?_⟩
  · simp only [b2 1 (by decide) (by decide), b2 9 (by decide) (by decide), b2 16 (by decide) (by decide), b2 22 (by decide) (by decide), b2 13 (by decide) (by decide)]; exact h2
  · rw [b2 2 (by decide) (by decide)]; exact h3
  · rw [b1 7 (by decide) (by decide) (by decide)]; exact h4
  · rw [b1 7 (by decide) (by decide) (by decide), b1 8 (by decide) (by decide) (by decide)]; exact h5
  · rw [b1 5 (by decide) (by decide) (by decide), b1 6 (by decide) (by decide) (by decide)]; exact h6
  · rw [b1 10 (by decide) (by decide) (by decide)]; exact h7
  · rw [b1 11 (by decide) (by decide) (by decide)]; exact h8
theorem lnF_cb {σ σ' : Rows} (hb : CB σ σ') {d f : Nat} : lnF σ' d f = lnF σ d f := by unfold lnF; rw [hb.1 7 (by decide) (by decide) (by decide)]
theorem tmF_cb {σ σ' : Rows} (hb : CB σ σ') {d f : Nat} : tmF σ' d f = tmF σ d f := by unfold tmF; rw [hb.1 8 (by decide) (by decide) (by decide)]
section MCOUNT
variable {FR : gS → Prop} {m : Nat} {μ : Nat → Nat} {σ : Rows} {g : gS} {n bf nn nr ns : Nat}
/-- is the term at this place new: the loop over the places ahead -/
theorem m_new {σ' : Rows} (h : MR FR m μ σ' g) (hb : CB σ σ') {d f k u : Nat} (hd : d < 60) (hf : f < 3) (hk : k < 12) (hu : u < 200) {i1 : Int32} {Q : gS → Prop} {k64 : gS → Int32 → Prop} {k96 : gS → Int32 → Prop} {k118 : gS → Int32 → Prop} (ei : i1 = nI d)
    (hQ : ∀ g', MR FR m μ (su σ' 28 (u * 3 + f) (σ' 28 (u * 3 + f) + (1 - hasI (tmF σ d f) k (nI u)))) g' → k118 g' (nI (k + 1))) : lpx2 (l_X11_countAll_143 g m i1 (nI f) (nI k) (nI u) Q k64 k96 k118) 1 0 := by
  subst ei
  have fin : ∀ v, (v = 1 - hasI (tmF σ d f) k (nI u)) → b_X11_countAll_200 g m (nI d) (nI f) (nI k) (μ 28) (nI u * 3 + nI f) (gI g (μ 28) (Int32.toNatClampNeg (nI u * 3 + nI f))) v Q k64 k96 k118 := by
    intro v hv
    unfold b_X11_countAll_200
    have e : nI u * 3 + nI f = nI (u * 3 + f) := by rw [lit_nI, nI_mul, nI_add]
    rw [e, cl_nI (by omega), h.i28]
    refine ⟨h.k28, by rw [h.n28]; exact vpi (by omega), fun g3 e3 => ?_⟩
    subst e3
    have := hQ _ (h.a 28 (by decide) (u * 3 + f) (σ' 28 (u * 3 + f) + (1 - hasI (tmF σ d f) k (nI u))))
    rw [← hv] at this
    rw [lit_nI, nI_add]; exact this
  refine lpx2_t k (fun j => if hasB (tmF σ d f) j (nI u) = true then 0 else 1) (fun j => nI j) (fun j hj K hK => ?_) (fun K => ?_)
  · unfold l_X11_countAll_143 b_X11_countAll_169
    refine ⟨fun c => absurd c (nI_ge hj (by omega)), fun _ => ⟨h.k, (m_at h hd hf (by omega)).mpr ?_⟩⟩
    rw [tmF_cb hb]
    refine ⟨fun c => ?_, fun c => ?_⟩
    · have e1 : hasB (tmF σ d f) (j + 1) (nI u) = true := by rw [hasB, decide_eq_true c, Bool.or_true]
      simp only [e1, if_true] at hK
      rw [nI_1]
      split
      · exact hK
      · exact hK
    · have e1 : hasB (tmF σ d f) (j + 1) (nI u) = hasB (tmF σ d f) j (nI u) := by rw [hasB, decide_eq_false c, Bool.or_false]
      simp only [e1] at hK
      rw [nI_1]
      split
      · rename_i hh; simp only [hh, if_true] at hK; exact hK
      · rename_i hh; simp only [hh] at hK; exact hK
  · unfold l_X11_countAll_143
    refine ⟨fun _ => ⟨h.k, _, h.r28, h.k28, ?_, fun c => ?_, fun c => ?_⟩, fun c => absurd (nI_le (Nat.le_refl _) (by omega)) c⟩
    · rw [lit_nI, nI_mul, nI_add, h.n28]; exact vpi (show u * 3 + f < 600 by omega)
    · refine fin 0 ?_
      by_cases hh : hasB (tmF σ d f) k (nI u) = true
      · simp [hasI, hh]
      · simp [hh] at c
    · refine fin 1 ?_
      by_cases hh : hasB (tmF σ d f) k (nI u) = true
      · simp [hh] at c
      · simp [hasI, hh]
theorem hasI_succ {a : Nat → Int32} {k : Nat} {t : Int32} : hasI a (k + 1) t = if a k = t then 1 else hasI a k t := by
  unfold hasI; rw [hasB]
  by_cases h : a k = t
  · simp [h]
  · simp [h]
theorem hasI_01 {a : Nat → Int32} {k : Nat} {t : Int32} : hasI a k t = 0 ∨ hasI a k t = 1 := by unfold hasI; split <;> simp
/-- the places of a field of a document -/
theorem m_places (hG : GI σ n bf nn nr ns) {d f : Nat} (hd : d < n) (hf : f < 3) {Q : gS → Prop} {k64 : gS → Int32 → Prop} {k96 : gS → Int32 → Prop} {σ' : Rows} (h : MR FR m μ σ' g) (hb : CB σ σ')
    (hQ : ∀ g' σ2, MR FR m μ σ2 g' → CB σ σ2 → σ2 0 = σ' 0 → σ2 27 = σ' 27 → (∀ t f2, t < 200 → f2 < 3 → σ2 28 (t * 3 + f2) = σ' 28 (t * 3 + f2) + if f2 = f then hasI (tmF σ d f) (lnF σ d f) (nI t) else 0) → k96 g' (nI (f + 1))) :
    lpx2 (l_X11_countAll_118 m (nI d) (nI f) Q k64 k96) g 0 := by
  have hn := hG.n
  obtain ⟨hl, el⟩ := hG.ln (show d < 60 by omega) hf
  refine lpx2_i (lnF σ d f) (fun k g' i => i = nI k ∧ ∃ σ2, MR FR m μ σ2 g' ∧ CB σ σ2 ∧ σ2 0 = σ' 0 ∧ σ2 27 = σ' 27 ∧ ∀ t f2, t < 200 → f2 < 3 → σ2 28 (t * 3 + f2) = σ' 28 (t * 3 + f2) + if f2 = f then hasI (tmF σ d f) k (nI t) else 0) ?_ ?_ g 0 ⟨rfl, σ', h, hb, rfl, rfl, fun t f2 _ _ => by simp [hasI, hasB]⟩
  · rintro k g1 _ hk ⟨rfl, σ2, h2, hb2, e0, e27, e28⟩ K hK
    unfold l_X11_countAll_118
    refine ⟨h2.k, (m_many h2 (by omega) hf).mpr ?_⟩
    rw [hb2.1 7 (by decide) (by decide) (by decide), el]
    refine ⟨fun c => absurd c (nI_ge hk (by omega)), fun _ => (m_at h2 (by omega) hf (by omega)).mpr ?_⟩
    obtain ⟨u, hu, eu⟩ := hG.tm (show d < 60 by omega) hf hk
    rw [tmF_cb hb2, eu]
    refine m_new h2 hb2 (by omega) hf (by omega) hu rfl (fun g' h3 => hK g' _ ⟨rfl, _, h3, hb2.a _ _ _ (by omega), by rw [su_row (by decide)]; exact e0, by rw [su_row (by decide)]; exact e27, fun t f2 ht hf2 => ?_⟩)
    rw [su_at, hasI_succ, eu]
    by_cases hc : t * 3 + f2 = u * 3 + f
    · have h1 : t = u := by omega
      have h2 : f2 = f := by omega
      subst h1; subst h2
      rw [if_pos rfl, if_pos rfl, if_pos rfl, e28 t f2 ht hf2, if_pos rfl]
      rcases hasI_01 (a := tmF σ d f2) (k := k) (t := nI t) with e | e
      · rw [e]; simp [Int32.add_zero]
      · rw [e]; simp [Int32.add_zero]
    · rw [if_neg hc, e28 t f2 ht hf2]
      by_cases hff : f2 = f
      · have htu : ¬ nI u = nI t := fun e => hc (by rw [hff, (nI_inj (by omega) (by omega)).mp e])
        rw [if_pos hff, if_pos hff, if_neg htu]
      · rw [if_neg hff, if_neg hff]
  · rintro g1 _ ⟨rfl, σ2, h2, hb2, e0, e27, e28⟩ K
    unfold l_X11_countAll_118
    refine ⟨h2.k, (m_many h2 (by omega) hf).mpr ?_⟩
    rw [hb2.1 7 (by decide) (by decide) (by decide), el]
    refine ⟨fun _ => ?_, fun c => absurd (nI_le (Nat.le_refl _) (by omega)) c⟩
    rw [nI_1]
    exact hQ g1 σ2 h2 hb2 e0 e27 e28
/-- the fields of a document -/
theorem m_fields (hG : GI σ n bf nn nr ns) {d : Nat} (hd : d < n) {Q : gS → Prop} {k64 : gS → Int32 → Prop} {σ' : Rows} (h : MR FR m μ σ' g) (hb : CB σ σ')
    (hQ : ∀ g' σ2, MR FR m μ σ2 g' → CB σ σ2 → σ2 0 = σ' 0 → (∀ f, f < 3 → σ2 27 f = σ' 27 f + σ 7 (d * 3 + f)) → (∀ t f, t < 200 → f < 3 → σ2 28 (t * 3 + f) = σ' 28 (t * 3 + f) + hasI (tmF σ d f) (lnF σ d f) (nI t)) → k64 g' (nI (d + 1))) :
    lpx2 (l_X11_countAll_96 m (nI d) Q k64) g 0 := by
  have hn := hG.n
  refine lpx2_i 3 (fun f g' i => i = nI f ∧ ∃ σ2, MR FR m μ σ2 g' ∧ CB σ σ2 ∧ σ2 0 = σ' 0 ∧ (∀ f2, f2 < 3 → σ2 27 f2 = σ' 27 f2 + if f2 < f then σ 7 (d * 3 + f2) else 0) ∧ ∀ t f2, t < 200 → f2 < 3 → σ2 28 (t * 3 + f2) = σ' 28 (t * 3 + f2) + if f2 < f then hasI (tmF σ d f2) (lnF σ d f2) (nI t) else 0) ?_ ?_ g 0 ⟨rfl, σ', h, hb, rfl, fun f2 _ => by simp [Int32.add_zero], fun t f2 _ _ => by simp [Int32.add_zero]⟩
  · rintro f g1 _ hf ⟨rfl, σ2, h2, hb2, e0, e27, e28⟩ K hK
    unfold l_X11_countAll_96
    refine ⟨fun c => absurd c (nI_ge hf (by decide)), fun _ => ⟨h2.k, _, h2.r27, h2.k27, by rw [h2.n27]; exact vpi hf, (m_many h2 (by omega) hf).mpr ⟨by rw [h2.n27]; exact vpi hf, fun g3 e3 => ?_⟩⟩⟩
    subst e3
    rw [h2.i27, cl_nI (by omega), hb2.1 7 (by decide) (by decide) (by decide)]
    refine m_places hG hd hf (h2.a 27 (by decide) f (σ2 27 f + σ 7 (d * 3 + f))) (hb2.a _ _ _ (by omega)) (fun g' σ3 h3 hb3 a0 a27 a28 => hK g' _ ⟨rfl, σ3, h3, hb3, by rw [a0, su_row (by decide)]; exact e0, fun f2 hf2 => ?_, fun t f2 ht hf2 => ?_⟩)
    · rw [a27, su_at]
      by_cases hff : f2 = f
      · subst hff; rw [if_pos rfl, e27 f2 hf2, if_neg (by omega), if_pos (by omega), Int32.add_zero]
      · rw [if_neg hff, e27 f2 hf2]
        by_cases hlt : f2 < f
        · rw [if_pos hlt, if_pos (by omega)]
        · rw [if_neg hlt, if_neg (by omega)]
    · rw [a28 t f2 ht hf2, su_row (by decide), e28 t f2 ht hf2]
      by_cases hff : f2 = f
      · subst hff; rw [if_neg (by omega), if_pos rfl, if_pos (by omega), Int32.add_zero]
      · rw [if_neg hff, Int32.add_zero]
        by_cases hlt : f2 < f
        · rw [if_pos hlt, if_pos (by omega)]
        · rw [if_neg hlt, if_neg (by omega)]
  · rintro g1 _ ⟨rfl, σ2, h2, hb2, e0, e27, e28⟩ K
    unfold l_X11_countAll_96 b_X11_countAll_214
    refine ⟨fun _ => ?_, fun c => absurd (by decide) c⟩
    rw [nI_1]
    exact hQ g1 σ2 h2 hb2 e0 (fun f hf => by rw [e27 f hf, if_pos hf]) (fun t f ht hf => by rw [e28 t f ht hf, if_pos hf])
theorem m_docs (hG : GI σ n bf nn nr ns) {Q : gS → Prop} {σ' : Rows} (h : MR FR m μ σ' g) (hb : CB σ σ') (c0 : σ' 0 26 = 0) (c27 : ∀ f, f < 3 → σ' 27 f = 0) (c28 : ∀ j, j < 600 → σ' 28 j = 0)
    (hQ : ∀ g' σ2, MR FR m μ σ2 g' → CB σ σ2 → σ2 0 25 = σ' 0 25 → Cnt σ σ2 n → Q g') : lpx2 (l_X11_countAll_64 m Q) g 0 := by
  have hn := hG.n
  refine lpx2_i n (fun d g' i => i = nI d ∧ ∃ σ2, MR FR m μ σ2 g' ∧ CB σ σ2 ∧ σ2 0 25 = σ' 0 25 ∧ Cnt σ σ2 d) ?_ ?_ g 0 ⟨rfl, σ', h, hb, rfl, c0, c27, fun t f ht hf => c28 _ (by omega)⟩
  · rintro d g1 _ hd ⟨rfl, σ2, h2, hb2, e25, e26, e27, e28⟩ K hK
    unfold l_X11_countAll_64 b_X11_countAll_214
    rw [h2.i]
    refine ⟨h2.k, ?_, fun _ => ⟨_, h2.r6, h2.k6, by rw [h2.n6]; exact vpi (by omega), fun c => ?_, fun c g4 e4 => ?_⟩⟩
    · intro c; rw [hb2.2 1 (by decide) (by decide), hG.d1] at c; exact absurd c (nI_ge hd (by omega))
    · rw [h2.i6, cl_nI (by omega), hb2.1 6 (by decide) (by decide) (by decide)] at c
      rw [nI_1]
      refine hK g1 _ ⟨rfl, σ2, h2, hb2, e25, ?_, fun f hf => ?_, fun t f ht hf => ?_⟩
      · rw [e26, lyF, isum, if_pos c, Int32.add_zero]
      · rw [e27 f hf, leF, isum, if_pos c, Int32.add_zero]
      · rw [e28 t f ht hf, spF, isum, if_pos c, Int32.add_zero]
    · rw [h2.i6, cl_nI (by omega), hb2.1 6 (by decide) (by decide) (by decide)] at c
      subst e4
      refine m_fields hG hd (h2.s 26 (σ2 0 26 + 1)) (hb2.s _ _ (by omega)) (fun g' σ3 h3 hb3 a0 a27 a28 => hK g' _ ⟨rfl, σ3, h3, hb3, ?_, ?_, fun f hf => ?_, fun t f ht hf => ?_⟩)
      · rw [a0, su_at, if_neg (by decide)]; exact e25
      · rw [a0, su_at, if_pos rfl, e26, lyF, isum, if_neg c]
      · rw [a27 f hf, su_row (by decide), e27 f hf, leF, isum, if_neg c]
      · rw [a28 t f ht hf, su_row (by decide), e28 t f ht hf, spF, isum, if_neg c]
  · rintro g1 _ ⟨rfl, σ2, h2, hb2, e25, hc⟩ K
    unfold l_X11_countAll_64
    rw [h2.i]
    refine ⟨h2.k, fun _ => hQ g1 σ2 h2 hb2 e25 hc, fun c => ?_⟩
    rw [hb2.2 1 (by decide) (by decide), hG.d1] at c
    exact absurd (nI_le (Nat.le_refl _) (by omega)) c
/-- not counted, or rightly -/
def Cok (σ : Rows) (n : Nat) : Prop := σ 0 25 = 0 ∨ (σ 0 25 = 1 ∧ Cnt σ σ n)
theorem Cnt.cb {σ σ' σ2 : Rows} {n : Nat} (h : Cnt σ σ2 n) (hb : CB σ σ') : Cnt σ' σ2 n := by
  have e : (lyF σ' = lyF σ ∧ leF σ' = leF σ) ∧ spF σ' = spF σ := by
    unfold lyF leF spF
    rw [hb.1 6 (by decide) (by decide) (by decide), hb.1 7 (by decide) (by decide) (by decide)]
    refine ⟨⟨rfl, rfl⟩, ?_⟩
    funext t f
    congr 1
    funext d
    rw [lnF_cb hb, tmF_cb hb]
  unfold Cnt
  rw [e.1.1, e.1.2, e.2]; exact h
theorem m_countAll (h : MR FR m μ σ g) (hG : GI σ n bf nn nr ns) (hc : Cok σ n) {Q : gS → Prop} (hQ : ∀ g' σ', MR FR m μ σ' g' → CB σ σ' → σ' 0 25 = 1 → Cnt σ σ' n → Q g') : w_X11_countAll g m Q := by
  unfold w_X11_countAll
  rw [h.i]
  refine ⟨h.k, fun c g1 e1 => ?_, fun c => ?_⟩
  · subst e1
    have h1 := h.s 25 1
    refine ⟨h1.k, fun g2 e2 => ?_⟩
    subst e2
    have h2 := h1.s 26 0
    have hb2 : CB σ (su (su σ 0 25 1) 0 26 0) := (CB.rf.s 25 1 (by omega)).s 26 0 (by omega)
    refine lpx2_i 600 (fun k g' i => i = nI k ∧ ∃ σ2, MR FR m μ σ2 g' ∧ CB σ σ2 ∧ σ2 0 25 = 1 ∧ σ2 0 26 = 0 ∧ ∀ j, j < k → σ2 28 j = 0) ?_ ?_ _ 0 ⟨rfl, _, h2, hb2, by rw [su_at, if_neg (by decide), su_at, if_pos rfl], by rw [su_at, if_pos rfl], fun j hj => absurd hj (Nat.not_lt_zero _)⟩
    · rintro k g3 _ hk ⟨rfl, σ2, a1, a2, a3, a4, a5⟩ K hK
      unfold l_X11_countAll_20
      refine ⟨a1.k, _, a1.r28, a1.k28, fun c => ?_, fun _ => ⟨_, a1.r28, a1.k28, by rw [a1.n28]; exact vpi hk, fun g4 e4 => ?_⟩⟩
      · rw [a1.n28] at c; exact absurd c (nI_ge hk (by omega))
      · subst e4
        rw [nI_1, cl_nI (by omega)]
        refine hK _ _ ⟨rfl, _, a1.a 28 (by decide) k 0, a2.a _ _ _ (by omega), by rw [su_row (by decide)]; exact a3, by rw [su_row (by decide)]; exact a4, fun j hj => ?_⟩
        rw [su_at]; split
        · rfl
        · exact a5 j (by omega)
    · rintro g3 _ ⟨rfl, σ2, a1, a2, a3, a4, a5⟩ K
      unfold l_X11_countAll_20
      refine ⟨a1.k, _, a1.r28, a1.k28, fun _ => ?_, fun c => ?_⟩
      · refine lpx2_i 3 (fun k g' i => i = nI k ∧ ∃ σ3, MR FR m μ σ3 g' ∧ CB σ σ3 ∧ σ3 0 25 = 1 ∧ σ3 0 26 = 0 ∧ (∀ j, j < 600 → σ3 28 j = 0) ∧ ∀ j, j < k → σ3 27 j = 0) ?_ ?_ _ 0 ⟨rfl, _, a1, a2, a3, a4, a5, fun j hj => absurd hj (Nat.not_lt_zero _)⟩
        · rintro k g4 _ hk ⟨rfl, σ3, b1, b2, b3, b4, b5, b6⟩ K2 hK2
          unfold l_X11_countAll_44
          refine ⟨fun c => absurd c (nI_ge hk (by decide)), fun _ => ⟨b1.k, _, b1.r27, b1.k27, by rw [b1.n27]; exact vpi hk, fun g5 e5 => ?_⟩⟩
          subst e5
          rw [nI_1, cl_nI (by omega)]
          refine hK2 _ _ ⟨rfl, _, b1.a 27 (by decide) k 0, b2.a _ _ _ (by omega), by rw [su_row (by decide)]; exact b3, by rw [su_row (by decide)]; exact b4, fun j hj => by rw [su_row (by decide)]; exact b5 j hj, fun j hj => ?_⟩
          rw [su_at]; split
          · rfl
          · exact b6 j (by omega)
        · rintro g4 _ ⟨rfl, σ3, b1, b2, b3, b4, b5, b6⟩ K2
          unfold l_X11_countAll_44
          refine ⟨fun _ => m_docs hG b1 b2 b4 b6 b5 (fun g' σ4 d1 d2 d3 d4 => hQ g' σ4 d1 d2 (by rw [d3]; exact b3) d4), fun c => absurd (by decide) c⟩
      · rw [a1.n28] at c; exact absurd (nI_le (Nat.le_refl _) (by omega)) c
  · rcases hc with e | ⟨e, hc⟩
    · exact absurd e c
    · exact hQ g σ h CB.rf e hc
end MCOUNT
