/-! THE REFERENCE'S CALLS -/
section MOPS
variable {FR : gS → Prop} {m : Nat} {μ : Nat → Nat} {σ : Rows} {n : Nat} {T : Nat → Int32} {g : gS} {bf nn nr ns : Nat}
theorem up29_su {t i : Nat} {v : Int32} (ht : t ≠ 29) : va_up (su σ t i v) 29 T = su (va_up σ 29 T) t i v := by
  funext u j
  by_cases e : u = 29
  · subst e; rw [va_up_self, su_row (fun q => ht q.symm), va_up_self]
  · rw [va_up_ne _ _ e]
    by_cases e2 : u = t
    · subst e2; rw [su_at, su_at, va_up_ne _ _ e]
    · rw [su_row e2, su_row e2, va_up_ne _ _ e]
theorem CB.su2 {σ' : Rows} (h : CB σ σ') (t i : Nat) (v : Int32) : CB (su σ t i v) (su σ' t i v) := by
  refine ⟨fun u h0 h1 h2 => ?_, fun j h1 h2 => ?_⟩
  · by_cases e : u = t
    · subst e; rw [su_self, su_self, h.1 u h0 h1 h2]
    · rw [su_row e, su_row e, h.1 u h0 h1 h2]
  · by_cases e : t = 0
    · subst e; rw [su_at, su_at]; split
      · rfl
      · exact h.2 j h1 h2
    · rw [su_row (Ne.symm e), su_row (Ne.symm e)]; exact h.2 j h1 h2
/-- what is counted looks at these alone -/
theorem Cnt.of {σ2 σ' σ3 : Rows} (h : Cnt σ σ' n) (h6 : ∀ d, d < n → σ2 6 d = σ 6 d) (h7 : ∀ d f, d < n → f < 3 → σ2 7 (d * 3 + f) = σ 7 (d * 3 + f)) (h8 : ∀ d f p, d < n → f < 3 → p < lnF σ d f → tmF σ2 d f p = tmF σ d f p) (e0 : σ3 0 26 = σ' 0 26) (e27 : σ3 27 = σ' 27) (e28 : σ3 28 = σ' 28) : Cnt σ2 σ3 n := by
  obtain ⟨a, b, c⟩ := h
  have hl : ∀ d f, d < n → f < 3 → lnF σ2 d f = lnF σ d f := fun d f hd hf => by unfold lnF; rw [h7 d f hd hf]
  refine ⟨?_, fun f hf => ?_, fun t f ht hf => ?_⟩
  · rw [e0, a]; unfold lyF; exact isum_congr (fun d hd => by rw [h6 d hd])
  · rw [e27, b f hf]; unfold leF; exact isum_congr (fun d hd => by rw [h6 d hd, h7 d f hd hf])
  · rw [e28, c t f ht hf]; unfold spF
    refine isum_congr (fun d hd => ?_)
    have : hasI (tmF σ2 d f) (lnF σ2 d f) (nI t) = hasI (tmF σ d f) (lnF σ d f) (nI t) := by
      rw [hl d f hd hf]
      unfold hasI
      have : hasB (tmF σ2 d f) (lnF σ d f) (nI t) = hasB (tmF σ d f) (lnF σ d f) (nI t) := by
        rw [Bool.eq_iff_iff, hasB_iff, hasB_iff]
        constructor
        · rintro ⟨k, hk, e⟩; exact ⟨k, hk, by rw [← h8 d f k hd hf hk]; exact e⟩
        · rintro ⟨k, hk, e⟩; exact ⟨k, hk, by rw [h8 d f k hd hf hk]; exact e⟩
      rw [this]
    rw [h6 d hd, this]
theorem MT.w (h : MT FR m μ σ n T g) (i : Nat) (v : Int32) (h1 : i ≠ 25) (h2 : i ≠ 26) : MT FR m μ (su σ 0 i v) n T (sU g m i v) := by
  obtain ⟨σ2, a, b, c⟩ := h
  refine ⟨_, a.s i v, by rw [up29_su (by decide)]; exact b.su2 0 i v, ?_⟩
  rw [su_at, if_neg (Ne.symm h1)]
  rcases c with c | ⟨c, d⟩
  · exact Or.inl c
  · refine Or.inr ⟨c, Cnt.of d (fun _ _ => by rw [su_row (by decide)]) (fun _ _ _ _ => by rw [su_row (by decide)]) (fun _ _ _ _ _ _ => by unfold tmF; rw [su_row (by decide)]) ?_ (su_row (by decide)) (su_row (by decide))⟩
    rw [su_at, if_neg (Ne.symm h2)]
theorem MT.wa (h : MT FR m μ σ n T g) (t i : Nat) (v : Int32) (hk : mK t ≠ 0) (ht : ¬ (t = 6 ∨ t = 7 ∨ t = 8 ∨ t = 27 ∨ t = 28 ∨ t = 29)) : MT FR m μ (su σ t i v) n T (sU g (μ t) i v) := by
  obtain ⟨σ2, a, b, c⟩ := h
  have h0 : t ≠ 0 := fun e => hk (by rw [e]; rfl)
  refine ⟨_, a.a t hk i v, by rw [up29_su (by omega)]; exact b.su2 t i v, ?_⟩
  rw [su_row (Ne.symm h0)]
  rcases c with c | ⟨c, d⟩
  · exact Or.inl c
  · exact Or.inr ⟨c, Cnt.of d (fun _ _ => by rw [su_row (by omega)]) (fun _ _ _ _ => by rw [su_row (by omega)]) (fun _ _ _ _ _ _ => by unfold tmF; rw [su_row (by omega)]) (by rw [su_row (Ne.symm h0)]) (su_row (by omega)) (su_row (by omega))⟩
/-- rows of a document that is not counted -/
theorem MT.w7 (h : MT FR m μ σ n T g) {d f : Nat} (v : Int32) (hd : n ≤ d) (hf : f < 3) : MT FR m μ (su σ 7 (d * 3 + f) v) n T (sU g (μ 7) (d * 3 + f) v) := by
  obtain ⟨σ2, a, b, c⟩ := h
  refine ⟨_, a.a 7 (by decide) _ v, by rw [up29_su (by decide)]; exact b.su2 7 _ v, ?_⟩
  rw [su_row (by decide)]
  rcases c with c | ⟨c, e⟩
  · exact Or.inl c
  · exact Or.inr ⟨c, Cnt.of e (fun _ _ => by rw [su_row (by decide)]) (fun _ _ _ _ => by rw [su_at, if_neg (by omega)]) (fun _ _ _ _ _ _ => by unfold tmF; rw [su_row (by decide)]) (by rw [su_row (by decide)]) (su_row (by decide)) (su_row (by decide))⟩
theorem MT.w8 (h : MT FR m μ σ n T g) {d f p : Nat} (v : Int32) (hd : n ≤ d) (hf : f < 3) (hp : p < 12) (hln : ∀ d f, d < n → f < 3 → lnF σ d f ≤ 12) : MT FR m μ (su σ 8 ((d * 3 + f) * 12 + p) v) n T (sU g (μ 8) ((d * 3 + f) * 12 + p) v) := by
  obtain ⟨σ2, a, b, c⟩ := h
  refine ⟨_, a.a 8 (by decide) _ v, by rw [up29_su (by decide)]; exact b.su2 8 _ v, ?_⟩
  rw [su_row (by decide)]
  rcases c with c | ⟨c, e⟩
  · exact Or.inl c
  · refine Or.inr ⟨c, Cnt.of e (fun _ _ => by rw [su_row (by decide)]) (fun _ _ _ _ => by rw [su_row (by decide)]) (fun d2 f2 p2 h1 h2 h3 => ?_) (by rw [su_row (by decide)]) (su_row (by decide)) (su_row (by decide))⟩
    have := hln d2 f2 h1 h2
    unfold tmF; rw [su_at, if_neg (by omega)]
theorem mt_no (h : MT FR m μ (tz σ 0) n T g) {x : Int32} {Q : Int32 → gS → Prop} (hQ : ∀ g', MT FR m μ (tz σ x) n T g' → Q 0 g') : w_X11_no g m x Q := by
  unfold w_X11_no
  refine ⟨h.k, fun g2 e => ?_⟩
  subst e
  have := h.w 0 x (by decide) (by decide)
  exact hQ _ (by rw [← tz_tz]; exact this)
theorem mt_ok (h : MT FR m μ σ n T g) {x : Int32} {Q : Int32 → gS → Prop} (hQ : ∀ g', MT FR m μ (tz σ 0) n T g' → Q x g') : w_X11_ok g m x Q := by
  unfold w_X11_ok
  refine ⟨h.k, fun g2 e => ?_⟩
  subst e
  exact hQ _ (h.w 0 0 (by decide) (by decide))
theorem mt_doc (h : MT FR m μ σ n T g) {x : Int32} {Q : Int32 → Prop} (hQ : Q (if ¬ isD σ x then 0 else 1)) : w_X11_isDocument g m x Q := by
  unfold w_X11_isDocument
  refine ⟨h.k, m_isIn.mpr ?_⟩
  rw [h.s (by decide) (by decide)]
  unfold isD inR at hQ
  by_cases c : x < 0 ∨ σ 0 1 - 1 < x
  · rw [if_pos c]; rw [if_pos (fun q => q c)] at hQ; exact ⟨Or.inl rfl, hQ⟩
  · rw [if_neg c]; rw [if_neg (fun q => q c)] at hQ; exact ⟨Or.inr rfl, hQ⟩
theorem mt_node (h : MT FR m μ σ n T g) {x : Int32} {Q : Int32 → Prop} (hQ : Q (if ¬ isN σ x then 0 else 1)) : w_X11_isNode g m x Q := by
  unfold w_X11_isNode
  refine ⟨h.k, m_isIn.mpr ?_⟩
  rw [h.s (by decide) (by decide)]
  unfold isN inR at hQ
  by_cases c : x < 0 ∨ σ 0 16 - 1 < x
  · rw [if_pos c]; rw [if_pos (fun q => q c)] at hQ; exact ⟨Or.inl rfl, hQ⟩
  · rw [if_neg c]; rw [if_neg (fun q => q c)] at hQ; exact ⟨Or.inr rfl, hQ⟩
theorem m_in {x lo hi : Int32} {Q : Int32 → Prop} (hQ : Q (if ¬ inR x lo hi then 0 else 1)) : w_X11_isIn g x lo hi Q := by
  refine m_isIn.mpr ?_
  unfold inR at hQ
  by_cases c : x < lo ∨ hi < x
  · rw [if_pos c]; rw [if_pos (fun q => q c)] at hQ; exact hQ
  · rw [if_neg c]; rw [if_neg (fun q => q c)] at hQ; exact hQ
theorem m_term {x : Int32} {Q : Int32 → Prop} (hQ : Q (if ¬ isT x then 0 else 1)) : w_X11_isTerm g x Q := by
  unfold w_X11_isTerm
  refine m_in ?_
  unfold isT at hQ
  exact ⟨by split <;> simp, hQ⟩
theorem m_field {x : Int32} {Q : Int32 → Prop} (hQ : Q (if ¬ isF x then 0 else 1)) : w_X11_isField g x Q := by
  unfold w_X11_isField
  refine m_in ?_
  unfold isF at hQ
  exact ⟨by split <;> simp, hQ⟩
theorem mo_open (h : MT FR m μ σ n T g) (hG : GI σ n bf nn nr ns) {a b : Int32} {Q : Int32 → gS → Prop} (hQ : ∀ g', MT FR m μ (S_open σ a b).2.2 n T g' → Q (S_open σ a b).2.1 g') : w_X11_open g m a b Q := by
  have hn := hG.n
  unfold w_X11_open b_X11_open_26 b_X11_open_48
  unfold S_open at hQ
  refine ⟨h.k, fun g1 e1 => ?_⟩
  subst e1
  have h1 : MT FR m μ (tz σ 0) n T (sU g m 0 0) := h.w 0 0 (by decide) (by decide)
  refine m_in (m_if (fun c => ?_) (fun c => m_in (m_if (fun c2 => ?_) (fun c2 => ⟨h1.k, fun c3 => ⟨fun c4 => ?_, fun c4 g2 e2 => ?_⟩, fun c3 => ?_⟩))))
  · rw [if_pos (Or.inl c)] at hQ; exact ⟨h1.k, mt_no h1 hQ⟩
  · rw [if_pos (Or.inr c2)] at hQ; exact ⟨h1.k, mt_no h1 hQ⟩
  · rw [h1.s (by decide) (by decide), tz_0 (by decide)] at c4
    rw [if_neg (by rintro (q | q); exact c q; exact c2 q), if_pos (Or.inr c4)] at hQ; exact ⟨h1.k, mt_no h1 hQ⟩
  · rw [h1.s (by decide) (by decide), tz_0 (by decide)] at c3 c4
    rw [if_neg (by rintro (q | q); exact c q; exact c2 q), if_neg (by rintro (q | q); exact q c3; exact c4 q)] at hQ
    subst e2
    have hn60 : n < 60 := by
      have : ¬ n = 60 := fun e => c4 (by rw [hG.d1, e]; rfl)
      omega
    have h2 := h1.w 2 1 (by decide) (by decide)
    have s1 : su (tz σ 0) 0 2 1 0 1 = nI n := by rw [su_at, if_neg (by decide), tz_0 (by decide)]; exact hG.d1
    have s2 : cl (σ 0 1) = n := by rw [hG.d1]; exact cl_nI (by omega)
    refine ⟨h2.k, _, h2.r3, h2.k3, ?_, fun g3 e3 => ?_⟩
    · rw [h2.s (by decide) (by decide), s1, h2.n3]; exact vpi hn60
    · subst e3
      rw [h2.s (by decide) (by decide), s1, cl_nI (by omega)]
      have h3 := h2.wa 3 n a (by decide) (by decide)
      have s3 : su (su (tz σ 0) 0 2 1) 3 n a 0 1 = nI n := by rw [su_row (by decide)]; exact s1
      refine ⟨h3.k, _, h3.r4, h3.k4, ?_, fun g4 e4 => ?_⟩
      · rw [h3.s (by decide) (by decide), s3, h3.n4]; exact vpi hn60
      · subst e4
        rw [h3.s (by decide) (by decide), s3, cl_nI (by omega)]
        have h4 := h3.wa 4 n b (by decide) (by decide)
        refine ⟨h4.k, ?_⟩
        rw [h4.s (by decide) (by decide), su_row (by decide), s3, ← hG.d1]
        refine hQ _ ?_
        unfold nF; rw [s2]; exact h4
  · rw [h1.s (by decide) (by decide), tz_0 (by decide)] at c3
    rw [if_neg (by rintro (q | q); exact c q; exact c2 q), if_pos (Or.inl c3)] at hQ; exact ⟨h1.k, mt_no h1 hQ⟩
theorem mo_write (h : MT FR m μ σ n T g) (hG : GI σ n bf nn nr ns) (ho : ¬ σ 0 2 = 0 → n < 60) {a b : Int32} {Q : Int32 → gS → Prop} (hQ : ∀ g', MT FR m μ (S_write σ a b).2.2 n T g' → Q (S_write σ a b).2.1 g') : w_X11_write g m a b Q := by
  have hn := hG.n
  unfold w_X11_write b_X11_write_19 b_X11_write_50
  unfold S_write at hQ
  refine ⟨h.k, fun g1 e1 => ?_⟩
  subst e1
  have h1 : MT FR m μ (tz σ 0) n T (sU g m 0 0) := h.w 0 0 (by decide) (by decide)
  refine m_field (m_if (fun c => ?_) (fun c => m_term (m_if (fun c2 => ?_) (fun c2 => ⟨h1.k, fun c3 => ?_, fun c3 => ?_⟩))))
  · rw [if_pos (Or.inl c)] at hQ; exact ⟨h1.k, mt_no h1 hQ⟩
  · rw [if_pos (Or.inr c2)] at hQ; exact ⟨h1.k, mt_no h1 hQ⟩
  · rw [h1.s (by decide) (by decide), tz_0 (by decide)] at c3
    rw [if_neg (by rintro (q | q); exact c q; exact c2 q), if_pos (Or.inl c3)] at hQ; exact ⟨h1.k, mt_no h1 hQ⟩
  · rw [h1.s (by decide) (by decide), tz_0 (by decide)] at c3
    have hn60 := ho c3
    obtain ⟨f, hf, rfl⟩ := isF_nI (Classical.not_not.mp c)
    obtain ⟨t, ht, rfl⟩ := isT_nI (Classical.not_not.mp c2)
    rw [if_neg (by rintro (q | q); exact c q; exact c2 q)] at hQ
    have s2 : nF σ = n := by unfold nF; rw [hG.d1]; exact cl_nI (by omega)
    rw [s2, show cl (nI f) = f from cl_nI (by omega)] at hQ
    have er : gI (sU g m 0 0) m 1 * 3 + nI f = nI (n * 3 + f) := by rw [h1.s (by decide) (by decide), tz_0 (by decide), hG.d1, mul3, nI_add]
    rw [er]
    obtain ⟨hl1, hl2⟩ := hG.ln hn60 hf
    refine ⟨_, h1.r7, h1.k7, by rw [h1.n7]; exact vpi (by omega), ?_, ?_⟩
    · rw [h1.i7, cl_nI (by omega), tz_r (by decide)]
      intro c4
      rw [if_pos (Or.inr c4)] at hQ; exact ⟨h1.k, mt_no h1 hQ⟩
    · rw [h1.i7, cl_nI (by omega), tz_r (by decide)]
      intro c4
      rw [if_neg (by rintro (q | q); exact c3 q; exact c4 q), hl2, show cl (nI (lnF σ n f)) = lnF σ n f from cl_nI (by omega)] at hQ
      have hl12 : lnF σ n f < 12 := by
        have : ¬ lnF σ n f = 12 := fun e => c4 (by rw [hl2, e]; rfl)
        omega
      refine ⟨_, h1.r8, _, h1.r7, h1.k7, by rw [h1.n7]; exact vpi (by omega), h1.k8, ?_⟩
      rw [h1.i7, tz_r (by decide), hl2, mul12, nI_add, cl_nI (by omega)]
      refine ⟨by rw [h1.n8]; exact vpi (by omega), fun g2 e2 => ?_⟩
      subst e2
      have h2 := h1.w8 (d := n) (f := f) (p := lnF σ n f) (nI t) (Nat.le_refl _) hf hl12 (fun d f hd hf => by have := (hG.ln (show d < 60 by omega) hf).1; unfold lnF at this ⊢; rw [tz_r (by decide)]; exact this)
      refine ⟨h2.k, _, h2.r7, h2.k7, by rw [h2.n7]; exact vpi (by omega), by rw [h2.n7]; exact vpi (by omega), fun g3 e3 => ?_⟩
      subst e3
      rw [h2.i7, su_row (by decide), tz_r (by decide), hl2]
      exact hQ _ (h2.w7 _ (Nat.le_refl _) hf)
end MOPS
