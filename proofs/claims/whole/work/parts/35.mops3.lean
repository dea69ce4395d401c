/-! THE REFERENCE'S CALLS: queries -/
section MOPS3
variable {FR : gS → Prop} {m : Nat} {μ : Nat → Nat} {σ : Rows} {n : Nat} {T : Nat → Int32} {g : gS} {bf nn nr ns : Nat}
theorem mt_add (h : MT FR m μ (tz σ 0) n T g) (hG : GI σ n bf nn nr ns) (hf : ¬ σ 0 16 = 30) {s a b c : Int32} {Q : Int32 → gS → Prop} (hQ : ∀ g', MT FR m μ (addF σ s a b c) n T g' → Q (σ 0 16) g') : w_X11_add g m s a b c Q := by
  have hnn : nn < 30 := by
    have := hG.nn3
    have : ¬ nn = 30 := fun e => hf (by rw [hG.d16, e]; rfl)
    omega
  unfold addF at hQ
  rw [hG.nnF] at hQ
  unfold w_X11_add
  have e0 : tz σ 0 0 16 = nI nn := by rw [tz_0 (by decide)]; exact hG.d16
  refine ⟨h.k, _, h.r17, h.k17, ?_, fun g1 e1 => ?_⟩
  · rw [h.s (by decide) (by decide), e0, h.n17]; exact vpi hnn
  subst e1
  rw [h.s (by decide) (by decide), e0, cl_nI (by omega)]
  have h1 := h.wa 17 nn s (by decide) (by decide)
  have e1 : su (tz σ 0) 17 nn s 0 16 = nI nn := by rw [su_row (by decide)]; exact e0
  refine ⟨h1.k, _, h1.r18, h1.k18, ?_, fun g2 e2 => ?_⟩
  · rw [h1.s (by decide) (by decide), e1, h1.n18]; exact vpi hnn
  subst e2
  rw [h1.s (by decide) (by decide), e1, cl_nI (by omega)]
  have h2 := h1.wa 18 nn a (by decide) (by decide)
  have e2 : su (su (tz σ 0) 17 nn s) 18 nn a 0 16 = nI nn := by rw [su_row (by decide)]; exact e1
  refine ⟨h2.k, _, h2.r19, h2.k19, ?_, fun g3 e3 => ?_⟩
  · rw [h2.s (by decide) (by decide), e2, h2.n19]; exact vpi hnn
  subst e3
  rw [h2.s (by decide) (by decide), e2, cl_nI (by omega)]
  have h3 := h2.wa 19 nn b (by decide) (by decide)
  have e3 : su (su (su (tz σ 0) 17 nn s) 18 nn a) 19 nn b 0 16 = nI nn := by rw [su_row (by decide)]; exact e2
  refine ⟨h3.k, _, h3.r20, h3.k20, ?_, fun g4 e4 => ?_⟩
  · rw [h3.s (by decide) (by decide), e3, h3.n20]; exact vpi hnn
  subst e4
  rw [h3.s (by decide) (by decide), e3, cl_nI (by omega)]
  have h4 := h3.wa 20 nn c (by decide) (by decide)
  have e4 : su (su (su (su (tz σ 0) 17 nn s) 18 nn a) 19 nn b) 20 nn c 0 16 = nI nn := by rw [su_row (by decide)]; exact e3
  refine ⟨h4.k, fun g5 e5 => ?_⟩
  subst e5
  rw [h4.s (by decide) (by decide), e4, ← hG.d16]
  exact hQ _ (h4.w 16 _ (by decide) (by decide))
/-- the end of each call that adds a node -/
theorem mt_addO (h : MT FR m μ (tz σ 0) n T g) (hG : GI σ n bf nn nr ns) {x s a b c : Int32} {Q : Int32 → gS → Prop} (hQ : ∀ g', MT FR m μ (addO σ x s a b c).2.2 n T g' → Q (addO σ x s a b c).2.1 g') : (gI g m 16 = 30 → w_X11_no g m x Q) ∧ (¬ gI g m 16 = 30 → w_X11_add g m s a b c Q) := by
  rw [h.s (by decide) (by decide), tz_0 (by decide)]
  unfold addO at hQ
  refine ⟨fun q => ?_, fun q => ?_⟩
  · rw [if_pos q] at hQ; exact mt_no h hQ
  · rw [if_neg q] at hQ; exact mt_add h hG q hQ
theorem mo_term (h : MT FR m μ σ n T g) (hG : GI σ n bf nn nr ns) {a b : Int32} {Q : Int32 → gS → Prop} (hQ : ∀ g', MT FR m μ (S_term σ a b).2.2 n T g' → Q (S_term σ a b).2.1 g') : w_X11_term g m a b Q := by
  unfold w_X11_term b_X11_term_22 b_X11_term_53
  unfold S_term at hQ
  refine ⟨h.k, fun g1 e1 => ?_⟩
  subst e1
  have h1 := h.z 0
  refine m_term (m_if (fun c => ?_) (fun c => m_in (m_if (fun c2 => ?_) (fun c2 => ?_))))
  · rw [if_pos (Or.inl c)] at hQ; exact ⟨h1.k, mt_no h1 hQ⟩
  · rw [if_pos (Or.inr c2)] at hQ; exact ⟨h1.k, mt_no h1 hQ⟩
  · rw [if_neg (nor2 c c2)] at hQ; exact ⟨h1.k, mt_addO h1 hG hQ⟩
theorem mo_pair (h : MT FR m μ σ n T g) (hG : GI σ n bf nn nr ns) {s a b : Int32} {Q : Int32 → gS → Prop} (hQ : ∀ g', MT FR m μ (S_pair σ s a b).2.2 n T g' → Q (S_pair σ s a b).2.1 g') : w_X11_pair g m s a b Q := by
  unfold w_X11_pair b_X11_pair_21 b_X11_pair_52
  unfold S_pair at hQ
  refine ⟨h.k, fun g1 e1 => ?_⟩
  subst e1
  have h1 := h.z 0
  refine ⟨h1.k, mt_nodez h1 (m_if (fun c => ?_) (fun c => mt_nodez h1 (m_if (fun c2 => ?_) (fun c2 => ?_))))⟩
  · rw [if_pos (Or.inl c)] at hQ; exact ⟨h1.k, mt_no h1 hQ⟩
  · rw [if_pos (Or.inr c2)] at hQ; exact ⟨h1.k, mt_no h1 hQ⟩
  · rw [if_neg (nor2 c c2)] at hQ; exact mt_addO h1 hG hQ
theorem mo_and (h : MT FR m μ σ n T g) (hG : GI σ n bf nn nr ns) {a b : Int32} {Q : Int32 → gS → Prop} (hQ : ∀ g', MT FR m μ (S_pair σ 1 a b).2.2 n T g' → Q (S_pair σ 1 a b).2.1 g') : w_X11_and g m a b Q := ⟨h.k, mo_pair h hG hQ⟩
theorem mo_or (h : MT FR m μ σ n T g) (hG : GI σ n bf nn nr ns) {a b : Int32} {Q : Int32 → gS → Prop} (hQ : ∀ g', MT FR m μ (S_pair σ 2 a b).2.2 n T g' → Q (S_pair σ 2 a b).2.1 g') : w_X11_or g m a b Q := ⟨h.k, mo_pair h hG hQ⟩
theorem mo_not (h : MT FR m μ σ n T g) (hG : GI σ n bf nn nr ns) {a b : Int32} {Q : Int32 → gS → Prop} (hQ : ∀ g', MT FR m μ (S_pair σ 3 a b).2.2 n T g' → Q (S_pair σ 3 a b).2.1 g') : w_X11_not g m a b Q := ⟨h.k, mo_pair h hG hQ⟩
theorem tz_su {t i : Nat} {v c : Int32} (ht : t ≠ 0) : tz (su σ t i v) c = su (tz σ c) t i v := by
  funext u j
  unfold tz
  by_cases e : u = t
  · subst e; rw [su_row ht, su_at, su_at, su_row ht]
  · rw [su_row e]
    by_cases e2 : u = 0
    · subst e2; rw [su_at, su_at, su_row e]
    · rw [su_row e2, su_row e2, su_row e]
theorem mo_near (h : MT FR m μ σ n T g) (hG : GI σ n bf nn nr ns) {a b c o : Int32} (ho : o = 0 ∨ o = 1) {Q : Int32 → gS → Prop} (hQ : ∀ g', MT FR m μ (S_near σ a b c o).2.2 n T g' → Q (S_near σ a b c o).2.1 g') : w_X11_near g m a b c o Q := by
  unfold w_X11_near b_X11_near_21 b_X11_near_55
  unfold S_near at hQ
  refine ⟨h.k, fun g1 e1 => ?_⟩
  subst e1
  have h1 := h.z 0
  refine ⟨h1.k, mt_nodez h1 (m_if (fun c => ?_) (fun c1 => mt_nodez h1 (m_if (fun c2 => ?_) (fun c2 => ?_))))⟩
  · rw [if_pos (Or.inl c)] at hQ; exact ⟨h1.k, mt_no h1 hQ⟩
  · rw [if_pos (Or.inr c2)] at hQ; exact ⟨h1.k, mt_no h1 hQ⟩
  · rw [if_neg (nor2 c1 c2)] at hQ
    have := hG.nn3
    obtain ⟨i, hi, rfl⟩ := hG.isN (nn2 c1)
    obtain ⟨j, hj, rfl⟩ := hG.isN (nn2 c2)
    rw [show cl (nI i) = i from cl_nI (by omega), show cl (nI j) = j from cl_nI (by omega)] at hQ
    refine ⟨_, h1.r17, h1.k17, by rw [h1.n17]; exact vpi (by omega), ?_⟩
    rw [h1.i17, cl_nI (by omega), tz_r (by decide)]
    refine ⟨fun c3 => ⟨_, h1.r17, h1.k17, by rw [h1.n17]; exact vpi (by omega), ?_⟩, fun c3 => ?_⟩
    · rw [h1.i17, cl_nI (by omega), tz_r (by decide)]
      refine ⟨fun c4 => m_in (m_if (fun c5 => ?_) (fun c5 => ?_)), fun c4 => ?_⟩
      · rw [if_pos (Or.inr (Or.inr c5))] at hQ; exact ⟨h1.k, mt_no h1 hQ⟩
      · rw [if_neg (nor3 (not_not_intro c3) (not_not_intro c4) c5)] at hQ
        rw [h1.s (by decide) (by decide), tz_0 (by decide)]
        refine ⟨fun c6 => ?_, fun c6 => ?_⟩
        · rw [if_pos c6] at hQ; exact mt_no h1 hQ
        · rw [if_neg c6, hG.nnF] at hQ
          have hnn : nn < 30 := by
            have : ¬ nn = 30 := fun e => c6 (by rw [hG.d16, e]; rfl)
            omega
          refine ⟨_, h1.r21, h1.k21, by rw [h1.n21, hG.d16]; exact vpi hnn, ho, fun g2 e2 => ?_⟩
          subst e2
          rw [hG.d16, cl_nI (by omega)]
          have h2 := h1.wa 21 nn o (by decide) (by decide)
          rw [← tz_su (by decide)] at h2
          have hG2 : GI (su σ 21 nn o) n bf nn nr ns := hG
          refine ⟨h2.k, mt_add h2 hG2 (by rw [su_row (by decide)]; exact c6) (fun g' h' => ?_)⟩
          rw [su_row (by decide)]
          exact hQ _ h'
      · rw [if_pos (Or.inr (Or.inl c4))] at hQ; exact ⟨h1.k, mt_no h1 hQ⟩
    · rw [if_pos (Or.inl c3)] at hQ; exact ⟨h1.k, mt_no h1 hQ⟩
theorem mo_dated (h : MT FR m μ σ n T g) (hG : GI σ n bf nn nr ns) {a b : Int32} {Q : Int32 → gS → Prop} (hQ : ∀ g', MT FR m μ (S_dated σ a b).2.2 n T g' → Q (S_dated σ a b).2.1 g') : w_X11_dated g m a b Q := by
  unfold w_X11_dated b_X11_dated_27 b_X11_dated_58
  unfold S_dated at hQ
  refine ⟨h.k, fun g1 e1 => ?_⟩
  subst e1
  have h1 := h.z 0
  refine m_in (m_if (fun c => ?_) (fun c => m_in (m_if (fun c2 => ?_) (fun c2 => ?_))))
  · rw [if_pos (Or.inl c)] at hQ; exact ⟨h1.k, mt_no h1 hQ⟩
  · rw [if_pos (Or.inr c2)] at hQ; exact ⟨h1.k, mt_no h1 hQ⟩
  · rw [if_neg (nor2 c c2)] at hQ; exact ⟨h1.k, mt_addO h1 hG hQ⟩
theorem mo_kind (h : MT FR m μ σ n T g) (hG : GI σ n bf nn nr ns) {a : Int32} {Q : Int32 → gS → Prop} (hQ : ∀ g', MT FR m μ (S_kind σ a).2.2 n T g' → Q (S_kind σ a).2.1 g') : w_X11_kind g m a Q := by
  unfold w_X11_kind b_X11_kind_48
  unfold S_kind at hQ
  refine ⟨h.k, fun g1 e1 => ?_⟩
  subst e1
  have h1 := h.z 0
  refine m_in (m_if (fun c => ?_) (fun c => ?_))
  · rw [if_pos c] at hQ; exact ⟨h1.k, mt_no h1 hQ⟩
  · rw [if_neg c] at hQ; exact ⟨h1.k, mt_addO h1 hG hQ⟩
theorem mo_scaled (h : MT FR m μ σ n T g) (hG : GI σ n bf nn nr ns) {a b : Int32} {Q : Int32 → gS → Prop} (hQ : ∀ g', MT FR m μ (S_scaled σ a b).2.2 n T g' → Q (S_scaled σ a b).2.1 g') : w_X11_scaled g m a b Q := by
  unfold w_X11_scaled b_X11_scaled_62
  unfold S_scaled at hQ
  refine ⟨h.k, fun g1 e1 => ?_⟩
  subst e1
  have h1 := h.z 0
  refine ⟨h1.k, mt_nodez h1 (m_if (fun c => ?_) (fun c => m_in (m_if (fun c2 => ?_) (fun c2 => ?_))))⟩
  · rw [if_pos c] at hQ; exact mt_no h1 hQ
  · rw [if_neg c, if_pos c2] at hQ; exact mt_no h1 hQ
  · rw [if_neg c, if_neg c2] at hQ; exact mt_addO h1 hG hQ
theorem mo_clear (h : MT FR m μ σ n T g) {Q : Int32 → gS → Prop} (hQ : ∀ g', MT FR m μ (S_clear σ).2.2 n T g' → Q (S_clear σ).2.1 g') : w_X11_clear g m Q := by
  unfold w_X11_clear
  unfold S_clear at hQ
  refine ⟨h.k, fun g1 e1 => ?_⟩
  subst e1
  have h1 := h.z 0
  refine ⟨h1.k, fun g2 e2 => ?_⟩
  subst e2
  rw [h1.s (by decide) (by decide), tz_0 (by decide)]
  exact hQ _ (h1.w 16 0 (by decide) (by decide))
theorem mo_score (h : MT FR m μ σ n T g) (hG : GI σ n bf nn nr ns) (hN : NG σ nn) {a b : Int32} {Q : Int32 → gS → Prop} (hQ : ∀ g' T', MT FR m μ (S_score σ a b).2.2 n T' g' → Q (S_score σ a b).2.1 g') : w_X11_score g m a b Q := by
  unfold w_X11_score b_X11_score_30 b_X11_score_35
  unfold S_score at hQ
  rw [hG.nF] at hQ
  refine ⟨h.k, fun g1 e1 => ?_⟩
  subst e1
  have h1 := h.z 0
  refine ⟨h1.k, mt_nodez h1 (m_if (fun c => ?_) (fun c => mt_docz h1 (m_if (fun c2 => ?_) (fun c2 => ?_))))⟩
  · rw [if_pos (Or.inl c)] at hQ; exact ⟨h1.k, mt_no h1 (fun g' => hQ g' T)⟩
  · rw [if_pos (Or.inr c2)] at hQ; exact ⟨h1.k, mt_no h1 (fun g' => hQ g' T)⟩
  · rw [if_neg (nor2 c c2)] at hQ
    have := hG.nn3
    have := hG.n
    obtain ⟨j, hj, rfl⟩ := hG.isN (nn2 c)
    obtain ⟨d, hd, rfl⟩ := hG.isD (nn2 c2)
    rw [show cl (nI j) = j from cl_nI (by omega), show cl (nI d) = d from cl_nI (by omega)] at hQ
    exact mt_scoreNow hG.tz hN.tz hj hd h1 (fun g' T' h' _ => by rw [tz_scoreNowF]; exact hQ _ _ h')
theorem mo_found (h : MT FR m μ σ n T g) (hG : GI σ n bf nn nr ns) (hN : NG σ nn) {a : Int32} {Q : Int32 → gS → Prop} (hQ : ∀ g' T', MT FR m μ (S_found σ a).2.2 n T' g' → Q (S_found σ a).2.1 g') : w_X11_found g m a Q := by
  unfold w_X11_found b_X11_found_26
  unfold S_found at hQ
  rw [hG.nF] at hQ
  refine ⟨h.k, fun g1 e1 => ?_⟩
  subst e1
  have h1 := h.z 0
  refine ⟨h1.k, mt_nodez h1 (m_if (fun c => ?_) (fun c => ?_))⟩
  · rw [if_pos c] at hQ; exact mt_no h1 (fun g' => hQ g' T)
  · rw [if_neg c] at hQ
    have := hG.nn3
    obtain ⟨j, hj, rfl⟩ := hG.isN (nn2 c)
    rw [show cl (nI j) = j from cl_nI (by omega)] at hQ
    exact mt_foundNow hG.tz hN.tz hj h1 (fun g' T' h' => by rw [tz_foundF]; exact hQ _ _ h')
end MOPS3
