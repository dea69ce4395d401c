/-! THE REFERENCE'S CALLS: results and asking -/
section MOPS4
variable {FR : gS → Prop} {m : Nat} {μ : Nat → Nat} {σ : Rows} {n : Nat} {T : Nat → Int32} {g : gS} {bf nn nr ns : Nat}
theorem mo_resultAt (h : MT FR m μ σ n T g) (hG : GI σ n bf nn nr ns) {a : Int32} {Q : Int32 → gS → Prop} (hQ : ∀ g', MT FR m μ (S_resultAt σ a).2.2 n T g' → Q (S_resultAt σ a).2.1 g') : w_X11_resultAt g m a Q := by
  unfold w_X11_resultAt b_X11_resultAt_33
  unfold S_resultAt at hQ
  refine ⟨h.k, fun g1 e1 => ?_⟩
  subst e1
  have h1 := h.z 0
  refine ⟨h1.k, m_in ?_⟩
  rw [h1.s (by decide) (by decide), tz_0 (by decide)]
  refine m_if (fun c => ?_) (fun c => ?_)
  · rw [if_pos c] at hQ; exact mt_no h1 hQ
  · rw [if_neg c] at hQ
    have := hG.nr6
    rw [hG.d22] at c
    obtain ⟨d, hd, rfl⟩ := inR_nI (by omega) (nn2 c)
    rw [show cl (nI d) = d from cl_nI (by omega)] at hQ
    refine ⟨_, h1.r23, h1.k23, by rw [h1.n23]; exact vpi (by omega), ?_⟩
    rw [h1.i23, cl_nI (by omega)]
    exact hQ _ h1
theorem mo_scoreAt (h : MT FR m μ σ n T g) (hG : GI σ n bf nn nr ns) {a : Int32} {Q : Int32 → gS → Prop} (hQ : ∀ g', MT FR m μ (S_scoreAt σ a).2.2 n T g' → Q (S_scoreAt σ a).2.1 g') : w_X11_scoreAt g m a Q := by
  unfold w_X11_scoreAt b_X11_scoreAt_33
  unfold S_scoreAt at hQ
  refine ⟨h.k, fun g1 e1 => ?_⟩
  subst e1
  have h1 := h.z 0
  refine ⟨h1.k, m_in ?_⟩
  rw [h1.s (by decide) (by decide), tz_0 (by decide)]
  refine m_if (fun c => ?_) (fun c => ?_)
  · rw [if_pos c] at hQ; exact mt_no h1 hQ
  · rw [if_neg c] at hQ
    have := hG.nr6
    rw [hG.d22] at c
    obtain ⟨d, hd, rfl⟩ := inR_nI (by omega) (nn2 c)
    rw [show cl (nI d) = d from cl_nI (by omega)] at hQ
    refine ⟨_, h1.r24, h1.k24, by rw [h1.n24]; exact vpi (by omega), ?_⟩
    rw [h1.i24, cl_nI (by omega)]
    exact hQ _ h1
theorem mo_ofKind (h : MT FR m μ σ n T g) (hG : GI σ n bf nn nr ns) (hR : RG σ n nr) {a : Int32} {Q : Int32 → gS → Prop} (hQ : ∀ g', MT FR m μ (S_ofKind σ a).2.2 n T g' → Q (S_ofKind σ a).2.1 g') : w_X11_ofKind g m a Q := by
  unfold w_X11_ofKind b_X11_ofKind_28
  unfold S_ofKind at hQ
  rw [hG.nrF] at hQ
  refine ⟨h.k, fun g1 e1 => ?_⟩
  subst e1
  have h1 := h.z 0
  refine m_in (m_if (fun c => ?_) (fun c => ?_))
  · rw [if_pos c] at hQ; exact ⟨h1.k, mt_no h1 hQ⟩
  · rw [if_neg c] at hQ; dsimp only [good] at hQ
    exact ⟨h1.k, mt_kindNow h1 hG.tz hR.tz (by rw [tz_kindF]; exact hQ _ h1)⟩
theorem mo_ofDates (h : MT FR m μ σ n T g) (hG : GI σ n bf nn nr ns) (hR : RG σ n nr) {a b : Int32} {Q : Int32 → gS → Prop} (hQ : ∀ g', MT FR m μ (S_ofDates σ a b).2.2 n T g' → Q (S_ofDates σ a b).2.1 g') : w_X11_ofDates g m a b Q := by
  unfold w_X11_ofDates b_X11_ofDates_27
  unfold S_ofDates at hQ
  rw [hG.nrF] at hQ
  refine ⟨h.k, fun g1 e1 => ?_⟩
  subst e1
  have h1 := h.z 0
  refine m_in (m_if (fun c => ?_) (fun c => m_in (m_if (fun c2 => ?_) (fun c2 => ?_))))
  · rw [if_pos (Or.inl c)] at hQ; exact ⟨h1.k, mt_no h1 hQ⟩
  · rw [if_pos (Or.inr c2)] at hQ; exact ⟨h1.k, mt_no h1 hQ⟩
  · rw [if_neg (nor2 c c2)] at hQ; dsimp only [good] at hQ
    exact mt_datesLoop h1 hG.tz hR.tz (by rw [tz_datesF]; exact hQ _ h1)
theorem mo_window (h : MT FR m μ σ n T g) (hG : GI σ n bf nn nr ns) (hN : NG σ nn) {d j f w : Int32} {Q : Int32 → gS → Prop} (hQ : ∀ g', MT FR m μ (S_window σ d j f w).2.2 n T g' → Q (S_window σ d j f w).2.1 g') : w_X11_window g m d j f w Q := by
  have hn := hG.n
  have hnn := hG.nn3
  unfold w_X11_window b_X11_window_28
  unfold S_window at hQ
  rw [hG.nnF] at hQ
  refine ⟨h.k, fun g1 e1 => ?_⟩
  subst e1
  have h1 := h.z 0
  refine ⟨h1.k, mt_docz h1 (m_if (fun c => ?_) (fun c1 => mt_nodez h1 (m_if (fun c2 => ?_) (fun c2 => m_field (m_if (fun c3 => ?_) (fun c3 => m_in (m_if (fun c4 => ?_) (fun c4 => ?_))))))))⟩
  · rw [if_pos (Or.inl c)] at hQ; exact ⟨h1.k, mt_no h1 hQ⟩
  · rw [if_pos (Or.inr (Or.inl c2))] at hQ; exact ⟨h1.k, mt_no h1 hQ⟩
  · rw [if_pos (Or.inr (Or.inr c3))] at hQ; exact ⟨h1.k, mt_no h1 hQ⟩
  · rw [if_neg (nor3 c1 c2 c3), if_pos c4] at hQ; exact mt_no h1 hQ
  · rw [if_neg (nor3 c1 c2 c3), if_neg c4] at hQ
    obtain ⟨d, hd, rfl⟩ := hG.isD (nn2 c1)
    obtain ⟨j, hj, rfl⟩ := hG.isN (nn2 c2)
    obtain ⟨f, hf, rfl⟩ := isF_nI (nn2 c3)
    obtain ⟨w, _, hw, rfl⟩ := inR_b (lo := 1) (hi := 12) (by decide) (by decide) (nn2 c4)
    rw [show cl (nI j) = j from cl_nI (by omega), show cl (nI d) = d from cl_nI (by omega), show cl (nI f) = f from cl_nI (by omega), show cl (nI w) = w from cl_nI (by omega)] at hQ
    dsimp only [good] at hQ
    exact mt_termNodes (wn := false) h1 hN.tz hnn hj (fun x hx => mt_window h1 hG.tz hN.tz (by omega) hf hw hx (by rw [tz_windowF, tz_tnB']; exact hQ _ h1))
theorem mo_like (h : MT FR m μ σ n T g) (hG : GI σ n bf nn nr ns) {a : Int32} {Q : Int32 → gS → Prop} (hQ : ∀ g', MT FR m μ (S_like σ a).2.2 n T g' → Q (S_like σ a).2.1 g') : w_X11_like g m a Q := by
  have hn := hG.n
  unfold w_X11_like b_X11_like_26
  unfold S_like at hQ
  rw [hG.nF] at hQ
  refine ⟨h.k, fun g1 e1 => ?_⟩
  subst e1
  have h1 := h.z 0
  refine ⟨h1.k, mt_docz h1 (m_if (fun c => ?_) (fun c => ?_))⟩
  · rw [if_pos c] at hQ; exact mt_no h1 hQ
  · rw [if_neg c] at hQ
    obtain ⟨d, hd, rfl⟩ := hG.isD (nn2 c)
    rw [show cl (nI d) = d from cl_nI (by omega)] at hQ
    dsimp only [good] at hQ
    exact mt_likeNow hG.tz hd h1 (fun g' h' => by rw [tz_likeF]; exact hQ _ h')
theorem mo_mate (h : MT FR m μ σ n T g) (hG : GI σ n bf nn nr ns) {a : Int32} {Q : Int32 → gS → Prop} (hQ : ∀ g', MT FR m μ (S_mate σ a).2.2 n T g' → Q (S_mate σ a).2.1 g') : w_X11_mate g m a Q := by
  unfold w_X11_mate b_X11_mate_21
  unfold S_mate at hQ
  rw [hG.nF] at hQ
  refine ⟨h.k, fun g1 e1 => ?_⟩
  subst e1
  have h1 := h.z 0
  refine m_term (m_if (fun c => ?_) (fun c => ?_))
  · rw [if_pos c] at hQ; exact ⟨h1.k, mt_no h1 hQ⟩
  · rw [if_neg c] at hQ
    obtain ⟨t, ht, rfl⟩ := isT_nI (nn2 c)
    rw [show cl (nI t) = t from cl_nI (by omega)] at hQ
    refine ⟨h1.k, _, h1.r10, h1.k10, by rw [h1.n10]; exact vpi ht, ?_⟩
    rw [h1.i10, cl_nI (by omega), tz_r (by decide)]
    refine ⟨fun c2 => ?_, fun c2 => ?_⟩
    · rw [if_neg (not_not_intro c2)] at hQ
      dsimp only [good] at hQ
      exact mt_mateLoop h1 hG.tz ht (by rw [tz_mtS]; exact hQ _ h1)
    · rw [if_pos c2] at hQ; exact ⟨h1.k, mt_no h1 hQ⟩
theorem mo_cost (h : MT FR m μ σ n T g) (hG : GI σ n bf nn nr ns) (hN : NG σ nn) {a : Int32} {Q : Int32 → gS → Prop} (hQ : ∀ g', MT FR m μ (S_cost σ a).2.2 n T g' → Q (S_cost σ a).2.1 g') : w_X11_cost g m a Q := by
  have hnn := hG.nn3
  unfold w_X11_cost b_X11_cost_26
  unfold S_cost at hQ
  rw [hG.nF, hG.nnF] at hQ
  refine ⟨h.k, fun g1 e1 => ?_⟩
  subst e1
  have h1 := h.z 0
  refine ⟨h1.k, mt_nodez h1 (m_if (fun c => ?_) (fun c => ?_))⟩
  · rw [if_pos c] at hQ; exact mt_no h1 hQ
  · rw [if_neg c] at hQ
    obtain ⟨j, hj, rfl⟩ := hG.isN (nn2 c)
    rw [show cl (nI j) = j from cl_nI (by omega)] at hQ
    dsimp only [good] at hQ
    exact mt_costNow h1 hG.tz hN.tz hj (fun g' h' => by rw [tz_costF, tz_tnB']; exact hQ _ h')
/-- are all these nodes -/
theorem mo_most (h : MT FR m μ σ n T g) (hG : GI σ n bf nn nr ns) {a b x : Int32} {Q : Int32 → gS → Prop} (hQ : ∀ g', MT FR m μ (S_most σ a b x).2.2 n T g' → Q (S_most σ a b x).2.1 g') : w_X11_most g m a b x Q := by
  have hnn := hG.nn3
  unfold w_X11_most
  unfold S_most at hQ
  refine ⟨h.k, fun g1 e1 => ?_⟩
  subst e1
  have h1 := h.z 0
  have fail : (¬ isN σ a ∨ σ 0 16 - a < b) → b_X11_most_42 (sU g m 0 0) m a b x 0 Q := by
    intro c
    rw [if_pos c] at hQ
    unfold b_X11_most_42
    exact ⟨fun _ => ⟨h1.k, mt_no h1 hQ⟩, fun q => absurd rfl q⟩
  refine ⟨h1.k, mt_nodez h1 ?_⟩
  by_cases c : isN σ a
  · rw [if_neg (not_not_intro c)]
    obtain ⟨i, hi, rfl⟩ := hG.isN c
    have esub : σ 0 16 - nI i = nI (nn - i) := by
      rw [hG.d16, show nn = (nn - i) + i by omega, ← nI_add, show nn - i + i - i = nn - i by omega]
      exact Int32.add_sub_cancel _ _
    rw [esub] at fail hQ
    have pass : ¬ nI (nn - i) < b → b_X11_most_42 (sU g m 0 0) m (nI i) b x 1 Q := by
      intro c2
      rw [if_neg (nor2 (not_not_intro c) c2)] at hQ
      unfold b_X11_most_42 b_X11_most_71 b_X11_most_103
      refine ⟨fun q => absurd q (by decide), fun _ => m_in (m_if (fun c3 => ?_) (fun c3 => m_in (m_if (fun c4 => ?_) (fun c4 => ?_))))⟩
      · rw [if_pos (Or.inl c3)] at hQ; exact ⟨h1.k, mt_no h1 hQ⟩
      · rw [if_pos (Or.inr c4)] at hQ; exact ⟨h1.k, mt_no h1 hQ⟩
      · rw [if_neg (nor2 c3 c4)] at hQ; exact ⟨h1.k, mt_addO h1 hG hQ⟩
    -- the loop: at k all before are nodes
    refine lpx2_i (nn - i) (fun k y z => z = nI (k + 1) ∧ y = (if i + k < nn then 1 else 0) ∧ (0 < k → nI k < b)) ?_ ?_ 1 1 ⟨rfl, by rw [if_pos (by omega)], fun q => absurd q (by decide)⟩
    · rintro k _ _ hk ⟨rfl, rfl, _⟩ K hK
      rw [if_pos (by omega)]
      unfold l_X11_most_15
      refine ⟨fun q => absurd q (by decide), fun _ => ⟨fun c2 => pass ?_, fun c2 => ⟨h1.k, mt_nodez h1 ?_⟩⟩⟩
      · intro q
        have h1 : (nI (nn - i)).toInt < b.toInt := (i32_lt _ _).mp q
        have h2 : b.toInt ≤ (nI (k + 1)).toInt := (i32_le _ _).mp c2
        rw [nI_toInt (by omega)] at h1 h2
        omega
      · rw [nI_add, nI_1]
        refine hK _ _ ⟨rfl, ?_, fun _ => i32_nle.mp c2⟩
        by_cases e : i + (k + 1) < nn
        · rw [if_pos e, if_neg (not_not_intro (by unfold isN; rw [hG.d16]; exact nI_inR (by omega) (by omega)))]
        · rw [if_neg e, if_pos]
          intro q
          obtain ⟨r, hr, er⟩ := hG.isN q
          have := (nI_inj (by omega) (by omega)).mp er
          omega
    · rintro _ _ ⟨rfl, rfl, hb⟩ K
      rw [if_neg (by omega)]
      unfold l_X11_most_15
      exact ⟨fun _ => fail (Or.inr (hb (by omega))), fun q => absurd rfl q⟩
  · rw [if_pos c]
    refine lpx2_s 0 (fun _ => 0) (fun _ => 1) rfl rfl (fun k hk => absurd hk (Nat.not_lt_zero _)) (fun K => ?_)
    unfold l_X11_most_15
    exact ⟨fun _ => fail (Or.inl c), fun q => absurd rfl q⟩
end MOPS4
