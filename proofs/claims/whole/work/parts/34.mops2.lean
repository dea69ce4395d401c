section TZ
variable {σ : Rows} {c : Int32} {n d f t j k : Nat} {T : Nat → Int32}
theorem tz_spF : spF (tz σ c) t f n = spF σ t f n := rfl
theorem tz_rareF : rareF (tz σ c) n t f = rareF σ n t f := rfl
theorem tz_tasteF : tasteF (tz σ c) n d f t = tasteF σ n d f t := rfl
theorem tz_termF {b : Int32} : termF (tz σ c) n d t b = termF σ n d t b := rfl
theorem tz_scoreF : scoreF (tz σ c) n T j d = scoreF σ n T j d := rfl
theorem tz_scT : ∀ k, scT (tz σ c) n d T k = scT σ n d T k
  | 0 => rfl
  | k + 1 => by rw [scT, scT, tz_scT k, tz_scoreF]
theorem tz_scV : scV (tz σ c) n d j = scV σ n d j := by unfold scV; rw [tz_scT]
theorem tz_scoreNowF : scoreNowF (tz σ c) n d j = scoreNowF σ n d j := by unfold scoreNowF; rw [tz_scV]; rfl
theorem tz_foundF {k : Nat} : foundF (tz σ c) n j k = foundF σ n j k := by unfold foundF; exact cnt_congr (fun d _ => by rw [tz_scoreNowF])
theorem tz_insF {wn : Bool} {top : Nat} : ∀ k j, insF (tz σ c) wn top k j = insF σ wn top k j
  | 0, j => rfl
  | k + 1, j => by rw [insF, insF, tz_insF k j, tz_insF k (top - k)]; rfl
theorem tz_tnB {wn : Bool} {top j : Nat} : tnB (tz σ c) wn top j = tnB σ wn top j := by unfold tnB; rw [tz_insF]; rfl
theorem tz_tnB' {wn : Bool} {top : Nat} : tnB (tz σ c) wn top = tnB σ wn top := funext (fun _ => tz_tnB)
theorem tz_windowF {N : Nat → Bool} {nn w : Nat} : windowF (tz σ c) nn N d f w = windowF σ nn N d f w := rfl
theorem tz_costF {N : Nat → Bool} {nn : Nat} : costF (tz σ c) n nn N = costF σ n nn N := rfl
theorem tz_likeF : likeF (tz σ c) n d = likeF σ n d := rfl
theorem tz_mtS {s : Nat} : ∀ t, mtS (tz σ c) n s t = mtS σ n s t
  | 0 => rfl
  | t + 1 => by rw [mtS, mtS, tz_mtS t]; rfl
theorem tz_kindF {x : Int32} : kindF (tz σ c) n x = kindF σ n x := rfl
theorem tz_datesF {x y : Int32} : datesF (tz σ c) n x y = datesF σ n x y := rfl
theorem tz_sizeF {x : Int32} : sizeF (tz σ c) n x = sizeF σ n x := rfl
variable {bf nn nr ns : Nat}
theorem GI.tz (h : GI σ n bf nn nr ns) : GI (tz σ c) n bf nn nr ns := h
theorem NG.tz (h : NG σ nn) : NG (tz σ c) nn := h
theorem RG.tz (h : RG σ n nr) : RG (tz σ c) n nr := h
end TZ
section MOPS2
variable {FR : gS → Prop} {m : Nat} {μ : Nat → Nat} {σ : Rows} {n : Nat} {T : Nat → Int32} {g : gS} {bf nn nr ns : Nat}
theorem MT.z (h : MT FR m μ σ n T g) (c : Int32) : MT FR m μ (tz σ c) n T (sU g m 0 c) := h.w 0 c (by decide) (by decide)
theorem nn2 {P : Prop} (h : ¬ ¬ P) : P := Classical.not_not.mp h
theorem nor2 {P R : Prop} (h1 : ¬ P) (h2 : ¬ R) : ¬ (P ∨ R) := fun q => q.elim h1 h2
theorem nor3 {P R S : Prop} (h1 : ¬ P) (h2 : ¬ R) (h3 : ¬ S) : ¬ (P ∨ R ∨ S) := fun q => q.elim h1 (fun q => q.elim h2 h3)
theorem GI.nF (h : GI σ n bf nn nr ns) : nF σ = n := by unfold _root_.Jvm.Pilot.CQuarryIndexLaw_law_r1290_e47462.nF; rw [h.d1]; exact cl_nI (by have := h.n; omega)
theorem GI.nn3 (h : GI σ n bf nn nr ns) : nn ≤ 30 := h.1.2.2.1
theorem GI.nnF (h : GI σ n bf nn nr ns) : nnF σ = nn := by unfold _root_.Jvm.Pilot.CQuarryIndexLaw_law_r1290_e47462.nnF; rw [h.d16]; exact cl_nI (by have := h.nn3; omega)
theorem GI.d22 (h : GI σ n bf nn nr ns) : σ 0 22 = nI nr := h.2.1.2.2.2.1
theorem GI.nr6 (h : GI σ n bf nn nr ns) : nr ≤ 60 := h.1.2.2.2.1
theorem GI.nrF (h : GI σ n bf nn nr ns) : nrF σ = nr := by unfold _root_.Jvm.Pilot.CQuarryIndexLaw_law_r1290_e47462.nrF; rw [h.d22]; exact cl_nI (by have := h.nr6; omega)
theorem GI.d13 (h : GI σ n bf nn nr ns) : σ 0 13 = nI ns := h.2.1.2.2.2.2
theorem GI.ns6 (h : GI σ n bf nn nr ns) : ns ≤ 60 := h.1.2.2.2.2
theorem GI.d9 (h : GI σ n bf nn nr ns) : σ 0 9 = nI bf := h.2.1.2.1
theorem GI.isD (h : GI σ n bf nn nr ns) {x : Int32} (c : isD σ x) : ∃ k, k < n ∧ x = nI k := by
  unfold _root_.Jvm.Pilot.CQuarryIndexLaw_law_r1290_e47462.isD at c
  rw [h.d1] at c; exact inR_nI (by have := h.n; omega) c
theorem GI.isN (h : GI σ n bf nn nr ns) {x : Int32} (c : isN σ x) : ∃ k, k < nn ∧ x = nI k := by
  unfold _root_.Jvm.Pilot.CQuarryIndexLaw_law_r1290_e47462.isN at c
  rw [h.d16] at c; exact inR_nI (by have := h.nn3; omega) c
theorem tz_isD {c x : Int32} : isD (tz σ c) x ↔ isD σ x := by unfold isD; rw [tz_0 (by decide)]
theorem tz_isN {c x : Int32} : isN (tz σ c) x ↔ isN σ x := by unfold isN; rw [tz_0 (by decide)]
theorem mt_docz (h : MT FR m μ (tz σ 0) n T g) {x : Int32} {Q : Int32 → Prop} (hQ : Q (if ¬ isD σ x then 0 else 1)) : w_X11_isDocument g m x Q := by
  refine mt_doc h ?_
  simpa only [tz_isD] using hQ
theorem mt_nodez (h : MT FR m μ (tz σ 0) n T g) {x : Int32} {Q : Int32 → Prop} (hQ : Q (if ¬ isN σ x then 0 else 1)) : w_X11_isNode g m x Q := by
  refine mt_node h ?_
  simpa only [tz_isN] using hQ
theorem mo_close (h : MT FR m μ σ n T g) (hG : GI σ n bf nn nr ns) (h6 : n < 60 → σ 6 n = 0) (ho : ¬ σ 0 2 = 0 → n < 60) {Q : Int32 → gS → Prop} (hQ : ∀ g', MT FR m μ (S_close σ).2.2 (if σ 0 2 = 0 then n else n + 1) T g' → Q (S_close σ).2.1 g') : w_X11_close g m Q := by
  unfold w_X11_close
  unfold S_close at hQ
  refine ⟨h.k, fun g1 e1 => ?_⟩
  subst e1
  have h1 := h.z 0
  refine ⟨h1.k, fun c => ?_, fun c g2 e2 => ?_⟩
  · rw [h1.s (by decide) (by decide), tz_0 (by decide)] at c
    rw [if_pos c, if_pos c] at hQ
    exact mt_no h1 hQ
  · rw [h1.s (by decide) (by decide), tz_0 (by decide)] at c
    rw [if_neg c, if_neg c] at hQ
    subst e2
    have h2 := h1.w 2 0 (by decide) (by decide)
    refine ⟨h2.k, fun g3 e3 => ?_⟩
    subst e3
    have h3 := h2.w 1 (gI (sU (sU g m 0 0) m 2 0) m 1 + 1) (by decide) (by decide)
    rw [h2.s (by decide) (by decide)] at h3 ⊢
    rw [show su (tz σ 0) 0 2 0 0 1 = σ 0 1 by rw [su_at, if_neg (by decide), tz_0 (by decide)]] at h3 ⊢
    refine ⟨h3.k, ?_⟩
    rw [h3.s (by decide) (by decide), h3.s (by decide) (by decide)]
    have e : su (su (tz σ 0) 0 2 0) 0 1 (σ 0 1 + 1) 0 1 = σ 0 1 + 1 := by rw [su_at, if_pos rfl]
    have e9 : su (su (tz σ 0) 0 2 0) 0 1 (σ 0 1 + 1) 0 9 = σ 0 9 := by rw [su_at, if_neg (by decide), su_at, if_neg (by decide), tz_0 (by decide)]
    rw [e, e9]
    refine hQ _ ?_
    obtain ⟨σ2, a, b, cc⟩ := h3
    refine ⟨σ2, a, b, ?_⟩
    rcases cc with cc | ⟨cc, dd⟩
    · exact Or.inl cc
    · refine Or.inr ⟨cc, ?_⟩
      have h6' := h6 (ho c)
      obtain ⟨a1, a2, a3⟩ := dd
      have e6 : su (su (tz σ 0) 0 2 0) 0 1 (σ 0 1 + 1) 6 n = 0 := by rw [su_row (by decide), su_row (by decide), tz_r (by decide)]; exact h6'
      refine ⟨?_, fun f hf => ?_, fun t f ht hf => ?_⟩
      · rw [a1]; unfold lyF; rw [isum, if_pos e6, Int32.add_zero]
      · rw [a2 f hf]; unfold leF; rw [isum, if_pos e6, Int32.add_zero]
      · rw [a3 t f ht hf]; unfold spF; rw [isum, if_pos e6, Int32.add_zero]
theorem mo_remove (h : MT FR m μ σ n T g) (hG : GI σ n bf nn nr ns) {a : Int32} {Q : Int32 → gS → Prop} (hQ : ∀ g', MT FR m μ (S_remove σ a).2.2 n T g' → Q (S_remove σ a).2.1 g') : w_X11_remove g m a Q := by
  have hn := hG.n
  unfold w_X11_remove b_X11_remove_14 b_X11_remove_49
  unfold S_remove at hQ
  refine ⟨h.k, mt_doc h (m_if (fun c => ⟨h.k, fun g1 e1 => ?_⟩) (fun c => ⟨h.k, fun g1 e1 => ?_⟩))⟩
  · subst e1
    have h1 := h.z 1
    rw [if_pos c] at hQ
    refine ⟨h1.k, fun q => ?_, fun _ => hQ _ h1⟩
    rw [h1.s (by decide) (by decide), tz, su_at, if_pos rfl] at q
    exact absurd q (by decide)
  · subst e1
    have h1 := h.z 0
    obtain ⟨d, hd, rfl⟩ := hG.isD (nn2 c)
    rw [if_neg c, show cl (nI d) = d from cl_nI (by omega)] at hQ
    refine ⟨h1.k, fun q => ⟨_, h1.r5, h1.k5, by rw [h1.n5]; exact vpi (by omega), _, h1.r5, h1.k5, by rw [h1.n5]; exact vpi (by omega), fun g2 e2 => ?_⟩, fun q => ?_⟩
    · subst e2
      rw [h1.i5, cl_nI (by omega), tz_r (by decide)]
      have h2 := h1.wa 5 d 1 (by decide) (by decide)
      refine ⟨fun c2 => ⟨Or.inr rfl, ?_⟩, fun c2 => ⟨Or.inl rfl, ?_⟩⟩
      · have := hQ _ h2; rw [if_pos c2] at this; exact this
      · have := hQ _ h2; rw [if_neg c2] at this; exact this
    · rw [h1.s (by decide) (by decide), tz, su_at, if_pos rfl] at q
      exact absurd rfl q
theorem mo_setMute (h : MT FR m μ σ n T g) (hG : GI σ n bf nn nr ns) {a b : Int32} (hb : b = 0 ∨ b = 1) {Q : Int32 → gS → Prop} (hQ : ∀ g', MT FR m μ (S_setMute σ a b).2.2 n T g' → Q (S_setMute σ a b).2.1 g') : w_X11_setMute g m a b Q := by
  unfold w_X11_setMute b_X11_setMute_13
  unfold S_setMute at hQ
  refine m_term (m_if (fun c => ⟨h.k, fun g1 e1 => ?_⟩) (fun c => ⟨h.k, fun g1 e1 => ?_⟩))
  · subst e1
    have h1 := h.z 1
    rw [if_pos c] at hQ
    refine ⟨h1.k, fun q => ?_, fun _ => hQ _ h1⟩
    rw [h1.s (by decide) (by decide), tz, su_at, if_pos rfl] at q
    exact absurd q (by decide)
  · subst e1
    have h1 := h.z 0
    obtain ⟨d, hd, rfl⟩ := isT_nI (nn2 c)
    rw [if_neg c, show cl (nI d) = d from cl_nI (by omega)] at hQ
    refine ⟨h1.k, fun q => ⟨_, h1.r10, h1.k10, by rw [h1.n10]; exact vpi (by omega), _, h1.r10, h1.k10, by rw [h1.n10]; exact vpi (by omega), hb, fun g2 e2 => ?_⟩, fun q => ?_⟩
    · subst e2
      rw [h1.i10, cl_nI (by omega), tz_r (by decide)]
      have h2 := h1.wa 10 d b (by decide) (by decide)
      exact ⟨hG.2.2.2.2.2.2.1 d hd, hQ _ h2⟩
    · rw [h1.s (by decide) (by decide), tz, su_at, if_pos rfl] at q
      exact absurd rfl q
theorem mo_setAlias (h : MT FR m μ σ n T g) {a b : Int32} {Q : Int32 → gS → Prop} (hQ : ∀ g', MT FR m μ (S_setAlias σ a b).2.2 n T g' → Q (S_setAlias σ a b).2.1 g') : w_X11_setAlias g m a b Q := by
  unfold w_X11_setAlias b_X11_setAlias_28
  unfold S_setAlias at hQ
  refine ⟨h.k, fun g1 e1 => ?_⟩
  subst e1
  have h1 := h.z 0
  refine m_term (m_if (fun c => ?_) (fun c => m_in (m_if (fun c2 => ?_) (fun c2 => ⟨fun c3 => ?_, fun c3 => ?_⟩))))
  · rw [if_pos (Or.inl c)] at hQ; exact ⟨h1.k, mt_no h1 hQ⟩
  · rw [if_pos (Or.inr (Or.inl c2))] at hQ; exact ⟨h1.k, mt_no h1 hQ⟩
  · rw [if_pos (Or.inr (Or.inr c3))] at hQ; exact ⟨h1.k, mt_no h1 hQ⟩
  · rw [if_neg (nor3 c c2 c3)] at hQ
    obtain ⟨d, hd, rfl⟩ := isT_nI (nn2 c)
    rw [show cl (nI d) = d from cl_nI (by omega)] at hQ
    refine ⟨h1.k, _, h1.r11, h1.k11, by rw [h1.n11]; exact vpi hd, _, h1.r11, h1.k11, by rw [h1.n11]; exact vpi hd, fun g2 e2 => ?_⟩
    subst e2
    rw [h1.i11, cl_nI (by omega), tz_r (by decide)]
    exact hQ _ (h1.wa 11 d b (by decide) (by decide))
theorem mo_setWeight (h : MT FR m μ σ n T g) {a b : Int32} {Q : Int32 → gS → Prop} (hQ : ∀ g', MT FR m μ (S_setWeight σ a b).2.2 n T g' → Q (S_setWeight σ a b).2.1 g') : w_X11_setWeight g m a b Q := by
  unfold w_X11_setWeight b_X11_setWeight_22
  unfold S_setWeight at hQ
  refine ⟨h.k, fun g1 e1 => ?_⟩
  subst e1
  have h1 := h.z 0
  refine m_field (m_if (fun c => ?_) (fun c => m_in (m_if (fun c2 => ?_) (fun c2 => ?_))))
  · rw [if_pos (Or.inl c)] at hQ; exact ⟨h1.k, mt_no h1 hQ⟩
  · rw [if_pos (Or.inr c2)] at hQ; exact ⟨h1.k, mt_no h1 hQ⟩
  · rw [if_neg (nor2 c c2)] at hQ
    obtain ⟨d, hd, rfl⟩ := isF_nI (nn2 c)
    rw [show cl (nI d) = d from cl_nI (by omega)] at hQ
    refine ⟨h1.k, _, h1.r12, h1.k12, by rw [h1.n12]; exact vpi hd, _, h1.r12, h1.k12, by rw [h1.n12]; exact vpi hd, fun g2 e2 => ?_⟩
    subst e2
    rw [h1.i12, cl_nI (by omega), tz_r (by decide)]
    exact hQ _ (h1.wa 12 d b (by decide) (by decide))
theorem mt_ints (h : MT FR m μ σ n T g) {i : Nat} (h1 : i ≠ 25) (h2 : i ≠ 26) {Q : Int32 → gS → Prop} (hQ : ∀ g', MT FR m μ (tz σ 0) n T g' → Q (σ 0 i) g') : w_X11_ok g m (gI g m i) Q := by
  rw [h.s h1 h2]; exact mt_ok h hQ
theorem mo_documents (h : MT FR m μ σ n T g) {Q : Int32 → gS → Prop} (hQ : ∀ g', MT FR m μ (tz σ 0) n T g' → Q (σ 0 1) g') : w_X11_documents g m Q := ⟨h.k, mt_ints h (by decide) (by decide) hQ⟩
theorem mo_segments (h : MT FR m μ σ n T g) {Q : Int32 → gS → Prop} (hQ : ∀ g', MT FR m μ (tz σ 0) n T g' → Q (σ 0 13) g') : w_X11_segments g m Q := ⟨h.k, mt_ints h (by decide) (by decide) hQ⟩
theorem mo_nodes (h : MT FR m μ σ n T g) {Q : Int32 → gS → Prop} (hQ : ∀ g', MT FR m μ (tz σ 0) n T g' → Q (σ 0 16) g') : w_X11_nodes g m Q := ⟨h.k, mt_ints h (by decide) (by decide) hQ⟩
theorem mo_results (h : MT FR m μ σ n T g) {Q : Int32 → gS → Prop} (hQ : ∀ g', MT FR m μ (tz σ 0) n T g' → Q (σ 0 22) g') : w_X11_results g m Q := ⟨h.k, mt_ints h (by decide) (by decide) hQ⟩
theorem mt_stateNow (h : MT FR m μ σ n T g) {d : Nat} (hd : d < 60) {Q : Int32 → Prop} (hQ : Q (stF σ d)) : w_X11_stateNow g m (nI d) Q := by
  unfold w_X11_stateNow b_X11_stateNow_26
  unfold stF at hQ
  refine ⟨h.k, _, h.r5, h.k5, by rw [h.n5]; exact vpi hd, ?_⟩
  rw [h.i5, cl_nI (by omega), h.s (by decide) (by decide)]
  refine ⟨fun c => ⟨fun c2 => ?_, fun c2 => ?_⟩, fun c => ?_⟩
  · rw [if_pos c, if_pos c2] at hQ; exact hQ
  · rw [if_pos c, if_neg c2] at hQ; exact hQ
  · rw [if_neg c] at hQ; exact hQ
theorem mo_stateOf (h : MT FR m μ σ n T g) (hG : GI σ n bf nn nr ns) {a : Int32} {Q : Int32 → gS → Prop} (hQ : ∀ g', MT FR m μ (S_stateOf σ a).2.2 n T g' → Q (S_stateOf σ a).2.1 g') : w_X11_stateOf g m a Q := by
  have hn := hG.n
  unfold w_X11_stateOf b_X11_stateOf_26
  unfold S_stateOf at hQ
  refine ⟨h.k, fun g1 e1 => ?_⟩
  subst e1
  have h1 := h.z 0
  refine ⟨h1.k, mt_docz h1 (m_if (fun c => ?_) (fun c => ?_))⟩
  · rw [if_pos c] at hQ; exact mt_no h1 hQ
  · rw [if_neg c] at hQ
    obtain ⟨d, hd, rfl⟩ := hG.isD (nn2 c)
    rw [show cl (nI d) = d from cl_nI (by omega)] at hQ
    exact mt_stateNow h1 (by omega) (hQ _ h1)
theorem mo_termAt (h : MT FR m μ σ n T g) (hG : GI σ n bf nn nr ns) {a b p : Int32} {Q : Int32 → gS → Prop} (hQ : ∀ g', MT FR m μ (S_termAt σ a b p).2.2 n T g' → Q (S_termAt σ a b p).2.1 g') : w_X11_termAt g m a b p Q := by
  have hn := hG.n
  unfold w_X11_termAt b_X11_termAt_46 b_X11_termAt_51
  unfold S_termAt at hQ
  refine ⟨h.k, fun g1 e1 => ?_⟩
  subst e1
  have h1 := h.z 0
  refine ⟨h1.k, mt_docz h1 (m_if (fun c => ?_) (fun c => m_field (m_if (fun c2 => ?_) (fun c2 => ?_))))⟩
  · rw [if_pos (Or.inl c)] at hQ; exact ⟨h1.k, mt_no h1 hQ⟩
  · rw [if_pos (Or.inr c2)] at hQ; exact ⟨h1.k, mt_no h1 hQ⟩
  · rw [if_neg (nor2 c c2)] at hQ
    obtain ⟨d, hd, rfl⟩ := hG.isD (nn2 c)
    obtain ⟨f, hf, rfl⟩ := isF_nI (nn2 c2)
    rw [show cl (nI d) = d from cl_nI (by omega), show cl (nI f) = f from cl_nI (by omega)] at hQ
    refine (mt_many h1 (by omega) hf).mpr (m_in ?_)
    rw [tz_r (by decide)]
    refine m_if (fun c3 => ?_) (fun c3 => ?_)
    · rw [if_pos c3] at hQ; exact ⟨h1.k, mt_no h1 hQ⟩
    · rw [if_neg c3] at hQ
      obtain ⟨hl1, hl2⟩ := hG.ln (show d < 60 by omega) hf
      rw [hl2] at c3
      obtain ⟨q, hq, rfl⟩ := inR_nI (by omega) (nn2 c3)
      rw [show cl (nI q) = q from cl_nI (by omega)] at hQ
      exact (mt_at h1 (by omega) hf (by omega)).mpr (hQ _ h1)
theorem mo_tierOf (h : MT FR m μ σ n T g) (hG : GI σ n bf nn nr ns) {a : Int32} {Q : Int32 → gS → Prop} (hQ : ∀ g', MT FR m μ (S_tierOf σ a).2.2 n T g' → Q (S_tierOf σ a).2.1 g') : w_X11_tierOf g m a Q := by
  unfold w_X11_tierOf b_X11_tierOf_33
  unfold S_tierOf at hQ
  refine ⟨h.k, fun g1 e1 => ?_⟩
  subst e1
  have h1 := h.z 0
  refine ⟨h1.k, m_in ?_⟩
  rw [h1.s (by decide) (by decide), tz_0 (by decide)]
  refine m_if (fun c => ?_) (fun c => ?_)
  · rw [if_pos c] at hQ; exact mt_no h1 hQ
  · rw [if_neg c] at hQ
    have := hG.ns6
    rw [hG.d13] at c
    obtain ⟨d, hd, rfl⟩ := inR_nI (by omega) (nn2 c)
    rw [show cl (nI d) = d from cl_nI (by omega)] at hQ
    refine ⟨_, h1.r14, h1.k14, by rw [h1.n14]; exact vpi (by omega), ?_⟩
    rw [h1.i14, cl_nI (by omega)]
    exact hQ _ h1
theorem mo_sizeOf (h : MT FR m μ σ n T g) (hG : GI σ n bf nn nr ns) {a : Int32} {Q : Int32 → gS → Prop} (hQ : ∀ g', MT FR m μ (S_sizeOf σ a).2.2 n T g' → Q (S_sizeOf σ a).2.1 g') : w_X11_sizeOf g m a Q := by
  unfold w_X11_sizeOf b_X11_sizeOf_32
  unfold S_sizeOf at hQ
  rw [hG.nF] at hQ
  refine ⟨h.k, fun g1 e1 => ?_⟩
  subst e1
  have h1 := h.z 0
  refine ⟨h1.k, m_in ?_⟩
  rw [h1.s (by decide) (by decide), tz_0 (by decide)]
  refine m_if (fun c => ?_) (fun c => ?_)
  · rw [if_pos c] at hQ; exact mt_no h1 hQ
  · rw [if_neg c] at hQ
    exact mt_sizeNow h1 hG.tz (hQ _ h1)
theorem mo_spread (h : MT FR m μ σ n T g) (hG : GI σ n bf nn nr ns) {a b : Int32} {Q : Int32 → gS → Prop} (hQ : ∀ g', MT FR m μ (S_spread σ a b).2.2 n T g' → Q (S_spread σ a b).2.1 g') : w_X11_spread g m a b Q := by
  unfold w_X11_spread b_X11_spread_28 b_X11_spread_33
  unfold S_spread at hQ
  rw [hG.nF] at hQ
  refine ⟨h.k, fun g1 e1 => ?_⟩
  subst e1
  have h1 := h.z 0
  refine m_term (m_if (fun c => ?_) (fun c => m_field (m_if (fun c2 => ?_) (fun c2 => ⟨h1.k, ?_⟩))))
  · rw [if_pos (Or.inl c)] at hQ; exact ⟨h1.k, mt_no h1 hQ⟩
  · rw [if_pos (Or.inr c2)] at hQ; exact ⟨h1.k, mt_no h1 hQ⟩
  · rw [if_neg (nor2 c c2)] at hQ
    obtain ⟨t, ht, rfl⟩ := isT_nI (nn2 c)
    obtain ⟨f, hf, rfl⟩ := isF_nI (nn2 c2)
    rw [show cl (nI t) = t from cl_nI (by omega), show cl (nI f) = f from cl_nI (by omega)] at hQ
    exact mt_spreadNow h1 hG.tz ht hf (fun g' h' => hQ _ h')
theorem mo_rare (h : MT FR m μ σ n T g) (hG : GI σ n bf nn nr ns) {a b : Int32} {Q : Int32 → gS → Prop} (hQ : ∀ g', MT FR m μ (S_rare σ a b).2.2 n T g' → Q (S_rare σ a b).2.1 g') : w_X11_rare g m a b Q := by
  unfold w_X11_rare b_X11_rare_28 b_X11_rare_33
  unfold S_rare at hQ
  rw [hG.nF] at hQ
  refine ⟨h.k, fun g1 e1 => ?_⟩
  subst e1
  have h1 := h.z 0
  refine m_term (m_if (fun c => ?_) (fun c => m_field (m_if (fun c2 => ?_) (fun c2 => ⟨h1.k, ?_⟩))))
  · rw [if_pos (Or.inl c)] at hQ; exact ⟨h1.k, mt_no h1 hQ⟩
  · rw [if_pos (Or.inr c2)] at hQ; exact ⟨h1.k, mt_no h1 hQ⟩
  · rw [if_neg (nor2 c c2)] at hQ
    obtain ⟨t, ht, rfl⟩ := isT_nI (nn2 c)
    obtain ⟨f, hf, rfl⟩ := isF_nI (nn2 c2)
    rw [show cl (nI t) = t from cl_nI (by omega), show cl (nI f) = f from cl_nI (by omega)] at hQ
    dsimp only [good] at hQ
    exact mt_rareNow h1 hG.tz ht hf (fun g' h' => by rw [tz_rareF]; exact hQ _ h')
end MOPS2
