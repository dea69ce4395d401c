/-! THE CLASS: archive and results, read -/
section CREAD
variable {A : Nat → Nat} {D : Nat} {V σ : Rows} {n bf nn nr ns : Nat} {g : gS}
theorem x_countAt (h : CC A D V σ n bf nn nr ns g) (hn : n ≤ 60) {x : Int32} {Q : Int32 → Prop} (hQ : Q (nI (cnt (fun d => decide (hmF σ bf d = x)) n))) : w_X0_countAt g (A 1) x Q := by
  have hc := h
  obtain ⟨hr, hv, hdoc, _, hf⟩ := h
  have hnD := hf.2.2.2.2.1
  unfold w_X0_countAt
  refine lpx2_s n (fun k => nI (cnt (fun d => decide (hmF σ bf d = x)) k)) (fun k => nI k) rfl rfl (fun k hk K hK => ?_) (fun K => ?_)
  · unfold l_X0_countAt_4 b_X0_countAt_36
    refine ⟨hr.k1, ?_⟩
    rw [hr.i1, hv.1]
    rw [cnt_s] at hK
    refine ⟨fun c => absurd c (nI_ge hk (by omega)), fun _ => x_docAt hc hk ⟨fun q => absurd q (by simp), fun y hy => ?_⟩⟩
    have hy' : y = A (dl k 0) := (Option.some.inj hy).symm
    subst hy'
    refine ⟨hr.d0k (by omega), ?_⟩
    rw [hr.d0i (by omega), (hdoc k (by omega)).2.2.1]
    refine ⟨fun c => ?_, fun c => ?_⟩
    · rw [decide_eq_true c, if_pos rfl] at hK; rw [nI_1, nI_1]; exact hK
    · rw [decide_eq_false c] at hK; rw [nI_1]; simpa using hK
  · unfold l_X0_countAt_4
    refine ⟨hr.k1, ?_⟩
    rw [hr.i1, hv.1]
    exact ⟨fun _ => hQ, fun c => absurd (nI_le (Nat.le_refl _) (by omega)) c⟩
theorem x_hasSegment (h : CC A D V σ n bf nn nr ns g) (hns : ns ≤ 60) {x : Int32} {Q : Int32 → Prop} (hQ : Q (if ¬ inR x 0 (nI ns - 1) then 0 else 1)) : w_X0_hasSegment g (A 1) x Q := by
  obtain ⟨hr, hv, hdoc, _, hf⟩ := h
  unfold w_X0_hasSegment b_X0_hasSegment_16 b_X0_hasSegment_17
  refine ⟨fun c => ?_, fun c => ⟨hr.k1, ?_⟩⟩
  · rw [if_pos (fun q => q (Or.inl c))] at hQ; exact ⟨Or.inl rfl, hQ⟩
  · rw [hr.i1, hv.2.1]
    obtain ⟨k, hk, rfl⟩ := nI_of c
    refine ⟨fun c2 => ⟨Or.inl rfl, ?_⟩, fun c2 => ⟨Or.inr rfl, ?_⟩⟩
    · have h2 := (nI_le_iff (show ns < 2 ^ 31 by omega) hk).mp c2
      rw [if_pos (fun q => by obtain ⟨r, hr', er⟩ := inR_nI (by omega) q; have := (nI_inj hk (by omega)).mp er; omega)] at hQ
      exact hQ
    · have h2 : k < ns := by
        rcases Nat.lt_or_ge k ns with q | q
        · exact q
        · exact absurd (nI_le q hk) c2
      rw [if_neg (not_not_intro (nI_inR (by omega) h2))] at hQ
      exact hQ
theorem x_tierAt (h : CC A D V σ n bf nn nr ns g) (hns : ns ≤ 60) {s : Nat} (hs : s < ns) {Q : Int32 → Prop} (hQ : Q (σ 14 s)) : w_X0_tierAt g (A 1) (nI s) Q := by
  have hc := h
  obtain ⟨hr, hv, hdoc, _, hf⟩ := h
  unfold w_X0_tierAt b_X0_tierAt_17 b_X0_tierAt_27
  refine ⟨hr.k1, x_hasSegment hc hns ?_⟩
  rw [if_neg (not_not_intro (nI_inR (by omega) hs))]
  refine ⟨fun q => absurd q (by decide), fun _ => ⟨_, hr.r1_3, hr.k3, ?_⟩⟩
  rw [hr.n3]
  refine ⟨fun _ => ⟨_, hr.r1_3, hr.k3, by rw [hr.n3]; exact vpi (by omega), ?_⟩, fun c => absurd ((nI_lt_iff (by omega) (by decide)).mpr (show s < 60 by omega)) c⟩
  rw [hr.i3, cl_nI (by omega), hv.2.2.1 s hs]; exact hQ
theorem x_gone (h : CC A D V σ n bf nn nr ns g) (hn : n ≤ 60) (h15 : ∀ d, d < n → σ 6 d ≠ 0 → ¬ σ 15 d < 0) {Q : Int32 → Prop} (hQ : Q (nI (goneN σ n))) : w_X0_goneInSegments g (A 1) Q := by
  have hc := h
  obtain ⟨hr, hv, hdoc, _, hf⟩ := h
  have hnD := hf.2.2.2.2.1
  unfold w_X0_goneInSegments
  refine lpx2_s n (fun k => nI (goneN σ k)) (fun k => nI k) rfl rfl (fun k hk K hK => ?_) (fun K => ?_)
  · unfold l_X0_goneInSegments_4 b_X0_goneInSegments_39
    refine ⟨hr.k1, ?_⟩
    rw [hr.i1, hv.1]
    unfold goneN at hK
    rw [cnt_s] at hK
    refine ⟨fun c => absurd c (nI_ge hk (by omega)), fun _ => x_docAt hc hk ⟨fun q => absurd q (by simp), fun y hy => ?_⟩⟩
    have hy' : y = A (dl k 0) := (Option.some.inj hy).symm
    subst hy'
    refine ⟨hr.d0k (by omega), ?_⟩
    rw [hr.d0i (by omega), (hdoc k (by omega)).2.2.2.1]
    refine ⟨fun c => ?_, fun c => x_lies hc (by omega) (h15 k hk) ⟨fun c2 => ?_, fun c2 => ?_⟩⟩
    · rw [decide_eq_true c] at hK; rw [nI_1]; simpa [goneN] using hK
    · rw [bI_0.mp c2] at hK; rw [nI_1]; simpa [goneN] using hK
    · rw [bI_n0 c2, decide_eq_false c] at hK; rw [nI_1, nI_1]; simpa [goneN] using hK
  · unfold l_X0_goneInSegments_4
    refine ⟨hr.k1, ?_⟩
    rw [hr.i1, hv.1]
    exact ⟨fun _ => hQ, fun c => absurd (nI_le (Nat.le_refl _) (by omega)) c⟩
theorem x_hasPlace (h : CC A D V σ n bf nn nr ns g) (hns : nr ≤ 60) {x : Int32} {Q : Int32 → Prop} (hQ : Q (if ¬ inR x 0 (nI nr - 1) then 0 else 1)) : w_X7_hasPlace g (A 18) x Q := by
  obtain ⟨hr, hv, hdoc, _, hf⟩ := h
  unfold w_X7_hasPlace b_X7_hasPlace_16 b_X7_hasPlace_17
  refine ⟨fun c => ?_, fun c => ⟨hr.k18, ?_⟩⟩
  · rw [if_pos (fun q => q (Or.inl c))] at hQ; exact ⟨Or.inl rfl, hQ⟩
  · rw [hr.i18, hv.2.2.2.2.2.2.1]
    obtain ⟨k, hk, rfl⟩ := nI_of c
    refine ⟨fun c2 => ⟨Or.inl rfl, ?_⟩, fun c2 => ⟨Or.inr rfl, ?_⟩⟩
    · have h2 := (nI_le_iff (show nr < 2 ^ 31 by omega) hk).mp c2
      rw [if_pos (fun q => by obtain ⟨r, hr', er⟩ := inR_nI (by omega) q; have := (nI_inj hk (by omega)).mp er; omega)] at hQ
      exact hQ
    · have h2 : k < nr := by
        rcases Nat.lt_or_ge k nr with q | q
        · exact q
        · exact absurd (nI_le q hk) c2
      rw [if_neg (not_not_intro (nI_inR (by omega) h2))] at hQ
      exact hQ
theorem x_numberAt (h : CC A D V σ n bf nn nr ns g) (hnr : nr ≤ 60) {s : Nat} (hs : s < nr) {Q : Int32 → Prop} (hQ : Q (σ 23 s)) : w_X7_numberAt g (A 18) (nI s) Q := by
  have hc := h
  obtain ⟨hr, hv, hdoc, _, hf⟩ := h
  unfold w_X7_numberAt b_X7_numberAt_17 b_X7_numberAt_27
  refine ⟨hr.k18, x_hasPlace hc hnr ?_⟩
  rw [if_neg (not_not_intro (nI_inR (by omega) hs))]
  refine ⟨fun q => absurd q (by decide), fun _ => ⟨_, hr.r18_1, hr.k20, ?_⟩⟩
  rw [hr.n20]
  refine ⟨fun _ => ⟨_, hr.r18_1, hr.k20, by rw [hr.n20]; exact vpi (by omega), ?_⟩, fun c => absurd ((nI_lt_iff (by omega) (by decide)).mpr (show s < 60 by omega)) c⟩
  rw [hr.i20, cl_nI (by omega), (hv.2.2.2.2.2.2.2.1 s hs).1]; exact hQ
theorem x_valAt (h : CC A D V σ n bf nn nr ns g) (hnr : nr ≤ 60) {s : Nat} (hs : s < nr) {Q : Int32 → Prop} (hQ : Q (σ 24 s)) : w_X7_valueAt g (A 18) (nI s) Q := by
  have hc := h
  obtain ⟨hr, hv, hdoc, _, hf⟩ := h
  unfold w_X7_valueAt b_X7_valueAt_17 b_X7_valueAt_27
  refine ⟨hr.k18, x_hasPlace hc hnr ?_⟩
  rw [if_neg (not_not_intro (nI_inR (by omega) hs))]
  refine ⟨fun q => absurd q (by decide), fun _ => ⟨_, hr.r18_2, hr.k21, ?_⟩⟩
  rw [hr.n21]
  refine ⟨fun _ => ⟨_, hr.r18_2, hr.k21, by rw [hr.n21]; exact vpi (by omega), ?_⟩, fun c => absurd ((nI_lt_iff (by omega) (by decide)).mpr (show s < 60 by omega)) c⟩
  rw [hr.i21, cl_nI (by omega), (hv.2.2.2.2.2.2.2.1 s hs).2]; exact hQ
theorem x_resDoc (h : CC A D V σ n bf nn nr ns g) (hnr : nr ≤ 60) {s d : Nat} (hs : s < nr) (e : σ 23 s = nI d) (hd : d < 60) {Q : Option Nat → Prop} (hQ : d < n → Q (some (A (dl d 0)))) : w_X7_documentAt g (A 18) (nI s) Q := by
  have hc := h
  obtain ⟨hr, hv, hdoc, _, hf⟩ := h
  obtain ⟨d', hd', e', er⟩ := hf.2.2.2.1 s hs
  have hnD := hf.2.2.2.2.1
  have := hr.D6
  have : d' = d := (nI_inj (by omega) (by omega)).mp (by rw [← e', e])
  subst this
  unfold w_X7_documentAt b_X7_documentAt_17 b_X7_documentAt_27
  refine ⟨hr.k18, x_hasPlace hc hnr ?_⟩
  rw [if_neg (not_not_intro (nI_inR (by omega) hs))]
  refine ⟨fun q => absurd q (by decide), fun _ => ⟨_, hr.r18_0, hr.k19, ?_⟩⟩
  rw [hr.n19]
  refine ⟨fun _ => ⟨_, hr.r18_0, hr.k19, by rw [hr.n19]; exact vpi (by omega), fun o ho => ?_⟩, fun c => absurd ((nI_lt_iff (by omega) (by decide)).mpr (show s < 60 by omega)) c⟩
  subst ho
  rw [cl_nI (by omega), er]; exact hQ hd'
theorem x_countKind (h : CC A D V σ n bf nn nr ns g) (hn : n ≤ 60) (hnr : nr ≤ 60) {x : Int32} {Q : Int32 → Prop} (hQ : Q (nI (kindF σ nr x))) : w_X7_countKind g (A 18) x Q := by
  have hc := h
  obtain ⟨hr, hv, hdoc, _, hf⟩ := h
  have hnD := hf.2.2.2.2.1
  unfold w_X7_countKind
  refine lpx2_s nr (fun k => nI (kindF σ k x)) (fun k => nI k) rfl rfl (fun k hk K hK => ?_) (fun K => ?_)
  · obtain ⟨d, hd, ed, _⟩ := hf.2.2.2.1 k hk
    unfold l_X7_countKind_4 b_X7_countKind_36
    refine ⟨hr.k18, ?_⟩
    rw [hr.i18, hv.2.2.2.2.2.2.1]
    unfold kindF at hK
    rw [cnt_s, ed, cl_nI (show d < 2 ^ 31 by omega)] at hK
    refine ⟨fun c => absurd c (nI_ge hk (by omega)), fun _ => x_resDoc hc hnr hk ed (by omega) (fun _ => ⟨fun q => absurd q (by simp), fun y hy => ?_⟩)⟩
    have hy' : y = A (dl d 0) := (Option.some.inj hy).symm
    subst hy'
    refine ⟨hr.d0k (by omega), ?_⟩
    rw [hr.d0i (by omega), (hdoc d (by omega)).2.1]
    refine ⟨fun c => ?_, fun c => ?_⟩
    · rw [decide_eq_true c, if_pos rfl] at hK; rw [nI_1, nI_1]; exact hK
    · rw [decide_eq_false c] at hK; rw [nI_1]; simpa [kindF] using hK
  · unfold l_X7_countKind_4
    refine ⟨hr.k18, ?_⟩
    rw [hr.i18, hv.2.2.2.2.2.2.1]
    exact ⟨fun _ => hQ, fun c => absurd (nI_le (Nat.le_refl _) (by omega)) c⟩
theorem x_countDates (h : CC A D V σ n bf nn nr ns g) (hn : n ≤ 60) (hnr : nr ≤ 60) {x y : Int32} {Q : Int32 → Prop} (hQ : Q (nI (datesF σ nr x y))) : w_X7_countDates g (A 18) x y Q := by
  have hc := h
  obtain ⟨hr, hv, hdoc, _, hf⟩ := h
  have hnD := hf.2.2.2.2.1
  unfold w_X7_countDates
  refine lpx2_s nr (fun k => nI (datesF σ k x y)) (fun k => nI k) rfl rfl (fun k hk K hK => ?_) (fun K => ?_)
  · obtain ⟨d, hd, ed, _⟩ := hf.2.2.2.1 k hk
    unfold l_X7_countDates_5 b_X7_countDates_48
    refine ⟨hr.k18, ?_⟩
    rw [hr.i18, hv.2.2.2.2.2.2.1]
    unfold datesF at hK
    rw [cnt_s, ed, cl_nI (show d < 2 ^ 31 by omega)] at hK
    refine ⟨fun c => absurd c (nI_ge hk (by omega)), fun _ => x_resDoc hc hnr hk ed (by omega) (fun _ => ⟨fun q => absurd q (by simp), fun z hz => ?_⟩)⟩
    have hz' : z = A (dl d 0) := (Option.some.inj hz).symm
    subst hz'
    refine ⟨hr.d0k (by omega), ?_⟩
    rw [hr.d0i (by omega), (hdoc d (by omega)).1]
    refine ⟨fun c => ?_, fun c => ⟨fun c2 => ?_, fun c2 => ?_⟩⟩
    · rw [decide_eq_false (not_not_intro (Or.inl c))] at hK; rw [nI_1]; simpa [datesF] using hK
    · rw [decide_eq_false (not_not_intro (Or.inr c2))] at hK; rw [nI_1]; simpa [datesF] using hK
    · rw [decide_eq_true (nor2 c c2), if_pos rfl] at hK; rw [nI_1, nI_1]; exact hK
  · unfold l_X7_countDates_5
    refine ⟨hr.k18, ?_⟩
    rw [hr.i18, hv.2.2.2.2.2.2.1]
    exact ⟨fun _ => hQ, fun c => absurd (nI_le (Nat.le_refl _) (by omega)) c⟩
end CREAD
