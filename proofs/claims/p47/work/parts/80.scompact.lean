/-! THE SHELF COMPACTS as the engine does -/
section SCOMPACT
variable {A A' : Nat → Nat} {U : Nat × (Nat → Int32)} {mA b vm : Nat} {σ σ' : Rows} {n bf ns ns' nn nnE nr dr : Nat} {wh : Nat → Int32} {g g' m0 : gS}
theorem co1_6g (h : PK σ n bf nn nr ns) {d : Nat} (hd : d < n) : co1 σ 6 d = 0 ↔ (σ 6 d = 0 ∨ ¬ σ 5 d = 0) := by
  have hn := h.1.n
  unfold co1 S_compact
  split
  · rename_i c13
    show tz σ 0 6 d = 0 ↔ _
    rw [tz_r (by decide)]
    have e0 : ns = 0 := (nI_inj (by have := h.1.ns6; omega) (by decide)).mp (h.1.d13.symm.trans c13)
    refine ⟨fun q => Or.inl q, fun _ => ?_⟩
    by_cases c6 : σ 6 d = 0
    · exact c6
    · obtain ⟨-, s, hs, -⟩ := h.2.2.2.1 d hd c6
      omega
  · show mergeR (tz σ 0) (nF σ) 0 (mxF σ (cl (σ 0 13))) 6 d = 0 ↔ _
    have t5 : tz σ 0 5 = σ 5 := tz_r (by decide)
    have t6 : tz σ 0 6 = σ 6 := tz_r (by decide)
    have t15 : tz σ 0 15 = σ 15 := tz_r (by decide)
    rw [mergeR_6, t5, t6, t15, h.1.nF, show nI 0 = 0 from rfl]
    have hl := h.2.2.2.lies hn hd
    by_cases c6 : σ 6 d = 0
    · rw [if_neg (fun q => (hl.mp q.2.1) c6)]
      exact ⟨fun q => Or.inl q, fun _ => c6⟩
    · by_cases c5 : σ 5 d = 0
      · rw [if_neg (fun q => q.2.2 c5)]
        exact ⟨fun q => Or.inl q, fun q => q.elim id (fun r => absurd c5 r)⟩
      · rw [if_pos ⟨hd, hl.mpr c6, c5⟩]
        exact ⟨fun _ => Or.inr c5, fun _ => rfl⟩
theorem co1_ly (h : PK σ n bf nn nr ns) : lyN (co1 σ) n = thN σ n := by
  unfold lyN thN
  refine cnt_congr fun d hd => ?_
  have := co1_6g h hd
  unfold there
  by_cases c6 : σ 6 d = 0
  · rw [decide_eq_true c6, decide_eq_true (this.mpr (Or.inl c6))]; rfl
  · by_cases c5 : σ 5 d = 0
    · rw [decide_eq_false c6, decide_eq_true c5, decide_eq_false (fun q => (this.mp q).elim c6 (fun r => r c5))]; rfl
    · rw [decide_eq_false c5, decide_eq_true (this.mpr (Or.inr c5))]; simp
theorem mgR_tz {a u : Nat} {t c : Int32} (hu : u ≠ 0) : mergeR (tz σ c) n a t u = mergeR σ n a t u := by
  have t5 : tz σ c 5 = σ 5 := tz_r (by decide)
  have t6 : tz σ c 6 = σ 6 := tz_r (by decide)
  have t14 : tz σ c 14 = σ 14 := tz_r (by decide)
  have t15 : tz σ c 15 = σ 15 := tz_r (by decide)
  funext i
  by_cases h6 : u = 6
  · subst h6; rw [mergeR_6, mergeR_6, t5, t6, t15]
  · by_cases h14 : u = 14
    · subst h14; rw [mergeR_14, mergeR_14, t14]
    · by_cases h15 : u = 15
      · subst h15; rw [mergeR_15, mergeR_15, t5, t15]
      · rw [mergeR_r hu h6 h14 h15, mergeR_r hu h6 h14 h15, tz_r hu]
theorem sub2 {x : Int32} {a b : Nat} : x - nI a - nI b = x - nI (a + b) := by
  have h : x = x - nI (a + b) + nI b + nI a := by
    rw [Int32.add_assoc, nI_add, show b + a = a + b by omega, Int32.sub_add_cancel]
  generalize x - nI (a + b) = y at h ⊢
  rw [h, Int32.add_sub_cancel, Int32.add_sub_cancel]
theorem x_cend {L : Nat} {xs : Nat → Int32} (hE : EE mA σ n bf nnE nr ns m0) (hA : SA A' mA b vm U (co1 σ) n ns' nn dr wh g') (e13 : co1 σ 0 13 = nI ns') {Q : Int32 → gS → gS → Prop} (hQ : ∀ m', EE mA (co1 σ) n bf nnE nr ns' m' → Q 1 g' m') : ∀ C S, b_X11_compact_66 g' m0 C S (A' 0) (nI (lyN σ n)) b L xs 20 1300 Q := by
  intro C S
  have hn6 := hA.2.2.2.2.2.1
  have hn4 := hA.2.2.2.2.1
  have l6 := hA.l.2.2.2.2.2.1
  unfold b_X11_compact_66
  refine ⟨hA.f.1, A' 6, hA.r.2.2.2.2.2.2.2.1, hA.f.2.2.2.2.2.2.1, ?_⟩
  rw [l6]
  refine lpx2_s ns' (fun k => nI (lyN σ n) - nI (szS (co1 σ) n k)) (fun k => nI k) (Int32.sub_zero _).symm rfl (fun k hk K hK => ?_) (fun K => ?_)
  · obtain ⟨s1, s2, s3, -⟩ := hA.sg hk
    unfold l_X11_compact_78
    refine ⟨fun c => absurd c (nI_ge hk (by omega)), fun _ => ⟨hA.f.2.2.2.2.2.2.1, by rw [l6]; exact vp_in_nI hk (by omega), A' (200 + k), ?_, s2, ?_⟩⟩
    · rw [cl_nI (by omega)]; exact s1
    · have e : nI (1 + sizeF (co1 σ) n (nI k)) - 1 = nI (sizeF (co1 σ) n (nI k)) := by
        have := nI_sb (a := 1 + sizeF (co1 σ) n (nI k)) (b := 1) (by omega)
        rw [show 1 + sizeF (co1 σ) n (nI k) - 1 = sizeF (co1 σ) n (nI k) by omega] at this
        exact this
      rw [s3, nI_1, e, sub2]
      exact hK
  · unfold l_X11_compact_78 b_X11_compact_121
    refine ⟨fun _ => ⟨hA.f.1, mA, hA.r.1, hE.kind, q_compact hE (fun m' ns2 hE' => ?_)⟩, fun c => absurd (Int32.le_refl _) c⟩
    have e3 : ns2 = ns' := (nI_inj (by have := hE'.gi.ns6; omega) (by omega)).mp (hE'.gi.d13.symm.trans e13)
    subst e3
    have eq : nI (lyN σ n) - nI (szS (co1 σ) n ns2) = nI (goneN σ n) := by
      have := ly_sum (σ := σ) (n := n)
      rw [szS_ly hE'.pk, co1_ly hE.pk, nI_sb (by omega), show lyN σ n - thN σ n = goneN σ n by omega]
    exact ⟨fun _ => ⟨Or.inr rfl, hQ m' hE'⟩, fun c => absurd eq.symm c⟩
theorem x_scompact {L : Nat} {xs : Nat → Int32} (h : SA A mA b vm U σ n ns nn dr (whF σ bf) g) (hE : EE mA σ n bf nnE nr ns m0) (hn16 : n ≤ 16) {Q : Int32 → gS → gS → Prop} (hQ : ∀ A' g' m' ns', A' 0 = A 0 → A' 8 = A 8 → SA A' mA b vm U (co1 σ) n ns' nn dr (whF (co1 σ) bf) g' → EE mA (co1 σ) n bf nnE nr ns' m' → Q 1 g' m') : w_X11_compact g m0 (A 0) b L xs 20 1300 Q := by
  have hG := hE.gi
  have hs := hE.pk.2.2.2
  obtain ⟨f0, f1, f2, f3, f4, f5, f6, f7⟩ := h.f
  obtain ⟨r0, r1, r4, r5, r6, r7, r8, r12, r14⟩ := h.r
  obtain ⟨l1, l2, l3, l4, l5, l6, l7⟩ := h.l
  have hn6 := h.2.2.2.2.2.1
  unfold w_X11_compact
  refine ⟨f0, A 6, r12, f6, ?_⟩
  rw [l6]
  refine lpx3_s ns (fun k => mxF σ k) (fun k => nI (szS σ n k)) (fun k => nI k) rfl rfl rfl (fun k hk K hK => ?_) (fun K => ?_)
  · obtain ⟨t1, a1, b1, d1⟩ := h.tier hk
    obtain ⟨s1, s2, s3, -⟩ := h.sg hk
    unfold l_X11_compact_16
    refine ⟨fun c => absurd c (nI_ge hk (by omega)), fun _ => ⟨f6, by rw [l6]; exact vp_in_nI hk (by omega), A (200 + k), ?_, a1, b1, ?_⟩⟩
    · rw [cl_nI (by omega)]; exact t1
    · have e : nI (1 + sizeF σ n (nI k)) - 1 = nI (sizeF σ n (nI k)) := by
        have := nI_sb (a := 1 + sizeF σ n (nI k)) (b := 1) (by omega)
        rw [show 1 + sizeF σ n (nI k) - 1 = sizeF σ n (nI k) by omega] at this
        exact this
      rw [d1, s3, nI_1, e, nI_add]
      exact hK
  · unfold l_X11_compact_16
    refine ⟨fun _ => ⟨f0, A 6, r12, f6, ?_, ?_⟩, fun c => absurd (Int32.le_refl _) c⟩
    · intro c
      rw [l6] at c
      have e0 : ns = 0 := by
        have := (nI_le_iff (b := 0) (show ns < 2 ^ 31 by omega) (by decide)).mp c
        omega
      have ec : co1 σ = tz σ 0 := by
        unfold co1 S_compact
        rw [if_pos (by rw [hG.d13, e0]; rfl)]
        rfl
      have hA : SA A mA b vm U (co1 σ) n ns nn dr (whF (co1 σ) bf) g := by
        rw [ec]
        refine (h.rows (tz_r (by decide)) (tz_r (by decide)) (tz_r (by decide)) (tz_r (by decide))).whc (fun d _ => ?_)
        unfold whF
        rw [show tz σ 0 6 = σ 6 from tz_r (by decide)]
      rw [szS_ly hE.pk]
      refine x_cend hE hA ?_ (fun m' hE' => hQ A g m' ns rfl rfl hA hE') 0 0
      rw [ec, tz_0 (by decide)]
      exact hG.d13
    · intro c
      rw [l6] at c
      have h0 : 0 < ns := by
        rcases Nat.eq_zero_or_pos ns with z | z
        · exact absurd (by rw [z]; exact Int32.le_refl _) c
        · exact z
      have ec : co1 σ = mergeR (tz σ 0) n 0 (mxF σ ns) := by
        unfold co1 S_compact
        rw [if_neg (fun q => by
          have := (nI_inj (show ns < 2 ^ 31 by omega) (show 0 < 2 ^ 31 by decide)).mp (hG.d13.symm.trans q)
          omega), hG.nF, hG.d13, show cl (nI ns) = ns from cl_nI (by omega)]
      refine ⟨⟨by decide, by decide⟩, ?_⟩
      refine x_smerge (a := 0) h hs hn16 (Nat.zero_le _) (by decide) (fun A' g' e' e8 hO hA' => ?_)
      have hA : SA A' mA b vm U (co1 σ) n (if mgL σ 0 n = 0 then 0 else 0 + 1) nn dr (whF (co1 σ) bf) g' := by
        rw [ec]
        refine (hA'.rows (mgR_tz (by decide)) (mgR_tz (by decide)) (mgR_tz (by decide)) (mgR_tz (by decide))).whc (fun d _ => ?_)
        unfold whF
        rw [show mergeR (tz σ 0) n 0 (mxF σ ns) 6 = mergeR σ n 0 (mxF σ ns) 6 from mgR_tz (by decide)]
      rw [szS_ly hE.pk, ← e']
      refine x_cend hE hA ?_ (fun m' hE' => hQ A' g' m' _ e' e8 hA hE') _ _
      rw [ec, mergeR_13]
      have em : mgL (tz σ 0) 0 n = mgL σ 0 n := by
        unfold mgL
        rw [show tz σ 0 5 = σ 5 from tz_r (by decide), show tz σ 0 15 = σ 15 from tz_r (by decide)]
      rw [em]
      by_cases z : mgL σ 0 n = 0
      · rw [if_pos z, if_pos z]
      · rw [if_neg z, if_neg z]
end SCOMPACT
