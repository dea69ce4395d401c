/-! THE CLASS: its digest -/
section CDIGEST
variable {A : Nat → Nat} {D : Nat} {V V' V1 σ σ' τ ρ : Rows} {n bf nn nr ns cb sb q : Nat} {ub : Bool} {g g' g1 : gS}
theorem CR.sn (h : CR A D nn V g) {j : Nat} (hj : j < 30) : gR g (A 42) j = some (A (43 + j)) ∧ gK g (A (43 + j)) = 21 ∧ gN g (A (43 + j)) = 60 ∧ gI g (A (43 + j)) = V (43 + j) ∧ KL D nn (43 + j) = 21 := by
  have e1 : ∀ j, j < 30 → fR 42 j = some (43 + j) := by decide
  have e2 : ∀ j, j < 30 → fK (43 + j) = 21 ∧ fN (43 + j) = 60 := by decide
  have k : KL D nn (43 + j) = 21 := by rw [KL_f (by omega)]; exact (e2 j hj).1
  exact ⟨h.R 42 j (43 + j) (e1 j hj), h.K _ 21 k (by decide), by rw [h.N _ 21 k (by decide), NL_f (by omega)]; exact (e2 j hj).2, h.I _ 21 k (by decide), k⟩
theorem x_addArchive (h : CX A D V σ n bf nn nr ns g) {z : Int64} {Q : Int64 → Prop} (hz : z * 31 = 80879) (hQ : Q (dg2 σ n ns)) : w_X10_addArchive g (A 0) z Q := by
  have hx := h
  obtain ⟨hc, hce, ⟨hG, hN, hW, hs⟩, hE⟩ := h
  obtain ⟨hr, hv, hdoc, hnode, hf⟩ := hc
  have hnD := hf.2.2.2.2.1
  have hn := hG.n
  have h6 := hG.ns6
  unfold w_X10_addArchive
  refine ⟨hr.k0, _, hr.r0_0, hr.k1, ?_⟩
  rw [hr.i1, hv.1, hz]
  refine lpx2_s n (fun k => lf (fun k d => d * 31 + (stF σ k).toInt64) (80879 + (nI n).toInt64) k) (fun k => nI k) rfl rfl (fun k hk K hK => ?_) (fun K => ?_)
  · unfold l_X10_addArchive_18 b_X10_addArchive_60
    refine ⟨hr.k0, _, hr.r0_0, hr.k1, ?_⟩
    rw [hr.i1, hv.1]
    rw [lf] at hK
    refine ⟨fun c => absurd c (nI_ge hk (by omega)), fun _ => ⟨_, hr.r0_0, hr.k1, x_docAt hx.1 hk ⟨fun q => absurd q (by simp), fun y hy => ?_⟩⟩⟩
    have hy' : y = A (dl k 0) := (Option.some.inj hy).symm
    subst hy'
    refine ⟨hr.d0k (by omega), x_state hx.1 (by omega) (fun q => hs.h15 hn (by omega) (by omega) q) ?_⟩
    rw [← stF_eq hx hk, nI_1]; exact hK
  · unfold l_X10_addArchive_18
    refine ⟨hr.k0, _, hr.r0_0, hr.k1, ?_⟩
    rw [hr.i1, hv.1]
    refine ⟨fun _ => ⟨_, hr.r0_0, hr.k1, ?_⟩, fun c => absurd (nI_le (Nat.le_refl _) (by omega)) c⟩
    rw [hr.i1, hv.2.1]
    refine lpx2_s ns (fun s => lf (fun s d => (d * 31 + (σ 14 s).toInt64) * 31 + (nI (sizeF σ n (nI s))).toInt64) (dg1 σ n * 31 + (nI ns).toInt64) s) (fun k => nI k) rfl rfl (fun s hs' K hK => ?_) (fun K => ?_)
    · unfold l_X10_addArchive_87
      refine ⟨hr.k0, _, hr.r0_0, hr.k1, ?_⟩
      rw [hr.i1, hv.2.1]
      rw [lf] at hK
      refine ⟨fun c => absurd c (nI_ge hs' (by omega)), fun _ => ⟨_, hr.r0_0, hr.k1, x_tierAt hx.1 h6 hs' ⟨_, hr.r0_0, hr.k1, x_countAt hx.1 hn ?_⟩⟩⟩
      have e2 : cnt (fun k => decide (hmF σ bf k = nI s)) n = sizeF σ n (nI s) := by
        unfold sizeF
        exact cnt_congr (fun k hk => by rw [decide_eq_decide]; exact hmF_seg hs hn hk (by omega))
      rw [e2, nI_1]; exact hK
    · unfold l_X10_addArchive_87
      refine ⟨hr.k0, _, hr.r0_0, hr.k1, ?_⟩
      rw [hr.i1, hv.2.1]
      exact ⟨fun _ => hQ, fun c => absurd (nI_le (Nat.le_refl _) (by omega)) c⟩
theorem x_addResults (h : CX A D V σ n bf nn nr ns g) {Q : Int64 → Prop} (hQ : Q (dg5 σ n nn nr ns)) : w_X10_addResults g (A 0) (dg3 σ n nn ns) Q := by
  have hx := h
  obtain ⟨hc, hce, ⟨hG, hN, hW, hs⟩, hE⟩ := h
  obtain ⟨hr, hv, hdoc, hnode, hf⟩ := hc
  have hn := hG.n
  have h6 := hG.nr6
  unfold w_X10_addResults
  refine ⟨hr.k0, _, hr.r0_3, hr.k18, ?_⟩
  rw [hr.i18, hv.2.2.2.2.2.2.1]
  refine lpx2_s nr (fun p => lf (fun p d => (d * 31 + (σ 23 p).toInt64) * 31 + (σ 24 p).toInt64) (dg3 σ n nn ns * 31 + (nI nr).toInt64) p) (fun k => nI k) rfl rfl (fun k hk K hK => ?_) (fun K => ?_)
  · unfold l_X10_addResults_18
    refine ⟨hr.k0, _, hr.r0_3, hr.k18, ?_⟩
    rw [hr.i18, hv.2.2.2.2.2.2.1]
    rw [lf] at hK
    refine ⟨fun c => absurd c (nI_ge hk (by omega)), fun _ => ⟨_, hr.r0_3, hr.k18, x_numberAt hx.1 h6 hk ⟨_, hr.r0_3, hr.k18, x_valAt hx.1 h6 hk ?_⟩⟩⟩
    rw [nI_1]; exact hK
  · unfold l_X10_addResults_18
    refine ⟨hr.k0, _, hr.r0_3, hr.k18, ?_⟩
    rw [hr.i18, hv.2.2.2.2.2.2.1]
    refine ⟨fun _ => ?_, fun c => absurd (nI_le (Nat.le_refl _) (by omega)) c⟩
    show lpx2 _ (dg4 σ n nn nr ns) 0
    generalize e4 : dg4 σ n nn nr ns = z4
    refine lpx2_s 8 (fun k => lf (fun k d => d * 31 + (nI (kindF σ nr (nI k))).toInt64) z4 k) (fun k => nI k) (by show z4 = lf _ z4 0; rw [lf]) rfl (fun k hk K hK => ?_) (fun K => ?_)
    · unfold l_X10_addResults_73
      rw [lf] at hK
      refine ⟨fun c => absurd c (nI_ge hk (by decide)), fun _ => ⟨hr.k0, _, hr.r0_3, hr.k18, x_countKind hx.1 hn h6 ?_⟩⟩
      rw [nI_1]; exact hK
    · unfold l_X10_addResults_73
      refine ⟨fun _ => ?_, fun c => absurd (by decide) c⟩
      unfold dg5 at hQ
      rw [e4] at hQ
      exact hQ
/-- the last node's number where there is none -/
theorem x_scoreNone (h : CR A D nn V g) {o : Option Nat} {Q : Int32 → gS → Prop} (hQ : Q (-1) g) : w_X8_scoreOf g (A 36) o (-1) Q := by
  unfold w_X8_scoreOf
  refine ⟨1, ?_⟩
  unfold lpn2 l_X8_scoreOf_2 b_X8_scoreOf_46 w_X8_valueAt b_X8_valueAt_13 b_X8_valueAt_23
  exact ⟨fun _ => ⟨h.k36, fun _ => hQ, fun c => absurd (by decide) c⟩, fun c => absurd (by decide) c⟩
theorem x_fillScores (h : CX A D V σ n bf nn nr ns g) {Q : gS → Prop} (hQ : ∀ g' V', CX A D V' σ n bf nn nr ns g' → (∀ j d, j < nn → d < n → V' (43 + j) d = scoreNowF σ n d j) → Q g') : w_X10_fillScoresByNode g (A 0) Q := by
  have hP := h.2.2.1
  obtain ⟨hG, hN, hW, hs⟩ := hP
  have hn := hG.n
  have hnn := hG.nn3
  unfold w_X10_fillScoresByNode
  refine lpx2_i n (fun k g' i => i = nI k ∧ ∃ V', CX A D V' σ n bf nn nr ns g' ∧ ∀ j d, j < nn → d < k → V' (43 + j) d = scoreNowF σ n d j) ?_ ?_ g 0 ⟨rfl, V, h, fun j d _ hd => absurd hd (Nat.not_lt_zero _)⟩
  · rintro k g1 _ hk ⟨rfl, V1, hx1, ht1⟩ K hK
    have hr1 := hx1.1.1
    have hnD := hx1.1.2.2.2.2.2.2.2.2.1
    unfold l_X10_fillScoresByNode_2 b_X10_fillScoresByNode_37
    refine ⟨hr1.k0, _, hr1.r0_0, hr1.k1, ?_⟩
    rw [hr1.i1, hx1.1.2.1.1]
    refine ⟨fun c => absurd c (nI_ge hk (by omega)), fun _ => ⟨_, hr1.r0_0, hr1.k1, x_docAt hx1.1 hk ⟨fun q => absurd q (by simp), fun y hy => ?_⟩⟩⟩
    have hy' : y = A (dl k 0) := (Option.some.inj hy).symm
    subst hy'
    -- the inner loop: what the values say goes into the rows
    have inner : ∀ (b : Bool) (V2 : Rows) (g2 : gS), CX A D V2 σ n bf nn nr ns g2 → (∀ j d, j < nn → d < k → V2 (43 + j) d = scoreNowF σ n d j) → (∀ j, j < nn → scoreNowF σ n k j = if b = true then V2 37 j else -1) → b_X10_fillScoresByNode_61 g2 (A 0) (nI k) (bI b) Q K := by
      intro b V2 g2 hx2 ht2 hv2
      unfold b_X10_fillScoresByNode_61
      refine lpx2_i nn (fun j g' i => i = nI j ∧ ∃ V', CX A D V' σ n bf nn nr ns g' ∧ (∀ j d, j < nn → d < k → V' (43 + j) d = scoreNowF σ n d j) ∧ V' 37 = V2 37 ∧ ∀ i, i < j → V' (43 + i) k = scoreNowF σ n k i) ?_ ?_ g2 0 ⟨rfl, V2, hx2, ht2, rfl, fun i hi => absurd hi (Nat.not_lt_zero _)⟩
      · rintro j g3 _ hj ⟨rfl, V3, hx3, ht3, h37, hi3⟩ K2 hK2
        have hr3 := hx3.1.1
        obtain ⟨s1, s2, s3, s4, s5⟩ := hr3.sn (show j < 30 by omega)
        unfold l_X10_fillScoresByNode_64
        refine ⟨hr3.k0, _, hr3.r0_2, hr3.k14, ?_⟩
        rw [hr3.i14, hx3.1.2.1.2.2.2.2.2.1]
        refine ⟨fun c => absurd c (nI_ge hj (by omega)), fun _ => ⟨_, hr3.r0_9, hr3.k42, ?_⟩⟩
        rw [hr3.n42]
        refine ⟨fun c => absurd c (nI_ge (show j < 30 by omega) (by decide)), fun _ => ⟨_, hr3.r0_9, hr3.k42, by rw [hr3.n42]; exact vpi (by omega), _, by rw [cl_nI (by omega)]; exact s1, s2, ?_⟩⟩
        rw [s3]
        refine ⟨fun c => absurd c (nI_ge (show k < 60 by omega) (by decide)), fun _ => ⟨_, hr3.r0_9, hr3.k42, by rw [hr3.n42]; exact vpi (by omega), _, by rw [cl_nI (by omega)]; exact s1, ?_⟩⟩
        have put : ∀ v, v = scoreNowF σ n k j → b_X10_fillScoresByNode_123 g3 (A 0) (nI k) (bI b) (nI j) (A (43 + j)) (nI k) v Q K K2 := by
          intro v ev
          unfold b_X10_fillScoresByNode_123 b_X10_fillScoresByNode_124
          refine ⟨s2, by rw [s3]; exact vpi (by omega), fun g4 e4 => ?_⟩
          subst e4
          rw [cl_nI (by omega), nI_1]
          have w4 := hr3.w (43 + j) 21 s5 (by decide) k v
          refine hK2 _ _ ⟨rfl, _, hx3.ask (hx3.1.scr w4 (fun u hu => su_row (by unfold used at hu; omega)) (fun _ => rfl)) (fun u a c => su_row (by omega)), fun i d hi hd => ?_, by rw [su_row (by omega)]; exact h37, fun i hi => ?_⟩
          · by_cases e : i = j
            · subst e; rw [su_at, if_neg (by omega)]; exact ht3 i d hi hd
            · rw [su_row (by omega)]; exact ht3 i d hi hd
          · by_cases e : i = j
            · subst e; rw [su_at, if_pos rfl]; exact ev
            · rw [su_row (by omega)]; exact hi3 i (by omega)
        refine ⟨fun c => put _ ?_, fun c => ⟨_, hr3.r0_6, hr3.k36, x_valueAt (sb := 36) (cb := 4) (ub := true) hr3 (Or.inl ⟨rfl, rfl, rfl⟩) (show j < 30 by omega) (put _ ?_)⟩⟩
        · rw [hv2 j hj, bI_0.mp c, if_neg (by decide)]
        · rw [hv2 j hj, bI_n0 c, if_pos rfl, h37]
      · rintro g3 _ ⟨rfl, V3, hx3, ht3, h37, hi3⟩ K2
        have hr3 := hx3.1.1
        unfold l_X10_fillScoresByNode_64 b_X10_fillScoresByNode_130
        refine ⟨hr3.k0, _, hr3.r0_2, hr3.k14, ?_⟩
        rw [hr3.i14, hx3.1.2.1.2.2.2.2.2.1, nI_1]
        refine ⟨fun _ => hK _ _ ⟨rfl, V3, hx3, fun j d hj hd => ?_⟩, fun c => absurd (nI_le (Nat.le_refl _) (by omega)) c⟩
        by_cases e : d = k
        · rw [e]; exact hi3 j hj
        · exact ht3 j d hj (by omega)
    refine ⟨hr1.d0k (by omega), x_canBeFound hx1.1 (by omega) (fun q => hs.h15 hn (by omega) (by omega) q) ⟨fun c => ?_, fun c => ?_⟩⟩
    · unfold b_X10_fillScoresByNode_38
      refine ⟨fun _ => inner false V1 g1 hx1 ht1 (fun j hj => ?_), fun p => absurd rfl p⟩
      unfold scoreNowF
      rw [bI_0.mp c, if_neg (by decide), if_neg (by decide)]
    · have c1 := bI_n0 c
      unfold b_X10_fillScoresByNode_38
      refine ⟨fun p => absurd p (by decide), fun _ => ⟨hr1.k0, _, hr1.r0_6, _, hr1.r0_2, hr1.k14, hr1.k36, ?_⟩⟩
      rw [hr1.i14, hx1.1.2.1.2.2.2.2.2.1]
      rcases Nat.eq_zero_or_pos nn with e | e
      · subst e
        refine x_scoreNone hr1 (inner true V1 g1 hx1 ht1 (fun j hj => absurd hj (Nat.not_lt_zero _)))
      · rw [nI_sub1 e]
        obtain ⟨hc, hce, _, _⟩ := hx1
        have hx1 : CX A D V1 σ n bf nn nr ns g1 := ⟨hc, hce, ⟨hG, hN, hW, hs⟩, by assumption⟩
        obtain ⟨hr, hv, hdoc, hnode, hf⟩ := hc
        refine x_scoreOf hr (sb := 36) (cb := 4) (ub := true) (Or.inl ⟨rfl, rfl, rfl⟩) hv.2.2.2.2.2.2.2.2.1 hv.2.2.2.2.2.1 hf.2.2.1 hG hG hW rho_id hN hce hv.lex hk (by omega) (there_6 c1).1 (hdoc k (by omega)) hnode (show nn - 1 < nn by omega) (fun g2 V2 h2 hV2 hR2 hs2 => ?_)
        refine inner true V2 g2 (hx1.ask (hx1.1.scr h2 (fun u hu => hV2 u (by unfold used at hu; omega)) hR2) (fun u a b => hV2 u (by omega))) (fun j d hj hd => by rw [hV2 _ (by omega)]; exact ht1 j d hj hd) (fun j hj => ?_)
        rw [if_pos rfl, hs2 j (by omega)]
        unfold scoreNowF
        rw [c1, if_pos rfl]
  · rintro g1 _ ⟨rfl, V1, hx1, ht1⟩ K
    unfold l_X10_fillScoresByNode_2
    refine ⟨hx1.1.1.k0, _, hx1.1.1.r0_0, hx1.1.1.k1, ?_⟩
    rw [hx1.1.1.i1, hx1.1.2.1.1]
    exact ⟨fun _ => hQ g1 V1 hx1 ht1, fun c => absurd (nI_le (Nat.le_refl _) (by omega)) c⟩
theorem x_foundIn (h : CR A D nn V g) (hP : PK σ n bf nn nr ns) {j : Nat} (hj : j < nn) (ht : ∀ d, d < n → V (43 + j) d = scoreNowF σ n d j) {Q : Int32 → Prop} (hQ : Q (nI (foundF σ n j n))) : w_X10_countFound g (A (43 + j)) (nI n) Q := by
  have hn := hP.1.n
  have hnn := hP.1.nn3
  obtain ⟨s1, s2, s3, s4, s5⟩ := h.sn (show j < 30 by omega)
  unfold w_X10_countFound
  refine lpx2_s n (fun k => nI (foundF σ n j k)) (fun k => nI k) rfl rfl (fun k hk K hK => ?_) (fun K => ?_)
  · unfold l_X10_countFound_4 b_X10_countFound_25
    refine ⟨fun c => absurd c (nI_ge hk (by omega)), fun _ => ⟨s2, ?_⟩⟩
    rw [s3]
    refine ⟨fun c => absurd c (nI_ge (show k < 60 by omega) (by decide)), fun _ => ⟨vpi (by omega), ?_⟩⟩
    rw [s4, cl_nI (by omega), ht k hk, nI_1]
    have hok := hP.okN hk hj
    have es : foundF σ n j (k + 1) = foundF σ n j k + if (!decide (scoreNowF σ n k j < 0)) = true then 1 else 0 := by unfold foundF; rw [cnt_s]
    rw [es] at hK
    refine ⟨fun c => ?_, fun c => ?_⟩
    · rw [decide_eq_true ((okS_neg hok).mpr c)] at hK; exact hK
    · rw [decide_eq_false (fun q => c ((okS_neg hok).mp q))] at hK; rw [nI_1]; exact hK
  · unfold l_X10_countFound_4 b_X10_countFound_31
    exact ⟨fun _ => hQ, fun c => absurd (nI_le (Nat.le_refl _) (by omega)) c⟩
theorem x_addNodes (h : CX A D V σ n bf nn nr ns g) (ht : ∀ j d, j < nn → d < n → V (43 + j) d = scoreNowF σ n d j) {Q : Int64 → gS → Prop} (hQ : ∀ g' V', CX A D V' σ n bf nn nr ns g' → Q (dg3 σ n nn ns) g') : w_X10_addNodes g (A 0) (dg2 σ n ns) Q := by
  have hP := h.2.2.1
  have hP2 := hP
  obtain ⟨hG, hN, hW, hs⟩ := hP
  have hn := hG.n
  have hnn := hG.nn3
  unfold w_X10_addNodes
  refine ⟨h.1.1.k0, _, h.1.1.r0_2, h.1.1.k14, ?_⟩
  rw [h.1.1.i14, h.1.2.1.2.2.2.2.2.1]
  refine lpx3_i nn (fun j g' z i => z = lf (dgJ σ n nn) (dg2 σ n ns * 31 + (nI nn).toInt64) j ∧ i = nI j ∧ ∃ V', CX A D V' σ n bf nn nr ns g' ∧ ∀ j d, j < nn → d < n → V' (43 + j) d = scoreNowF σ n d j) ?_ ?_ g _ 0 ⟨rfl, rfl, V, h, ht⟩
  · rintro j g1 _ _ hj ⟨rfl, rfl, V1, hx1, ht1⟩ K hK
    have hr1 := hx1.1.1
    obtain ⟨s1, s2, s3, s4, s5⟩ := hr1.sn (show j < 30 by omega)
    unfold l_X10_addNodes_18
    refine ⟨hr1.k0, _, hr1.r0_2, hr1.k14, ?_⟩
    rw [hr1.i14, hx1.1.2.1.2.2.2.2.2.1]
    refine ⟨fun c => absurd c (nI_ge hj (by omega)), fun _ => ⟨_, hr1.r0_9, hr1.k42, ?_⟩⟩
    rw [hr1.n42]
    refine ⟨fun c => absurd c (nI_ge (show j < 30 by omega) (by decide)), fun _ => ⟨_, hr1.r0_9, hr1.k42, by rw [hr1.n42]; exact vpi (by omega), _, by rw [cl_nI (by omega)]; exact s1, _, hr1.r0_0, hr1.k1, s2, ?_⟩⟩
    rw [s3, hr1.i1, hx1.1.2.1.1]
    have em : (if nI 60 < nI n then nI 60 else nI n) = nI n := if_neg (fun c => by have := (nI_lt_iff (by decide) (by omega)).mp c; omega)
    rw [em]
    refine x_foundIn hr1 hP2 hj (fun d hd => ht1 j d hj hd) ⟨_, hr1.r0_2, _, hr1.r0_0, hr1.k1, _, hr1.r1_5, hr1.k14, ?_⟩
    obtain ⟨hc, hce, _, _⟩ := hx1
    have hx1 : CX A D V1 σ n bf nn nr ns g1 := ⟨hc, hce, hP2, by assumption⟩
    obtain ⟨hr, hv, hdoc, hnode, hf⟩ := hc
    refine x_entriesOf hr (Or.inl rfl) hce hv.lex hG hN hnode hv.2.2.2.2.2.1 hf.2.2.1 hj (fun g2 V2 h2 hV2 hR2 => ?_)
    have hx2 : CX A D V2 σ n bf nn nr ns g2 := hx1.ask (hx1.1.scr h2 (fun u hu => hV2 u (by unfold used at hu; omega)) hR2) (fun u a b => hV2 u (by omega))
    obtain ⟨q1, q2, q3, q4, q5⟩ := h2.sn (show j < 30 by omega)
    generalize hz : lf (dgJ σ n nn) (dg2 σ n ns * 31 + (nI nn).toInt64) j = z
    refine lpx2_s n (fun k => lf (fun k d => d * 31 + (scoreNowF σ n k j).toInt64) ((z * 31 + (nI (foundF σ n j n)).toInt64) * 31 + (costF σ n nn (tnB σ true j)).toInt64) k) (fun k => nI k) (by show _ = lf _ _ 0; rw [lf]) rfl (fun k hk K2 hK2 => ?_) (fun K2 => ?_)
    · unfold l_X10_addNodes_106
      rw [lf] at hK2
      refine ⟨fun c => absurd c (nI_ge hk (by omega)), fun _ => ⟨q2, by rw [q3]; exact vpi (by omega), ?_⟩⟩
      rw [q4, cl_nI (by omega), hV2 _ (by omega), ht1 j k hj hk, nI_1]; exact hK2
    · unfold l_X10_addNodes_106
      refine ⟨fun _ => hK _ _ _ ⟨?_, nI_1 j, V2, hx2, fun j d hj hd => by rw [hV2 _ (by omega)]; exact ht1 j d hj hd⟩, fun c => absurd (nI_le (Nat.le_refl _) (by omega)) c⟩
      rw [lf, hz]; rfl
  · rintro g1 _ _ ⟨rfl, rfl, V1, hx1, ht1⟩ K
    unfold l_X10_addNodes_18 b_X10_addNodes_138
    refine ⟨hx1.1.1.k0, _, hx1.1.1.r0_2, hx1.1.1.k14, ?_⟩
    rw [hx1.1.1.i14, hx1.1.2.1.2.2.2.2.2.1]
    exact ⟨fun _ => hQ g1 V1 hx1, fun c => absurd (nI_le (Nat.le_refl _) (by omega)) c⟩
theorem p_digest (h : CX A D V σ n bf nn nr ns g) {Q : Int64 → gS → Prop} (hQ : ∀ g', CS (A 0) (A 73) σ g' → Q (dgF σ n nn nr ns) g') : w_X10_digest g (A 0) Q := by
  have hP := h.2.2.1
  have hn := hP.1.n
  unfold w_X10_digest
  refine ⟨h.1.1.k0, x_addArchive h (by decide) (x_fillScores h (fun g1 V1 hx1 ht1 => ⟨hx1.1.1.k0, x_addNodes hx1 ht1 (fun g2 V2 hx2 => ⟨hx2.1.1.k0, x_addResults hx2 ?_⟩)⟩))⟩
  generalize e5 : dg5 σ n nn nr ns = z5
  refine lpx3_i n (fun k g' z i => z = lf (fun k d => d * 31 + (likeF σ n k).toInt64) z5 k ∧ i = nI k ∧ ∃ V', CX A D V' σ n bf nn nr ns g') ?_ ?_ g2 _ 0 ⟨by rw [lf], rfl, V2, hx2⟩
  · rintro k g3 _ _ hk ⟨rfl, rfl, V3, hx3⟩ K hK
    have hr3 := hx3.1.1
    unfold l_X10_digest_26
    refine ⟨hr3.k0, _, hr3.r0_0, hr3.k1, ?_⟩
    rw [hr3.i1, hx3.1.2.1.1, nI_1]
    refine ⟨fun c => absurd c (nI_ge hk (by omega)), fun _ => ⟨_, hr3.r0_4, hr3.k22, x_mostLike hx3.1 hx3.2.1 hP hk (fun g4 V4 c4 hV4 _ => hK _ _ _ ⟨by rw [lf], rfl, V4, hx3.ask c4 (fun u a b => hV4 u (by omega))⟩)⟩⟩
  · rintro g3 _ _ ⟨rfl, rfl, V3, hx3⟩ K
    unfold l_X10_digest_26
    refine ⟨hx3.1.1.k0, _, hx3.1.1.r0_0, hx3.1.1.k1, ?_⟩
    rw [hx3.1.1.i1, hx3.1.2.1.1]
    refine ⟨fun _ => ?_, fun c => absurd (nI_le (Nat.le_refl _) (by omega)) c⟩
    have := hQ g3 hx3.cs
    unfold dgF at this
    rw [e5] at this
    exact this
end CDIGEST
