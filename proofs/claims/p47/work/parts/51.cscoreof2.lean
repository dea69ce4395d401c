/-! THE CLASS: valueOf, scoreOf -/
theorem if_iff {α : Type} {p q : Prop} [Decidable p] [Decidable q] (h : p ↔ q) {x y : α} : (if p then x else y) = (if q then x else y) := by
  by_cases c : p
  · rw [if_pos c, if_pos (h.mp c)]
  · rw [if_neg c, if_neg (fun e => c (h.mpr e))]
section CSO
variable {A : Nat → Nat} {D : Nat} {V σ ρ : Rows} {n bf nn nr ns cb sb : Nat} {ub : Bool} {g : gS}
theorem NW.rho (hρ : rhoF σ ρ ub) {j : Nat} : NW ρ j ↔ NW σ j := by
  unfold NW
  rw [hρ.1 17 (by decide) (by decide), hρ.1 18 (by decide) (by decide), hρ.1 19 (by decide) (by decide), hρ.1 20 (by decide) (by decide), hρ.1 21 (by decide) (by decide)]
theorem x_valueOf (h : CR A D nn V g) (hs : isS sb cb ub) (hub : V sb 3 = bI ub) (e14 : V 14 2 = nI nn) (hnr : ∀ j, j < nn → gR g (A 15) j = some (A (jl j))) (hG : GI σ n bf nn nr ns) (hGρ : GI ρ n bf nn nr ns) (hW : WG ρ) (hρ : rhoF σ ρ ub) (hN : NG σ nn) (hc : vCen V cb ρ n) (hl : vLex V σ) {d : Nat} (hd : d < n) (hdD : d < D) (h6 : ρ 6 d ≠ 0) (hvd : vDoc V σ bf d) (hvn : ∀ j, j < nn → vNode V σ j) {j : Nat} (hj : j < nn) (hT : ∀ i, i < j → okS (V (sb + 1) i)) (hTt : ∀ i, i < j → σ 17 i = 0 → ∃ a, a < 200 ∧ σ 18 i = nI a ∧ (V (sb + 1) i = -1 → tsIs ρ d (nI a) (σ 19 i) = false)) {Q : Int32 → Prop} (hQ : ∀ v, leastF v = scoreF ρ n (V (sb + 1)) j d → Q v) : w_X8_valueOf g (A sb) (some (A (jl j))) (some (A (dl d 0))) Q := by
  have hn := hG.n
  have hnn := h.nn3
  obtain ⟨s1, _⟩ := h.s0 hs
  obtain ⟨n0, n1, n2, n3, n4, n5, n6, n7⟩ := hvn j hj
  have r17 := hρ.1 17 (by decide) (by decide)
  have r18 := hρ.1 18 (by decide) (by decide)
  have r19 := hρ.1 19 (by decide) (by decide)
  have r20 := hρ.1 20 (by decide) (by decide)
  have r21 := hρ.1 21 (by decide) (by decide)
  unfold w_X8_valueOf
  refine ⟨fun q => absurd q (by simp), fun y hy => ?_⟩
  have hy' : y = A (jl j) := (Option.some.inj hy).symm
  subst hy'
  refine ⟨h.jk hj, ?_⟩
  rw [h.ji hj, n0]
  rcases hN j hj with ⟨e, a, b, ha, hb1, hb8, ea, eb⟩ | ⟨e, a, b, ha, hb, ea, eb⟩ | ⟨e, a, b, c, ha, hb, e1, e2, hc1, hc2, ho, ea, eb, ec⟩ | e | ⟨e, a, ha, ea⟩ | ⟨e, a, b, ha, hb, ea, eb⟩ | ⟨e, a, b, c, hab, hb2, hb4, hc1, hcb, ea, eb, ec⟩
  · obtain ⟨v1, v2⟩ := n1 e
    have hsc : scoreF ρ n (V (sb + 1)) j d = termF ρ n d a (σ 19 j) := by unfold scoreF; rw [r17, r18, r19]; simp [e, ea, cl_nI (show a < 2 ^ 31 by omega)]
    rw [e]
    refine ⟨fun c => absurd c (by decide), fun _ => ⟨s1, x_termValue h hs hub hG hGρ hρ hc hl hd hdD h6 hvd.2.2.2.2 hj ha (v1.trans ea) v2 (hQ _ ?_)⟩, by simp⟩
    rw [hsc]; exact (term_ok hGρ hW hd h6 ha).2.2
  · obtain ⟨v3, v4⟩ := n2 (by rcases e with e | e | e <;> simp [e])
    have hac := cl_nI (show a < 2 ^ 31 by omega)
    have hbc := cl_nI (show b < 2 ^ 31 by omega)
    have hTa := hT a ha
    have hTb := hT b hb
    rcases e with e | e | e
    · have hsc : scoreF ρ n (V (sb + 1)) j d = (if V (sb + 1) a < 0 ∨ V (sb + 1) b < 0 then -1 else leastF (V (sb + 1) a + V (sb + 1) b)) := by unfold scoreF; rw [r17, r18, r19]; simp [e, ea, eb, hac, hbc]
      rw [e]
      refine ⟨fun c => absurd c (by decide), fun c => absurd c (by decide), fun _ => ⟨s1, x_sum2 h hs hj (show a < 30 by omega) (show b < 30 by omega) (n0.trans e) (Or.inl rfl) (v3.trans ea) (v4.trans eb) (hQ _ ?_)⟩, by simp⟩
      rw [hsc, if_iff (or_congr (okS_lt hTa) (okS_lt hTb))]
      by_cases c1 : V (sb + 1) a = -1
      · rw [if_pos c1, if_pos (Or.inl c1), if_pos (show nI (0 + if V (sb + 1) b = -1 then 0 else 1) < 2 by split <;> decide)]; exact least_m1
      · by_cases c2 : V (sb + 1) b = -1
        · rw [if_neg c1, if_pos c2, if_pos (Or.inr c2), if_pos (by decide)]; exact least_m1
        · rw [if_neg c1, if_neg c2, if_neg (by decide), if_neg (nor2 c1 c2), if_neg c1, if_neg c2]
    · have hsc : scoreF ρ n (V (sb + 1)) j d = (if V (sb + 1) a < 0 then V (sb + 1) b else if V (sb + 1) b < 0 then V (sb + 1) a else leastF (V (sb + 1) a + V (sb + 1) b)) := by unfold scoreF; rw [r17, r18, r19]; simp [e, ea, eb, hac, hbc]
      rw [e]
      refine ⟨fun c => absurd c (by decide), fun c => absurd c (by decide), fun c => absurd c (by decide), fun _ => ⟨s1, x_sum2 h hs hj (show a < 30 by omega) (show b < 30 by omega) (n0.trans e) (Or.inr (Or.inl rfl)) (v3.trans ea) (v4.trans eb) (hQ _ ?_)⟩, by simp⟩
      rw [hsc, if_iff (okS_lt hTa), if_iff (okS_lt hTb)]
      by_cases c1 : V (sb + 1) a = -1
      · by_cases c2 : V (sb + 1) b = -1
        · rw [if_pos c1, if_pos c2, if_pos (by decide), if_pos c1, c2]; exact least_m1
        · rw [if_pos c1, if_neg c2, if_neg (by decide), if_pos c1, if_pos c1, if_neg c2, Int32.zero_add]; exact least_ok hTb
      · by_cases c2 : V (sb + 1) b = -1
        · rw [if_neg c1, if_pos c2, if_neg (by decide), if_neg c1, if_pos c2, if_neg c1, if_pos c2, Int32.add_zero]; exact least_ok hTa
        · rw [if_neg c1, if_neg c2, if_neg (by decide), if_neg c1, if_neg c2, if_neg c1, if_neg c2]
    · have hsc : scoreF ρ n (V (sb + 1)) j d = (if V (sb + 1) b < 0 then V (sb + 1) a else -1) := by unfold scoreF; rw [r17, r18, r19]; simp [e, ea, eb, hac, hbc]
      rw [hsc, if_iff (okS_lt hTb)] at hQ
      rw [e]
      refine ⟨fun c => absurd c (by decide), fun c => absurd c (by decide), fun c => absurd c (by decide), fun c => absurd c (by decide), fun _ => ⟨s1, ?_⟩, by simp⟩
      rw [v4, v3, ea, eb]
      unfold b_X8_valueOf_115
      refine x_valueAt h hs (show b < 30 by omega) ⟨fun c => x_valueAt h hs (show a < 30 by omega) (hQ _ ?_), fun c => hQ _ ?_⟩
      · rw [if_pos c]; exact least_ok hTa
      · rw [if_neg c]; exact least_m1
  · have hac := cl_nI (show a < 2 ^ 31 by omega)
    have hbc := cl_nI (show b < 2 ^ 31 by omega)
    obtain ⟨ta, hta, eta, hna⟩ := hTt a ha e1
    obtain ⟨tb, htb, etb, hnb⟩ := hTt b hb e2
    have hsc : scoreF ρ n (V (sb + 1)) j d = (if nearF ρ d (nI ta) (nI tb) (σ 19 a) (σ 19 b) (nI c) (σ 21 j) 3 = 0 then -1 else leastF (V (sb + 1) a + V (sb + 1) b + 100 * nearF ρ d (nI ta) (nI tb) (σ 19 a) (σ 19 b) (nI c) (σ 21 j) 3)) := by
      unfold scoreF; rw [r17, r18, r19, r20, r21]; simp [e, ea, eb, ec, hac, hbc, eta, etb]
    rw [e]
    refine ⟨fun c => absurd c (by decide), fun c => absurd c (by decide), fun c => absurd c (by decide), fun c => absurd c (by decide), fun c => absurd c (by decide), fun _ => ⟨s1, x_nearValue h hs hub e14 hnr hG hGρ hρ hl hdD (by omega) hvd.2.2.2.2 hvn hj ha hb e ea eb ec (by omega) ho e1 e2 eta etb hta htb (hT a ha) (hT b hb) hna hnb (hQ _ ?_)⟩, by simp⟩
    rw [hsc]
    split
    · exact least_m1
    · rfl
  · obtain ⟨v7, v8⟩ := n4 e
    have hsc : scoreF ρ n (V (sb + 1)) j d = (if σ 3 d < σ 18 j ∨ σ 19 j < σ 3 d then -1 else 0) := by unfold scoreF; rw [r17, r18, r19, hρ.1 3 (by decide) (by decide)]; simp [e]
    rw [hsc] at hQ
    rw [e]
    unfold b_X8_valueOf_149 b_X8_valueOf_150
    refine ⟨fun c => absurd c (by decide), fun c => absurd c (by decide), fun c => absurd c (by decide), fun c => absurd c (by decide), fun c => absurd c (by decide), fun c => absurd c (by decide), fun _ => ⟨_, rfl, h.d0k hdD, ?_⟩, by simp⟩
    rw [h.d0i hdD, hvd.1, v7, v8]
    refine ⟨fun c => hQ _ ?_, fun c => ⟨fun c2 => hQ _ ?_, fun c2 => hQ _ ?_⟩⟩
    · rw [if_pos (Or.inl c)]; exact least_m1
    · rw [if_pos (Or.inr c2)]; exact least_m1
    · rw [if_neg (nor2 c c2)]; decide
  · have v9 := n5 e
    have hsc : scoreF ρ n (V (sb + 1)) j d = (if fbit (σ 18 j) (σ 4 d) = 0 then -1 else 0) := by unfold scoreF; rw [r17, r18, hρ.1 4 (by decide) (by decide)]; simp [e]
    rw [hsc] at hQ
    rw [e]
    unfold b_X8_valueOf_171
    refine ⟨fun c => absurd c (by decide), fun c => absurd c (by decide), fun c => absurd c (by decide), fun c => absurd c (by decide), fun c => absurd c (by decide), fun c => absurd c (by decide), fun c => absurd c (by decide), fun _ => ⟨_, rfl, h.d0k hdD, ?_⟩, by simp⟩
    rw [h.d0i hdD, hvd.2.1, v9, and1]
    refine ⟨fun c => hQ _ ?_, fun c => hQ _ ?_⟩
    · rw [if_neg (show ¬ fbit (σ 18 j) (σ 4 d) = 0 from c)]; decide
    · rw [if_pos (show fbit (σ 18 j) (σ 4 d) = 0 from Classical.not_not.mp c)]; exact least_m1
  · obtain ⟨v3, v10⟩ := n6 e
    have hac := cl_nI (show a < 2 ^ 31 by omega)
    have hTa := hT a ha
    have hsc : scoreF ρ n (V (sb + 1)) j d = (if V (sb + 1) a < 0 then -1 else leastF (V (sb + 1) a * σ 19 j / 100)) := by unfold scoreF; rw [r17, r18, r19]; simp [e, ea, hac]
    rw [hsc, if_iff (okS_lt hTa)] at hQ
    rw [e]
    refine ⟨fun c => absurd c (by decide), fun c => absurd c (by decide), fun c => absurd c (by decide), fun c => absurd c (by decide), fun c => absurd c (by decide), fun c => absurd c (by decide), fun c => absurd c (by decide), fun c => absurd c (by decide), fun _ => ⟨s1, ?_⟩, by simp⟩
    rw [v3, ea, v10]
    refine x_valueAt h hs (show a < 30 by omega) ?_
    unfold w_X8_scaledValue b_X8_scaledValue_15
    refine ⟨fun c => hQ _ ?_, fun c => hQ _ ?_⟩
    · rw [if_pos c]; exact least_m1
    · rw [if_neg c]
  · obtain ⟨v3, v11, v12⟩ := n7 e
    have hac := cl_nI (show a < 2 ^ 31 by omega)
    have hbc := cl_nI (show b < 2 ^ 31 by omega)
    have hsc : scoreF ρ n (V (sb + 1)) j d = (if nI (mostCnt (V (sb + 1)) a b) < σ 20 j then -1 else leastF (mostSum (V (sb + 1)) a b)) := by unfold scoreF; rw [r17, r18, r19, r20]; simp [e, ea, eb, hac, hbc]
    have hge : ∀ k, k < b → (0 ≤ V (sb + 1) (a + k) ↔ ¬ V (sb + 1) (a + k) = -1) := fun k hk => by
      rw [← okS_lt (hT (a + k) (by omega))]; exact i32_nl.symm
    have ecnt : cnt (fun i => !decide (V (sb + 1) (a + i) = -1)) b = mostCnt (V (sb + 1)) a b := by
      unfold mostCnt
      refine cnt_congr (fun k hk => ?_)
      by_cases c : V (sb + 1) (a + k) = -1
      · rw [decide_eq_true c, decide_eq_false (fun q => (hge k hk).mp q c)]; rfl
      · rw [decide_eq_false c, decide_eq_true ((hge k hk).mpr c)]; rfl
    have esum : isum (fun i => if V (sb + 1) (a + i) = -1 then 0 else V (sb + 1) (a + i)) b = mostSum (V (sb + 1)) a b := by
      unfold mostSum
      refine isum_congr (fun k hk => ?_)
      by_cases c : V (sb + 1) (a + k) = -1
      · rw [if_pos c, if_neg (fun q => (hge k hk).mp q c)]
      · rw [if_neg c, if_pos ((hge k hk).mpr c)]
    rw [e]
    refine ⟨fun c => absurd c (by decide), fun c => absurd c (by decide), fun c => absurd c (by decide), fun c => absurd c (by decide), fun c => absurd c (by decide), fun c => absurd c (by decide), fun c => absurd c (by decide), fun c => absurd c (by decide), fun c => absurd c (by decide), fun _ => ⟨s1, ?_⟩⟩
    refine x_sumAL h hs (P := b) (pp := fun i => a + i) hj (by omega) (fun i hi => by omega) (fun Q2 hQ2 => x_partCount h hj (n0.trans e) (by simp [v11, eb]; exact hQ2) (by simp)) (fun i hi Q2 hQ2 => x_partAt h hj (by omega) (n0.trans e) (by rw [if_pos rfl, v3, ea, nI_add]; exact hQ2)) (hQ _ ?_)
    rw [hsc, ecnt, esum, v12]
    split
    · exact least_m1
    · rfl
theorem x_scoreOf (h : CR A D nn V g) (hs : isS sb cb ub) (hub : V sb 3 = bI ub) (e14 : V 14 2 = nI nn) (hnr : ∀ j, j < nn → gR g (A 15) j = some (A (jl j))) (hG : GI σ n bf nn nr ns) (hGρ : GI ρ n bf nn nr ns) (hW : WG ρ) (hρ : rhoF σ ρ ub) (hN : NG σ nn) (hc : vCen V cb ρ n) (hl : vLex V σ) {d : Nat} (hd : d < n) (hdD : d < D) (h6 : ρ 6 d ≠ 0) (hvd : vDoc V σ bf d) (hvn : ∀ j, j < nn → vNode V σ j) {j : Nat} (hj : j < nn) {Q : Int32 → gS → Prop} (hQ : ∀ g' V', CR A D nn V' g' → (∀ u, u ≠ sb + 1 → V' u = V u) → (∀ a, gR g' a = gR g a) → (∀ i, i ≤ j → V' (sb + 1) i = scV ρ n d i) → Q (scV ρ n d j) g') : w_X8_scoreOf g (A sb) (some (A (dl d 0))) (nI j) Q := by
  have hnn := h.nn3
  have hNρ : NG ρ nn := fun i hi => (NW.rho hρ).mpr (hN i hi)
  have hk1 : ∃ k, KL D nn (sb + 1) = k ∧ k ≠ 0 := by
    rcases hs with ⟨e, _⟩ | ⟨e, _⟩ | ⟨e, _⟩ <;> subst e <;> exact ⟨21, rfl, by decide⟩
  have hsb : ∀ u, u ≠ sb + 1 → u ≠ sb + 1 := fun _ h => h
  have lab : sb + 1 = 37 ∨ sb + 1 = 39 ∨ sb + 1 = 41 := by
    rcases hs with ⟨e, _⟩ | ⟨e, _⟩ | ⟨e, _⟩ <;> subst e <;> simp
  have hcb : cb = 4 ∨ cb = 30 := hs.c
  unfold w_X8_scoreOf
  refine lpx2_i (j + 1) (fun k g' x => x = nI k ∧ ∃ V', CR A D nn V' g' ∧ (∀ u, u ≠ sb + 1 → V' u = V u) ∧ (∀ a, gR g' a = gR g a) ∧ V' (sb + 1) = scT ρ n d (V (sb + 1)) k) ?_ ?_ g 0 ⟨rfl, V, h, fun _ _ => rfl, fun _ => rfl, rfl⟩
  · rintro k g1 _ hk ⟨rfl, V1, h1, hV, hR, hT⟩ K hK
    obtain ⟨s1, s2, s3, s4, s5, s6, s7, s8, s9⟩ := h1.s0 hs
    unfold l_X8_scoreOf_2
    have vd1 : vDoc V1 σ bf d := by
      unfold vDoc vRow at hvd ⊢
      rw [hV (dl d 0) (by unfold dl; omega)]
      refine ⟨hvd.1, hvd.2.1, hvd.2.2.1, hvd.2.2.2.1, fun f hf => ?_⟩
      rw [hV (dl d (2 + f)) (by unfold dl; omega), hV (dl d (5 + f)) (by unfold dl; omega), hV (dl d (8 + f)) (by unfold dl; omega), hV (dl d (11 + f)) (by unfold dl; omega)]
      exact hvd.2.2.2.2 f hf
    have vn1 : ∀ j, j < nn → vNode V1 σ j := fun i hi => by
      have := hvn i hi
      unfold vNode at this ⊢
      rw [hV (jl i) (by unfold jl; omega)]; exact this
    have hc1 : vCen V1 cb ρ n := by
      obtain ⟨x1, x2, x3⟩ := hc
      refine ⟨by rw [hV cb (by omega)]; exact x1, fun f hf => by rw [hV (cb + 5) (by omega)]; exact x2 f hf, fun f t hf ht => by rw [hV (cb + 2 + f) (by omega)]; exact x3 f t hf ht⟩
    have hl1 : vLex V1 σ := by
      unfold vLex at hl ⊢
      rw [hV 11 (by omega), hV 12 (by omega), hV 13 (by omega)]; exact hl
    have hTk : ∀ i, i < k → V1 (sb + 1) i = scV ρ n d i := fun i hi => by rw [hT]; exact scT_eq hNρ hnn k (by omega) i hi
    refine ⟨fun c => absurd c (nI_nlt (by omega) (by omega)), fun _ => ⟨s1, _, s6, s7, ?_⟩⟩
    rw [s8]
    refine ⟨fun c => absurd c (nI_ge (show k < 30 by omega) (by decide)), fun _ => ⟨_, s6, _, s3, h1.k14, x_nodeAt h1 (by rw [hV 14 (by omega)]; exact e14) (fun i hi => by rw [hR]; exact hnr i hi) (show k < nn by omega) ?_⟩⟩
    refine x_valueOf h1 hs (by rw [hV sb (by omega)]; exact hub) (by rw [hV 14 (by omega)]; exact e14) (fun i hi => by rw [hR]; exact hnr i hi) hG hGρ hW hρ hN hc1 hl1 hd hdD h6 vd1 vn1 (show k < nn by omega) (fun i hi => ?_) (fun i hi e => ?_) (fun v hv => ⟨s7, by rw [s8]; exact vpi (by omega), fun g2 e2 => ?_⟩)
    · rw [hTk i hi]; exact scV_ok hGρ hW hNρ hd h6 i (by omega)
    · obtain ⟨a, b, ha, _, _, ea, _⟩ := (hN i (by omega)).term e
      refine ⟨a, ha, ea, fun q => ?_⟩
      rw [hTk i hi, scV_eq hNρ hnn (show i < nn by omega)] at q
      have : scoreF ρ n (scV ρ n d) i d = termF ρ n d a (σ 19 i) := by unfold scoreF; rw [hρ.1 17 (by decide) (by decide), hρ.1 18 (by decide) (by decide), hρ.1 19 (by decide) (by decide)]; simp [e, ea, cl_nI (show a < 2 ^ 31 by omega)]
      rw [this] at q
      exact (term_ok hGρ hW hd h6 ha).2.1.mp q
    · subst e2
      obtain ⟨kk, hkk, hk0⟩ := hk1
      rw [cl_nI (by omega), nI_1, min_least, hv]
      refine hK _ _ ⟨rfl, _, h1.w (sb + 1) kk hkk hk0 k _, fun u hu => by rw [su_row hu]; exact hV u hu, fun a => hR a, ?_⟩
      rw [su_self, scT, hT]
  · rintro g1 _ ⟨rfl, V1, h1, hV, hR, hT⟩ K
    obtain ⟨s1, _⟩ := h1.s0 hs
    unfold l_X8_scoreOf_2 b_X8_scoreOf_46
    have hTk : ∀ i, i ≤ j → V1 (sb + 1) i = scV ρ n d i := fun i hi => by rw [hT]; exact scT_eq hNρ hnn (j + 1) (by omega) i (by omega)
    refine ⟨fun _ => ⟨s1, x_valueAt h1 hs (show j < 30 by omega) ?_⟩, fun c => absurd (nI_lt (by omega) (by omega)) c⟩
    rw [hTk j (Nat.le_refl j)]
    exact hQ g1 V1 h1 hV hR hTk
end CSO
