/-! WHO IS FOUND: whether a document is found does not hang on what is counted -/
def CE (σ ρ : Rows) : Prop := ∀ t, t ≠ 0 → t ≠ 6 → t ≠ 14 → t ≠ 15 → ρ t = σ t
section FOUND
variable {σ ρ : Rows} {n bf nn nr ns bf' nr' ns' d j : Nat} {T T' : Nat → Int32}
theorem cen_eq (hC : CE σ ρ) (h6 : ∀ d, d < n → (σ 6 d = 0 ↔ ρ 6 d = 0)) : lyF ρ n = lyF σ n ∧ (∀ f, leF ρ f n = leF σ f n) ∧ ∀ t f, spF ρ t f n = spF σ t f n := by
  have r7 := hC 7 (by decide) (by decide) (by decide) (by decide)
  have r8 := hC 8 (by decide) (by decide) (by decide) (by decide)
  have key : ∀ (x y : Nat → Int32), (∀ d, d < n → x d = y d) → isum (fun d => if ρ 6 d = 0 then 0 else x d) n = isum (fun d => if σ 6 d = 0 then 0 else y d) n := fun x y hxy => isum_congr fun d hd => by
    by_cases c : σ 6 d = 0
    · rw [if_pos c, if_pos ((h6 d hd).mp c)]
    · rw [if_neg c, if_neg (fun q => c ((h6 d hd).mpr q))]; exact hxy d hd
  refine ⟨key (fun _ => 1) (fun _ => 1) (fun _ _ => rfl), fun f => key (fun d => ρ 7 (d * 3 + f)) (fun d => σ 7 (d * 3 + f)) (fun d _ => by rw [r7]), fun t f => key (fun d => hasI (tmF ρ d f) (lnF ρ d f) (nI t)) (fun d => hasI (tmF σ d f) (lnF σ d f) (nI t)) (fun d _ => ?_)⟩
  have e1 : tmF ρ d f = tmF σ d f := by funext p; unfold tmF; rw [r8]
  have e2 : lnF ρ d f = lnF σ d f := by unfold lnF; rw [r7]
  show hasI (tmF ρ d f) (lnF ρ d f) (nI t) = hasI (tmF σ d f) (lnF σ d f) (nI t)
  rw [e1, e2]
theorem ts_cen (hC : CE σ ρ) {a b : Int32} : tsIs ρ d a b = tsIs σ d a b := by
  unfold tsIs lkB tmF lnF
  rw [hC 7 (by decide) (by decide) (by decide) (by decide), hC 8 (by decide) (by decide) (by decide) (by decide), hC 10 (by decide) (by decide) (by decide) (by decide), hC 11 (by decide) (by decide) (by decide) (by decide)]
theorem near_cen (hC : CE σ ρ) {a b fa fb c o : Int32} {k : Nat} : nearF ρ d a b fa fb c o k = nearF σ d a b fa fb c o k := by
  unfold nearF nearIn lkB tmF lnF
  rw [hC 7 (by decide) (by decide) (by decide) (by decide), hC 8 (by decide) (by decide) (by decide) (by decide), hC 10 (by decide) (by decide) (by decide) (by decide), hC 11 (by decide) (by decide) (by decide) (by decide)]
theorem taste_cen (hC : CE σ ρ) (h6 : ∀ d, d < n → (σ 6 d = 0 ↔ ρ 6 d = 0)) {f t : Nat} : tasteF ρ n d f t = tasteF σ n d f t := by
  obtain ⟨h1, h2, h3⟩ := cen_eq hC h6
  have ec : ctF ρ d f (nI t) = ctF σ d f (nI t) := by
    unfold ctF tmF lnF
    rw [hC 7 (by decide) (by decide) (by decide) (by decide), hC 8 (by decide) (by decide) (by decide) (by decide), hC 10 (by decide) (by decide) (by decide) (by decide)]
  unfold tasteF rareF
  rw [h1, h2, h3, ec, hC 7 (by decide) (by decide) (by decide) (by decide), hC 12 (by decide) (by decide) (by decide) (by decide)]
theorem term_cen (hC : CE σ ρ) (h6 : ∀ d, d < n → (σ 6 d = 0 ↔ ρ 6 d = 0)) {a : Nat} {b : Int32} : termF ρ n d a b = termF σ n d a b := by
  have e : tsSum ρ n d a b 3 = tsSum σ n d a b 3 := by
    unfold tsSum
    refine isum_congr fun f _ => ?_
    unfold alT
    rw [taste_cen hC h6, taste_cen hC h6, hC 11 (by decide) (by decide) (by decide) (by decide)]
  unfold termF
  rw [e, ts_cen hC]
theorem score_cen (hC : CE σ ρ) (h6 : ∀ d, d < n → (σ 6 d = 0 ↔ ρ 6 d = 0)) : scoreF ρ n T j d = scoreF σ n T j d := by
  unfold scoreF
  dsimp only
  rw [term_cen hC h6, near_cen hC, hC 3 (by decide) (by decide) (by decide) (by decide), hC 4 (by decide) (by decide) (by decide) (by decide), hC 17 (by decide) (by decide) (by decide) (by decide), hC 18 (by decide) (by decide) (by decide) (by decide), hC 19 (by decide) (by decide) (by decide) (by decide), hC 20 (by decide) (by decide) (by decide) (by decide), hC 21 (by decide) (by decide) (by decide) (by decide)]
theorem scT_cen (hC : CE σ ρ) (h6 : ∀ d, d < n → (σ 6 d = 0 ↔ ρ 6 d = 0)) : ∀ k, scT ρ n d T k = scT σ n d T k
  | 0 => rfl
  | k + 1 => by rw [scT, scT, scT_cen hC h6 k, score_cen hC h6]
theorem now_cen (hC : CE σ ρ) (h6 : ∀ d, d < n → (σ 6 d = 0 ↔ ρ 6 d = 0)) (hd : d < n) : scoreNowF ρ n d j = scoreNowF σ n d j := by
  have e : there ρ d = there σ d := by
    unfold there
    rw [hC 5 (by decide) (by decide) (by decide) (by decide), decide_eq_decide.mpr (h6 d hd)]
  unfold scoreNowF scV
  rw [e, scT_cen hC h6]
theorem least_ge {m : Nat} (h : m < 2 ^ 31) : ¬ leastF (nI m) < 0 := by rw [least_nI h]; exact not_lt0 (by omega)
theorem near_ge {x y : Int32} {k : Nat} (hx : okS x) (hy : okS y) (hk : k ≤ 3) (h0 : ¬ nI k = 0) : ¬ leastF (x + y + 100 * nI k) < 0 := by
  have hk1 : 1 ≤ k := by
    rcases Nat.eq_zero_or_pos k with q | q
    · subst q; exact absurd rfl h0
    · exact q
  rcases hx with e1 | ⟨a, ha, e1⟩ <;> rcases hy with e2 | ⟨b, hb, e2⟩
  · rw [e1, e2]
    rcases (show k = 1 ∨ k = 2 ∨ k = 3 by omega) with q | q | q <;> subst q <;> decide
  · rw [e1, e2, show (100 : Int32) = nI 100 from rfl, nI_mul, Int32.add_assoc, nI_add, show (-1 : Int32) + nI (b + 100 * k) = nI (b + 100 * k - 1) by rw [show b + 100 * k = (b + 100 * k - 1) + 1 by omega, ← nI_1, Int32.add_comm, Int32.add_assoc, show b + 100 * k - 1 + 1 - 1 = b + 100 * k - 1 by omega]; exact Int32.add_zero _]
    exact least_ge (by omega)
  · rw [e1, e2, show (100 : Int32) = nI 100 from rfl, nI_mul, Int32.add_comm (nI a), Int32.add_assoc, nI_add, show (-1 : Int32) + nI (a + 100 * k) = nI (a + 100 * k - 1) by rw [show a + 100 * k = (a + 100 * k - 1) + 1 by omega, ← nI_1, Int32.add_comm, Int32.add_assoc, show a + 100 * k - 1 + 1 - 1 = a + 100 * k - 1 by omega]; exact Int32.add_zero _]
    exact least_ge (by omega)
  · rw [e1, e2, show (100 : Int32) = nI 100 from rfl, nI_mul, nI_add, nI_add]
    exact least_ge (by omega)
theorem iff_ge {x y : Int32} (hx : ¬ x < 0) (hy : ¬ y < 0) : x < 0 ↔ y < 0 := ⟨fun q => absurd q hx, fun q => absurd q hy⟩
theorem score_neg (hG : GI σ n bf nn nr ns) (hW : WG σ) (hG' : GI ρ n bf' nn nr' ns') (hW' : WG ρ) (hC : CE σ ρ) (hN : NW σ j) (hj : j < 30) (hd : d < n) (h6 : σ 6 d ≠ 0) (h6' : ρ 6 d ≠ 0) (hT : ∀ i, i < j → okS (T i)) (hT' : ∀ i, i < j → okS (T' i)) (hTT : ∀ i, i < j → (T i < 0 ↔ T' i < 0)) : scoreF σ n T j d < 0 ↔ scoreF ρ n T' j d < 0 := by
  unfold scoreF
  dsimp only
  rw [near_cen hC, hC 3 (by decide) (by decide) (by decide) (by decide), hC 4 (by decide) (by decide) (by decide) (by decide), hC 17 (by decide) (by decide) (by decide) (by decide), hC 18 (by decide) (by decide) (by decide) (by decide), hC 19 (by decide) (by decide) (by decide) (by decide), hC 20 (by decide) (by decide) (by decide) (by decide), hC 21 (by decide) (by decide) (by decide) (by decide)]
  rcases hN with ⟨e, a, b, ha, hb1, hb8, ea, eb⟩ | ⟨e, a, b, ha, hb, ea, eb⟩ | ⟨e, a, b, c, ha, hb, e1, e2, hc1, hc2, ho, ea, eb, ec⟩ | e | ⟨e, a, ha, ea⟩ | ⟨e, a, b, ha, hb, ea, eb⟩ | ⟨e, a, b, c, hab, hb2, hb4, hc1, hcb, ea, eb, ec⟩
  · rw [if_pos e, if_pos e, ea, cl_nI (show a < 2 ^ 31 by omega)]
    rw [okS_lt (term_ok hG hW hd h6 ha).1, okS_lt (term_ok hG' hW' hd h6' ha).1, (term_ok hG hW hd h6 ha).2.1, (term_ok hG' hW' hd h6' ha).2.1, ts_cen hC]
  · rw [ea, eb, cl_nI (show a < 2 ^ 31 by omega), cl_nI (show b < 2 ^ 31 by omega)]
    have qa := hTT a ha
    have qb := hTT b hb
    rcases e with e | e | e
    · simp only [e, if_neg (show ¬ (1 : Int32) = 0 by decide), if_true]
      by_cases c : T a < 0 ∨ T b < 0
      · rw [if_pos c, if_pos (c.imp qa.mp qb.mp)]
      · rw [if_neg c, if_neg (fun q => c (q.imp qa.mpr qb.mpr))]
        obtain ⟨m, hm, em⟩ := okS_add (hT a ha) (hT b hb) (fun q => c (Or.inl q)) (fun q => c (Or.inr q))
        obtain ⟨m', hm', em'⟩ := okS_add (hT' a ha) (hT' b hb) (fun q => c (Or.inl (qa.mpr q))) (fun q => c (Or.inr (qb.mpr q)))
        rw [em, em']; exact iff_ge (least_ge (by omega)) (least_ge (by omega))
    · simp only [e, if_neg (show ¬ (2 : Int32) = 0 by decide), if_neg (show ¬ (2 : Int32) = 1 by decide), if_true]
      by_cases c : T a < 0
      · rw [if_pos c, if_pos (qa.mp c)]; exact qb
      · rw [if_neg c, if_neg (fun q => c (qa.mpr q))]
        by_cases c2 : T b < 0
        · rw [if_pos c2, if_pos (qb.mp c2)]; exact qa
        · rw [if_neg c2, if_neg (fun q => c2 (qb.mpr q))]
          obtain ⟨m, hm, em⟩ := okS_add (hT a ha) (hT b hb) c c2
          obtain ⟨m', hm', em'⟩ := okS_add (hT' a ha) (hT' b hb) (fun q => c (qa.mpr q)) (fun q => c2 (qb.mpr q))
          rw [em, em']; exact iff_ge (least_ge (by omega)) (least_ge (by omega))
    · simp only [e, if_neg (show ¬ (3 : Int32) = 0 by decide), if_neg (show ¬ (3 : Int32) = 1 by decide), if_neg (show ¬ (3 : Int32) = 2 by decide), if_true]
      by_cases c : T b < 0
      · rw [if_pos c, if_pos (qb.mp c)]; exact qa
      · rw [if_neg c, if_neg (fun q => c (qb.mpr q))]
  · rw [ea, eb, cl_nI (show a < 2 ^ 31 by omega), cl_nI (show b < 2 ^ 31 by omega)]
    simp only [e, if_neg (show ¬ (4 : Int32) = 0 by decide), if_neg (show ¬ (4 : Int32) = 1 by decide), if_neg (show ¬ (4 : Int32) = 2 by decide), if_neg (show ¬ (4 : Int32) = 3 by decide), if_true]
    obtain ⟨m, hm, em⟩ := near_ok (ρ := σ) (d := d) (a := σ 18 a) (b := σ 18 b) (fa := σ 19 a) (fb := σ 19 b) (c := σ 20 j) (o := σ 21 j) 3
    rw [em]
    by_cases c : nI m = 0
    · rw [if_pos c, if_pos c]
    · rw [if_neg c, if_neg c]
      exact iff_ge (near_ge (hT a ha) (hT b hb) hm c) (near_ge (hT' a ha) (hT' b hb) hm c)
  · simp only [e, if_neg (show ¬ (5 : Int32) = 0 by decide), if_neg (show ¬ (5 : Int32) = 1 by decide), if_neg (show ¬ (5 : Int32) = 2 by decide), if_neg (show ¬ (5 : Int32) = 3 by decide), if_neg (show ¬ (5 : Int32) = 4 by decide), if_true]
  · simp only [e, if_neg (show ¬ (6 : Int32) = 0 by decide), if_neg (show ¬ (6 : Int32) = 1 by decide), if_neg (show ¬ (6 : Int32) = 2 by decide), if_neg (show ¬ (6 : Int32) = 3 by decide), if_neg (show ¬ (6 : Int32) = 4 by decide), if_neg (show ¬ (6 : Int32) = 5 by decide), if_true]
  · rw [ea, eb, cl_nI (show a < 2 ^ 31 by omega)]
    simp only [e, if_neg (show ¬ (7 : Int32) = 0 by decide), if_neg (show ¬ (7 : Int32) = 1 by decide), if_neg (show ¬ (7 : Int32) = 2 by decide), if_neg (show ¬ (7 : Int32) = 3 by decide), if_neg (show ¬ (7 : Int32) = 4 by decide), if_neg (show ¬ (7 : Int32) = 5 by decide), if_neg (show ¬ (7 : Int32) = 6 by decide), if_true]
    have qa := hTT a ha
    by_cases c : T a < 0
    · rw [if_pos c, if_pos (qa.mp c)]
    · rw [if_neg c, if_neg (fun q => c (qa.mpr q))]
      obtain ⟨x, hx, ex⟩ := (hT a ha).resolve_left (fun q => c (by rw [q]; decide))
      obtain ⟨y, hy, ey⟩ := (hT' a ha).resolve_left (fun q => c (qa.mpr (by rw [q]; decide)))
      have h1 : x * b ≤ 1000000 * 500 := Nat.mul_le_mul hx hb
      have h2 : y * b ≤ 1000000 * 500 := Nat.mul_le_mul hy hb
      rw [ex, ey, nI_mul, nI_mul, show (100 : Int32) = nI 100 from rfl, nI_div (by omega) (by decide) (by decide), nI_div (by omega) (by decide) (by decide)]
      exact iff_ge (least_ge (Nat.lt_of_le_of_lt (Nat.div_le_self _ _) (by omega))) (least_ge (Nat.lt_of_le_of_lt (Nat.div_le_self _ _) (by omega)))
  · rw [ea, eb, cl_nI (show a < 2 ^ 31 by omega), cl_nI (show b < 2 ^ 31 by omega)]
    simp only [e, if_neg (show ¬ (8 : Int32) = 0 by decide), if_neg (show ¬ (8 : Int32) = 1 by decide), if_neg (show ¬ (8 : Int32) = 2 by decide), if_neg (show ¬ (8 : Int32) = 3 by decide), if_neg (show ¬ (8 : Int32) = 4 by decide), if_neg (show ¬ (8 : Int32) = 5 by decide), if_neg (show ¬ (8 : Int32) = 6 by decide), if_neg (show ¬ (8 : Int32) = 7 by decide)]
    have em : mostCnt T' a b = mostCnt T a b := by
      unfold mostCnt
      refine cnt_congr fun k hk => ?_
      have := hTT (a + k) (by omega)
      rw [decide_eq_decide]
      exact ⟨fun q => Int32.not_lt.mp (fun r => Int32.not_lt.mpr q (this.mp r)), fun q => Int32.not_lt.mp (fun r => Int32.not_lt.mpr q (this.mpr r))⟩
    rw [em]
    by_cases c2 : nI (mostCnt T a b) < σ 20 j
    · rw [if_pos c2, if_pos c2]
    · rw [if_neg c2, if_neg c2]
      obtain ⟨m, hm, e9⟩ := most_ok (T := T) (a := a) b (fun k hk => hT (a + k) (by omega))
      obtain ⟨m', hm', e9'⟩ := most_ok (T := T') (a := a) b (fun k hk => hT' (a + k) (by omega))
      rw [e9, e9']
      exact iff_ge (least_ge (by omega)) (least_ge (by omega))
theorem NG.ce (h : NG σ nn) (hC : CE σ ρ) : NG ρ nn := by
  intro j hj
  have := h j hj
  unfold NW at this ⊢
  rw [hC 17 (by decide) (by decide) (by decide) (by decide), hC 18 (by decide) (by decide) (by decide) (by decide), hC 19 (by decide) (by decide) (by decide) (by decide), hC 20 (by decide) (by decide) (by decide) (by decide), hC 21 (by decide) (by decide) (by decide) (by decide)]
  exact this
theorem neg_all (h : PK σ n bf nn nr ns) (h' : PK ρ n bf' nn nr' ns') (hC : CE σ ρ) (hd : d < n) (h6 : σ 6 d ≠ 0) (h6' : ρ 6 d ≠ 0) : ∀ k, k ≤ nn → ∀ j, j < k → (scV σ n d j < 0 ↔ scV ρ n d j < 0)
  | 0, _, j, hj => absurd hj (Nat.not_lt_zero _)
  | k + 1, hk, j, hj => by
    have hnn := h.1.nn3
    rcases Nat.lt_or_ge j k with c | c
    · exact neg_all h h' hC hd h6 h6' k (by omega) j c
    · have e : j = k := by omega
      subst e
      rw [scV_eq h.2.1 hnn (by omega), scV_eq h'.2.1 hnn (by omega)]
      exact score_neg h.1 h.2.2.1 h'.1 h'.2.2.1 hC (h.2.1 j (by omega)) (by omega) hd h6 h6' (fun i hi => scV_ok h.1 h.2.2.1 h.2.1 hd h6 i (by omega)) (fun i hi => scV_ok h'.1 h'.2.2.1 h'.2.1 hd h6' i (by omega)) (fun i hi => neg_all h h' hC hd h6 h6' j (by omega) i hi)
theorem cnt_mono {p q : Nat → Bool} : ∀ {n : Nat}, (∀ k, k < n → p k = true → q k = true) → cnt p n ≤ cnt q n
  | 0, _ => Nat.le_refl 0
  | n + 1, h => by
    have ih := cnt_mono (p := p) (q := q) (n := n) (fun k hk => h k (by omega))
    rw [cnt, cnt]
    by_cases c : p n = true
    · rw [if_pos c, if_pos (h n (by omega) c)]; omega
    · rw [if_neg c]; split <;> omega
/-- what is found stays found -/
theorem found_le (h : PK σ n bf nn nr ns) (h' : PK ρ n bf' nn nr' ns') (hC : CE σ ρ) (ht : ∀ d, d < n → there σ d = true → there ρ d = true) (hj : j < nn) : foundF σ n j n ≤ foundF ρ n j n := by
  unfold foundF
  refine cnt_mono fun d hd hf => ?_
  have hf : (!decide (scoreNowF σ n d j < 0)) = true := hf
  have nf : ¬ scoreNowF σ n d j < 0 := by
    intro q
    rw [decide_eq_true q] at hf
    exact absurd hf (by decide)
  have th : there σ d = true := by
    by_cases c : there σ d = true
    · exact c
    · exfalso; apply nf
      unfold scoreNowF
      rw [if_neg c]; decide
  have th' := ht d hd th
  have g6 : ∀ {τ : Rows}, there τ d = true → τ 6 d ≠ 0 := fun {τ} t q => by
    unfold there at t
    rw [decide_eq_true q] at t
    exact absurd t (by simp)
  have : ¬ scoreNowF ρ n d j < 0 := by
    unfold scoreNowF at nf ⊢
    rw [if_pos th] at nf
    rw [if_pos th']
    exact fun q => nf ((neg_all h h' hC hd (g6 th) (g6 th') nn (Nat.le_refl _) j hj).mpr q)
  show (!decide (scoreNowF ρ n d j < 0)) = true
  rw [decide_eq_false this]; rfl
end FOUND
