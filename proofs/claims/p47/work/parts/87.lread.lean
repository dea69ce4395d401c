/-! THE LAW: what it reads in a round -/
theorem lg_self (x : Int64) : lg_cmp x x = 0 := by
  unfold lg_cmp
  rw [if_neg (by intro h; exact absurd h (Int64.lt_irrefl)), if_pos rfl]
theorem dc64 : ∀ b, b < 17 → ∀ a, a < 17 → (b = 0 ∨ (FP.ddiv (FP.i2d (nI a)) (FP.i2d (nI b)) &&& 9223372036854775807 ≤ 9218868437227405312 ∧ Op.cmpValue (FP.dcmp (FP.ddiv (FP.i2d (nI a)) (FP.i2d (nI b))) (FP.ddiv (FP.i2d (nI a)) (FP.i2d (nI b)))) .l = 0)) := by decide +kernel
theorem dc0 : Op.cmpValue (FP.dcmp 0 0) .l = 0 := by decide +kernel
section LREAD
variable {A : Nat → Nat} {U : Nat × (Nat → Int32)} {mA b vm L n bf ns nn nr dr j r : Nat} {xs : Nat → Int32} {σ τ : Rows} {wh : Nat → Int32} {g gm : gS} {i1 i4 : Int32} {k2 k80 : gS → gS → Nat → Nat → Int32 → Prop}
theorem now_ok (h : PK σ n bf nn nr ns) {d : Nat} (hd : d < n) (hj : j < nn) : okS (scoreNowF σ n d j) := by
  unfold scoreNowF
  by_cases c : there σ d = true
  · rw [if_pos c]
    refine scV_ok h.1 h.2.2.1 h.2.1 hd (fun q => ?_) j hj
    unfold there at c
    rw [decide_eq_true q] at c
    exact absurd c (by simp)
  · rw [if_neg c]; exact okS_m1
theorem ly_F : lyF σ n = nI (lyN σ n) := by
  unfold lyF lyN
  rw [← isum_cnt]
  refine isum_congr (fun d _ => ?_)
  by_cases c : σ 6 d = 0
  · simp [c]
  · simp [c]
theorem q_waste (h : EE mA σ n bf nn nr ns gm) (hn : n < 17) {Q : UInt64 → Prop} (hQ : Q (wasteF σ n)) : w_X10_waste gm mA Q := by
  obtain ⟨A, D, V, rfl, hx⟩ := h
  refine p_waste hx (fun c => ?_) hQ
  have h1 : lyN σ n ≤ n := cnt_le _ _
  have h2 : goneN σ n ≤ n := cnt_le _ _
  rw [ly_F] at c ⊢
  exact ((dc64 _ (by omega) _ (by omega)).resolve_left (fun e => c (by rw [e]; rfl))).1
/-- the results in their order -/
theorem y_669 {C0 S0 : Nat} (hA : SA A mA b vm U σ n ns nn dr wh g) (hn : n ≤ 16) (hj : j < nn) (hP : PK σ n bf nn nr ns) (hE : EE mA τ n bf nn r ns gm) (hτ : ∀ d, scoreNowF τ n d j = scoreNowF σ n d j) (hRS : RS σ n j n r τ) (hr : r ≤ n) (hC : C0 + 6 * r ≤ 600104) (hS : S0 + 36 * r ≤ 7301314)
    (hk : ∀ gm' C' S', EE mA τ n bf nn r ns gm' → C' ≤ C0 + 6 * r → S' ≤ S0 + 36 * r → k80 g gm' C' S' (i4 + 1)) : lpx4 (l_L_law_669 g i1 (A 0) mA i4 (nI j) (nI r) b L xs k2 k80) gm C0 S0 0 := by
  obtain ⟨f0, f1, f2, f3, f4, f5, f6, f7⟩ := hA.f
  obtain ⟨r0, r1, r4, r5, r6, r7, r8, r12, r14⟩ := hA.r
  obtain ⟨l1, l2, l3, l4, l5, l6, l7⟩ := hA.l
  have hdt : ∀ d, d < n → gI g (A 2) d = σ 3 d := hA.2.2.2.1.2.1
  refine lpx4_i r (fun p gm C S i => i = nI p ∧ C ≤ C0 + 6 * p ∧ S ≤ S0 + 36 * p ∧ EE mA τ n bf nn r ns gm) (fun p gm1 C1 S1 i1' hp hI K hK => ?_) (fun gm1 C1 S1 i1' hI K => ?_) _ _ _ _ ⟨rfl, by omega, by omega, hE⟩
  · obtain ⟨rfl, hC1, hS1, hE1⟩ := hI
    obtain ⟨e, he, e23, e24, hng⟩ := hRS.1 p hp
    unfold l_L_law_669 b_L_law_791 b_L_law_789
    refine ⟨fun c => absurd c (nI_ge hp (by omega)), fun _ => ⟨hE1.kind, ⟨by omega, by omega⟩, q_resultAt hE1 hp ?_⟩⟩
    rw [e23]
    refine ⟨⟨by omega, by omega⟩, q_scoreAt hE1 hp ?_⟩
    rw [e24]
    refine ⟨⟨by omega, by omega⟩, q_score hE1 hj he (fun gm2 hE2 => ⟨fun _ => ⟨fun _ => ?_, fun c0 => ?_⟩, fun c => absurd (hτ e).symm c⟩)⟩
    · rw [nI_1]
      exact hK _ _ _ _ ⟨rfl, by omega, by omega, hE2⟩
    · have hp0 : 0 < p := by
        rcases Nat.eq_zero_or_pos p with z | z
        · exact absurd (by rw [z]; rfl) c0
        · exact z
      have e1 : nI p - 1 = nI (p - 1) := nI_sb (b := 1) (by omega)
      obtain ⟨f, hf, f23, f24, hnf⟩ := hRS.1 (p - 1) (by omega)
      have had := hRS.2.1 (p - 1) f e (by omega) (by omega) (by omega) f23 (by rw [show p - 1 + 1 = p by omega]; exact e23)
      rw [show p - 1 + 1 = p by omega, f24, e24] at had
      have fin : ∀ {C S : Nat}, C ≤ C0 + 6 * (p + 1) → S ≤ S0 + 36 * (p + 1) → K gm2 C S (nI p + 1) := fun hC hS => by
        rw [nI_1]
        exact hK _ _ _ _ ⟨rfl, hC, hS, hE2⟩
      refine ⟨hE2.kind, ⟨by omega, by omega⟩, ?_⟩
      rw [e1]
      refine q_resultAt hE2 (s := p - 1) (by omega) ?_
      rw [f23]
      refine ⟨⟨by omega, by omega⟩, q_scoreAt hE2 (s := p - 1) (by omega) ?_⟩
      rw [f24]
      refine ⟨⟨by omega, by omega⟩, q_scoreAt hE2 hp ?_⟩
      rw [e24]
      obtain ⟨x, hx, ex⟩ := (now_ok hP hf hj).resolve_left (fun z => hnf (by rw [z]; decide))
      obtain ⟨y, hy, ey⟩ := (now_ok hP he hj).resolve_left (fun z => hng (by rw [z]; decide))
      rw [ex, ey] at had ⊢
      have hle : y ≤ x := by
        rcases had with z | ⟨z, -⟩
        · have := (nI_lt_iff (show y < 2 ^ 31 by omega) (show x < 2 ^ 31 by omega)).mp z
          omega
        · have := (nI_inj (show x < 2 ^ 31 by omega) (show y < 2 ^ 31 by omega)).mp z
          omega
      rw [nI_sb hle]
      have cf : Int32.toNatClampNeg (nI f) = f := cl_nI (by omega)
      have ce : Int32.toNatClampNeg (nI e) = e := cl_nI (by omega)
      have vf : vp_in (nI f) (gN g (A 2)) := by rw [l2]; exact vp_in_nI (by omega) (by decide)
      have ve : vp_in (nI e) (gN g (A 2)) := by rw [l2]; exact vp_in_nI (by omega) (by decide)
      refine ⟨fun c => absurd c (not_lt0 (by omega)), fun _ => ⟨fun c => ?_, fun _ => fin (by omega) (by omega)⟩⟩
      have hxy : x = y := by
        have := (nI_inj (show x - y < 2 ^ 31 by omega) (show 0 < 2 ^ 31 by decide)).mp c
        omega
      subst hxy
      have had : σ 3 e < σ 3 f ∨ (σ 3 f = σ 3 e ∧ f < e) := by
        rcases had with z | ⟨-, z⟩
        · exact absurd z Int32.lt_irrefl
        · exact z
      rw [cf, ce]
      refine ⟨f0, A 2, r5, f2, vf, A 2, r5, f2, ve, ?_, ?_⟩
      · intro c2
        rw [hdt f hf, hdt e he] at c2
        rcases had with z | ⟨z, -⟩
        · exact absurd (Int32.lt_trans z c2) Int32.lt_irrefl
        · rw [z] at c2; exact absurd c2 Int32.lt_irrefl
      · intro _
        refine ⟨A 2, r5, f2, vf, A 2, r5, f2, ve, fun c2 => ⟨fun _ => fin (by omega) (by omega), fun c3 => ?_⟩, fun _ => fin (by omega) (by omega)⟩
        rw [hdt f hf, hdt e he] at c2
        rcases had with z | ⟨-, z⟩
        · rw [c2] at z; exact absurd z Int32.lt_irrefl
        · exact absurd ((nI_lt_iff (show f < 2 ^ 31 by omega) (show e < 2 ^ 31 by omega)).mpr z) c3
  · obtain ⟨rfl, hC1, hS1, hE1⟩ := hI
    unfold l_L_law_669
    exact ⟨fun _ => hk _ _ _ hE1 hC1 hS1, fun c => absurd (Int32.le_refl _) c⟩
/-- the results by kinds and dates -/
theorem y_620 {C0 S0 : Nat} (hA : SA A mA b vm U σ n ns nn dr wh g) (hn : n ≤ 16) (hj : j < nn) (hP : PK σ n bf nn nr ns) (hK : KD σ n) (hS3 : τ 3 = σ 3) (hS4 : τ 4 = σ 4) (hE : EE mA τ n bf nn r ns gm) (hτ : ∀ d, scoreNowF τ n d j = scoreNowF σ n d j) (hRS : RS σ n j n r τ) (hr : r ≤ n) (hC : C0 + 200 ≤ 600104) (hS : S0 + 1000 ≤ 7301314)
    (hk : ∀ gm' C' S', EE mA τ n bf nn r ns gm' → C' ≤ C0 + 200 → S' ≤ S0 + 1000 → k80 g gm' C' S' (i4 + 1)) : lpx4 (l_L_law_620 g gm i1 (A 0) mA i4 (nI j) (nI r) b L xs k2 k80) C0 S0 0 0 := by
  have hK' : KD τ n := fun d hd => by rw [hS3, hS4]; exact hK d hd
  have hr23 : ∀ p, p < r → ∃ e, e < n ∧ τ 23 p = nI e := fun p hp => by
    obtain ⟨e, he, q, -⟩ := hRS.1 p hp
    exact ⟨e, he, q⟩
  refine lpx4_i 8 (fun k C S i14 i15 => i15 = nI k ∧ i14 = nI (kdS τ r k) ∧ C ≤ C0 + k ∧ S ≤ S0 + 6 * k) (fun k C1 S1 i14 i15 hk8 hI K hK => ?_) (fun C1 S1 i14 i15 hI K => ?_) _ _ _ _ ⟨rfl, rfl, by omega, by omega⟩
  · obtain ⟨rfl, rfl, hC1, hS1⟩ := hI
    unfold l_L_law_620
    refine ⟨fun c => ?_, fun _ => ⟨hE.kind, ⟨by omega, by omega⟩, q_ofKind hE hk8 ?_⟩⟩
    · have := (nI_le_iff (a := 8) (show 8 < 2 ^ 31 by decide) (show k < 2 ^ 31 by omega)).mp c
      omega
    · rw [nI_add, nI_1]
      exact hK _ _ _ _ ⟨rfl, rfl, by omega, by omega⟩
  · obtain ⟨rfl, rfl, hC1, hS1⟩ := hI
    unfold l_L_law_620 b_L_law_664
    rw [kdS_all (by omega) hK' hr23]
    refine ⟨fun _ => ⟨fun _ => ⟨hE.kind, ⟨by omega, by omega⟩, q_ofDates hE ?_⟩, fun c => absurd rfl c⟩, fun c => absurd (Int32.le_refl _) c⟩
    rw [dates_all (by omega) hK' hr23]
    exact ⟨fun _ => y_669 hA hn hj hP hE hτ hRS hr (by omega) (by omega) (fun gm' C' S' z1 z2 z3 => hk gm' C' S' z1 (by omega) (by omega)), fun c => absurd rfl c⟩
theorem noAl_eq (h : σ 11 = V0m 11) : noAl σ = σ := by
  funext t
  by_cases c : t = 11
  · subst c
    unfold noAl
    rw [va_up_self, h]
    rfl
  · unfold noAl
    rw [va_up_ne _ _ c]
/-- a score within its bounds, one that is like it -/
theorem y_487 {C0 S0 d : Nat} {i12 i13 : Int32} {j10 : Int64} {K : gS → Nat → Nat → Int32 → Int32 → Prop} (hn : n ≤ 16) (hE : EE mA σ n bf nn nr ns gm) (hd : d < n) (hj : j < nn) (hC : C0 + 4 ≤ 600104) (hS : S0 + 24 ≤ 7301314)
    (hK : ∀ gm' C' S', EE mA σ n bf nn nr ns gm' → C' ≤ C0 + 4 → S' ≤ S0 + 24 → K gm' C' S' (i13 + if scoreNowF σ n d j < 0 then 0 else 1) (nI (d + 1))) : b_L_law_487 g gm C0 S0 i1 (A 0) mA i4 (nI j) j10 i12 i13 (nI d) (scoreNowF σ n d j) b L xs k2 k80 K := by
  have hok := now_ok hE.pk hd hj
  have b1 : ¬ scoreNowF σ n d j < -1 ∧ ¬ (1000000 : Int32) < scoreNowF σ n d j := by
    rcases hok with e | ⟨m, hm, e⟩
    · rw [e]; decide
    · rw [e]
      refine ⟨fun c => ?_, fun c => ?_⟩
      · rw [i32_lt, nI_toInt (show m < 2 ^ 31 by omega)] at c
        have e2 : (-1 : Int32).toInt = -1 := rfl
        omega
      · have := (nI_lt_iff (a := 1000000) (show 1000000 < 2 ^ 31 by decide) (show m < 2 ^ 31 by omega)).mp c
        omega
  have fin : ∀ {gm' : gS} {C' S' : Nat}, EE mA σ n bf nn nr ns gm' → C' ≤ C0 + 4 → S' ≤ S0 + 24 → b_L_law_536 g gm' C' S' i1 (A 0) mA i4 (nI j) j10 i12 i13 (nI d) (scoreNowF σ n d j) b L xs k2 k80 K := fun {gm'} {C'} {S'} z1 z2 z3 => by
    have := hK gm' C' S' z1 z2 z3
    unfold b_L_law_536 b_L_law_548
    rw [nI_1]
    refine ⟨fun c => ?_, fun c => ?_⟩
    · rw [if_neg (Int32.not_lt.mpr c)] at this; exact this
    · rw [if_pos (Int32.not_le.mp c)] at this; exact this
  unfold b_L_law_487 b_L_law_534
  refine ⟨fun c => absurd c b1.1, fun _ => ⟨fun c => absurd c b1.2, fun _ => ⟨hE.kind, ⟨by omega, by omega⟩, q_like hE hd (fun gm1 hE1 => ⟨fun c => ?_, fun _ => ⟨hE1.kind, ⟨by omega, by omega⟩, q_like hE1 hd (fun gm2 hE2 => ⟨fun _ => fin hE2 (by omega) (by omega), fun c => ⟨hE2.kind, ⟨by omega, by omega⟩, q_like hE2 hd (fun gm3 hE3 => ?_)⟩⟩)⟩⟩)⟩⟩⟩
  · rcases like_is (σ := σ) (n := n) (e := d) with e | ⟨d', hd', hne, -, e⟩
    · rw [e] at c; exact absurd c.symm (nI_nm1 (show d < 2 ^ 31 by omega))
    · rw [e] at c
      exact hne ((nI_inj (show d' < 2 ^ 31 by omega) (show d < 2 ^ 31 by omega)).mp c)
  · rcases like_is (σ := σ) (n := n) (e := d) with e | ⟨d', hd', hne, ht, e⟩
    · rw [e] at c; exact absurd (by decide) c
    · rw [e]
      refine ⟨hE3.kind, ⟨by omega, by omega⟩, q_stateOf hE3 hd' ?_⟩
      exact ⟨fun _ => fin hE3 (by omega) (by omega), fun c2 => absurd ((st2_iff hE3.pk hd').mpr ht) c2⟩
/-- document by document, and what comes behind -/
theorem y_453 {C0 S0 : Nat} (hA : SA A mA b vm U σ n ns nn dr wh g) (hn : n ≤ 16) (hj : j < nn) (hE : EE mA σ n bf nn nr ns gm) (hK : KD σ n) (h11 : σ 11 = V0m 11) (hC : C0 + 400 ≤ 600104) (hS : S0 + 2000 ≤ 7301314)
    (hk : ∀ gm' C' S' τ r, Sam σ τ → (∀ i, i ≠ 0 → i ≠ 22 → τ 0 i = σ 0 i) → EE mA τ n bf nn r ns gm' → C' ≤ C0 + 400 → S' ≤ S0 + 2000 → k80 g gm' C' S' (i4 + 1)) : lpx5 (l_L_law_453 g i1 (A 0) mA i4 (nI j) (dgF σ n nn nr ns) (nI (foundF σ n j n)) b L xs k2 k80) gm C0 S0 0 0 := by
  have n3 := hA.n3
  refine lpx5_i n (fun d gm C S i13 i14 => i14 = nI d ∧ i13 = nI (foundF σ n j d) ∧ C ≤ C0 + 6 * d ∧ S ≤ S0 + 36 * d ∧ EE mA σ n bf nn nr ns gm) (fun d gm1 C1 S1 i13 i14 hd hI K hKK => ?_) (fun gm1 C1 S1 i13 i14 hI K => ?_) _ _ _ _ _ ⟨rfl, rfl, by omega, by omega, hE⟩
  · obtain ⟨rfl, rfl, hC1, hS1, hE1⟩ := hI
    have fin : ∀ gm' C' S', EE mA σ n bf nn nr ns gm' → C' ≤ C0 + 6 * (d + 1) → S' ≤ S0 + 36 * (d + 1) → K gm' C' S' (nI (foundF σ n j d) + if scoreNowF σ n d j < 0 then 0 else 1) (nI (d + 1)) := fun gm' C' S' z1 z2 z3 => by
      refine hKK _ _ _ _ _ ⟨rfl, ?_, z2, z3, z1⟩
      unfold foundF
      by_cases c : scoreNowF σ n d j < 0
      · rw [if_pos c, cnt_f (p := fun d => !decide (scoreNowF σ n d j < 0)) (by show (!decide _) = false; rw [decide_eq_true c]; rfl)]
        exact Int32.add_zero _
      · rw [if_neg c, cnt_t (p := fun d => !decide (scoreNowF σ n d j < 0)) (by show (!decide _) = true; rw [decide_eq_false c]; rfl), nI_1]
    unfold l_L_law_453 b_L_law_534
    refine ⟨hA.f.1, fun c => ?_, fun _ => ⟨hE1.kind, ⟨by omega, by omega⟩, q_score hE1 hj hd (fun gm2 hE2 => ⟨fun _ => ?_, fun c => ⟨hE2.kind, ⟨by omega, by omega⟩, q_stateOf hE2 hd ⟨fun _ => ?_, fun c2 => absurd ((st2_iff hE2.pk hd).mpr ?_) c2⟩⟩⟩)⟩⟩
    · rw [n3] at c
      exact absurd c (nI_ge hd (by omega))
    · exact y_487 hn hE2 hd hj (by omega) (by omega) (fun gm' C' S' z1 z2 z3 => fin gm' C' S' z1 (by omega) (by omega))
    · exact y_487 hn hE2 hd hj (by omega) (by omega) (fun gm' C' S' z1 z2 z3 => fin gm' C' S' z1 (by omega) (by omega))
    · by_cases q : there σ d = true
      · exact q
      · exfalso; apply c
        unfold scoreNowF
        rw [if_neg q]; decide
  · obtain ⟨rfl, rfl, hC1, hS1, hE1⟩ := hI
    unfold l_L_law_453 b_L_law_612
    refine ⟨hA.f.1, fun _ => ⟨fun _ => ⟨hE1.kind, ⟨by omega, by omega⟩, q_byAlias hE1 hj (fun gm2 hE2 => ?_)⟩, fun c => absurd rfl c⟩, fun c => absurd ?_ c⟩
    · have e0 : cnt (fun d => !decide (scoreNowF σ n d j < 0) && decide (scoreNowF (noAl σ) n d j < 0)) n = 0 := by
        rw [noAl_eq h11]
        refine cnt_zero fun d _ => ?_
        cases decide (scoreNowF σ n d j < 0) <;> rfl
      rw [e0]
      refine ⟨fun _ => ⟨hE2.kind, ⟨by omega, by omega⟩, q_cost hE2 hj (fun gm3 hE3 => ⟨fun c => absurd c (cost_ge hE3.gi.n hE3.gi.nn3), fun _ => ⟨hE3.kind, q_digest hE3 (fun gm4 hE4 => ⟨fun _ => ⟨hE4.kind, ⟨by omega, by omega⟩, q_search hE4 hj (fun gm5 r hr e22 hE5 => ?_)⟩, fun c => absurd (lg_self _) c⟩)⟩⟩)⟩, fun c => absurd rfl c⟩
      obtain ⟨r', e22', hr', hRS⟩ := srF_rs (σ := σ) (n := n) (j := j) n (by omega)
      have er : r' = r := (nI_inj (by omega) (by omega)).mp (e22'.symm.trans e22)
      subst er
      have ef : nI r' = nI (foundF σ n j n) := by rw [hRS.2.2]; rfl
      have hsam := srF_r (σ := σ) (n := n) (j := j) n
      rw [← ef]
      refine ⟨fun _ => ⟨hE5.kind, q_results hE5 ⟨fun _ => ?_, fun c => absurd rfl c⟩⟩, fun c => absurd rfl c⟩
      exact y_620 hA hn hj hE.pk hK (hsam.1 3 (by decide) (by decide) (by decide)) (hsam.1 4 (by decide) (by decide) (by decide)) hE5 (fun d => hsam.1.now) hRS hr (by omega) (by omega) (fun gm' C' S' z1 z2 z3 => hk gm' C' S' _ _ hsam.1 hsam.2 z1 (by omega) (by omega))
    · rw [n3]; exact Int32.le_refl _
/-- how many are there, and the waste -/
theorem y_362 {C0 S0 : Nat} (hA : SA A mA b vm U σ n ns nn dr wh g) (hn : n ≤ 16) (hj : j < nn) (hE : EE mA σ n bf nn nr ns gm) (hK : KD σ n) (h11 : σ 11 = V0m 11) (hC : C0 + 500 ≤ 600104) (hS : S0 + 2500 ≤ 7301314)
    (hk : ∀ gm' C' S' τ r, Sam σ τ → (∀ i, i ≠ 0 → i ≠ 22 → τ 0 i = σ 0 i) → EE mA τ n bf nn r ns gm' → C' ≤ C0 + 500 → S' ≤ S0 + 2500 → k80 g gm' C' S' (i4 + 1)) : lpx4 (l_L_law_362 g gm i1 (A 0) mA i4 (nI j) (nI (lyN σ n)) b L xs k2 k80) C0 S0 0 0 := by
  have n3 := hA.n3
  have hly : lyN σ n ≤ n := cnt_le _ _
  have hth := th_le (σ := σ) (n := n)
  have hsum := ly_sum (σ := σ) (n := n)
  refine lpx4_i n (fun d C S i9 i10 => i10 = nI d ∧ i9 = nI (thN σ d) ∧ C ≤ C0 + d ∧ S ≤ S0 + 6 * d) (fun d C1 S1 i9 i10 hd hI K hKK => ?_) (fun C1 S1 i9 i10 hI K => ?_) _ _ _ _ ⟨rfl, rfl, by omega, by omega⟩
  · obtain ⟨rfl, rfl, hC1, hS1⟩ := hI
    unfold l_L_law_362 b_L_law_388
    refine ⟨hA.f.1, fun c => ?_, fun _ => ⟨hE.kind, ⟨by omega, by omega⟩, q_stateOf hE hd ⟨fun c => ?_, fun c => ?_⟩⟩⟩
    · rw [n3] at c
      exact absurd c (nI_ge hd (by omega))
    · rw [nI_1, nI_1]
      refine hKK _ _ _ _ ⟨rfl, ?_, by omega, by omega⟩
      unfold thN
      rw [cnt_t (p := fun d => there σ d) ((st2_iff hE.pk hd).mp c)]
    · rw [nI_1]
      refine hKK _ _ _ _ ⟨rfl, ?_, by omega, by omega⟩
      have q : there σ d = false := by
        cases q : there σ d with
        | false => rfl
        | true => exact absurd ((st2_iff hE.pk hd).mpr q) c
      unfold thN
      rw [cnt_f (p := fun d => there σ d) q]
      exact Int32.add_zero _
  · obtain ⟨rfl, rfl, hC1, hS1⟩ := hI
    have next : b_L_law_427 g gm C1 S1 i1 (A 0) mA i4 (nI j) (wasteF σ n) (wasteF σ n) b L xs k2 k80 := by
      unfold b_L_law_427 b_L_law_431
      refine ⟨fun _ => ⟨hE.kind, q_digest hE (fun gm2 hE2 => ⟨hE2.kind, ⟨by omega, by omega⟩, q_found hE2 hj (fun gm3 hE3 => ?_)⟩)⟩, fun c => absurd ?_ c⟩
      · exact y_453 hA hn hj hE3 hK h11 (by omega) (by omega) (fun gm' C' S' τ r z0 z00 z1 z2 z3 => hk gm' C' S' τ r z0 z00 z1 (by omega) (by omega))
      · unfold wasteF
        rw [ly_F]
        by_cases c : nI (lyN σ n) = 0
        · rw [if_pos c]; exact dc0
        · rw [if_neg c]
          exact ((dc64 _ (by omega) _ (by have := ly_sum (σ := σ) (n := n); omega)).resolve_left (fun e => c (by rw [e]; rfl))).2
    unfold l_L_law_362 b_L_law_431
    refine ⟨hA.f.1, fun _ => ⟨fun c => ?_, fun _ => ⟨hE.kind, q_waste hE (by omega) ⟨fun c => ?_, fun c => ?_⟩⟩⟩, fun c => absurd ?_ c⟩
    · have := (nI_lt_iff (show lyN σ n < 2 ^ 31 by omega) (show thN σ n < 2 ^ 31 by omega)).mp c
      omega
    · have ew : wasteF σ n = 0 := by unfold wasteF; rw [ly_F, if_pos c]
      rw [ew] at next ⊢
      exact next
    · have ew : wasteF σ n = FP.ddiv (FP.i2d (nI (lyN σ n) - nI (thN σ n))) (FP.i2d (nI (lyN σ n))) := by
        unfold wasteF
        rw [ly_F, if_neg c, nI_sb hth, show lyN σ n - thN σ n = goneN σ n by omega]
      rw [← ew]
      refine ⟨?_, next⟩
      rw [ew, nI_sb hth]
      exact ((dc64 _ (by omega) _ (by omega)).resolve_left (fun e => c (by rw [e]; rfl))).1
    · rw [n3]; exact Int32.le_refl _
/-- the sizes of the segments -/
theorem y_326 {C0 S0 : Nat} (hA : SA A mA b vm U σ n ns nn dr wh g) (hn : n ≤ 16) (hj : j < nn) (hE : EE mA σ n bf nn nr ns gm) (hK : KD σ n) (h11 : σ 11 = V0m 11) (hC : C0 + 560 ≤ 600104) (hS : S0 + 2900 ≤ 7301314)
    (hk : ∀ gm' C' S' τ r, Sam σ τ → (∀ i, i ≠ 0 → i ≠ 22 → τ 0 i = σ 0 i) → EE mA τ n bf nn r ns gm' → C' ≤ C0 + 560 → S' ≤ S0 + 2900 → k80 g gm' C' S' (i4 + 1)) : b_L_law_326 g gm C0 S0 i1 (A 0) mA i4 (nI j) (nI ns) b L xs k2 k80 := by
  have hns := hE.gi.ns6
  unfold b_L_law_326
  refine lpx4_i ns (fun k C S i8 i9 => i9 = nI k ∧ i8 = nI (szS σ n k) ∧ C ≤ C0 + k ∧ S ≤ S0 + 6 * k) (fun k C1 S1 i8 i9 hk1 hI K hKK => ?_) (fun C1 S1 i8 i9 hI K => ?_) _ _ _ _ ⟨rfl, rfl, by omega, by omega⟩
  · obtain ⟨rfl, rfl, hC1, hS1⟩ := hI
    unfold l_L_law_332
    refine ⟨fun c => absurd c (nI_ge hk1 (by omega)), fun _ => ⟨hE.kind, ⟨by omega, by omega⟩, q_sizeOf hE hk1 ?_⟩⟩
    rw [nI_add, nI_1]
    exact hKK _ _ _ _ ⟨rfl, rfl, by omega, by omega⟩
  · obtain ⟨rfl, rfl, hC1, hS1⟩ := hI
    unfold l_L_law_332
    rw [szS_ly hE.pk]
    exact ⟨fun _ => y_362 hA hn hj hE hK h11 (by omega) (by omega) (fun gm' C' S' τ r z0 z00 z1 z2 z3 => hk gm' C' S' τ r z0 z00 z1 (by omega) (by omega)), fun c => absurd (Int32.le_refl _) c⟩
/-- the tiers -/
theorem y_268 {C0 S0 : Nat} {i5 : Int32} (hA : SA A mA b vm U σ n ns nn dr wh g) (hn : n ≤ 16) (hj : j < nn) (hE : EE mA σ n bf nn nr ns gm) (hK : KD σ n) (h11 : σ 11 = V0m 11) (hc3 : ¬ c3 σ) (hC : C0 + 570 ≤ 600104) (hS : S0 + 2950 ≤ 7301314)
    (hk : ∀ gm' C' S' τ r, Sam σ τ → (∀ i, i ≠ 0 → i ≠ 22 → τ 0 i = σ 0 i) → EE mA τ n bf nn r ns gm' → C' ≤ C0 + 570 → S' ≤ S0 + 2950 → k80 g gm' C' S' (i4 + 1)) : b_L_law_268 g gm C0 S0 i1 (A 0) mA i4 i5 (nI j) b L xs k2 k80 := by
  have hns := hE.gi.ns6
  have next : ∀ {C1 S1 : Nat}, C1 ≤ C0 + 4 → S1 ≤ S0 + 24 → b_L_law_326 g gm C1 S1 i1 (A 0) mA i4 (nI j) (nI ns) b L xs k2 k80 := fun {C1} {S1} h1 h2 => y_326 hA hn hj hE hK h11 (by omega) (by omega) (fun gm' C' S' τ r z0 z00 z1 z2 z3 => hk gm' C' S' τ r z0 z00 z1 (by omega) (by omega))
  unfold b_L_law_268
  refine ⟨hE.kind, q_segments hE ⟨fun _ => next (by omega) (by omega), fun _ => ⟨fun _ => next (by omega) (by omega), fun c => ?_⟩⟩⟩
  have h3 : 3 ≤ ns := by
    rcases Nat.lt_or_ge ns 3 with z | z
    · exact absurd ((nI_le_iff (b := 2) (show ns < 2 ^ 31 by omega) (by decide)).mpr (by omega)) c
    · exact z
  have s1 : nI ns - 1 = nI (ns - 1) := nI_sb (b := 1) (by omega)
  have s2 : nI ns - 2 = nI (ns - 2) := nI_sb (b := 2) (by omega)
  have s3 : nI ns - 3 = nI (ns - 3) := nI_sb (b := 3) (by omega)
  rw [s1, s2, s3]
  have ec : cl (σ 0 13) = ns := by rw [hE.gi.d13]; exact cl_nI (by omega)
  refine ⟨⟨by omega, by omega⟩, q_tierOf hE (by omega) ⟨⟨by omega, by omega⟩, q_tierOf hE (by omega) ⟨fun c1 => ⟨⟨by omega, by omega⟩, q_tierOf hE (by omega) ⟨⟨by omega, by omega⟩, q_tierOf hE (by omega) ⟨fun c2 => hc3 ?_, fun _ => next (by omega) (by omega)⟩⟩⟩, fun _ => next (by omega) (by omega)⟩⟩⟩
  show 2 < cl (σ 0 13) ∧ σ 14 (cl (σ 0 13) - 1) = σ 14 (cl (σ 0 13) - 2) ∧ σ 14 (cl (σ 0 13) - 2) = σ 14 (cl (σ 0 13) - 3)
  rw [ec]
  exact ⟨by omega, c1, c2⟩
end LREAD
