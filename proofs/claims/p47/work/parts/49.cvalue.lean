/-! THE CLASS: the value of a node -/
theorem least_ok {x : Int32} (h : okS x) : leastF x = x := by
  rcases h with e | ⟨m, hm, e⟩
  · subst e; exact least_m1
  · subst e; rw [least_nI (by omega), Nat.min_eq_left hm]
theorem min_least (v : Int32) : (if 1000000 < v then 1000000 else v) = leastF v := by
  unfold leastF
  by_cases c : v < 1000000
  · rw [if_pos c, if_neg (fun q => ?_)]
    have h1 := (i32_lt _ _).mp c
    have h2 := (i32_lt _ _).mp q
    omega
  · rw [if_neg c]
    by_cases c2 : 1000000 < v
    · rw [if_pos c2]
    · rw [if_neg c2]
      apply (i32_eq _ _).mpr
      have h1 : ¬ v.toInt < (1000000 : Int32).toInt := fun q => c ((i32_lt _ _).mpr q)
      have h2 : ¬ (1000000 : Int32).toInt < v.toInt := fun q => c2 ((i32_lt _ _).mpr q)
      omega
section CVALUE
variable {A : Nat → Nat} {D : Nat} {V σ ρ : Rows} {n bf nn nr ns cb sb : Nat} {ub : Bool} {g : gS}
theorem x_partCount (h : CR A D nn V g) {j : Nat} (hj : j < nn) {s : Int32} (es : V (jl j) 0 = s) {Q : Int32 → Prop} (hQ : Q (if s = 1 ∨ s = 2 ∨ s = 3 ∨ s = 4 then 2 else if s = 7 then 1 else if s = 8 then V (jl j) 11 else 0)) (hs : s = 0 ∨ s = 1 ∨ s = 2 ∨ s = 3 ∨ s = 4 ∨ s = 5 ∨ s = 6 ∨ s = 7 ∨ s = 8) : w_X5_partCount g (A (jl j)) Q := by
  unfold w_X5_partCount
  refine ⟨h.jk hj, ?_⟩
  rw [h.ji hj, es]
  rcases hs with e | e | e | e | e | e | e | e | e <;> subst e <;> simp at hQ ⊢ <;> exact hQ
theorem x_partAt (h : CR A D nn V g) {j i : Nat} (hj : j < nn) (hi : i < 2 ^ 31) {s : Int32} (es : V (jl j) 0 = s) {Q : Int32 → Prop} (hQ : Q (if s = 8 then V (jl j) 3 + nI i else if i = 0 then V (jl j) 3 else V (jl j) 4)) : w_X5_partAt g (A (jl j)) (nI i) Q := by
  unfold w_X5_partAt b_X5_partAt_31
  refine ⟨h.jk hj, ?_⟩
  rw [h.ji hj, es]
  refine ⟨fun c => ?_, fun c => ⟨fun c2 => ?_, fun c2 => ?_⟩⟩
  · rw [if_pos c] at hQ; exact hQ
  · have : i = 0 := (nI_inj hi (by decide)).mp c2
    rw [if_neg c, if_pos this] at hQ; exact hQ
  · rw [if_neg c, if_neg (fun e => c2 (by rw [e]; rfl))] at hQ; exact hQ
/-- both parts of a pair summed -/
theorem x_sum2 (h : CR A D nn V g) (hs : isS sb cb ub) {j a b : Nat} (hj : j < nn) (ha : a < 30) (hb : b < 30) {s : Int32} (es : V (jl j) 0 = s) (h4 : s = 1 ∨ s = 2 ∨ s = 3 ∨ s = 4) (ea : V (jl j) 3 = nI a) (eb : V (jl j) 4 = nI b) {least : Int32} {Q : Int32 → Prop} (hQ : Q (if nI ((if V (sb + 1) a = -1 then 0 else 1) + (if V (sb + 1) b = -1 then 0 else 1)) < least then -1 else (if V (sb + 1) a = -1 then 0 else V (sb + 1) a) + (if V (sb + 1) b = -1 then 0 else V (sb + 1) b))) : w_X8_sumOfAtLeast g (A sb) (A (jl j)) least Q := by
  have h8 : ¬ s = 8 := by rcases h4 with e | e | e | e <;> subst e <;> decide
  refine x_sumAL h hs (P := 2) (pp := fun i => if i = 0 then a else b) hj (by omega) (fun i hi => by split <;> omega) (fun Q2 hQ2 => x_partCount h hj es (by rw [if_pos h4]; exact hQ2) (by rcases h4 with e | e | e | e <;> simp [e])) (fun i hi Q2 hQ2 => x_partAt h hj (by omega) es ?_) ?_
  · rw [if_neg h8]
    by_cases c : i = 0
    · rw [if_pos c, ea]; rw [if_pos c] at hQ2; exact hQ2
    · rw [if_neg c, eb]; rw [if_neg c] at hQ2; exact hQ2
  · have e1 : cnt (fun i => !decide (V (sb + 1) (if i = 0 then a else b) = -1)) 2 = (if V (sb + 1) a = -1 then 0 else 1) + (if V (sb + 1) b = -1 then 0 else 1) := by
      simp only [cnt]
      by_cases c1 : V (sb + 1) a = -1 <;> by_cases c2 : V (sb + 1) b = -1 <;> simp [c1, c2]
    have e2 : isum (fun i => if V (sb + 1) (if i = 0 then a else b) = -1 then 0 else V (sb + 1) (if i = 0 then a else b)) 2 = (if V (sb + 1) a = -1 then 0 else V (sb + 1) a) + (if V (sb + 1) b = -1 then 0 else V (sb + 1) b) := by
      simp [isum, Int32.zero_add]
    rw [e1, e2]; exact hQ
theorem x_nearValue (h : CR A D nn V g) (hs : isS sb cb ub) (hub : V sb 3 = bI ub) (e14 : V 14 2 = nI nn) (hnr : ∀ j, j < nn → gR g (A 15) j = some (A (jl j))) (hG : GI σ n bf nn nr ns) (hGρ : GI ρ n bf nn nr ns) (hρ : rhoF σ ρ ub) (hl : vLex V σ) {d : Nat} (hd : d < D) (hd6 : d < 60) (hv : ∀ f, f < 3 → vRow V σ d f) (hvn : ∀ j, j < nn → vNode V σ j) {j a b c ta tb : Nat} (hj : j < nn) (ha : a < j) (hb : b < j) (es : σ 17 j = 4) (e18 : σ 18 j = nI a) (e19 : σ 19 j = nI b) (e20 : σ 20 j = nI c) (hc : c < 11) (ho : σ 21 j = 0 ∨ σ 21 j = 1) (hsa : σ 17 a = 0) (hsb : σ 17 b = 0) (eta : σ 18 a = nI ta) (etb : σ 18 b = nI tb) (hta : ta < 200) (htb : tb < 200) (hTa : okS (V (sb + 1) a)) (hTb : okS (V (sb + 1) b)) (hna : V (sb + 1) a = -1 → tsIs ρ d (nI ta) (σ 19 a) = false) (hnb : V (sb + 1) b = -1 → tsIs ρ d (nI tb) (σ 19 b) = false) {Q : Int32 → Prop} (hQ : Q (if nearF ρ d (nI ta) (nI tb) (σ 19 a) (σ 19 b) (nI c) (σ 21 j) 3 = 0 then -1 else V (sb + 1) a + V (sb + 1) b + 100 * nearF ρ d (nI ta) (nI tb) (σ 19 a) (σ 19 b) (nI c) (σ 21 j) 3)) : w_X8_nearValue g (A sb) (A (jl j)) (some (A (dl d 0))) Q := by
  have hnn := h.nn3
  obtain ⟨s1, s2, s3, s4, s5, s6, s7, s8, s9⟩ := h.s0 hs
  obtain ⟨n0, n1, n2, n3, _⟩ := hvn j hj
  obtain ⟨v3, v4⟩ := n2 (Or.inr (Or.inr (Or.inr es)))
  obtain ⟨v5, v6⟩ := n3 es
  obtain ⟨a0, a1, _⟩ := hvn a (by omega)
  obtain ⟨b0, b1, _⟩ := hvn b (by omega)
  obtain ⟨a2, a3⟩ := a1 hsa
  obtain ⟨b2, b3⟩ := b1 hsb
  unfold w_X8_nearValue b_X8_nearValue_48
  refine ⟨s1, _, s3, h.jk hj, h.k14, ?_⟩
  rw [h.ji hj, v3, v4, e18, e19]
  refine x_nodeAt h e14 hnr (show a < nn by omega) ⟨_, s3, h.k14, x_nodeAt h e14 hnr (show b < nn by omega) ?_⟩
  have near0 : ∀ (w t : Nat) (tt : Int32) (bb : Int32), (∀ f, f < 3 → ∀ p, p < lnF ρ d f → fbit bb (nI f) ≠ 0 → lkB ρ tt (tmF ρ d f p) = true → False) → True := fun _ _ _ _ _ => trivial
  -- where nothing is near
  have zero : (V (sb + 1) a = -1 ∨ V (sb + 1) b = -1) → nearF ρ d (nI ta) (nI tb) (σ 19 a) (σ 19 b) (nI c) (σ 21 j) 3 = 0 := by
    intro hz
    unfold nearF
    refine isum_zero (fun f hf => ?_)
    by_cases cf : fbit (σ 19 a) (nI f) = 0 ∨ fbit (σ 19 b) (nI f) = 0
    · rw [if_pos cf]
    · rw [if_neg cf]
      cases en : nearIn ρ d f (nI ta) (nI tb) (nI c) (σ 21 j)
      · rfl
      · exfalso
        unfold nearIn at en
        obtain ⟨p, hp, ep⟩ := orB_iff.mp en
        obtain ⟨q, hq, eq⟩ := orB_iff.mp ep
        rw [Bool.and_eq_true, Bool.and_eq_true] at eq
        rcases hz with hz | hz
        · have := hna hz
          unfold tsIs at this
          have t : orB (fun f => !decide (fbit (σ 19 a) (nI f) = 0) && orB (fun k => lkB ρ (nI ta) (tmF ρ d f k)) (lnF ρ d f)) 3 = true := orB_iff.mpr ⟨f, hf, by rw [decide_eq_false (fun e => cf (Or.inl e)), orB_iff.mpr ⟨p, hp, eq.2.1⟩]; rfl⟩
          rw [this] at t; exact absurd t (by decide)
        · have := hnb hz
          unfold tsIs at this
          have t : orB (fun f => !decide (fbit (σ 19 b) (nI f) = 0) && orB (fun k => lkB ρ (nI tb) (tmF ρ d f k)) (lnF ρ d f)) 3 = true := orB_iff.mpr ⟨f, hf, by rw [decide_eq_false (fun e => cf (Or.inr e)), orB_iff.mpr ⟨q, hq, eq.2.2⟩]; rfl⟩
          rw [this] at t; exact absurd t (by decide)
  refine x_sum2 h hs hj (show a < 30 by omega) (show b < 30 by omega) (n0.trans es) (Or.inr (Or.inr (Or.inr rfl))) (v3.trans e18) (v4.trans e19) ?_
  refine ⟨fun q => absurd q (by simp), fun y1 hy1 => ⟨fun q => absurd q (by simp), fun y2 hy2 => ?_⟩⟩
  have hy1' : y1 = A (jl a) := (Option.some.inj hy1).symm
  have hy2' : y2 = A (jl b) := (Option.some.inj hy2).symm
  subst hy1'; subst hy2'
  by_cases ca : V (sb + 1) a = -1
  · have lt2 : nI ((if V (sb + 1) a = -1 then 0 else 1) + (if V (sb + 1) b = -1 then 0 else 1)) < 2 := by
      rw [if_pos ca]; split <;> decide
    rw [if_pos lt2]
    rw [zero (Or.inl ca), if_pos rfl] at hQ
    exact ⟨fun _ => hQ, fun q => absurd rfl q⟩
  · by_cases cb' : V (sb + 1) b = -1
    · have lt2 : nI ((if V (sb + 1) a = -1 then 0 else 1) + (if V (sb + 1) b = -1 then 0 else 1)) < 2 := by
        rw [if_pos cb']; split <;> decide
      rw [if_pos lt2]
      rw [zero (Or.inr cb'), if_pos rfl] at hQ
      exact ⟨fun _ => hQ, fun q => absurd rfl q⟩
    · rw [if_neg ca, if_neg cb', if_neg ca, if_neg cb', if_neg (by decide)]
      obtain ⟨x, hx, ex⟩ := hTa.resolve_left ca
      obtain ⟨y, hy, ey⟩ := hTb.resolve_left cb'
      have hsum : ¬ V (sb + 1) a + V (sb + 1) b = -1 := by rw [ex, ey, nI_add]; exact nI_nm1 (by omega)
      refine ⟨fun q => absurd q hsum, fun _ => ?_⟩
      refine lpx2_s 3 (fun f => nearF ρ d (nI ta) (nI tb) (σ 19 a) (σ 19 b) (nI c) (σ 21 j) f) (fun f => nI f) rfl rfl (fun f hf K hK => ?_) (fun K => ?_)
      · unfold l_X8_nearValue_56 b_X8_nearValue_93 b_X8_nearValue_94 b_X8_nearValue_128
        unfold nearF at hK
        rw [isum] at hK
        refine ⟨fun c => absurd c (nI_ge hf (by decide)), fun _ => ⟨_, rfl, h.d0k hd, x_rowOf h hd hf ⟨h.jk (by omega), x_isFor h (by omega) hf a3 ⟨fun c1 => ⟨fun q => absurd q (by simp), fun y hy => ⟨fun _ => ?_, fun q => absurd rfl q⟩⟩, fun c1 => ⟨h.jk (by omega), x_isFor h (by omega) hf b3 ⟨fun c2 => ⟨fun q => absurd q (by simp), fun y hy => ⟨fun _ => ?_, fun q => absurd rfl q⟩⟩, fun c2 => ⟨fun q => absurd q (by simp), fun y hy => ⟨fun q => absurd q (by decide), fun _ => ⟨h.jk (by omega), h.jk (by omega), s1, ?_⟩⟩⟩⟩⟩⟩⟩⟩⟩
        · have c' : fbit (σ 19 a) (nI f) = 0 := by have := bI_0.mp c1; simpa using this
          rw [if_pos (Or.inl c')] at hK
          rw [nI_1]; unfold nearF; simpa [Int32.add_zero] using hK
        · have c' : fbit (σ 19 b) (nI f) = 0 := by have := bI_0.mp c2; simpa using this
          rw [if_pos (Or.inr c')] at hK
          rw [nI_1]; unfold nearF; simpa [Int32.add_zero] using hK
        · have c1' : ¬ fbit (σ 19 a) (nI f) = 0 := by have := bI_n0 c1; simpa using this
          have c2' : ¬ fbit (σ 19 b) (nI f) = 0 := by have := bI_n0 c2; simpa using this
          rw [if_neg (nor2 c1' c2')] at hK
          have hy' : y = A (dl d (2 + f)) := (Option.some.inj hy).symm
          subst hy'
          rw [h.ji (by omega), h.ji (by omega), a2, b2, eta, etb]
          refine x_isNearIn h hs hub hG hρ hl hd hd6 hf (hv f hf) hj hc ho (v5.trans e20) v6 hta htb ⟨fun c4 => ?_, fun c4 => ?_⟩
          · rw [bI_0.mp c4] at hK
            rw [nI_1]; unfold nearF; simpa [Int32.add_zero, bI] using hK
          · rw [bI_n0 c4] at hK
            rw [nI_1]; unfold nearF; simpa [bI] using hK
      · unfold l_X8_nearValue_56 b_X8_nearValue_151
        refine ⟨fun _ => ⟨fun c => ?_, fun c => ?_⟩, fun c => absurd (by decide) c⟩
        · rw [if_pos c] at hQ; exact hQ
        · rw [if_neg c] at hQ; exact hQ
end CVALUE
