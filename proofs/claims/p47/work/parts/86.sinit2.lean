/-! THE SHELF IS MADE: the method -/
section SINIT2
variable {A : Nat → Nat} {U : Nat × (Nat → Int32)} {S : Nat → Bool} {T : Nat → Nat → Option Nat} {V σ : Rows} {g g' m0 gm : gS} {p0 q b mA k n : Nat} {R0 : Nat → Option Nat}
theorem pb_any {K N : Nat → Nat} {k q : Nat} (hk : K 0 = k) (hN : N 0 = 0) (h0 : k ≠ 0) : PB K N (fun _ => q) (fun x => decide (x = 0)) (fun _ _ => none) (fun _ _ => 0) (sNew g q k 0) := by
  refine ⟨fun l hl => ?_, fun l u hl hu _ => ?_, fun l i u h => (by cases h), fun l i hl _ => ?_⟩
  · have e : l = 0 := of_decide_eq_true hl
    subst e
    rw [gK_new, gN_new, gI_new, hk, hN]
    exact ⟨rfl, rfl, rfl, h0⟩
  · rw [of_decide_eq_true hl, of_decide_eq_true hu]
  · show gR (sNew g q k 0) q i = none
    rw [gR_new]
theorem SKd0 {l : Nat} (h : SKd 0 l ≠ 0) (h0 : l ≠ 0) : (1 ≤ l ∧ l ≤ 8) ∨ (10 ≤ l ∧ l < 50) ∨ (60 ≤ l ∧ l < 180) := by
  unfold SKd at h
  rw [if_neg h0] at h
  by_cases c1 : l ≤ 8
  · exact Or.inl ⟨by omega, c1⟩
  · rw [if_neg (by omega), if_neg (by omega), if_neg (by omega), if_neg (by omega)] at h
    by_cases c2 : 10 ≤ l ∧ l < 50
    · exact Or.inr (Or.inl c2)
    · rw [if_neg c2] at h
      by_cases c3 : 60 ≤ l ∧ l < 180
      · exact Or.inr (Or.inr c3)
      · rw [if_neg c3, if_neg (by omega)] at h
        exact absurd rfl h
theorem PZ.sa (h : PZ p0 A S T V R0 g) (hS : ∀ l, ((1 ≤ l ∧ l ≤ 8) ∨ (10 ≤ l ∧ l < 50) ∨ (60 ≤ l ∧ l < 180)) → S l = true) (hT1 : ∀ d, d < 40 → T 1 d = some (10 + d)) (hT2 : ∀ d f, d < 40 → f < 3 → T (10 + d) f = some (60 + 3 * d + f)) (h4 : ∀ d, V 4 d = 0) (h5 : ∀ d, V 5 d = 0) (h8 : V 8 = fun _ => 0)
    (hR : R0 0 = some mA ∧ R0 1 = some b ∧ R0 4 = some (A 1) ∧ R0 5 = some (A 2) ∧ R0 6 = some (A 3) ∧ R0 7 = some (A 4) ∧ R0 8 = some (A 5) ∧ R0 12 = some (A 6) ∧ R0 14 = some (A 7)) : SA (fun l => if l = 0 then p0 else A l) mA b 0 (12, fun _ => 0) V0m 0 0 0 0 (whF V0m 0) g := by
  obtain ⟨⟨b1, b2, b3, b4⟩, h2, h3, hi, h6⟩ := h
  have hS' : ∀ l, SKd 0 l ≠ 0 → l ≠ 0 → S l = true := fun l hl h0 => hS l (SKd0 hl h0)
  have K : ∀ l, S l = true → gK g (A l) = shK l ∧ gN g (A l) = sNn l ∧ gI g (A l) = V l := fun l hl => ⟨(b1 l hl).1, (b1 l hl).2.1, (b1 l hl).2.2.1⟩
  have e : ∀ l, l ≠ 0 → (fun l => if l = 0 then p0 else A l) l = A l := fun l hl => if_neg hl
  refine ⟨⟨fun l hl => ?_, fun l u hl hu z => ?_⟩, ⟨?_, fun d hd => ?_, fun d f hd hf => ?_, fun k hk => absurd hk (Nat.not_lt_zero k)⟩, ⟨?_, fun d hd => ?_⟩, ⟨⟨hi 2, hi 3, hi 13⟩, fun d hd => absurd hd (Nat.not_lt_zero d), fun d hd => ?_, fun d hd => ?_, fun d f _ hd hf => ?_, fun k hk => absurd hk (Nat.not_lt_zero k)⟩, by decide, by decide, by decide, (K 8 (hS 8 (by omega))).2.1, (K 8 (hS 8 (by omega))).2.2.trans h8⟩
  · by_cases c : l = 0
    · subst c; exact h2
    · show gK g (if l = 0 then p0 else A l) = _
      rw [if_neg c, (K l (hS' l hl c)).1]
      unfold shK
      have := SKd0 hl c
      rw [if_neg (by omega), if_neg (by omega)]
  · have z : (if l = 0 then p0 else A l) = (if u = 0 then p0 else A u) := z
    by_cases c : l = 0 <;> by_cases c2 : u = 0
    · rw [c, c2]
    · rw [if_pos c, if_neg c2] at z; exact absurd z.symm (h6 u (hS' u hu c2))
    · rw [if_neg c, if_pos c2] at z; exact absurd z (h6 l (hS' l hl c))
    · rw [if_neg c, if_neg c2] at z; exact b2 l u (hS' l hl c) (hS' u hu c2) z
  · show gR g p0 0 = some mA ∧ gR g p0 1 = some b ∧ gR g p0 4 = some (A 1) ∧ gR g p0 5 = some (A 2) ∧ gR g p0 6 = some (A 3) ∧ gR g p0 7 = some (A 4) ∧ gR g p0 8 = some (A 5) ∧ gR g p0 12 = some (A 6) ∧ gR g p0 14 = some (A 7)
    rw [h3, h3, h3, h3, h3, h3, h3, h3, h3]
    exact hR
  · show gR g (A 1) d = some (if 10 + d = 0 then p0 else A (10 + d))
    rw [if_neg (by omega)]
    exact (b3 1 d (10 + d) (hT1 d hd)).2.2
  · show gR g (if 10 + d = 0 then p0 else A (10 + d)) f = some (if 60 + 3 * d + f = 0 then p0 else A (60 + 3 * d + f))
    rw [if_neg (by omega), if_neg (by omega)]
    exact (b3 (10 + d) f (60 + 3 * d + f) (hT2 d f hd hf)).2.2
  · exact ⟨(K 1 (hS 1 (by omega))).2.1, (K 2 (hS 2 (by omega))).2.1, (K 3 (hS 3 (by omega))).2.1, (K 4 (hS 4 (by omega))).2.1, (K 5 (hS 5 (by omega))).2.1, (K 6 (hS 6 (by omega))).2.1, (K 7 (hS 7 (by omega))).2.1⟩
  · show gN g (if 10 + d = 0 then p0 else A (10 + d)) = 3
    rw [if_neg (by omega), (K (10 + d) (hS _ (by omega))).2.1]
    unfold sNn
    rw [if_neg (by omega), if_neg (by omega), if_neg (by omega), if_neg (by omega), if_pos (by omega)]
  · show gI g (A 4) d = V0m 5 d
    rw [(K 4 (hS 4 (by omega))).2.2, h4]; rfl
  · show gI g (A 5) d = whF V0m 0 d
    rw [(K 5 (hS 5 (by omega))).2.2, h5]
    unfold whF
    rw [if_pos (Nat.zero_le d)]
  · show gN g (if 60 + 3 * d + f = 0 then p0 else A (60 + 3 * d + f)) = 0
    rw [if_neg (by omega), (K (60 + 3 * d + f) (hS _ (by omega))).2.1]
    unfold sNn
    rw [if_neg (by omega), if_neg (by omega), if_neg (by omega), if_neg (by omega), if_neg (by omega)]
/-- the method -/
theorem x_sinit {L dr0 : Nat} {xs : Nat → Int32} (k0 : gK g p0 = 12) (hI : ∀ i, gI g p0 i = 0) (hdr : dr0 < 2 ^ 24) {Q : gS → gS → Prop} (hQ : ∀ A g' mA m' U, A 0 = p0 → SA A mA b 0 U V0m 0 0 0 dr0 (whF V0m 0) g' → EE mA V0m 0 0 0 0 0 m' → Q g' m') : w_X11_init g gm p0 (nI dr0) b L xs 500 16000 Q := by
  unfold w_X11_init
  refine ⟨⟨by decide, by decide⟩, fun q9 hq9 _ m13 e13 => ⟨⟨by decide, by decide⟩, ?_⟩⟩
  subst e13
  refine x_init (pb_any rfl rfl (by decide)) (fun Ae Se Te m18 z1 z2 z3 z4 z5 z6 z7 => ?_)
  have hE : EE q9 V0m 0 0 0 0 0 m18 := ⟨Ae, 0, V0c, z2, x_start z1 z3 z5 z6⟩
  have P0 : PZ p0 (fun _ => 0) (fun _ => false) (fun _ _ => none) (fun _ _ => 0) (fun i => gR g p0 i) g := ⟨⟨fun l hl => (by cases hl), fun l u hl => (by cases hl), fun l i u h => (by cases h), fun l i hl => (by cases hl)⟩, k0, fun _ => rfl, hI, fun l hl => (by cases hl)⟩
  refine ⟨P0.kk, fun g20 e20 => ?_⟩
  have P1 := P0.fld e20
  refine ⟨⟨by decide, by decide⟩, fun q22 hq22 g25 e25 => ?_⟩
  have P2 := P1.cube e25 (fun a ha => (hq22 a ha).1) (fun _ => rfl) (fun _ _ => rfl) (fun _ => rfl)
  have cT : ∀ l, l ≠ 1 → ¬ (10 ≤ l ∧ l < 50) → ∀ i, cuT (fun _ _ => none) l i = none := fun l h1 h2 i => by
    unfold cuT
    rw [if_neg (fun z => h1 z.1), if_neg (fun z => h2 ⟨z.1, z.2.1⟩)]
  refine ⟨P2.kk, fun g28 e28 => ?_⟩
  have P3 := P2.fld e28
  refine ⟨⟨by decide, by decide⟩, fun q30 hq30 g34 e34 => ?_⟩
  have P4 := P3.new 2 e34 hq30 rfl rfl (by decide) (by decide) (cT 2 (by decide) (by decide)) rfl
  refine ⟨P4.kk, fun g37 e37 => ?_⟩
  have P5 := P4.fld e37
  refine ⟨⟨by decide, by decide⟩, fun q39 hq39 g43 e43 => ?_⟩
  have P6 := P5.new 3 e43 hq39 rfl rfl (by decide) (by decide) (cT 3 (by decide) (by decide)) rfl
  refine ⟨P6.kk, fun g46 e46 => ?_⟩
  have P7 := P6.fld e46
  refine ⟨⟨by decide, by decide⟩, fun q48 hq48 g52 e52 => ?_⟩
  have P8 := P7.new 4 e52 hq48 rfl rfl (by decide) (by decide) (cT 4 (by decide) (by decide)) rfl
  refine ⟨P8.kk, fun g55 e55 => ?_⟩
  have P9 := P8.fld e55
  refine ⟨⟨by decide, by decide⟩, fun q57 hq57 g61 e61 => ?_⟩
  have P10 := P9.new 5 e61 hq57 rfl rfl (by decide) (by decide) (cT 5 (by decide) (by decide)) rfl
  refine ⟨P10.kk, fun g64 e64 => ?_⟩
  have P11 := P10.fld e64
  refine ⟨⟨by decide, by decide⟩, fun q66 hq66 g70 e70 => ?_⟩
  have P12 := P11.new 191 e70 hq66 rfl rfl (by decide) (by decide) (cT 191 (by decide) (by decide)) rfl
  refine ⟨P12.kk, fun g73 e73 => ?_⟩
  have P13 := P12.fld e73
  refine ⟨⟨by decide, by decide⟩, fun q75 hq75 g79 e79 => ?_⟩
  have P14 := P13.new 8 e79 hq75 rfl rfl (by decide) (by decide) (cT 8 (by decide) (by decide)) rfl
  refine ⟨P14.kk, fun g82 e82 => ?_⟩
  have P15 := P14.fld e82
  refine ⟨⟨by decide, by decide⟩, fun q84 hq84 g88 e88 => ?_⟩
  have P16 := P15.new 190 e88 hq84 rfl rfl (by decide) (by decide) (cT 190 (by decide) (by decide)) rfl
  have s190 := P16.1.1 190 (by decide)
  have e190 : shK 190 = 21 := rfl
  have n190 : sNn 190 = 3 := rfl
  have w190 := va_up_self (f := va_up (va_up (va_up (va_up (va_up (va_up (cuA (fun _ => 0) q22) 2 q30) 3 q39) 4 q48) 5 q57) 191 q66) 8 q75) 190 q84
  refine ⟨by have := s190.1; rw [w190, e190] at this; exact this, by have := s190.2.1; rw [w190, n190] at this; rw [this]; exact vp_in_nI (n := 0) (by decide) (by decide), fun g92 e92 => ?_⟩
  have P17 := P16.w 190 e92 w190 (by decide)
  have t190 := P17.1.1 190 (by decide)
  refine ⟨by have := t190.1; rw [w190, e190] at this; exact this, by have := t190.2.1; rw [w190, n190] at this; rw [this]; exact vp_in_nI (n := 1) (by decide) (by decide), fun g96 e96 => ?_⟩
  have P18 := P17.w 190 e96 w190 (by decide)
  have u190 := P18.1.1 190 (by decide)
  refine ⟨by have := u190.1; rw [w190, e190] at this; exact this, by have := u190.2.1; rw [w190, n190] at this; rw [this]; exact vp_in_nI (n := 2) (by decide) (by decide), fun g100 e100 => ?_⟩
  have P19 := P18.w 190 e100 w190 (by decide)
  refine ⟨P19.kk, fun g103 e103 => ?_⟩
  have P20 := P19.fld e103
  refine ⟨⟨by decide, by decide⟩, fun q105 hq105 g109 e109 => ?_⟩
  have P21 := P20.new 6 e109 hq105 rfl rfl (by decide) (by decide) (cT 6 (by decide) (by decide)) rfl
  refine ⟨P21.kk, fun g112 e112 => ?_⟩
  have P22 := P21.fld e112
  refine ⟨⟨by decide, by decide⟩, fun q114 hq114 g118 e118 => ?_⟩
  have P23 := P22.new 7 e118 hq114 rfl rfl (by decide) (by decide) (cT 7 (by decide) (by decide)) rfl
  refine ⟨P23.kk, fun g121 e121 => ?_⟩
  have P24 := P23.fld e121
  refine ⟨P24.kk, fun g124 e124 => ?_⟩
  have P25 := P24.fld e124
  refine ⟨P25.kk, fun g127 e127 => ?_⟩
  have hA := P25.sa (mA := q9) (b := b) (fun l hl => by
    rcases hl with z | z | z
    · rcases (show l = 1 ∨ l = 2 ∨ l = 3 ∨ l = 4 ∨ l = 5 ∨ l = 6 ∨ l = 7 ∨ l = 8 by omega) with w | w | w | w | w | w | w | w <;> subst w <;> decide
    · have c : cuB l = true := cuB_iff.mpr (by omega)
      simp [c]
    · have c : cuB l = true := cuB_iff.mpr (by omega)
      simp [c]) (fun d hd => by unfold cuT; rw [if_pos ⟨rfl, hd⟩]) (fun d f hd hf => by unfold cuT; rw [if_neg (by omega), if_pos (by omega), show 10 + d - 10 = d by omega]) (fun _ => rfl) (fun _ => rfl) rfl ⟨rfl, rfl, rfl, rfl, rfl, rfl, rfl, rfl, rfl⟩
  have r10 : gR g124 p0 10 = some q75 := P25.2.2.1 10
  generalize hAA : (fun l => if l = 0 then p0 else va_up (va_up (va_up (va_up (va_up (va_up (va_up (va_up (va_up (cuA (fun _ => 0) q22) 2 q30) 3 q39) 4 q48) 5 q57) 191 q66) 8 q75) 190 q84) 6 q105) 7 q114 l) = AA at hA
  have a0 : AA 0 = p0 := by rw [← hAA]; rfl
  have a8 : AA 8 = q75 := by rw [← hAA]; rfl
  have hB : SA AA q9 b 0 (12, fun _ => 0) V0m 0 0 0 dr0 (whF V0m 0) g127 := by
    rw [e127, ← a0]
    exact hA.draws hdr
  have r10' : gR g127 (AA 0) 10 = some (AA 8) := by rw [a0, a8, e127]; exact r10
  refine lpx2_i 12 (fun k g i => i = nI k ∧ ∃ U : Nat × (Nat → Int32), SA AA q9 b 0 U V0m 0 0 0 dr0 (whF V0m 0) g ∧ U.1 = 12 ∧ gR g (AA 0) 10 = some (AA 8)) (fun k g1 i1 hk hI K hK => ?_) (fun g1 i1 hI K => ?_) _ _ ⟨rfl, _, hB, rfl, r10'⟩
  · obtain ⟨rfl, U, h1, h2, h3⟩ := hI
    have q8 : SKd 0 8 ≠ 0 := k1 (by decide)
    unfold l_X11_init_123
    refine ⟨fun c => ?_, fun _ => ⟨by rw [← a0]; exact h1.f.1, AA 8, by rw [← a0]; exact h3, h1.1.1 8 q8, by rw [h1.2.2.2.2.2.2.2.1, h2]; exact vp_in_nI hk (by decide), fun g7 e7 => ?_⟩⟩
    · have := (nI_le_iff (a := 12) (show 12 < 2 ^ 31 by decide) (show k < 2 ^ 31 by omega)).mp c
      omega
    · rw [nI_1]
      rw [cl_nI (show k < 2 ^ 31 by omega)] at e7
      subst e7
      exact hK _ _ ⟨rfl, _, h1.own8, h2, h3⟩
  · obtain ⟨rfl, U, h1, h2, h3⟩ := hI
    unfold l_X11_init_123
    exact ⟨fun _ => hQ AA _ q9 _ U a0 h1 hE, fun c => absurd (Int32.le_refl _) c⟩
end SINIT2
