/-! THE CLASS: term nodes -/
theorem cnt_ex {p : Nat → Bool} : ∀ {n : Nat}, 0 < cnt p n → ∃ k, k < n ∧ p k = true
  | 0, h => absurd h (Nat.lt_irrefl 0)
  | n + 1, h => by
    rw [cnt] at h
    by_cases c : p n = true
    · exact ⟨n, by omega, c⟩
    · rw [if_neg c] at h
      obtain ⟨k, hk, e⟩ := cnt_ex (p := p) (n := n) (by omega)
      exact ⟨k, by omega, e⟩
section CTERM
variable {A : Nat → Nat} {D : Nat} {V σ ρ : Rows} {n bf nn nr ns cb sb : Nat} {ub : Bool} {g : gS}
theorem cO_pos {d f : Nat} {x : Int32} (hx : isO x) : 0 < cO ρ d f x ↔ ∃ a, a < 200 ∧ x = nI a ∧ ρ 10 a = 0 ∧ ∃ k, k < lnF ρ d f ∧ tmF ρ d f k = nI a := by
  rcases hx with e | ⟨a, ha, e⟩
  · subst e
    unfold cO; rw [if_pos rfl]
    exact ⟨fun h => absurd h (Nat.lt_irrefl 0), fun ⟨a, ha, e, _⟩ => absurd e.symm (nI_nm1 (by omega))⟩
  · subst e
    rw [cO_nI ha]
    unfold ctN
    constructor
    · intro h
      by_cases c : ρ 10 a = 0
      · rw [if_pos c] at h
        obtain ⟨k, hk, ek⟩ := cnt_ex h
        exact ⟨a, ha, rfl, c, k, hk, of_decide_eq_true ek⟩
      · rw [if_neg c] at h; omega
    · rintro ⟨a', ha', e, c, k, hk, ek⟩
      have : a' = a := ((nI_inj (by omega) (by omega)).mp e).symm
      subst this
      rw [if_pos c]
      exact cnt_pos hk (decide_eq_true ek)
theorem lk_ct (hG : GI ρ n bf nn nr ns) {d f a : Nat} (hd : d < 60) (hf : f < 3) (ha : a < 200) (hal : isO (ρ 11 a)) : orB (fun k => lkB ρ (nI a) (tmF ρ d f k)) (lnF ρ d f) = (decide (0 < cO ρ d f (nI a)) || decide (0 < cO ρ d f (ρ 11 a))) := by
  rw [Bool.eq_iff_iff, orB_iff, Bool.or_eq_true, decide_eq_true_eq, decide_eq_true_eq, cO_pos (Or.inr ⟨a, ha, rfl⟩), cO_pos hal]
  constructor
  · rintro ⟨k, hk, e⟩
    unfold lkB at e
    obtain ⟨u, hu, eu⟩ := hG.tm hd hf hk
    rw [eu, cl_nI (show u < 2 ^ 31 by omega), cl_nI (show a < 2 ^ 31 by omega)] at e
    obtain ⟨e1, e2⟩ := of_decide_eq_true e
    rcases e2 with e2 | e2
    · have : a = u := (nI_inj (by omega) (by omega)).mp e2
      subst this
      exact Or.inl ⟨a, ha, rfl, e1, k, hk, eu⟩
    · exact Or.inr ⟨u, hu, e2, e1, k, hk, eu⟩
  · rintro (⟨b, hb, e, c, k, hk, ek⟩ | ⟨b, hb, e, c, k, hk, ek⟩)
    · refine ⟨k, hk, decide_eq_true ?_⟩
      rw [ek, cl_nI (show b < 2 ^ 31 by omega)]; exact ⟨c, Or.inl e⟩
    · refine ⟨k, hk, decide_eq_true ?_⟩
      rw [ek, cl_nI (show b < 2 ^ 31 by omega), cl_nI (show a < 2 ^ 31 by omega)]; exact ⟨c, Or.inr e⟩
/-- the value of a term node before it is held down -/
def tvF (ρ : Rows) (n d a : Nat) (b : Int32) : Int32 := if tsIs ρ d (nI a) b = false then -1 else tsSum ρ n d a b 3
theorem x_termValue (h : CR A D nn V g) (hs : isS sb cb ub) (hub : V sb 3 = bI ub) (hG : GI σ n bf nn nr ns) (hGρ : GI ρ n bf nn nr ns) (hρ : rhoF σ ρ ub) (hc : vCen V cb ρ n) (hl : vLex V σ) {d : Nat} (hd : d < n) (hdD : d < D) (h6 : ρ 6 d ≠ 0) (hv : ∀ f, f < 3 → vRow V σ d f) {j a : Nat} {b : Int32} (hj : j < nn) (ha : a < 200) (e1 : V (jl j) 1 = nI a) (e2 : V (jl j) 2 = b) {Q : Int32 → Prop} (hQ : Q (tvF ρ n d a b)) : w_X8_termValue g (A sb) (A (jl j)) (some (A (dl d 0))) Q := by
  have hn := hG.n
  obtain ⟨s1, s2, s3, s4, s5, s6, s7⟩ := h.s0 hs
  have hO : isO (ρ 11 a) := by
    rcases hGρ.al ha with e | ⟨c, hc', e⟩
    · exact Or.inl e
    · exact Or.inr ⟨c, hc', e⟩
  have hOa : isO (nI a) := Or.inr ⟨a, ha, rfl⟩
  have e10 : ρ 10 = σ 10 := hρ.1 10 (by decide) (by decide)
  have eown : (if σ 10 a = 0 then nI a else -1) = oF ρ (nI a) := by rw [oF_nI ha, e10]
  -- the loop over the fields
  have loop : b_X8_termValue_41 g (A sb) (A (jl j)) (some (A (dl d 0))) (oF ρ (nI a)) (oF ρ (ρ 11 a)) Q := by
    unfold b_X8_termValue_41
    have eis : ∀ k, k ≤ 3 → orB (fun f => !decide (fbit b (nI f) = 0) && orB (fun k => lkB ρ (nI a) (tmF ρ d f k)) (lnF ρ d f)) k = orB (fun f => !decide (fbit b (nI f) = 0) && (decide (0 < cO ρ d f (nI a)) || decide (0 < cO ρ d f (ρ 11 a)))) k := by
      intro k hk
      induction k with
      | zero => rfl
      | succ k ih => rw [orB, orB, ih (by omega), lk_ct hGρ (by omega) (by omega) ha hO]
    refine lpx3_s 3 (fun k => bI (orB (fun f => !decide (fbit b (nI f) = 0) && (decide (0 < cO ρ d f (nI a)) || decide (0 < cO ρ d f (ρ 11 a)))) k)) (fun k => tsSum ρ n d a b k) (fun k => nI k) rfl rfl rfl (fun f hf K hK => ?_) (fun K => ?_)
    · unfold l_X8_termValue_52 b_X8_termValue_157
      rw [orB] at hK
      unfold tsSum at hK
      rw [isum] at hK
      generalize orB (fun f => !decide (fbit b (nI f) = 0) && (decide (0 < cO ρ d f (nI a)) || decide (0 < cO ρ d f (ρ 11 a)))) f = X at hK ⊢
      refine ⟨fun c => absurd c (nI_ge hf (by decide)), fun _ => ⟨_, rfl, h.d0k hdD, x_rowOf h hdD hf ⟨fun c => absurd c (by simp), fun y hy => ?_⟩⟩⟩
      have hy' : y = A (dl d (2 + f)) := (Option.some.inj hy).symm
      subst hy'
      refine ⟨h.jk hj, x_isFor h hj hf e2 ⟨fun c => ?_, fun c => ⟨h.tk hdD hf, ?_⟩⟩⟩
      · have c' : fbit b (nI f) = 0 := by have := bI_0.mp c; simpa using this
        rw [if_pos c', decide_eq_true c'] at hK
        rw [nI_1]; unfold tsSum; simpa [Int32.add_zero] using hK
      · have c' : ¬ fbit b (nI f) = 0 := by have := bI_n0 c; simpa using this
        rw [if_neg c', decide_eq_false c'] at hK
        have l1 := cO_le hG hρ (x := nI a) (show d < 60 by omega) hf
        have l2 := cO_le hG hρ (x := ρ 11 a) (show d < 60 by omega) hf
        have fin : ∀ z : Bool, z = (X || (decide (0 < cO ρ d f (nI a)) || decide (0 < cO ρ d f (ρ 11 a)))) → b_X8_termValue_120 g (A sb) (A (jl j)) (some (A (dl d 0))) (oF ρ (nI a)) (oF ρ (ρ 11 a)) (tsSum ρ n d a b f) (nI f) (A (dl d (2 + f))) (nI (cO ρ d f (nI a))) (nI (cO ρ d f (ρ 11 a))) (bI z) Q K := by
          intro z hz
          unfold b_X8_termValue_120 b_X8_termValue_157
          refine ⟨h.tk hdD hf, s1, ?_⟩
          rw [h.ti hdD hf, (hv f hf).1]
          refine x_taste h hs hG hGρ hρ hc hl hd h6 hf hOa (x_taste h hs hG hGρ hρ hc hl hd h6 hf hO ?_)
          rw [nI_1, hz, tO_nI ha]
          rw [Bool.not_false, Bool.true_and] at hK
          exact hK
        refine x_countO h hG hρ hdD hf (hv f hf) hOa (by omega) (x_countO h hG hρ hdD hf (hv f hf) hO (by omega) ⟨fun c0 => ⟨fun c2 => ?_, fun c2 => ⟨fun c3 => ?_, fun c3 => ?_⟩⟩, fun c0 => ?_⟩)
        · have : 0 < cO ρ d f (nI a) := (nI_lt_iff (show 0 < 2 ^ 31 by decide) (show cO ρ d f (nI a) < 2 ^ 31 by omega)).mp c2
          exact fin true (by rw [decide_eq_true this, Bool.true_or, Bool.or_true])
        · have h1 : ¬ 0 < cO ρ d f (nI a) := fun q => c2 ((nI_lt_iff (show 0 < 2 ^ 31 by decide) (show cO ρ d f (nI a) < 2 ^ 31 by omega)).mpr q)
          have h2 := (nI_le_iff (show cO ρ d f (ρ 11 a) < 2 ^ 31 by omega) (show 0 < 2 ^ 31 by decide)).mp c3
          have h3 : X = false := bI_0.mp c0
          exact fin false (by rw [h3, decide_eq_false h1, decide_eq_false (show ¬ 0 < cO ρ d f (ρ 11 a) by omega)]; rfl)
        · have h2 : 0 < cO ρ d f (ρ 11 a) := by
            rcases Nat.eq_zero_or_pos (cO ρ d f (ρ 11 a)) with e | e
            · exact absurd (by rw [e]; decide) c3
            · exact e
          exact fin true (by rw [decide_eq_true h2, Bool.or_true, Bool.or_true])
        · have h3 : X = true := bI_n0 c0
          exact fin true (by rw [h3, Bool.true_or])
    · unfold l_X8_termValue_52 b_X8_termValue_174
      unfold tvF tsIs at hQ
      rw [eis 3 (Nat.le_refl 3)] at hQ
      refine ⟨fun _ => ⟨fun c => ?_, fun c => ?_⟩, fun c => absurd (by decide) c⟩
      · rw [if_pos (bI_0.mp c)] at hQ; exact hQ
      · rw [if_neg (by rw [bI_n0 c]; decide)] at hQ; exact hQ
  unfold w_X8_termValue
  refine ⟨s1, _, s4, h.jk hj, h.k10, ?_⟩
  rw [h.ji hj, e1, s2, hub]
  refine x_unmuted h hl ha ?_
  rw [eown]
  refine ⟨fun c => ?_, fun c => ⟨_, s4, _, s4, h.k10, x_aliasOf h hl ha ⟨h.k10, ?_⟩⟩⟩
  · have : oF ρ (ρ 11 a) = -1 := by
      rw [hρ.2 a ha, bI_0.mp c]; rfl
    rw [← this]; exact loop
  · have e11 : ρ 11 a = σ 11 a := by rw [hρ.2 a ha, bI_n0 c]; rfl
    rw [e11] at loop
    rcases hG.al ha with e | ⟨b2, hb2, e⟩
    · rw [e] at loop ⊢
      exact x_unmutedNo h loop
    · rw [e] at loop ⊢
      refine x_unmuted h hl hb2 ?_
      rw [oF_nI hb2, e10] at loop
      exact loop
end CTERM
