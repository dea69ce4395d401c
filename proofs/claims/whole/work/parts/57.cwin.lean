/-! THE CLASS: windows, pieces -/
section CWIN
variable {A : Nat → Nat} {D : Nat} {V σ : Rows} {n bf nn nr ns : Nat} {g : gS}
theorem x_isRepeated (h : CR A D nn V g) {d f s q : Nat} (hd : d < D) (hf : f < 3) (hl : lnF σ d f ≤ 12) (e3 : V (dl d (2 + f)) 3 = nI (lnF σ d f)) (vp : ∀ p, p < lnF σ d f → V (dl d (5 + f)) p = tmF σ d f p) (hs : s + q < lnF σ d f) {Q : Int32 → Prop} (hQ : Q (bI (hasB (fun i => tmF σ d f (s + i)) q (tmF σ d f (s + q))))) : w_X6_isRepeated g (A 14) (A (dl d (2 + f))) (nI s) (nI (s + q)) Q := by
  unfold w_X6_isRepeated
  refine lpx1_i q (fun k x => x = nI (s + k) ∧ hasB (fun i => tmF σ d f (s + i)) k (tmF σ d f (s + q)) = false) ?_ ?_ (nI s) ⟨rfl, rfl⟩
  · rintro k _ hk ⟨rfl, hno⟩ K hK
    unfold l_X6_isRepeated_3
    refine ⟨fun c => absurd c (nI_ge (by omega) (by omega)), fun _ => ⟨h.tk hd hf, x_termOn h hd hf hl e3 (vp (s + k) (by omega)) (by omega) (x_termOn h hd hf hl e3 (vp (s + q) hs) hs ⟨fun c => ?_, fun c => ?_⟩)⟩⟩
    · rw [hasB_iff.mpr ⟨k, hk, c⟩] at hQ; exact hQ
    · rw [nI_1]
      exact hK _ ⟨rfl, by rw [hasB, hno, decide_eq_false c]; rfl⟩
  · rintro _ ⟨rfl, hno⟩ K
    unfold l_X6_isRepeated_3
    rw [hno] at hQ
    exact ⟨fun _ => hQ, fun c => absurd (nI_le (Nat.le_refl _) (by omega)) c⟩
theorem x_isSought (h : CR A D nn V g) (hG : GI σ n bf nn nr ns) (hN : NG σ nn) (hv : ∀ j, j < nn → vNode V σ j) (hl : vLex V σ) (e14 : V 14 2 = nI nn) (hnr : ∀ j, j < nn → gR g (A 15) j = some (A (jl j))) {top : Nat} {wn : Bool} (ht : top < nn) (h16 : ∀ x, x < 30 → V 16 x = bI (insF σ wn top (top + 1) x)) {f t : Nat} (hf : f < 3) (ht2 : t < 200) {Q : Int32 → Prop} (hQ : Q (bI (souB σ nn (tnB σ wn top) f (nI t)))) : w_X6_isSought g (A 14) (nI t) (nI f) Q := by
  have hnn := h.nn3
  unfold souB at hQ
  unfold w_X6_isSought
  refine lpx1_i nn (fun k x => x = nI k ∧ orB (fun j => tnB σ wn top j && !decide (fbit (σ 19 j) (nI f) = 0) && lkB σ (σ 18 j) (nI t)) k = false) ?_ ?_ 0 ⟨rfl, rfl⟩
  · rintro j _ hj ⟨rfl, hno⟩ K hK
    unfold l_X6_isSought_2 b_X6_isSought_50
    refine ⟨h.k14, ?_⟩
    rw [h.i14, e14]
    have no : (tnB σ wn top j && !decide (fbit (σ 19 j) (nI f) = 0) && lkB σ (σ 18 j) (nI t)) = false → K (nI j + 1) := by
      intro e
      rw [nI_1]
      exact hK _ ⟨rfl, by rw [orB, hno, e]; rfl⟩
    refine ⟨fun c => absurd c (nI_ge hj (by omega)), fun _ => x_termInside h hv e14 hnr hj (h16 j (by omega)) ?_⟩
    rw [← tnB_eq hN hnn ht j]
    cases e : tnB σ wn top j
    · rw [if_neg (by decide)]
      exact ⟨fun _ => no (by rw [e]; rfl), fun y hy => absurd hy (by simp)⟩
    · rw [if_pos rfl]
      refine ⟨fun q => absurd q (by simp), fun y hy => ?_⟩
      have hy' : y = A (jl j) := (Option.some.inj hy).symm
      subst hy'
      have e0 := tnB_term e
      obtain ⟨a, b, ha, _, _, ea, _⟩ := (hN j hj).term e0
      obtain ⟨v1, v2⟩ := (hv j hj).2.1 e0
      refine ⟨h.jk hj, x_isFor h hj hf v2 ⟨fun c => no ?_, fun c => ⟨_, h.r14_0, h.k10, ?_⟩⟩⟩
      · rw [bI_0.mp c, Bool.and_false, Bool.false_and]
      · rw [h.ji hj, v1, ea]
        refine x_finds (b := true) (ρ := σ) h hl ha ht2 ⟨rfl, fun _ _ => rfl⟩ ⟨fun c2 => no ?_, fun c2 => ?_⟩
        · rw [ea, bI_0.mp c2, Bool.and_false]
        · have : orB (fun j => tnB σ wn top j && !decide (fbit (σ 19 j) (nI f) = 0) && lkB σ (σ 18 j) (nI t)) nn = true := orB_iff.mpr ⟨j, hj, by rw [e, bI_n0 c, ea, bI_n0 c2]; rfl⟩
          rw [this] at hQ; exact hQ
  · rintro _ ⟨rfl, hno⟩ K
    unfold l_X6_isSought_2
    refine ⟨h.k14, ?_⟩
    rw [h.i14, e14]
    rw [hno] at hQ
    exact ⟨fun _ => hQ, fun c => absurd (nI_le (Nat.le_refl _) (by omega)) c⟩
end CWIN
