/-! THE CLASS: windows -/
section CWIN2
variable {A : Nat → Nat} {D : Nat} {V σ : Rows} {n bf nn nr ns : Nat} {g : gS}
theorem x_countSought (h : CR A D nn V g) {d f s M : Nat} {N : Nat → Bool} (hd : d < D) (hf : f < 3) (hl : lnF σ d f ≤ 12) (e3 : V (dl d (2 + f)) 3 = nI (lnF σ d f)) (vp : ∀ p, p < lnF σ d f → V (dl d (5 + f)) p = tmF σ d f p) (h17 : ∀ p, p < lnF σ d f → V 17 p = bI (souB σ nn N f (tmF σ d f p))) (hs : s ≤ M) (hM : M ≤ lnF σ d f) {Q : Int32 → Prop} (hQ : Q (nI (cnt (winB σ nn N d f s) (M - s)))) : w_X6_countSought g (A 14) (A (dl d (2 + f))) (nI s) (nI M) Q := by
  unfold w_X6_countSought
  refine lpx2_s (M - s) (fun k => nI (cnt (winB σ nn N d f s) k)) (fun k => nI (s + k)) rfl rfl (fun k hk K hK => ?_) (fun K => ?_)
  · unfold l_X6_countSought_6 b_X6_countSought_41 b_X6_countSought_42 b_X6_countSought_63
    rw [cnt_s] at hK
    have ew : winB σ nn N d f s k = (souB σ nn N f (tmF σ d f (s + k)) && !(hasB (fun i => tmF σ d f (s + i)) k (tmF σ d f (s + k)))) := rfl
    refine ⟨fun c => absurd c (nI_ge (by omega) (by omega)), fun _ => ⟨fun c => absurd c (not_lt0 (by omega)), fun _ => ⟨h.k14, _, h.r14_4, h.k17, ?_⟩⟩⟩
    rw [h.n17]
    refine ⟨fun c => absurd c (nI_ge (show s + k < 12 by omega) (by decide)), fun _ => ⟨_, h.r14_4, h.k17, by rw [h.n17]; exact vpi (by omega), ?_⟩⟩
    rw [h.i17, cl_nI (by omega), h17 (s + k) (by omega)]
    refine ⟨fun c => ⟨fun _ => ?_, fun q => absurd rfl q⟩, fun c => ⟨fun q => absurd q (by decide), fun _ => ⟨h.k14, x_isRepeated h hd hf hl e3 vp (by omega) ⟨fun c2 => ?_, fun c2 => ?_⟩⟩⟩⟩
    · rw [ew, bI_0.mp c, Bool.false_and, if_neg (by decide)] at hK
      rw [nI_1]; exact hK
    · rw [ew, bI_n0 c, bI_0.mp c2] at hK
      rw [nI_1, nI_1]; simpa [Nat.add_assoc] using hK
    · rw [ew, bI_n0 c, bI_n0 c2] at hK
      rw [nI_1]; simpa [Nat.add_assoc] using hK
  · unfold l_X6_countSought_6
    rw [show s + (M - s) = M by omega]
    exact ⟨fun _ => hQ, fun c => absurd (nI_le (Nat.le_refl _) (by omega)) c⟩
theorem x_bestWindow (h : CR A D nn V g) (hG : GI σ n bf nn nr ns) (hN : NG σ nn) (hv : ∀ j, j < nn → vNode V σ j) (hl : vLex V σ) (e14 : V 14 2 = nI nn) (hnr : ∀ j, j < nn → gR g (A 15) j = some (A (jl j))) {top : Nat} (ht : top < nn) {d f w : Nat} (hd : d < D) (hd6 : d < 60) (hf : f < 3) (hw : w ≤ 12) (hvr : vRow V σ d f) {Q : Int32 → gS → Prop} (hQ : ∀ g' V', CR A D nn V' g' → (∀ u, u ≠ 16 → u ≠ 17 → V' u = V u) → (∀ a, gR g' a = gR g a) → Q (windowF σ nn (tnB σ false top) d f w) g') : w_X6_bestWindow g (A 14) (nI top) (A (dl d (2 + f))) (nI f) (nI w) Q := by
  obtain ⟨hl1, hl2⟩ := hG.ln hd6 hf
  obtain ⟨v3, vp, _⟩ := hvr
  unfold w_X6_bestWindow
  refine ⟨h.k14, x_markInside (wn := false) h hN hv e14 hnr ht (fun g1 V1 h1 hV1 hR1 hx1 => ?_)⟩
  refine lpx2_i 12 (fun k g' i => i = nI k ∧ ∃ V', CR A D nn V' g' ∧ (∀ u, u ≠ 17 → V' u = V1 u) ∧ (∀ a, gR g' a = gR g a) ∧ ∀ p, p < k → p < lnF σ d f → V' 17 p = bI (souB σ nn (tnB σ false top) f (tmF σ d f p))) ?_ ?_ g1 0 ⟨rfl, V1, h1, fun _ _ => rfl, hR1, fun p hp => absurd hp (Nat.not_lt_zero _)⟩
  · rintro k g2 _ hk ⟨rfl, V2, h2, hV2, hR2, hx2⟩ K hK
    have both : ∀ u, u ≠ 16 → u ≠ 17 → V2 u = V u := fun u a b => by rw [hV2 u b]; exact hV1 u a
    have e3 : V2 (dl d (2 + f)) 3 = nI (lnF σ d f) := by rw [both _ (by unfold dl; omega) (by unfold dl; omega), v3]; exact hl2
    have vp2 : ∀ p, p < lnF σ d f → V2 (dl d (5 + f)) p = tmF σ d f p := fun p hp => by rw [both _ (by unfold dl; omega) (by unfold dl; omega)]; exact vp p hp
    unfold l_X6_bestWindow_9 b_X6_bestWindow_52
    refine ⟨h2.k14, _, h2.r14_4, h2.k17, ?_⟩
    rw [h2.n17]
    have on : ∀ b : Bool, (k < lnF σ d f → b = souB σ nn (tnB σ false top) f (tmF σ d f k)) → b_X6_bestWindow_53 g2 (A 14) (A (dl d (2 + f))) (nI f) (nI w) (nI k) (A 17) (nI k) (bI b) Q K := by
      intro b hb
      unfold b_X6_bestWindow_53
      refine ⟨h2.k17, by rw [h2.n17]; exact vpi hk, bI_01 b, fun g3 e => ?_⟩
      subst e
      rw [cl_nI (by omega), nI_1]
      refine hK _ _ ⟨rfl, _, h2.w 17 22 (KL_f (by decide)) (by decide) k (bI b), fun u hu => by rw [su_row hu]; exact hV2 u hu, fun a => hR2 a, fun p hp hp2 => ?_⟩
      rw [su_at]
      by_cases e : p = k
      · rw [if_pos e, e, hb (by omega)]
      · rw [if_neg e]; exact hx2 p (by omega) hp2
    refine ⟨fun c => absurd c (nI_ge hk (by decide)), fun _ => ⟨_, h2.r14_4, h2.tk hd hf, ?_⟩⟩
    rw [h2.ti hd hf, e3]
    refine ⟨fun c => on false (fun q => absurd c (nI_ge q (by omega))), fun c => ?_⟩
    have hkl : k < lnF σ d f := by
      rcases Nat.lt_or_ge k (lnF σ d f) with q | q
      · exact q
      · exact absurd (nI_le q (by omega)) c
    obtain ⟨u, hu, eu⟩ := hG.tm hd6 hf hkl
    refine x_termOn h2 hd hf hl1 e3 (vp2 k hkl) hkl ?_
    rw [eu]
    refine x_isSought h2 hG hN (fun j hj => ?_) ?_ ?_ (fun j hj => by rw [hR2]; exact hnr j hj) ht (fun x hx => by rw [hV2 16 (by omega)]; exact hx1 x hx) hf hu ⟨fun c2 => on false (fun _ => ?_), fun c2 => on true (fun _ => ?_)⟩
    · have := hv j hj
      unfold vNode at this ⊢
      rw [both (jl j) (by unfold jl; omega) (by unfold jl; omega)]; exact this
    · unfold vLex at hl ⊢
      rw [both 11 (by omega) (by omega), both 12 (by omega) (by omega), both 13 (by omega) (by omega)]; exact hl
    · rw [both 14 (by omega) (by omega)]; exact e14
    · rw [eu, bI_0.mp c2]
    · rw [eu, bI_n0 c2]
  · rintro g2 _ ⟨rfl, V2, h2, hV2, hR2, hx2⟩ K
    have both : ∀ u, u ≠ 16 → u ≠ 17 → V2 u = V u := fun u a b => by rw [hV2 u b]; exact hV1 u a
    have e3 : V2 (dl d (2 + f)) 3 = nI (lnF σ d f) := by rw [both _ (by unfold dl; omega) (by unfold dl; omega), v3]; exact hl2
    have vp2 : ∀ p, p < lnF σ d f → V2 (dl d (5 + f)) p = tmF σ d f p := fun p hp => by rw [both _ (by unfold dl; omega) (by unfold dl; omega)]; exact vp p hp
    unfold l_X6_bestWindow_9
    refine ⟨h2.k14, _, h2.r14_4, h2.k17, ?_⟩
    rw [h2.n17]
    refine ⟨fun _ => ?_, fun c => absurd (by decide) c⟩
    refine lpx3_s (lnF σ d f) (fun s => (bst (fun _ => true) (fun s => nI (winV σ nn (tnB σ false top) d f w s)) s).1) (fun s => (bst (fun _ => true) (fun s => nI (winV σ nn (tnB σ false top) d f w s)) s).2) (fun s => nI s) rfl rfl rfl (fun s hs K2 hK2 => ?_) (fun K2 => ?_)
    · unfold l_X6_bestWindow_69 b_X6_bestWindow_114
      refine ⟨h2.tk hd hf, ?_⟩
      rw [h2.ti hd hf, e3]
      have emin : (if nI (lnF σ d f) < nI s + nI w then nI (lnF σ d f) else nI s + nI w) = nI (min (lnF σ d f) (s + w)) := by
        rw [nI_add]
        by_cases e : lnF σ d f < s + w
        · rw [if_pos ((nI_lt_iff (by omega) (by omega)).mpr e), Nat.min_eq_left (by omega)]
        · rw [if_neg (fun q => e ((nI_lt_iff (by omega) (by omega)).mp q)), Nat.min_eq_right (by omega)]
      rw [emin]
      rw [bst] at hK2
      refine ⟨fun c => absurd c (nI_ge hs (by omega)), fun _ => ⟨h2.k14, x_countSought h2 hd hf hl1 e3 vp2 (fun p hp => hx2 p (by omega) hp) (Nat.le_min.mpr ⟨by omega, by omega⟩) (Nat.min_le_left _ _) ⟨fun c => ?_, fun c => ?_⟩⟩⟩
      · rw [if_neg (fun q => i32_nl.mpr c q.2)] at hK2
        rw [nI_1]; exact hK2
      · rw [if_pos ⟨rfl, i32_nle.mp c⟩] at hK2
        rw [nI_1]; exact hK2
    · unfold l_X6_bestWindow_69
      refine ⟨h2.tk hd hf, ?_⟩
      rw [h2.ti hd hf, e3]
      exact ⟨fun _ => hQ g2 V2 h2 both hR2, fun c => absurd (nI_le (Nat.le_refl _) (by omega)) c⟩
end CWIN2
