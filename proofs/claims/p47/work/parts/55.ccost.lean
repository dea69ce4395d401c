/-! THE CLASS: costs -/
section CCOST
variable {A : Nat → Nat} {D : Nat} {V σ : Rows} {n bf nn nr ns cb : Nat} {g : gS}
theorem x_spreadO (h : CR A D nn V g) (hc : isC cb) (hv : vCen V cb σ n) {f : Nat} (hf : f < 3) {x : Int32} (hx : isO x) {Q : Int32 → Prop} (hQ : Q (if x = -1 then 0 else readF σ n (cl x) f)) : w_X1_spreadOf g (A cb) (oF σ x) (nI f) Q := by
  rcases hx with e | ⟨a, ha, e⟩
  · subst e
    rw [if_pos rfl] at hQ
    unfold oF; rw [if_pos rfl]
    exact x_spreadNo h hc hf hQ
  · subst e
    rw [if_neg (nI_nm1 (by omega)), show cl (nI a) = a from cl_nI (by omega)] at hQ
    unfold readF at hQ
    rw [oF_nI ha]
    by_cases c : σ 10 a = 0
    · rw [if_pos c] at hQ ⊢; exact x_spreadOf h hc hv ha hf hQ
    · rw [if_neg c] at hQ ⊢; exact x_spreadNo h hc hf hQ
theorem x_entriesOfTerm (h : CR A D nn V g) (hc : isC cb) (hv : vCen V cb σ n) (hl : vLex V σ) (hG : GI σ n bf nn nr ns) {j a : Nat} (hj : j < nn) (ha : a < 200) (e1 : V (jl j) 1 = nI a) (e2 : V (jl j) 2 = σ 19 j) {Q : Int32 → Prop} (hQ : Q (isum (fun f => if fbit (σ 19 j) (nI f) = 0 then 0 else readF σ n a f + alR σ n a f) 3)) : w_X6_entriesOfTerm g (A 14) (A (jl j)) (A cb) Q := by
  obtain ⟨c1, _⟩ := h.ck0 hc
  have hO : isO (σ 11 a) := by
    rcases hG.al ha with e | ⟨c, hc', e⟩
    · exact Or.inl e
    · exact Or.inr ⟨c, hc', e⟩
  have loop : lpx2 (l_X6_entriesOfTerm_38 g (A (jl j)) (A cb) (oF σ (nI a)) (oF σ (σ 11 a)) Q) 0 0 := by
    refine lpx2_s 3 (fun k => isum (fun f => if fbit (σ 19 j) (nI f) = 0 then 0 else readF σ n a f + alR σ n a f) k) (fun k => nI k) rfl rfl (fun f hf K hK => ?_) (fun K => ?_)
    · unfold l_X6_entriesOfTerm_38 b_X6_entriesOfTerm_74
      rw [isum] at hK
      refine ⟨fun c => absurd c (nI_ge hf (by decide)), fun _ => ⟨h.jk hj, x_isFor h hj hf e2 ⟨fun c => ?_, fun c => ⟨c1, ?_⟩⟩⟩⟩
      · have c' : fbit (σ 19 j) (nI f) = 0 := by have := bI_0.mp c; simpa using this
        rw [if_pos c', Int32.add_zero] at hK; rw [nI_1]; exact hK
      · have c' : ¬ fbit (σ 19 j) (nI f) = 0 := by have := bI_n0 c; simpa using this
        rw [if_neg c'] at hK
        refine x_spreadO h hc hv hf (Or.inr ⟨a, ha, rfl⟩) (x_spreadO h hc hv hf hO ?_)
        rw [if_neg (nI_nm1 (by omega)), show cl (nI a) = a from cl_nI (by omega), nI_1]
        exact hK
    · unfold l_X6_entriesOfTerm_38
      exact ⟨fun _ => hQ, fun c => absurd (by decide) c⟩
  unfold w_X6_entriesOfTerm
  refine ⟨h.k14, _, h.r14_0, h.jk hj, h.k10, ?_⟩
  rw [h.ji hj, e1]
  refine x_unmuted h hl ha ?_
  rw [← oF_nI ha]
  refine ⟨_, h.r14_0, _, h.r14_0, h.k10, x_aliasOf h hl ha ⟨h.k10, ?_⟩⟩
  rcases hG.al ha with e | ⟨b, hb, e⟩
  · rw [e] at loop ⊢; exact x_unmutedNo h loop
  · rw [e] at loop ⊢
    refine x_unmuted h hl hb ?_
    rw [← oF_nI hb]; exact loop
theorem x_termInside (h : CR A D nn V g) (hv : ∀ j, j < nn → vNode V σ j) (e14 : V 14 2 = nI nn) (hnr : ∀ j, j < nn → gR g (A 15) j = some (A (jl j))) {j : Nat} (hj : j < nn) {b : Bool} (e16 : V 16 j = bI b) {Q : Option Nat → Prop} (hQ : Q (if (b && decide (σ 17 j = 0)) = true then some (A (jl j)) else none)) : w_X6_termNodeInside g (A 14) (nI j) Q := by
  have hnn := h.nn3
  unfold w_X6_termNodeInside b_X6_termNodeInside_43 b_X6_termNodeInside_44 b_X6_termNodeInside_54
  refine ⟨h.k14, x_nodeAt h e14 hnr hj ⟨fun q => absurd q (by simp), fun y hy => ?_⟩⟩
  have hy' : y = A (jl j) := (Option.some.inj hy).symm
  subst hy'
  refine ⟨h.jk hj, ?_⟩
  rw [h.ji hj, (hv j hj).1]
  refine ⟨fun c => ⟨fun q => absurd q (not_lt0 (by omega)), fun _ => ⟨_, h.r14_3, h.k16, ?_⟩⟩, fun c => ⟨fun _ => ?_, fun q => absurd rfl q⟩⟩
  · rw [h.n16]
    refine ⟨fun q => absurd q (nI_ge (show j < 30 by omega) (by decide)), fun _ => ⟨_, h.r14_3, h.k16, by rw [h.n16]; exact vpi (by omega), ?_⟩⟩
    rw [h.i16, cl_nI (by omega), e16]
    refine ⟨fun c2 => ⟨fun _ => ?_, fun q => absurd rfl q⟩, fun c2 => ⟨fun q => absurd q (by decide), fun _ => ?_⟩⟩
    · rw [bI_0.mp c2, Bool.false_and, if_neg (by decide)] at hQ; exact hQ
    · rw [bI_n0 c2, decide_eq_true c, Bool.true_and, if_pos rfl] at hQ; exact hQ
  · rw [decide_eq_false c, Bool.and_false, if_neg (by decide)] at hQ; exact hQ
end CCOST
