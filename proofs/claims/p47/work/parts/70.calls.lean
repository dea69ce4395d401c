/-! THE ENGINE'S CALLS, AS THE LAW MAKES THEM: none throws; what is asked changes nothing -/
/-- the engine at a holds the rows σ -/
def EE (a : Nat) (σ : Rows) (n bf nn nr ns : Nat) (g : gS) : Prop := ∃ A D V, A 0 = a ∧ CX A D V σ n bf nn nr ns g
theorem tz_self {σ : Rows} : tz σ (σ 0 0) = σ := by
  funext t i
  by_cases e : t = 0
  · subst e
    show su σ 0 0 (σ 0 0) 0 i = σ 0 i
    rw [su_at]
    by_cases e : i = 0
    · subst e; rw [if_pos rfl]
    · rw [if_neg e]
  · exact congrFun (tz_r e) i
section CALLS
variable {σ σ' : Rows} {n bf nn nr ns n' bf' nn' nr' ns' a : Nat} {g g' : gS} {A : Nat → Nat} {D : Nat} {V : Rows}
theorem EE.pk (h : EE a σ n bf nn nr ns g) : PK σ n bf nn nr ns := by
  obtain ⟨A, D, V, e, hx⟩ := h
  exact hx.2.2.1
theorem EE.gi (h : EE a σ n bf nn nr ns g) : GI σ n bf nn nr ns := h.pk.1
theorem GI.same (h : GI σ n bf nn nr ns) (h' : GI σ n' bf' nn' nr' ns') : n' = n ∧ bf' = bf ∧ nn' = nn ∧ nr' = nr ∧ ns' = ns := by
  obtain ⟨⟨a1, a2, a3, a4, a5⟩, ⟨b1, b2, b3, b4, b5⟩, -⟩ := h
  obtain ⟨⟨c1, c2, c3, c4, c5⟩, ⟨d1, d2, d3, d4, d5⟩, -⟩ := h'
  refine ⟨(nI_inj (by omega) (by omega)).mp (d1.symm.trans b1), (nI_inj (by omega) (by omega)).mp (d2.symm.trans b2), (nI_inj (by omega) (by omega)).mp (d3.symm.trans b3), (nI_inj (by omega) (by omega)).mp (d4.symm.trans b4), (nI_inj (by omega) (by omega)).mp (d5.symm.trans b5)⟩
theorem EE.of {o : Nat} (h : CS a o σ' g') (hG : GI σ' n bf nn nr ns) : EE a σ' n bf nn nr ns g' := by
  obtain ⟨A, D, V, n1, bf1, nn1, nr1, ns1, e1, e2, hx⟩ := h
  obtain ⟨q1, q2, q3, q4, q5⟩ := hG.same hx.2.2.1.1
  subst q1; subst q2; subst q3; subst q4; subst q5
  exact ⟨A, D, V, e1, hx⟩
/-- a call that asks leaves the rows -/
theorem EE.ask {o : Nat} {c : Int32} (h : CS a o (tz σ c) g') (hG : GI σ n bf nn nr ns) : EE a σ n bf nn nr ns g' := by
  obtain ⟨A, D, V, n1, bf1, nn1, nr1, ns1, e1, e2, hx⟩ := h
  have hx2 := hx.tz (σ 0 0)
  rw [tz_tz, tz_self] at hx2
  obtain ⟨q1, q2, q3, q4, q5⟩ := hG.same hx2.2.2.1.1
  subst q1; subst q2; subst q3; subst q4; subst q5
  exact ⟨A, D, V, e1, hx2⟩
theorem z01 {P : Prop} (h : (0 : Int32) = 1) : P := absurd h (by decide)
theorem z02 {P : Prop} (h : (0 : Int32) = 2) : P := absurd h (by decide)
theorem z03 {P : Prop} (h : (0 : Int32) = 3) : P := absurd h (by decide)
theorem GI.rs (h : GI σ n bf nn nr ns) {p : Nat} (hp : p < nr) : inR (nI p) 0 (σ 0 22 - 1) := by
  rw [h.2.1.2.2.2.1]; exact nI_inR (by have := h.1.2.2.2.1; omega) hp
theorem GI.sg (h : GI σ n bf nn nr ns) {p : Nat} (hp : p < ns) : inR (nI p) 0 (σ 0 13 - 1) := by
  rw [h.2.1.2.2.2.2]; exact nI_inR (by have := h.1.2.2.2.2; omega) hp
theorem clI {k : Nat} (h : k < 2 ^ 31) : cl (nI k) = k := cl_nI h
theorem nI_rng {k lo hi : Nat} (hh : hi < 2 ^ 31) (h1 : lo ≤ k) (h2 : k ≤ hi) : inR (nI k) (nI lo) (nI hi) := by
  rintro (q | q)
  · have := (nI_lt_iff (show k < 2 ^ 31 by omega) (show lo < 2 ^ 31 by omega)).mp q; omega
  · have := (nI_lt_iff hh (show k < 2 ^ 31 by omega)).mp q; omega
theorem q_documents (h : EE a σ n bf nn nr ns g) {Q : Int32 → Prop} (hQ : Q (nI n)) : w_X10_documents g a Q := by
  obtain ⟨A, D, V, rfl, hx⟩ := id h
  exact p_documents hx (by rw [h.gi.d1]; exact hQ)
theorem q_segments (h : EE a σ n bf nn nr ns g) {Q : Int32 → Prop} (hQ : Q (nI ns)) : w_X10_segments g a Q := by
  obtain ⟨A, D, V, rfl, hx⟩ := id h
  exact p_segments hx (by rw [h.gi.2.1.2.2.2.2]; exact hQ)
theorem q_nodes (h : EE a σ n bf nn nr ns g) {Q : Int32 → Prop} (hQ : Q (nI nn)) : w_X10_nodes g a Q := by
  obtain ⟨A, D, V, rfl, hx⟩ := id h
  exact p_nodes hx (by rw [h.gi.d16]; exact hQ)
theorem q_results (h : EE a σ n bf nn nr ns g) {Q : Int32 → Prop} (hQ : Q (nI nr)) : w_X10_results g a Q := by
  obtain ⟨A, D, V, rfl, hx⟩ := id h
  exact p_results hx (by rw [h.gi.2.1.2.2.2.1]; exact hQ)
theorem q_stateOf (h : EE a σ n bf nn nr ns g) {d : Nat} (hd : d < n) {Q : Int32 → Prop} (hQ : Q (stF σ d)) : w_X10_stateOf g a (nI d) Q (fun _ => False) := by
  obtain ⟨A, D, V, rfl, hx⟩ := id h
  have hn := h.gi.n
  have e : S_stateOf σ (nI d) = good σ (stF σ d) := by unfold S_stateOf; rw [if_neg (fun q => q (h.gi.iDn hd)), clI (by omega)]
  exact p_stateOf hx (fun _ => by rw [e]; exact hQ) (fun q => by rw [e] at q; exact z01 q)
theorem q_tierOf (h : EE a σ n bf nn nr ns g) {s : Nat} (hs : s < ns) {Q : Int32 → Prop} (hQ : Q (σ 14 s)) : w_X10_tierOf g a (nI s) Q (fun _ => False) := by
  obtain ⟨A, D, V, rfl, hx⟩ := id h
  have hn := h.gi.1.2.2.2.2
  have e : S_tierOf σ (nI s) = good σ (σ 14 s) := by unfold S_tierOf; rw [if_neg (fun q => q (h.gi.sg hs)), clI (by omega)]
  exact p_tierOf hx (fun _ => by rw [e]; exact hQ) (fun q => by rw [e] at q; exact z01 q)
theorem q_sizeOf (h : EE a σ n bf nn nr ns g) {s : Nat} (hs : s < ns) {Q : Int32 → Prop} (hQ : Q (nI (sizeF σ n (nI s)))) : w_X10_sizeOf g a (nI s) Q (fun _ => False) := by
  obtain ⟨A, D, V, rfl, hx⟩ := id h
  have e : S_sizeOf σ (nI s) = good σ (nI (sizeF σ n (nI s))) := by unfold S_sizeOf; rw [if_neg (fun q => q (h.gi.sg hs)), h.gi.nF]
  exact p_sizeOf hx (fun _ => by rw [e]; exact hQ) (fun q => by rw [e] at q; exact z01 q)
theorem q_resultAt (h : EE a σ n bf nn nr ns g) {s : Nat} (hs : s < nr) {Q : Int32 → Prop} (hQ : Q (σ 23 s)) : w_X10_resultAt g a (nI s) Q (fun _ => False) := by
  obtain ⟨A, D, V, rfl, hx⟩ := id h
  have hn := h.gi.1.2.2.2.1
  have e : S_resultAt σ (nI s) = good σ (σ 23 s) := by unfold S_resultAt; rw [if_neg (fun q => q (h.gi.rs hs)), clI (by omega)]
  exact p_resultAt hx (fun _ => by rw [e]; exact hQ) (fun q => by rw [e] at q; exact z01 q)
theorem q_scoreAt (h : EE a σ n bf nn nr ns g) {s : Nat} (hs : s < nr) {Q : Int32 → Prop} (hQ : Q (σ 24 s)) : w_X10_scoreAt g a (nI s) Q (fun _ => False) := by
  obtain ⟨A, D, V, rfl, hx⟩ := id h
  have hn := h.gi.1.2.2.2.1
  have e : S_scoreAt σ (nI s) = good σ (σ 24 s) := by unfold S_scoreAt; rw [if_neg (fun q => q (h.gi.rs hs)), clI (by omega)]
  exact p_scoreAt hx (fun _ => by rw [e]; exact hQ) (fun q => by rw [e] at q; exact z01 q)
theorem q_ofKind (h : EE a σ n bf nn nr ns g) {k : Nat} (hk : k < 8) {Q : Int32 → Prop} (hQ : Q (nI (kindF σ nr (nI k)))) : w_X10_ofKind g a (nI k) Q (fun _ => False) := by
  obtain ⟨A, D, V, rfl, hx⟩ := id h
  have e : S_ofKind σ (nI k) = good σ (nI (kindF σ nr (nI k))) := by unfold S_ofKind; rw [if_neg (fun q => q (nI_rng (lo := 0) (hi := 7) (by decide) (by omega) (by omega))), h.gi.nrF]
  exact p_ofKind hx (fun _ => by rw [e]; exact hQ) (fun q => by rw [e] at q; exact z01 q)
theorem q_ofDates (h : EE a σ n bf nn nr ns g) {Q : Int32 → Prop} (hQ : Q (nI (datesF σ nr 0 9999))) : w_X10_ofDates g a 0 10000 Q (fun _ => False) := by
  obtain ⟨A, D, V, rfl, hx⟩ := id h
  have e : S_ofDates σ 0 10000 = good σ (nI (datesF σ nr 0 9999)) := by
    unfold S_ofDates; rw [if_neg (by decide), h.gi.nrF]; rfl
  exact p_ofDates hx (fun _ => by rw [e]; exact hQ) (fun q => by rw [e] at q; exact z01 q)
theorem q_score (h : EE a σ n bf nn nr ns g) {j d : Nat} (hj : j < nn) (hd : d < n) {Q : Int32 → gS → Prop} (hQ : ∀ g', EE a σ n bf nn nr ns g' → Q (scoreNowF σ n d j) g') : w_X10_score g a (nI j) (nI d) Q (fun _ _ => False) := by
  obtain ⟨A, D, V, rfl, hx⟩ := id h
  have hn := h.gi.n
  have hnn := h.gi.nn3
  have e : S_score σ (nI j) (nI d) = good σ (scoreNowF σ n d j) := by
    unfold S_score; rw [if_neg (fun q => q.elim (fun q => q (h.gi.iNn hj)) (fun q => q (h.gi.iDn hd))), h.gi.nF, clI (by omega), clI (by omega)]
  exact p_score hx (fun _ g' hg => by rw [e] at hg ⊢; exact hQ _ (EE.ask hg h.gi)) (fun q => by rw [e] at q; exact z01 q)
theorem q_found (h : EE a σ n bf nn nr ns g) {j : Nat} (hj : j < nn) {Q : Int32 → gS → Prop} (hQ : ∀ g', EE a σ n bf nn nr ns g' → Q (nI (foundF σ n j n)) g') : w_X10_found g a (nI j) Q (fun _ _ => False) := by
  obtain ⟨A, D, V, rfl, hx⟩ := id h
  have hnn := h.gi.nn3
  have e : S_found σ (nI j) = good σ (nI (foundF σ n j n)) := by
    unfold S_found; rw [if_neg (fun q => q (h.gi.iNn hj)), h.gi.nF, clI (by omega)]
  exact p_found hx (fun _ g' hg => by rw [e] at hg ⊢; exact hQ _ (EE.ask hg h.gi)) (fun q => by rw [e] at q; exact z01 q)
theorem q_byAlias (h : EE a σ n bf nn nr ns g) {j : Nat} (hj : j < nn) {Q : Int32 → gS → Prop} (hQ : ∀ g', EE a σ n bf nn nr ns g' → Q (nI (cnt (fun d => !decide (scoreNowF σ n d j < 0) && decide (scoreNowF (noAl σ) n d j < 0)) n)) g') : w_X10_byAlias g a (nI j) Q (fun _ _ => False) := by
  obtain ⟨A, D, V, rfl, hx⟩ := id h
  have hnn := h.gi.nn3
  have e : S_byAlias σ (nI j) = good σ (nI (cnt (fun d => !decide (scoreNowF σ n d j < 0) && decide (scoreNowF (noAl σ) n d j < 0)) n)) := by
    unfold S_byAlias; rw [if_neg (fun q => q (h.gi.iNn hj)), h.gi.nF, clI (by omega)]
  exact p_byAlias hx (fun _ g' hg => by rw [e] at hg ⊢; exact hQ _ (EE.ask hg h.gi)) (fun q => by rw [e] at q; exact z01 q)
theorem q_wouldScore (h : EE a σ n bf nn nr ns g) {j d : Nat} (hj : j < nn) (hd : d < n) {Q : Int32 → gS → Prop} (hQ : ∀ g', EE a σ n bf nn nr ns g' → Q (scoreNowF (fuR σ n) n d j) g') : w_X10_wouldScore g a (nI j) (nI d) Q (fun _ _ => False) := by
  obtain ⟨A, D, V, rfl, hx⟩ := id h
  have hn := h.gi.n
  have hnn := h.gi.nn3
  have e : S_wouldScore σ (nI j) (nI d) = good σ (scoreNowF (fuR σ n) n d j) := by
    unfold S_wouldScore; rw [if_neg (fun q => q.elim (fun q => q (h.gi.iNn hj)) (fun q => q (h.gi.iDn hd))), h.gi.nF, clI (by omega), clI (by omega)]
  exact p_wouldScore hx (fun _ g' hg => by rw [e] at hg ⊢; exact hQ _ (EE.ask hg h.gi)) (fun q => by rw [e] at q; exact z01 q)
theorem q_cost (h : EE a σ n bf nn nr ns g) {j : Nat} (hj : j < nn) {Q : Int32 → gS → Prop} (hQ : ∀ g', EE a σ n bf nn nr ns g' → Q (costF σ n nn (tnB σ true j)) g') : w_X10_cost g a (nI j) Q (fun _ _ => False) := by
  obtain ⟨A, D, V, rfl, hx⟩ := id h
  have hnn := h.gi.nn3
  have e : S_cost σ (nI j) = good σ (costF σ n nn (tnB σ true j)) := by
    unfold S_cost; rw [if_neg (fun q => q (h.gi.iNn hj)), h.gi.nF, h.gi.nnF, clI (by omega)]
  exact p_cost hx (fun _ g' hg => by rw [e] at hg ⊢; exact hQ _ (EE.ask hg h.gi)) (fun q => by rw [e] at q; exact z01 q)
theorem q_like (h : EE a σ n bf nn nr ns g) {d : Nat} (hd : d < n) {Q : Int32 → gS → Prop} (hQ : ∀ g', EE a σ n bf nn nr ns g' → Q (likeF σ n d) g') : w_X10_like g a (nI d) Q (fun _ _ => False) := by
  obtain ⟨A, D, V, rfl, hx⟩ := id h
  have hn := h.gi.n
  have e : S_like σ (nI d) = good σ (likeF σ n d) := by
    unfold S_like; rw [if_neg (fun q => q (h.gi.iDn hd)), h.gi.nF, clI (by omega)]
  exact p_like hx (fun _ g' hg => by rw [e] at hg ⊢; exact hQ _ (EE.ask hg h.gi)) (fun q => by rw [e] at q; exact z01 q)
theorem q_digest (h : EE a σ n bf nn nr ns g) {Q : Int64 → gS → Prop} (hQ : ∀ g', EE a σ n bf nn nr ns g' → Q (dgF σ n nn nr ns) g') : w_X10_digest g a Q := by
  obtain ⟨A, D, V, rfl, hx⟩ := id h
  exact p_digest hx (fun g' hg => hQ _ (EE.of hg h.gi))
theorem q_search (h : EE a σ n bf nn nr ns g) {j : Nat} (hj : j < nn) {Q : Int32 → gS → Prop} (hQ : ∀ g' r, r ≤ n → srF σ n j n 0 22 = nI r → EE a (srF σ n j n) n bf nn r ns g' → Q (nI r) g') : w_X10_search g a (nI j) Q (fun _ _ => False) := by
  obtain ⟨A, D, V, rfl, hx⟩ := id h
  have hn := h.gi.n
  have hnn := h.gi.nn3
  have e : S_search σ (nI j) = (0, srF σ n j n 0 22, srF σ n j n) := by
    unfold S_search; rw [if_neg (fun q => q (h.gi.iNn hj)), h.gi.nF, clI (by omega)]
  obtain ⟨r, hr, e22, hp⟩ := srF_n (σ := σ) (n := n) (j := j) n hn
  have hG := h.gi.sam (srF_r (σ := σ) (n := n) (j := j) n).1 (srF_r n).2 (show r ≤ 60 by omega) e22
  refine p_search hx (fun _ g' hg => ?_) (fun q => by rw [e] at q; exact z01 q)
  rw [e] at hg ⊢
  show Q (srF σ n j n 0 22) g'
  rw [e22]
  exact hQ g' r hr e22 (EE.of hg hG)
end CALLS
