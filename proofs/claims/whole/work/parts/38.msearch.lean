/-! THE REFERENCE SEARCHES, AND WHAT IT ASKS WITH OTHER ROWS -/
def shR (its : Int32) (d : Nat) : Nat → Rows → Rows
  | 0, σ => su (su σ 23 0 (nI d)) 24 0 its
  | k + 1, σ => if σ 24 k < its ∨ (its = σ 24 k ∧ ¬ σ 3 d ≤ σ 3 (cl (σ 23 k))) then shR its d k (su (su σ 23 (k + 1) (σ 23 k)) 24 (k + 1) (σ 24 k)) else su (su σ 23 (k + 1) (nI d)) 24 (k + 1) its
def srF (σ : Rows) (n j : Nat) : Nat → Rows
  | 0 => su (tz σ 0) 0 22 0
  | d + 1 => if scoreNowF σ n d j < 0 then srF σ n j d else shR (scoreNowF σ n d j) d (cl (srF σ n j d 0 22)) (su (srF σ n j d) 0 22 (srF σ n j d 0 22 + 1))
def S_search (σ : Rows) (j : Int32) : Out := if ¬ isN σ j then bad σ 1 else (0, srF σ (nF σ) (cl j) (nF σ) 0 22, srF σ (nF σ) (cl j) (nF σ))
def noAl (σ : Rows) : Rows := va_up σ 11 (fun i => if i < 200 then -1 else 0)
def S_byAlias (σ : Rows) (j : Int32) : Out :=
  if ¬ isN σ j then bad σ 1 else good σ (nI (cnt (fun d => !decide (scoreNowF σ (nF σ) d (cl j) < 0) && decide (scoreNowF (noAl σ) (nF σ) d (cl j) < 0)) (nF σ)))
def fuR (σ : Rows) (n : Nat) : Rows := va_up σ 6 (fun i => if i < n ∧ σ 5 i = 0 then 1 else 0)
def S_wouldScore (σ : Rows) (j d : Int32) : Out := if ¬ isN σ j ∨ ¬ isD σ d then bad σ 1 else good σ (scoreNowF (fuR σ (nF σ)) (nF σ) (cl d) (cl j))
def goneN (σ : Rows) : Nat → Nat := cnt (fun d => !decide (σ 6 d = 0) && !decide (σ 5 d = 0))
def wasteF (σ : Rows) (n : Nat) : UInt64 := if lyF σ n = 0 then 0 else FP.ddiv (FP.i2d (nI (goneN σ n))) (FP.i2d (lyF σ n))
theorem shR_r {its : Int32} {d u : Nat} (h1 : u ≠ 23) (h2 : u ≠ 24) : ∀ k (σ : Rows), shR its d k σ u = σ u
  | 0, σ => by rw [shR, su_row h2, su_row h1]
  | k + 1, σ => by
    rw [shR]; split
    · rw [shR_r h1 h2 k, su_row h2, su_row h1]
    · rw [su_row h2, su_row h1]
/-- what scores look at is the same -/
def Sam (σ σ2 : Rows) : Prop := ∀ t, t ≠ 0 → t ≠ 23 → t ≠ 24 → σ2 t = σ t
theorem srF_r {σ : Rows} {n j : Nat} : ∀ d, Sam σ (srF σ n j d) ∧ ∀ i, i ≠ 0 → i ≠ 22 → srF σ n j d 0 i = σ 0 i
  | 0 => ⟨fun t h0 _ _ => by rw [srF, su_row h0]; exact tz_r h0, fun i h0 h1 => by rw [srF, su_at, if_neg h1]; exact tz_0 h0⟩
  | d + 1 => by
    obtain ⟨a, b⟩ := srF_r (σ := σ) (n := n) (j := j) d
    rw [srF]
    split
    · exact ⟨a, b⟩
    · refine ⟨fun t h0 h1 h2 => by rw [shR_r h1 h2, su_row h0]; exact a t h0 h1 h2, fun i h0 h1 => ?_⟩
      rw [shR_r (by decide) (by decide), su_at, if_neg h1]; exact b i h0 h1
/-- scores of a row that is the same where scores look -/
theorem Sam.scoreF {σ σ2 : Rows} (h : Sam σ σ2) {n j d : Nat} {T : Nat → Int32} : scoreF σ2 n T j d = scoreF σ n T j d := by
  have e3 := h 3 (by decide) (by decide) (by decide)
  have e4 := h 4 (by decide) (by decide) (by decide)
  have e6 := h 6 (by decide) (by decide) (by decide)
  have e7 := h 7 (by decide) (by decide) (by decide)
  have e8 := h 8 (by decide) (by decide) (by decide)
  have e10 := h 10 (by decide) (by decide) (by decide)
  have e11 := h 11 (by decide) (by decide) (by decide)
  have e12 := h 12 (by decide) (by decide) (by decide)
  have e17 := h 17 (by decide) (by decide) (by decide)
  have e18 := h 18 (by decide) (by decide) (by decide)
  have e19 := h 19 (by decide) (by decide) (by decide)
  have e20 := h 20 (by decide) (by decide) (by decide)
  have e21 := h 21 (by decide) (by decide) (by decide)
  unfold _root_.Jvm.Pilot.CQuarryIndexLaw_law_r1290_e47462.scoreF termF tsIs tsSum alT tasteF rareF nearF nearIn lkB ctF spF leF lyF tmF lnF
  simp only [e3, e4, e6, e7, e8, e10, e11, e12, e17, e18, e19, e20, e21]
  try rfl
theorem Sam.scT {σ σ2 : Rows} (h : Sam σ σ2) {n d : Nat} {T : Nat → Int32} : ∀ k, scT σ2 n d T k = scT σ n d T k
  | 0 => rfl
  | k + 1 => by rw [_root_.Jvm.Pilot.CQuarryIndexLaw_law_r1290_e47462.scT, _root_.Jvm.Pilot.CQuarryIndexLaw_law_r1290_e47462.scT, Sam.scT h k, h.scoreF]
theorem Sam.now {σ σ2 : Rows} (h : Sam σ σ2) {n d j : Nat} : scoreNowF σ2 n d j = scoreNowF σ n d j := by
  unfold scoreNowF scV there
  rw [h.scT, h 5 (by decide) (by decide) (by decide), h 6 (by decide) (by decide) (by decide)]
section MSEARCH
variable {FR : gS → Prop} {m : Nat} {μ : Nat → Nat} {σ : Rows} {n : Nat} {T : Nat → Int32} {g : gS} {bf nn nr ns : Nat}
theorem NG.sam {σ2 : Rows} (h : NG σ nn) (hs : Sam σ σ2) : NG σ2 nn := by
  intro j hj
  have := h j hj
  unfold NW at this ⊢
  rw [hs 17 (by decide) (by decide) (by decide), hs 18 (by decide) (by decide) (by decide), hs 19 (by decide) (by decide) (by decide), hs 20 (by decide) (by decide) (by decide), hs 21 (by decide) (by decide) (by decide)]
  exact this
theorem GI.sam {σ2 : Rows} {nr2 : Nat} (h : GI σ n bf nn nr ns) (hs : Sam σ σ2) (h0 : ∀ i, i ≠ 0 → i ≠ 22 → σ2 0 i = σ 0 i) (hr : nr2 ≤ 60) (h22 : σ2 0 22 = nI nr2) : GI σ2 n bf nn nr2 ns := by
  obtain ⟨⟨a1, a2, a3, a4, a5⟩, ⟨b1, b2, b3, b4, b5⟩, c, d, e, f, g2, i⟩ := h
  refine ⟨⟨a1, a2, a3, hr, a5⟩, ⟨?_, ?_, ?_, h22, ?_⟩, ?_, ?_, ?_, ?_, ?_, ?_⟩
  · rw [h0 1 (by decide) (by decide)]; exact b1
  · rw [h0 9 (by decide) (by decide)]; exact b2
  · rw [h0 16 (by decide) (by decide)]; exact b3
  · rw [h0 13 (by decide) (by decide)]; exact b5
  · rw [h0 2 (by decide) (by decide)]; exact c
  · rw [hs 7 (by decide) (by decide) (by decide)]; exact d
  · rw [hs 7 (by decide) (by decide) (by decide), hs 8 (by decide) (by decide) (by decide)]; exact e
  · rw [hs 5 (by decide) (by decide) (by decide), hs 6 (by decide) (by decide) (by decide)]; exact f
  · rw [hs 10 (by decide) (by decide) (by decide)]; exact g2
  · rw [hs 11 (by decide) (by decide) (by decide)]; exact i
/-- a result put in its place -/
theorem mt_put {j d : Nat} (hd : d < 60) {its : Int32} {i1 : Int32} {Q : Int32 → gS → Prop} {k26 : gS → Int32 → Prop} (k : Nat) (σ : Rows) (g : gS) (hk : k < 60) (hp : ∀ p, p < k → ∃ e, e < 60 ∧ σ 23 p = nI e) (h : MT FR m μ σ n T g) (hQ : ∀ g', MT FR m μ (shR its d k σ) n T g' → k26 g' (nI (d + 1))) : lpx2 (l_X11_search_61 m i1 (nI d) its Q k26) g (nI k) := by
  refine lpx2_i k (fun q g' i => ∃ σq, i = nI (k - q) ∧ MT FR m μ σq n T g' ∧ shR its d (k - q) σq = shR its d k σ ∧ ∀ p, p < k - q → ∃ e, e < 60 ∧ σq 23 p = nI e) ?_ ?_ g (nI k) ⟨σ, rfl, h, rfl, hp⟩
  · rintro q g1 _ hq ⟨σq, rfl, h1, es, hp1⟩ K hK
    have ex : k - q = (k - (q + 1)) + 1 := by omega
    rw [ex] at es hp1 ⊢
    generalize k - (q + 1) = r at *
    have hr : r + 1 < 60 := by omega
    obtain ⟨e, he, ee⟩ := hp1 r (by omega)
    have put : (¬ (σq 24 r < its ∨ (its = σq 24 r ∧ ¬ σq 3 d ≤ σq 3 (cl (σq 23 r))))) → b_X11_search_153 g1 m i1 (nI d) its (nI (r + 1)) Q k26 := by
      intro c
      rw [shR, if_neg c] at es
      unfold b_X11_search_153 b_X11_search_169
      refine ⟨h1.k, _, h1.r23, h1.k23, by rw [h1.n23]; exact vpi hr, fun g2 e2 => ?_⟩
      subst e2
      rw [cl_nI (by omega)]
      have h2 := h1.wa 23 (r + 1) (nI d) (by decide) (by decide)
      refine ⟨h2.k, _, h2.r24, h2.k24, by rw [h2.n24]; exact vpi hr, fun g3 e3 => ?_⟩
      subst e3
      rw [nI_1]
      refine hQ _ ?_
      rw [← es]
      exact h2.wa 24 (r + 1) its (by decide) (by decide)
    have shift : (σq 24 r < its ∨ (its = σq 24 r ∧ ¬ σq 3 d ≤ σq 3 (cl (σq 23 r)))) → b_X11_search_115 g1 m i1 (nI d) its (nI (r + 1)) Q k26 K := by
      intro c
      rw [shR, if_pos c] at es
      unfold b_X11_search_115
      rw [nI_sub1 (show 0 < r + 1 by omega), show r + 1 - 1 = r by omega]
      refine ⟨h1.k, _, h1.r23, _, h1.r23, h1.k23, by rw [h1.n23]; exact vpi (by omega), h1.k23, by rw [h1.n23]; exact vpi hr, fun g2 e2 => ?_⟩
      subst e2
      rw [h1.i23, cl_nI (show r + 1 < 2 ^ 31 by omega), cl_nI (show r < 2 ^ 31 by omega)]
      have h2 := h1.wa 23 (r + 1) (σq 23 r) (by decide) (by decide)
      refine ⟨h2.k, _, h2.r24, _, h2.r24, h2.k24, by rw [h2.n24]; exact vpi (by omega), h2.k24, by rw [h2.n24]; exact vpi hr, fun g3 e3 => ?_⟩
      subst e3
      rw [h2.i24, su_row (by decide)]
      have e1 : nI (r + 1) + (-1) = nI r := by rw [← nI_1, Int32.add_assoc]; exact Int32.add_zero _
      rw [e1]
      refine hK _ _ ⟨_, rfl, h2.wa 24 (r + 1) (σq 24 r) (by decide) (by decide), es, fun p hp => ?_⟩
      obtain ⟨e', he', ee'⟩ := hp1 p (by omega)
      exact ⟨e', he', by rw [su_row (by decide), su_at, if_neg (by omega)]; exact ee'⟩
    unfold l_X11_search_61
    rw [nI_sub1 (show 0 < r + 1 by omega), show r + 1 - 1 = r by omega]
    refine ⟨fun c => ?_, fun _ => ⟨h1.k, _, h1.r24, h1.k24, by rw [h1.n24]; exact vpi (by omega), ?_⟩⟩
    · have := (nI_le_iff (show r + 1 < 2 ^ 31 by omega) (show 0 < 2 ^ 31 by decide)).mp c
      omega
    · rw [h1.i24, cl_nI (show r < 2 ^ 31 by omega)]
      refine ⟨fun c => shift (Or.inl c), fun c => ⟨_, h1.r24, h1.k24, by rw [h1.n24]; exact vpi (by omega), ?_⟩⟩
      rw [h1.i24]
      refine ⟨fun c2 => ⟨_, h1.r3, h1.k3, by rw [h1.n3]; exact vpi (by omega), _, h1.r3, _, h1.r23, h1.k23, by rw [h1.n23]; exact vpi (by omega), h1.k3, ?_⟩, fun c2 => ?_⟩
      · rw [h1.i23, h1.n3, h1.i3, ee, cl_nI (show d < 2 ^ 31 by omega), cl_nI (show e < 2 ^ 31 by omega)]
        refine ⟨vpi (by omega), fun c4 => put ?_, fun c4 => shift (Or.inr ⟨c2, ?_⟩)⟩
        · rintro (q | q)
          · exact c q
          · rw [ee, show cl (nI e) = e from cl_nI (by omega)] at q; exact q.2 c4
        · rw [ee, show cl (nI e) = e from cl_nI (by omega)]; exact c4
      · exact put (fun q => q.elim c (fun q => c2 q.1))
  · rintro g1 _ ⟨σq, rfl, h1, es, hp1⟩ K
    rw [show k - k = 0 by omega] at es ⊢
    rw [shR] at es
    unfold l_X11_search_61 b_X11_search_153 b_X11_search_169
    refine ⟨fun _ => ⟨h1.k, _, h1.r23, h1.k23, by rw [h1.n23]; exact vpi (by omega), fun g2 e2 => ?_⟩, fun c => absurd (by decide) c⟩
    subst e2
    rw [cl_nI (by omega)]
    have h2 := h1.wa 23 0 (nI d) (by decide) (by decide)
    refine ⟨h2.k, _, h2.r24, h2.k24, by rw [h2.n24]; exact vpi (by omega), fun g3 e3 => ?_⟩
    subst e3
    rw [nI_1]
    refine hQ _ ?_
    rw [← es]
    exact h2.wa 24 0 its (by decide) (by decide)
theorem shR_23 {its : Int32} {d D : Nat} (hd : d < D) : ∀ (k : Nat) (σ : Rows), (∀ p, p < k → ∃ e, e < D ∧ σ 23 p = nI e) → ∀ p, p < k + 1 → ∃ e, e < D ∧ shR its d k σ 23 p = nI e
  | 0, σ, _ => fun p hp => ⟨d, hd, by rw [shR, su_row (by decide), su_at, if_pos (by omega)]⟩
  | k + 1, σ, h => by
    intro p hp
    rw [shR]
    split
    · by_cases e : p = k + 1
      · -- the place behind keeps what was shifted there
        subst e
        have keep : ∀ (r : Nat) (τ : Rows) (q : Nat), r < q → shR its d r τ 23 q = τ 23 q := by
          intro r
          induction r with
          | zero => intro τ q hq; rw [shR, su_row (by decide), su_at, if_neg (by omega)]
          | succ r ih =>
            intro τ q hq
            rw [shR]; split
            · rw [ih _ q (by omega), su_row (by decide), su_at, if_neg (by omega)]
            · rw [su_row (by decide), su_at, if_neg (by omega)]
        rw [keep k _ (k + 1) (by omega), su_row (by decide), su_at, if_pos rfl]
        exact h k (by omega)
      · refine shR_23 hd k _ (fun q hq => ?_) p (by omega)
        rw [su_row (by decide), su_at, if_neg (by omega)]
        exact h q (by omega)
    · rw [su_row (by decide), su_at]
      split
      · exact ⟨d, hd, rfl⟩
      · exact h p (by omega)
/-- how many results so far -/
theorem srF_n {σ : Rows} {n j : Nat} : ∀ d, d ≤ 60 → ∃ r, r ≤ d ∧ srF σ n j d 0 22 = nI r ∧ ∀ p, p < r → ∃ e, e < d ∧ srF σ n j d 23 p = nI e
  | 0, _ => ⟨0, Nat.le_refl 0, by rw [srF, su_at, if_pos rfl]; rfl, fun p hp => absurd hp (Nat.not_lt_zero _)⟩
  | d + 1, hd60 => by
    obtain ⟨r, hr, e, hp⟩ := srF_n (σ := σ) (n := n) (j := j) d (by omega)
    rw [srF]
    split
    · exact ⟨r, by omega, e, fun p hp' => by obtain ⟨x, hx, ex⟩ := hp p hp'; exact ⟨x, by omega, ex⟩⟩
    · have ecl : cl (srF σ n j d 0 22) = r := by rw [e]; exact cl_nI (by omega)
      refine ⟨r + 1, by omega, ?_, ?_⟩
      · rw [shR_r (by decide) (by decide), su_at, if_pos rfl, e, nI_1]
      · rw [ecl]
        refine shR_23 (by omega) r _ (fun p hp' => ?_)
        rw [su_row (by decide)]
        obtain ⟨x, hx, ex⟩ := hp p hp'; exact ⟨x, by omega, ex⟩
theorem mo_search (h : MT FR m μ σ n T g) (hG : GI σ n bf nn nr ns) (hN : NG σ nn) {a : Int32} {Q : Int32 → gS → Prop} (hQ : ∀ g' T', MT FR m μ (S_search σ a).2.2 n T' g' → Q (S_search σ a).2.1 g') : w_X11_search g m a Q := by
  have hn := hG.n
  have hnn := hG.nn3
  unfold w_X11_search
  unfold S_search at hQ
  rw [hG.nF] at hQ
  refine ⟨h.k, fun g1 e1 => ?_⟩
  subst e1
  have h1 := h.z 0
  refine ⟨h1.k, mt_nodez h1 (m_if (fun c => ?_) (fun c g2 e2 => ?_))⟩
  · rw [if_pos c] at hQ; exact mt_no h1 (fun g' => hQ g' T)
  · rw [if_neg c] at hQ
    subst e2
    obtain ⟨j, hj, rfl⟩ := hG.isN (nn2 c)
    rw [show cl (nI j) = j from cl_nI (by omega)] at hQ
    refine lpx2_i n (fun d g' i => i = nI d ∧ ∃ T', MT FR m μ (srF σ n j d) n T' g') ?_ ?_ _ 0 ⟨rfl, T, h1.w 22 0 (by decide) (by decide)⟩
    · rintro d g3 _ hd ⟨rfl, T3, h3⟩ K hK
      unfold l_X11_search_26
      refine ⟨h3.k, ?_⟩
      obtain ⟨hs, h0⟩ := srF_r (σ := σ) (n := n) (j := j) d
      obtain ⟨r, hr, er, hp⟩ := srF_n (σ := σ) (n := n) (j := j) d (by omega)
      rw [h3.s (by decide) (by decide), h0 1 (by decide) (by decide), hG.d1]
      have hG3 := hG.sam hs h0 (show r ≤ 60 by omega) er
      refine ⟨fun c => absurd c (nI_ge hd (by omega)), fun _ => mt_scoreNow hG3 (hN.sam hs) hj hd h3 (fun g4 T4 h4 _ => ?_)⟩
      rw [hs.now]
      refine ⟨fun c2 => ⟨h4.k, fun g5 e5 => ?_⟩, fun c2 => ?_⟩
      · subst e5
        rw [h4.s (by decide) (by decide), er, nI_1]
        have h5 := h4.w 22 (nI (r + 1)) (by decide) (by decide)
        refine mt_put (j := 0) (by omega) r _ _ (by omega) (fun p hp' => ?_) h5 (fun g6 h6 => hK _ _ ⟨rfl, T4, ?_⟩)
        · rw [su_row (by decide)]
          obtain ⟨x, hx, ex⟩ := hp p hp'; exact ⟨x, by omega, ex⟩
        · rw [srF, if_neg (i32_nl.mpr c2), er, nI_1, show cl (nI r) = r from cl_nI (by omega)]; exact h6
      · unfold b_X11_search_169
        rw [nI_1]
        refine hK _ _ ⟨rfl, T4, ?_⟩
        rw [srF, if_pos (i32_nle.mp c2)]; exact h4
    · rintro g3 _ ⟨rfl, T3, h3⟩ K
      unfold l_X11_search_26
      refine ⟨h3.k, ?_⟩
      obtain ⟨hs, h0⟩ := srF_r (σ := σ) (n := n) (j := j) n
      rw [h3.s (by decide) (by decide), h3.s (by decide) (by decide), h0 1 (by decide) (by decide), hG.d1]
      exact ⟨fun _ => hQ _ _ h3, fun c => absurd (nI_le (Nat.le_refl _) (by omega)) c⟩
end MSEARCH
