/-! THE REFERENCE WITH OTHER ROWS: byAlias, wouldScore -/
/-- what a frame keeps under writes of the reference to its own cells -/
def Stb (FR : gS → Prop) (m : Nat) (μ : Nat → Nat) : Prop := ∀ g a i v, (a = m ∨ ∃ t, mK t ≠ 0 ∧ a = μ t) → FR g → FR (sU g a i v)
def TT : gS → Prop := fun _ => True
theorem stb_TT {m : Nat} {μ : Nat → Nat} : Stb TT m μ := fun _ _ _ _ _ _ => trivial
def Own (m : Nat) (μ : Nat → Nat) (a : Nat) : Prop := a = m ∨ ∃ t, mK t ≠ 0 ∧ a = μ t
/-- a cell as it is -/
def Ce (q k n : Nat) (f : Nat → Int32) : gS → Prop := fun h => gK h q = k ∧ gN h q = n ∧ gI h q = f
theorem Ce.w {q k n : Nat} {f : Nat → Int32} {h : gS} (hc : Ce q k n f h) {a i : Nat} {v : Int32} (ha : q ≠ a) : Ce q k n f (sU h a i v) := by
  obtain ⟨h1, h2, h3⟩ := hc
  exact ⟨h1, h2, by show gI (sI h a _) q = f; rw [gI_sI_ne ha]; exact h3⟩
section MSWAP
variable {FR FR' : gS → Prop} {m : Nat} {μ : Nat → Nat} {σ : Rows} {n : Nat} {T : Nat → Int32} {g g' : gS} {bf nn nr ns : Nat}
theorem MR.own (h : MR FR m μ σ g) {a : Nat} (ha : Own m μ a) : gK g a ≠ 0 := by
  rcases ha with e | ⟨t, ht, e⟩
  · subst e; rw [h.1]; decide
  · subst e; rw [(h.2.2.1 t ht).2.1]; exact ht
theorem MR.ext (h : MR FR m μ σ g) (hs : ∀ a, Own m μ a → gK g' a = gK g a ∧ gN g' a = gN g a ∧ gI g' a = gI g a ∧ gR g' a = gR g a) (h1 : FR' g') (h2 : Stb FR' m μ) : MR FR' m μ σ g' := by
  obtain ⟨a1, a2, a3, a4, a5, a6, a7⟩ := h
  have hm := hs m (Or.inl rfl)
  refine ⟨by rw [hm.1]; exact a1, by rw [hm.2.2.1]; exact a2, fun t ht => ?_, a4, a5, h1, h2⟩
  obtain ⟨b1, b2, b3, b4⟩ := a3 t ht
  obtain ⟨c1, c2, c3, _⟩ := hs (μ t) (Or.inr ⟨t, ht, rfl⟩)
  exact ⟨by rw [hm.2.2.2]; exact b1, by rw [c1]; exact b2, by rw [c2]; exact b3, by rw [c3]; exact b4⟩
theorem MT.ext (h : MT FR m μ σ n T g) (hs : ∀ a, Own m μ a → gK g' a = gK g a ∧ gN g' a = gN g a ∧ gI g' a = gI g a ∧ gR g' a = gR g a) (h1 : FR' g') (h2 : Stb FR' m μ) : MT FR' m μ σ n T g' := by
  obtain ⟨σ2, a, b, c⟩ := h
  exact ⟨σ2, a.ext hs h1 h2, b, c⟩
theorem MU.ext (h : MU FR m μ σ T g) (hs : ∀ a, Own m μ a → gK g' a = gK g a ∧ gN g' a = gN g a ∧ gI g' a = gI g a ∧ gR g' a = gR g a) (h1 : FR' g') (h2 : Stb FR' m μ) : MU FR' m μ σ T g' := by
  obtain ⟨σ2, a, b, c⟩ := h
  exact ⟨σ2, a.ext hs h1 h2, b, c⟩
theorem MT.own (h : MT FR m μ σ n T g) {a : Nat} (ha : Own m μ a) : gK g a ≠ 0 := by
  obtain ⟨σ2, b, _⟩ := h; exact b.own ha
theorem MT.fr (h : MT FR m μ σ n T g) : FR g := by
  obtain ⟨σ2, b, _⟩ := h; exact b.2.2.2.2.2.1
/-- another cell made -/
theorem MT.new (h : MT FR m μ σ n T g) {q k l : Nat} (hq : gK g q = 0) (h1 : FR' (sNew g q k l)) (h2 : Stb FR' m μ) : MT FR' m μ σ n T (sNew g q k l) := by
  refine h.ext (fun a ha => ?_) h1 h2
  have : a ≠ q := fun e => h.own ha (by rw [e]; exact hq)
  exact ⟨va_up_ne _ _ this, va_up_ne _ _ this, va_up_ne _ _ this, va_up_ne _ _ this⟩
/-- another cell written -/
theorem MT.out (h : MT FR m μ σ n T g) {q i : Nat} {v : Int32} (hq : ¬ Own m μ q) (h1 : FR' (sU g q i v)) (h2 : Stb FR' m μ) : MT FR' m μ σ n T (sU g q i v) := by
  refine h.ext (fun a ha => ?_) h1 h2
  have : a ≠ q := fun e => hq (by rw [← e]; exact ha)
  exact ⟨rfl, rfl, gI_sI_ne this, rfl⟩
/-- another row put in a row's place -/
theorem MR.swap (h : MR FR m μ σ g) {t q : Nat} (ht : mK t ≠ 0) (hk : gK g q = mK t) (hn : gN g q = mN t) (hq : ¬ Own m μ q ∨ q = μ t) (h1 : FR' (sV g m t (some q))) (h2 : Stb FR' m (va_up μ t q)) : MR FR' m (va_up μ t q) (va_up σ t (gI g q)) (sV g m t (some q)) := by
  obtain ⟨a1, a2, a3, a4, a5, a6, a7⟩ := h
  have t0 : t ≠ 0 := fun e => ht (by rw [e]; rfl)
  have qm : q ≠ m := by
    rcases hq with hq | e
    · exact fun e => hq (Or.inl e)
    · rw [e]; exact a5 t ht
  have qu : ∀ u, mK u ≠ 0 → u ≠ t → μ u ≠ q := by
    intro u hu hut e
    rcases hq with hq | e2
    · exact hq (Or.inr ⟨u, hu, e.symm⟩)
    · exact hut (a4 u t hu ht (by rw [e, e2]))
  refine ⟨a1, ?_, fun u hu => ?_, fun u w hu hw e => ?_, fun u hu => ?_, h1, h2⟩
  · show gI g m = va_up σ t (gI g q) 0
    rw [va_up_ne _ _ (Ne.symm t0)]; exact a2
  · obtain ⟨b1, b2, b3, b4⟩ := a3 u hu
    by_cases e : u = t
    · subst e
      rw [va_up_self, va_up_self]
      exact ⟨by show gR (sR g m _) m u = _; rw [gR_sR_self, va_up_self], hk, hn, rfl⟩
    · rw [va_up_ne _ _ e, va_up_ne _ _ e]
      exact ⟨by show gR (sR g m _) m u = _; rw [gR_sR_self, va_up_ne _ _ e]; exact b1, b2, b3, b4⟩
  · by_cases e1 : u = t
    · by_cases e2 : w = t
      · rw [e1, e2]
      · subst e1; rw [va_up_self, va_up_ne _ _ e2] at e
        exact absurd e.symm (qu w hw e2)
    · by_cases e2 : w = t
      · subst e2; rw [va_up_self, va_up_ne _ _ e1] at e
        exact absurd e (qu u hu e1)
      · rw [va_up_ne _ _ e1, va_up_ne _ _ e2] at e
        exact a4 u w hu hw e
  · by_cases e : u = t
    · subst e; rw [va_up_self]; exact qm
    · rw [va_up_ne _ _ e]; exact a5 u hu
theorem CB.up {σ' : Rows} (h : CB (va_up σ 29 T) σ') {t : Nat} {f : Nat → Int32} (ht : t ≠ 29) (h0 : t ≠ 0) : CB (va_up (va_up σ t f) 29 T) (va_up σ' t f) := by
  refine ⟨fun u a b c => ?_, fun i a b => ?_⟩
  · by_cases e : u = t
    · subst e; rw [va_up_self, va_up_ne _ _ ht, va_up_self]
    · rw [va_up_ne _ _ e, h.1 u a b c]
      by_cases e2 : u = 29
      · subst e2; rw [va_up_self, va_up_self]
      · rw [va_up_ne _ _ e2, va_up_ne _ _ e2, va_up_ne _ _ e]
  · rw [va_up_ne _ _ (Ne.symm h0), h.2 i a b, va_up_ne _ _ (by decide), va_up_ne _ _ (by decide), va_up_ne _ _ (Ne.symm h0)]
theorem MT.swap11 (h : MT FR m μ σ n T g) {q : Nat} {f : Nat → Int32} (hc : Ce q 21 200 f g) (hq : ¬ Own m μ q ∨ q = μ 11) (h1 : FR' (sV g m 11 (some q))) (h2 : Stb FR' m (va_up μ 11 q)) : MT FR' m (va_up μ 11 q) (va_up σ 11 f) n T (sV g m 11 (some q)) := by
  obtain ⟨σ2, a, b, c⟩ := h
  obtain ⟨c1, c2, c3⟩ := hc
  refine ⟨va_up σ2 11 f, by rw [← c3]; exact a.swap (t := 11) (by decide) c1 c2 hq h1 h2, b.up (by decide) (by decide), ?_⟩
  rcases c with c | ⟨c, d⟩
  · exact Or.inl c
  · exact Or.inr ⟨c, d⟩
theorem MU.swap6 (h : MU FR m μ σ T g) {q : Nat} {f : Nat → Int32} (hc : Ce q 22 60 f g) (hq : ¬ Own m μ q ∨ q = μ 6) (h1 : FR' (sV g m 6 (some q))) (h2 : Stb FR' m (va_up μ 6 q)) : MU FR' m (va_up μ 6 q) (va_up σ 6 f) T (sV g m 6 (some q)) := by
  obtain ⟨σ2, a, b, c⟩ := h
  obtain ⟨c1, c2, c3⟩ := hc
  exact ⟨va_up σ2 6 f, by rw [← c3]; exact a.swap (t := 6) (by decide) c1 c2 hq h1 h2, b.up (by decide) (by decide), c⟩
theorem va_up_id {α : Type} {f : Nat → α} {k : Nat} : va_up f k (f k) = f := by
  funext j; by_cases e : j = k
  · subst e; exact va_up_self _ _ _
  · exact va_up_ne _ _ e
theorem va_up_up {α : Type} {f : Nat → α} {k : Nat} {x y : α} : va_up (va_up f k x) k y = va_up f k y := by
  funext j; by_cases e : j = k
  · subst e; rw [va_up_self, va_up_self]
  · rw [va_up_ne _ _ e, va_up_ne _ _ e, va_up_ne _ _ e]
theorem mo_byAlias (h : MT TT m μ σ n T g) (hG : GI σ n bf nn nr ns) (hN : NG σ nn) {a : Int32} {Q : Int32 → gS → Prop} (hQ : ∀ g' T', MT TT m μ (S_byAlias σ a).2.2 n T' g' → Q (S_byAlias σ a).2.1 g') : w_X11_byAlias g m a Q := by
  have hn := hG.n
  have hnn := hG.nn3
  unfold w_X11_byAlias
  unfold S_byAlias at hQ
  rw [hG.nF] at hQ
  refine ⟨h.k, fun g1 e1 => ?_⟩
  subst e1
  have h1 := h.z 0
  refine ⟨h1.k, mt_nodez h1 (m_if (fun c => ?_) (fun c q hq g2 e2 => ?_))⟩
  · rw [if_pos c] at hQ; exact mt_no h1 (fun g' => hQ g' T)
  · rw [if_neg c] at hQ
    dsimp only [good] at hQ
    obtain ⟨j, hj, rfl⟩ := hG.isN (nn2 c)
    rw [show cl (nI j) = j from cl_nI (by omega)] at hQ
    subst e2
    have nq : ¬ Own m μ q := fun o => h1.own o hq
    have sq : ∀ F, Stb (Ce q 22 60 F) m μ := fun F g a i v ha hc => hc.w (fun e => nq (by rw [e]; exact ha))
    have hNz : NG (tz σ 0) nn := hN
    have hGz : GI (tz σ 0) n bf nn nr ns := hG
    have h2 : MT (Ce q 22 60 (fun _ => 0)) m μ (tz σ 0) n T (sNew (sU g m 0 0) q 22 60) := h1.new hq ⟨va_up_self _ _ _, va_up_self _ _ _, va_up_self _ _ _⟩ (sq _)
    refine lpx2_i n (fun k g' i => i = nI k ∧ ∃ T' F, MT (Ce q 22 60 F) m μ (tz σ 0) n T' g' ∧ ∀ d, d < k → F d = bI (!decide (scoreNowF σ n d j < 0))) ?_ ?_ _ 0 ⟨rfl, T, _, h2, fun d hd => absurd hd (Nat.not_lt_zero _)⟩
    · rintro k g3 _ hk ⟨rfl, T3, F, h3, hF⟩ K hK
      unfold l_X11_byAlias_26
      refine ⟨h3.k, ?_⟩
      rw [h3.s (by decide) (by decide), tz_0 (by decide), hG.d1]
      refine ⟨fun c => absurd c (nI_ge hk (by omega)), fun _ => mt_scoreNow hGz hNz hj hk h3 (fun g4 T4 h4 _ => ?_)⟩
      rw [tz_scoreNowF]
      have hce := h4.fr
      have on : ∀ b : Bool, b = (!decide (scoreNowF σ n k j < 0)) → b_X11_byAlias_50 g4 m (nI j) q (nI k) q (nI k) (bI b) Q K := by
        intro b hb
        unfold b_X11_byAlias_50
        refine ⟨hce.1, by rw [hce.2.1]; exact vpi (by omega), bI_01 b, fun g5 e5 => ?_⟩
        subst e5
        rw [cl_nI (by omega), nI_1]
        refine hK _ _ ⟨rfl, T4, upd F k (bI b), h4.out nq ⟨hce.1, hce.2.1, ?_⟩ (sq _), fun d hd => ?_⟩
        · show gI (sI g4 q _) q = _
          rw [gI_sI_self, hce.2.2]
        · unfold upd
          split
          · rename_i e; rw [e, hb]
          · exact hF d (by omega)
      refine ⟨fun c2 => on false (by rw [decide_eq_true c2]; rfl), fun c2 => on true (by rw [decide_eq_false c2]; rfl)⟩
    · rintro g3 _ ⟨rfl, T3, F, h3, hF⟩ K
      unfold l_X11_byAlias_26
      refine ⟨h3.k, ?_⟩
      rw [h3.s (by decide) (by decide), tz_0 (by decide), hG.d1]
      refine ⟨fun _ => ⟨_, h3.r11, fun q2 hq2 g4 e4 => ?_⟩, fun c => absurd (nI_le (Nat.le_refl _) (by omega)) c⟩
      subst e4
      have nq2 : ¬ Own m μ q2 := fun o => h3.own o hq2
      have hce := h3.fr
      have qq2 : q ≠ q2 := fun e => by rw [← e, hce.1] at hq2; exact absurd hq2 (by decide)
      have o11 : Own m μ (μ 11) := Or.inr ⟨11, by decide, rfl⟩
      have y_q2 : μ 11 ≠ q2 := fun e => nq2 (by rw [← e]; exact o11)
      have y_q : μ 11 ≠ q := fun e => nq (by rw [← e]; exact o11)
      have y_m : μ 11 ≠ m := by obtain ⟨_, a, _⟩ := h3; exact a.2.2.2.2.1 11 (by decide)
      have y_u : ∀ t, mK t ≠ 0 → t ≠ 11 → μ 11 ≠ μ t := by
        obtain ⟨_, a, _⟩ := h3
        exact fun t ht hne e => hne (a.2.2.2.1 11 t (by decide) ht e).symm
      -- the new row made
      have h4 : MT (fun h => Ce q 22 60 F h ∧ Ce q2 21 200 (fun _ => 0) h) m μ (tz σ 0) n T3 (sNew g3 q2 21 200) := by
        refine h3.new hq2 ⟨⟨?_, ?_, ?_⟩, va_up_self _ _ _, va_up_self _ _ _, va_up_self _ _ _⟩ ?_
        · show va_up g3.1 q2 21 q = 22; rw [va_up_ne _ _ qq2]; exact hce.1
        · show va_up g3.2.1 q2 200 q = 60; rw [va_up_ne _ _ qq2]; exact hce.2.1
        · show va_up g3.2.2.1 q2 _ q = F; rw [va_up_ne _ _ qq2]; exact hce.2.2
        · exact fun g a i v ha hc => ⟨hc.1.w (fun e => nq (by rw [e]; exact ha)), hc.2.w (fun e => nq2 (by rw [e]; exact ha))⟩
      refine ⟨h4.k, fun g5 e5 => ?_⟩
      subst e5
      have hy : Ce (μ 11) 21 200 (σ 11) (sNew g3 q2 21 200) := ⟨h4.k11, h4.n11, by rw [h4.i11]; exact tz_r (by decide)⟩
      -- in the row's place
      have stb : Stb (fun h => Ce q 22 60 F h ∧ Ce (μ 11) 21 200 (σ 11) h) m (va_up μ 11 q2) := by
        intro g a i v ha hc
        refine ⟨hc.1.w ?_, hc.2.w ?_⟩
        · rcases ha with e | ⟨t, ht, e⟩
          · exact fun e2 => nq (Or.inl (by rw [e2, e]))
          · by_cases et : t = 11
            · subst et; rw [va_up_self] at e; rw [e]; exact qq2
            · rw [va_up_ne _ _ et] at e; exact fun e2 => nq (Or.inr ⟨t, ht, by rw [e2, e]⟩)
        · rcases ha with e | ⟨t, ht, e⟩
          · rw [e]; exact y_m
          · by_cases et : t = 11
            · subst et; rw [va_up_self] at e; rw [e]; exact y_q2
            · rw [va_up_ne _ _ et] at e; rw [e]; exact y_u t ht et
      have h5 : MT (fun h => Ce q 22 60 F h ∧ Ce (μ 11) 21 200 (σ 11) h) m (va_up μ 11 q2) (va_up (tz σ 0) 11 (fun _ => 0)) n T3 (sV (sNew g3 q2 21 200) m 11 (some q2)) :=
        h4.swap11 h4.fr.2 (Or.inl nq2) ⟨h4.fr.1, hy⟩ stb
      have hG5 : ∀ k, GI (va_up (tz σ 0) 11 (fun i => if i < k then -1 else 0)) n bf nn nr ns := by
        intro k
        obtain ⟨a1, a2, a3, a4, a5, a6, a7, a8⟩ := hGz
        refine ⟨a1, a2, a3, a4, a5, a6, a7, fun t ht => ?_⟩
        rw [va_up_self]
        split
        · exact Or.inl rfl
        · exact Or.inr ⟨0, by decide, rfl⟩
      refine lpx2_i 200 (fun k g' i => i = nI k ∧ MT (fun h => Ce q 22 60 F h ∧ Ce (μ 11) 21 200 (σ 11) h) m (va_up μ 11 q2) (va_up (tz σ 0) 11 (fun i => if i < k then -1 else 0)) n T3 g') ?_ ?_ _ 0 ⟨rfl, by simpa using h5⟩
      · rintro k g6 _ hk ⟨rfl, h6⟩ K2 hK2
        unfold l_X11_byAlias_74
        refine ⟨fun c => absurd c (nI_ge hk (by decide)), fun _ => ⟨h6.k, _, h6.r11, h6.k11, by rw [h6.n11]; exact vpi hk, fun g7 e7 => ?_⟩⟩
        subst e7
        rw [cl_nI (by omega), nI_1]
        have h7 := h6.wa 11 k (-1) (by decide) (by decide)
        have e8 : su (va_up (tz σ 0) 11 (fun i => if i < k then -1 else 0)) 11 k (-1) = va_up (tz σ 0) 11 (fun i => if i < k + 1 then -1 else 0) := by
          funext u i
          by_cases e : u = 11
          · subst e
            rw [su_at, va_up_self, va_up_self]
            by_cases e2 : i = k
            · rw [if_pos e2, if_pos (by omega)]
            · rw [if_neg e2]
              by_cases e3 : i < k
              · rw [if_pos e3, if_pos (by omega)]
              · rw [if_neg e3, if_neg (by omega)]
          · rw [su_row e, va_up_ne _ _ e, va_up_ne _ _ e]
        rw [e8] at h7
        exact hK2 _ _ ⟨rfl, h7⟩
      · rintro g6 _ ⟨rfl, h6⟩ K2
        unfold l_X11_byAlias_74
        refine ⟨fun _ => ?_, fun c => absurd (by decide) c⟩
        have sam : Sam (noAl σ) (va_up (tz σ 0) 11 (fun i => if i < 200 then -1 else 0)) := by
          intro t h0 _ _
          unfold noAl
          by_cases e : t = 11
          · subst e; rw [va_up_self, va_up_self]
          · rw [va_up_ne _ _ e, va_up_ne _ _ e]; exact tz_r h0
        have hN6 : NG (va_up (tz σ 0) 11 (fun i => if i < 200 then -1 else 0)) nn := hN
        refine lpx3_i n (fun k g' s i => s = nI (cnt (fun d => !decide (scoreNowF σ n d j < 0) && decide (scoreNowF (noAl σ) n d j < 0)) k) ∧ i = nI k ∧ ∃ T', MT (fun h => Ce q 22 60 F h ∧ Ce (μ 11) 21 200 (σ 11) h) m (va_up μ 11 q2) (va_up (tz σ 0) 11 (fun i => if i < 200 then -1 else 0)) n T' g') ?_ ?_ g6 0 0 ⟨rfl, rfl, T3, h6⟩
        · rintro k g7 _ _ hk ⟨rfl, rfl, T7, h7⟩ K3 hK3
          unfold l_X11_byAlias_102 b_X11_byAlias_134 b_X11_byAlias_135
          refine ⟨h7.k, ?_⟩
          rw [h7.s (by decide) (by decide), va_up_ne _ _ (by decide), tz_0 (by decide), hG.d1]
          have hce7 := h7.fr.1
          refine ⟨fun c => absurd c (nI_ge hk (by omega)), fun _ => ⟨hce7.1, by rw [hce7.2.1]; exact vpi (by omega), ?_⟩⟩
          rw [hce7.2.2, cl_nI (by omega), hF k hk]
          refine ⟨fun c2 => ?_, fun c2 => mt_scoreNow (hG5 200) hN6 hj hk h7 (fun g8 T8 h8 _ => ?_)⟩
          · refine hK3 _ _ _ ⟨?_, nI_1 k, T7, h7⟩
            rw [cnt_s, bI_0.mp c2]; simp
          · rw [sam.now]
            refine ⟨fun c3 => hK3 _ _ _ ⟨?_, nI_1 k, T8, h8⟩, fun c3 => hK3 _ _ _ ⟨?_, nI_1 k, T8, h8⟩⟩
            · rw [cnt_s, bI_n0 c2, decide_eq_false (i32_nl.mpr c3)]; simp
            · rw [cnt_s, bI_n0 c2, decide_eq_true (i32_nle.mp c3)]; rw [nI_1]; simp
        · rintro g7 _ _ ⟨rfl, rfl, T7, h7⟩ K3
          unfold l_X11_byAlias_102
          refine ⟨h7.k, ?_⟩
          rw [h7.s (by decide) (by decide), va_up_ne _ _ (by decide), tz_0 (by decide), hG.d1]
          refine ⟨fun _ g8 e8 => ?_, fun c => absurd (nI_le (Nat.le_refl _) (by omega)) c⟩
          subst e8
          have nown : ¬ Own m (va_up μ 11 q2) (μ 11) := by
            rintro (e | ⟨t, ht, e⟩)
            · exact y_m e
            · by_cases et : t = 11
              · subst et; rw [va_up_self] at e; exact y_q2 e
              · rw [va_up_ne _ _ et] at e; exact y_u t ht et e
          have h8 := h7.swap11 (FR' := TT) h7.fr.2 (Or.inl nown) trivial stb_TT
          rw [va_up_up, va_up_up, va_up_id] at h8
          refine hQ _ T7 ?_
          have : va_up (tz σ 0) 11 (σ 11) = tz σ 0 := by
            have := va_up_id (f := tz σ 0) (k := 11)
            rw [show tz σ 0 11 = σ 11 from tz_r (by decide)] at this; exact this
          rw [← this]; exact h8
end MSWAP
