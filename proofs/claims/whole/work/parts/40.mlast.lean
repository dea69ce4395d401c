/-! THE REFERENCE: wouldScore, waste, digest -/
section MLAST
variable {FR FR' : gS → Prop} {m : Nat} {μ : Nat → Nat} {σ : Rows} {n : Nat} {T : Nat → Int32} {g g' : gS} {bf nn nr ns : Nat}
theorem MU.own (h : MU FR m μ σ T g) {a : Nat} (ha : Own m μ a) : gK g a ≠ 0 := (h.mt 0).own ha
theorem MU.fr (h : MU FR m μ σ T g) : FR g := (h.mt 0).fr
theorem MU.u (h : MU FR m μ σ T g) : MU FR m μ σ T (sU g m 25 0) := (h.mt 0).u
/-- with no claim on what is counted -/
def MV (FR : gS → Prop) (m : Nat) (μ : Nat → Nat) (σ : Rows) (T : Nat → Int32) (g : gS) : Prop := ∃ σ', MR FR m μ σ' g ∧ CB (va_up σ 29 T) σ'
theorem MV.of (h : MT FR m μ σ n T g) : MV FR m μ σ T g := by
  obtain ⟨σ2, a, b, _⟩ := h; exact ⟨σ2, a, b⟩
theorem MV.u (h : MV FR m μ σ T g) : MU FR m μ σ T (sU g m 25 0) := by
  obtain ⟨σ2, a, b⟩ := h
  refine ⟨_, a.s 25 0, ⟨fun t h0 h1 h2 => by rw [su_row h0]; exact b.1 t h0 h1 h2, fun j h1 h2 => by rw [su_at, if_neg h1]; exact b.2 j h1 h2⟩, by rw [su_at, if_pos rfl]⟩
theorem MV.k (h : MV FR m μ σ T g) : gK g m = 12 := by obtain ⟨σ2, a, b⟩ := h; exact a.k
theorem MV.s (h : MV FR m μ σ T g) {i : Nat} (h1 : i ≠ 25) (h2 : i ≠ 26) : gI g m i = σ 0 i := by
  obtain ⟨σ', h, hb⟩ := h; rw [h.i, hb.2 i h1 h2]; rfl
theorem MV.r5 (h : MV FR m μ σ T g) : gR g m 5 = some (μ 5) := by obtain ⟨σ2, a, b⟩ := h; exact a.r5
theorem MV.k5 (h : MV FR m μ σ T g) : gK g (μ 5) = 22 := by obtain ⟨σ2, a, b⟩ := h; exact a.k5
theorem MV.n5 (h : MV FR m μ σ T g) : gN g (μ 5) = 60 := by obtain ⟨σ2, a, b⟩ := h; exact a.n5
theorem MV.i5 (h : MV FR m μ σ T g) : gI g (μ 5) = σ 5 := by
  obtain ⟨σ2, a, b⟩ := h; rw [a.i5, b.1 5 (by decide) (by decide) (by decide)]; rfl
theorem MV.r6 (h : MV FR m μ σ T g) : gR g m 6 = some (μ 6) := by obtain ⟨σ2, a, b⟩ := h; exact a.r6
theorem MV.k6 (h : MV FR m μ σ T g) : gK g (μ 6) = 22 := by obtain ⟨σ2, a, b⟩ := h; exact a.k6
theorem MV.n6 (h : MV FR m μ σ T g) : gN g (μ 6) = 60 := by obtain ⟨σ2, a, b⟩ := h; exact a.n6
theorem MV.w6 (h : MV FR m μ σ T g) (i : Nat) (v : Int32) : MV FR m μ (su σ 6 i v) T (sU g (μ 6) i v) := by
  obtain ⟨σ2, a, b⟩ := h
  exact ⟨_, a.a 6 (by decide) i v, by rw [up29_su (by decide)]; exact b.su2 6 i v⟩
theorem MV.fr (h : MV FR m μ σ T g) : FR g := by obtain ⟨σ2, b, _⟩ := h; exact b.2.2.2.2.2.1
theorem MV.swap6 (h : MV FR m μ σ T g) {q : Nat} {f : Nat → Int32} (hc : Ce q 22 60 f g) (hq : ¬ Own m μ q ∨ q = μ 6) (h1 : FR' (sV g m 6 (some q))) (h2 : Stb FR' m (va_up μ 6 q)) : MV FR' m (va_up μ 6 q) (va_up σ 6 f) T (sV g m 6 (some q)) := by
  obtain ⟨σ2, a, b⟩ := h
  obtain ⟨c1, c2, c3⟩ := hc
  exact ⟨va_up σ2 6 f, by rw [← c3]; exact a.swap (t := 6) (by decide) c1 c2 hq h1 h2, b.up (by decide) (by decide)⟩
theorem mo_wouldScore (h : MT TT m μ σ n T g) (hG : GI σ n bf nn nr ns) (hN : NG σ nn) {a b : Int32} {Q : Int32 → gS → Prop} (hQ : ∀ g' T', MT TT m μ (S_wouldScore σ a b).2.2 n T' g' → Q (S_wouldScore σ a b).2.1 g') : w_X11_wouldScore g m a b Q := by
  have hn := hG.n
  have hnn := hG.nn3
  unfold w_X11_wouldScore b_X11_wouldScore_21
  unfold S_wouldScore at hQ
  rw [hG.nF] at hQ
  refine ⟨h.k, fun g1 e1 => ?_⟩
  subst e1
  have h1 := h.z 0
  refine ⟨h1.k, mt_nodez h1 (m_if (fun c => ?_) (fun c => mt_docz h1 (m_if (fun c2 => ?_) (fun c2 => ⟨_, h1.r6, fun q hq g2 e2 => ?_⟩))))⟩
  · rw [if_pos (Or.inl c)] at hQ; exact ⟨h1.k, mt_no h1 (fun g' => hQ g' T)⟩
  · rw [if_pos (Or.inr c2)] at hQ; exact ⟨h1.k, mt_no h1 (fun g' => hQ g' T)⟩
  · rw [if_neg (nor2 c c2)] at hQ
    dsimp only [good] at hQ
    obtain ⟨j, hj, rfl⟩ := hG.isN (nn2 c)
    obtain ⟨d, hd, rfl⟩ := hG.isD (nn2 c2)
    rw [show cl (nI j) = j from cl_nI (by omega), show cl (nI d) = d from cl_nI (by omega)] at hQ
    subst e2
    have nq : ¬ Own m μ q := fun o => h1.own o hq
    have o6 : Own m μ (μ 6) := Or.inr ⟨6, by decide, rfl⟩
    have y_q : μ 6 ≠ q := fun e => nq (by rw [← e]; exact o6)
    have y_m : μ 6 ≠ m := by obtain ⟨_, a, _⟩ := h1; exact a.2.2.2.2.1 6 (by decide)
    have y_u : ∀ t, mK t ≠ 0 → t ≠ 6 → μ 6 ≠ μ t := by
      obtain ⟨_, a, _⟩ := h1
      exact fun t ht hne e => hne (a.2.2.2.1 6 t (by decide) ht e).symm
    have h2 : MT (Ce q 22 60 (fun _ => 0)) m μ (tz σ 0) n T (sNew (sU g m 0 0) q 22 60) := h1.new hq ⟨va_up_self _ _ _, va_up_self _ _ _, va_up_self _ _ _⟩ (fun g a i v ha hc => hc.w (fun e => nq (by rw [e]; exact ha)))
    refine ⟨h2.k, fun g3 e3 => ?_⟩
    subst e3
    have hy : Ce (μ 6) 22 60 (σ 6) (sNew (sU g m 0 0) q 22 60) := ⟨h2.k6, h2.n6, by rw [h2.i6]; exact tz_r (by decide)⟩
    have stb : Stb (Ce (μ 6) 22 60 (σ 6)) m (va_up μ 6 q) := by
      intro g a i v ha hc
      refine hc.w ?_
      rcases ha with e | ⟨t, ht, e⟩
      · rw [e]; exact y_m
      · by_cases et : t = 6
        · subst et; rw [va_up_self] at e; rw [e]; exact y_q
        · rw [va_up_ne _ _ et] at e; rw [e]; exact y_u t ht et
    have h3 : MV (Ce (μ 6) 22 60 (σ 6)) m (va_up μ 6 q) (va_up (tz σ 0) 6 (fun _ => 0)) T (sV (sNew (sU g m 0 0) q 22 60) m 6 (some q)) := (MV.of h2).swap6 h2.fr (Or.inl nq) hy stb
    refine lpx2_i n (fun k g' i => i = nI k ∧ MV (Ce (μ 6) 22 60 (σ 6)) m (va_up μ 6 q) (va_up (tz σ 0) 6 (fun i => if i < k ∧ σ 5 i = 0 then 1 else 0)) T g') ?_ ?_ _ 0 ⟨rfl, by simpa using h3⟩
    · rintro k g4 _ hk ⟨rfl, h4⟩ K hK
      unfold l_X11_wouldScore_43
      refine ⟨h4.k, ?_⟩
      rw [h4.s (by decide) (by decide), va_up_ne _ _ (by decide), tz_0 (by decide), hG.d1]
      refine ⟨fun c => absurd c (nI_ge hk (by omega)), fun _ => ⟨_, h4.r6, _, h4.r5, h4.k5, by rw [h4.n5]; exact vpi (by omega), ?_⟩⟩
      rw [h4.i5, cl_nI (by omega), va_up_ne _ _ (by decide), tz_r (by decide)]
      have on : ∀ b : Bool, b = decide (σ 5 k = 0) → b_X11_wouldScore_73 g4 m (nI j) (nI d) (μ 6) (nI k) (va_up μ 6 q 6) (nI k) (bI b) Q K := by
        intro b hb
        unfold b_X11_wouldScore_73
        refine ⟨h4.k6, by rw [h4.n6]; exact vpi (by omega), bI_01 b, fun g5 e5 => ?_⟩
        subst e5
        rw [cl_nI (by omega), nI_1]
        have h5 := h4.w6 k (bI b)
        have e8 : su (va_up (tz σ 0) 6 (fun i => if i < k ∧ σ 5 i = 0 then 1 else 0)) 6 k (bI b) = va_up (tz σ 0) 6 (fun i => if i < k + 1 ∧ σ 5 i = 0 then 1 else 0) := by
          funext u i
          by_cases e : u = 6
          · subst e
            rw [su_at, va_up_self, va_up_self]
            by_cases e2 : i = k
            · subst e2
              rw [if_pos rfl, hb]
              by_cases e9 : σ 5 i = 0
              · rw [decide_eq_true e9]; simp [e9, bI]
              · rw [decide_eq_false e9]; simp [e9, bI]
            · rw [if_neg e2]
              by_cases e3 : i < k
              · simp [e3, show i < k + 1 by omega]
              · simp [e3, show ¬ i < k + 1 by omega]
          · rw [su_row e, va_up_ne _ _ e, va_up_ne _ _ e]
        rw [e8] at h5
        exact hK _ _ ⟨rfl, h5⟩
      exact ⟨fun c => on true (by rw [decide_eq_true c]), fun c => on false (by rw [decide_eq_false c])⟩
    · rintro g4 _ ⟨rfl, h4⟩ K
      unfold l_X11_wouldScore_43
      refine ⟨h4.k, ?_⟩
      rw [h4.s (by decide) (by decide), va_up_ne _ _ (by decide), tz_0 (by decide), hG.d1]
      refine ⟨fun _ g5 e5 => ?_, fun c => absurd (nI_le (Nat.le_refl _) (by omega)) c⟩
      subst e5
      have h5 := h4.u.mt n
      have sam : Sam (fuR σ n) (va_up (tz σ 0) 6 (fun i => if i < n ∧ σ 5 i = 0 then 1 else 0)) := by
        intro t h0 _ _
        unfold fuR
        by_cases e : t = 6
        · subst e; rw [va_up_self, va_up_self]
        · rw [va_up_ne _ _ e, va_up_ne _ _ e]; exact tz_r h0
      have hG5 : GI (va_up (tz σ 0) 6 (fun i => if i < n ∧ σ 5 i = 0 then 1 else 0)) n bf nn nr ns := by
        obtain ⟨a1, a2, a3, a4, a5, a6, a7, a8⟩ := hG
        refine ⟨a1, a2, a3, a4, a5, fun t ht => ⟨(a6 t ht).1, ?_⟩, a7, a8⟩
        rw [va_up_self]
        split
        · exact Or.inr rfl
        · exact Or.inl rfl
      refine ⟨h5.k, mt_scoreNow hG5 hN hj hd h5 (fun g6 T6 h6 _ => ⟨h6.k, fun g7 e7 => ?_⟩)⟩
      subst e7
      rw [sam.now]
      have nown : ¬ Own m (va_up μ 6 q) (μ 6) := by
        rintro (e | ⟨t, ht, e⟩)
        · exact y_m e
        · by_cases et : t = 6
          · subst et; rw [va_up_self] at e; exact y_q e
          · rw [va_up_ne _ _ et] at e; exact y_u t ht et e
      have h7 := (MV.of h6).swap6 (FR' := TT) h6.fr (Or.inl nown) trivial stb_TT
      rw [va_up_up, va_up_up, va_up_id] at h7
      have : va_up (tz σ 0) 6 (σ 6) = tz σ 0 := by
        have := va_up_id (f := tz σ 0) (k := 6)
        rw [show tz σ 0 6 = σ 6 from tz_r (by decide)] at this; exact this
      rw [this] at h7
      refine ⟨h7.k, fun g8 e8 => ?_⟩
      subst e8
      exact hQ _ T6 (h7.u.mt n)
theorem mo_waste (h : MT FR m μ σ n T g) (hG : GI σ n bf nn nr ns) {Q : UInt64 → gS → Prop} (hnan : ¬ lyF σ n = 0 → vf_n64 (FP.ddiv (FP.i2d (nI (goneN σ n))) (FP.i2d (lyF σ n)))) (hQ : ∀ g', MT FR m μ (tz σ 0) n T g' → Q (wasteF σ n) g') : w_X11_waste g m Q := by
  have hn := hG.n
  unfold w_X11_waste
  refine ⟨h.k, fun g1 e1 => ?_⟩
  subst e1
  have h1 := h.z 0
  refine ⟨h1.k, mt_lying h1 hG.tz (fun g2 h2 _ => ?_)⟩
  rw [show lyF (tz σ 0) n = lyF σ n from rfl]
  refine lpx2_s n (fun k => nI (goneN σ k)) (fun k => nI k) rfl rfl (fun k hk K hK => ?_) (fun K => ?_)
  · unfold l_X11_waste_14 b_X11_waste_45 b_X11_waste_46
    refine ⟨h2.k, ?_⟩
    rw [h2.s (by decide) (by decide), tz_0 (by decide), hG.d1]
    unfold goneN at hK
    rw [cnt_s] at hK
    refine ⟨fun c => absurd c (nI_ge hk (by omega)), fun _ => ⟨_, h2.r6, h2.k6, by rw [h2.n6]; exact vpi (by omega), ?_⟩⟩
    rw [h2.i6, cl_nI (by omega), tz_r (by decide)]
    refine ⟨fun c => ?_, fun c => ⟨_, h2.r5, h2.k5, by rw [h2.n5]; exact vpi (by omega), ?_⟩⟩
    · rw [decide_eq_true c] at hK
      rw [nI_1, Int32.add_zero]; simpa [goneN] using hK
    · rw [h2.i5]; (try simp (disch := omega) only [cl_nI]); rw [tz_r (by decide)]
      rw [decide_eq_false c] at hK
      refine ⟨fun c2 => ?_, fun c2 => ?_⟩
      · rw [decide_eq_true c2] at hK
        rw [nI_1, Int32.add_zero]; simpa [goneN] using hK
      · rw [decide_eq_false c2] at hK
        rw [nI_1, nI_1]; simpa [goneN] using hK
  · unfold l_X11_waste_14 b_X11_waste_67
    refine ⟨h2.k, ?_⟩
    rw [h2.s (by decide) (by decide), tz_0 (by decide), hG.d1]
    have := hQ g2 h2
    unfold wasteF at this
    refine ⟨fun _ => ⟨fun c => ?_, fun c => ⟨hnan c, ?_⟩⟩, fun c => absurd (nI_le (Nat.le_refl _) (by omega)) c⟩
    · rw [if_pos c] at this; exact this
    · rw [if_neg c] at this; exact this
end MLAST
