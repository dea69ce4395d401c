/-! THE CLASS: a node more -/
theorem fR_u {l i u : Nat} (h : fR l i = some u) : u < 100 := by
  unfold fR at h
  split at h <;> first | (cases h; decide) | cases h
theorem dR_u {l i u : Nat} (h : dR l i = some u) : u < 20 ∧ dK u ≠ 0 := by
  unfold dR at h
  split at h <;> first | (cases h; exact ⟨by decide, by decide⟩) | cases h
def AddR (σ σ' : Rows) (nn : Nat) : Prop := (∀ t, t ≠ 0 → (t < 17 ∨ 21 < t) → σ' t = σ t) ∧ (∀ i, i ≠ 0 → i ≠ 16 → σ' 0 i = σ 0 i) ∧ σ' 0 16 = nI (nn + 1) ∧ ∀ t j, 17 ≤ t → t ≤ 21 → j ≠ nn → σ' t j = σ t j
section CADD
variable {A : Nat → Nat} {D : Nat} {V V' V1 σ σ' τ ρ : Rows} {n bf nn nr ns cb sb q : Nat} {ub : Bool} {g g' g1 : gS}
theorem jl_ne {l : Nat} (h : l < 2000) : l ≠ jl nn := by unfold jl; omega
theorem KL_more {l : Nat} (h : KL D (nn + 1) l ≠ 0) : l = jl nn ∨ KL D nn l = KL D (nn + 1) l := by
  unfold KL at h ⊢
  by_cases c : l < 100
  · rw [if_pos c, if_pos c]; exact Or.inr rfl
  · rw [if_neg c] at h
    rw [if_neg c, if_neg c]
    by_cases c2 : l < 2000
    · rw [if_pos c2, if_pos c2]; exact Or.inr rfl
    · rw [if_neg c2] at h
      rw [if_neg c2, if_neg c2]
      by_cases c3 : l - 2000 < nn
      · rw [if_pos c3, if_pos (by omega)]; exact Or.inr rfl
      · by_cases c4 : l - 2000 < nn + 1
        · exact Or.inl (by unfold jl; omega)
        · rw [if_neg c4] at h; exact absurd rfl h
/-- a new cell for a node -/
theorem CR.node (h : CR A D nn V g) (hnn : nn < 30) (hq : gK g q = 0) : CR (va_up A (jl nn) q) D (nn + 1) (va_up V (jl nn) (fun _ => 0)) (sNew g q 6 0) := by
  obtain ⟨h1, h2, h3, h4, h5, h6⟩ := h
  have hne : ∀ l, KL D nn l ≠ 0 → A l ≠ q := fun l hl e => by
    have := (h1 l hl).1
    rw [e, hq] at this
    exact hl this.symm
  have hA : ∀ l, l ≠ jl nn → va_up A (jl nn) q l = A l := fun l hl => va_up_ne _ _ hl
  refine ⟨fun l hl => ?_, fun l u hl hu e => ?_, fun l i u hr => ?_, fun d r i u hd hr => ?_, h5, by omega⟩
  · rcases KL_more hl with e | e
    · subst e
      rw [va_up_self, va_up_self, KL_j (by omega), gK_new, gN_new, gI_new]
      exact ⟨rfl, by rw [if_neg (by decide)], rfl⟩
    · have hl' : KL D nn l ≠ 0 := by rw [e]; exact hl
      have hlj : l ≠ jl nn := fun q => hl' (by rw [q]; unfold KL jl; rw [if_neg (by omega), if_neg (by omega), if_neg (by omega)])
      obtain ⟨a1, a2, a3⟩ := h1 l hl'
      rw [hA l hlj, va_up_ne _ _ hlj, gK_new_ne (hne l hl'), gN_new_ne (hne l hl'), gI_new_ne (hne l hl'), ← e]
      exact ⟨a1, a2, a3⟩
  · have cl : ∀ l, KL D (nn + 1) l ≠ 0 → l = jl nn ∨ (l ≠ jl nn ∧ KL D nn l ≠ 0) := fun l hl => by
      rcases KL_more hl with e | e
      · exact Or.inl e
      · by_cases q : l = jl nn
        · exact Or.inl q
        · exact Or.inr ⟨q, by rw [e]; exact hl⟩
    rcases cl l hl with el | ⟨el, kl⟩ <;> rcases cl u hu with eu | ⟨eu, ku⟩
    · rw [el, eu]
    · rw [el, va_up_self, hA u eu] at e; exact absurd e.symm (hne u ku)
    · rw [eu, va_up_self, hA l el] at e; exact absurd e (hne l kl)
    · rw [hA l el, hA u eu] at e; exact h2 l u kl ku e
  · have q := fR_k hr
    rw [hA l (jl_ne (by omega)), hA u (jl_ne (by have := fR_u hr; omega)), gR_new_ne (hne l (by rw [KL_f q.1]; exact q.2))]
    exact h3 l i u hr
  · have q := dR_k hr
    have qu := dR_u hr
    rw [hA _ (jl_ne (by unfold dl; omega)), hA _ (jl_ne (by unfold dl; omega)), gR_new_ne (hne _ (by rw [KL_d hd (by omega) q.1]; exact q.2))]
    exact h4 d r i u hd hr
theorem CR.wj {B : Nat → Nat} (h : CR B D (nn + 1) V g) (e : B (jl nn) = q) (i : Nat) (v : Int32) : CR B D (nn + 1) (su V (jl nn) i v) (sU g q i v) := by
  have := h.w (jl nn) 6 (KL_j (by omega)) (by decide) i v
  rw [e] at this; exact this
theorem CR.kj {B : Nat → Nat} (h : CR B D (nn + 1) V g) (e : B (jl nn) = q) : gK g q = 6 := by
  have := h.jk (j := nn) (by omega)
  rw [e] at this; exact this
theorem NW_cong {j : Nat} (h : NW σ j) (hs : ∀ t i, 17 ≤ t → t ≤ 21 → i ≤ j → σ' t i = σ t i) : NW σ' j := by
  unfold NW at h ⊢
  rw [hs 17 j (by decide) (by decide) (Nat.le_refl _), hs 18 j (by decide) (by decide) (Nat.le_refl _), hs 19 j (by decide) (by decide) (Nat.le_refl _), hs 20 j (by decide) (by decide) (Nat.le_refl _), hs 21 j (by decide) (by decide) (Nat.le_refl _)]
  rcases h with h | h | ⟨e, a, b, c, ha, hb, e1, e2, h⟩ | h
  · exact Or.inl h
  · exact Or.inr (Or.inl h)
  · exact Or.inr (Or.inr (Or.inl ⟨e, a, b, c, ha, hb, by rw [hs 17 a (by decide) (by decide) (by omega)]; exact e1, by rw [hs 17 b (by decide) (by decide) (by omega)]; exact e2, h⟩))
  · exact Or.inr (Or.inr (Or.inr h))
theorem vNode_cong {j : Nat} (h : vNode V σ j) (e : V' (jl j) = V (jl j)) (hs : ∀ t, 17 ≤ t → t ≤ 21 → σ' t j = σ t j) : vNode V' σ' j := by
  unfold vNode at h ⊢
  rw [e, hs 17 (by decide) (by decide), hs 18 (by decide) (by decide), hs 19 (by decide) (by decide), hs 20 (by decide) (by decide), hs 21 (by decide) (by decide)]
  exact h
theorem addF_R (hG : GI σ n bf nn nr ns) {s a b c : Int32} : AddR σ (addF σ s a b c) nn ∧ addF σ s a b c 17 nn = s ∧ addF σ s a b c 18 nn = a ∧ addF σ s a b c 19 nn = b ∧ addF σ s a b c 20 nn = c := by
  unfold addF
  rw [hG.nnF, hG.d16, nI_1]
  refine ⟨⟨fun t h0 ht => ?_, fun i h0 h16 => ?_, ?_, fun t j h1 h2 hj => ?_⟩, ?_, ?_, ?_, ?_⟩
  · rw [su_row h0, su_row (by omega), su_row (by omega), su_row (by omega), su_row (by omega), tz_r h0]
  · rw [su_at, if_neg h16, su_row (by decide), su_row (by decide), su_row (by decide), su_row (by decide), tz_0 h0]
  · rw [su_at, if_pos rfl]
  · have st : ∀ (τ : Rows) (u : Nat) (v : Int32), su τ u nn v t j = τ t j := fun τ u v => by
      by_cases e : t = u
      · subst e; rw [su_at, if_neg hj]
      · rw [su_row e]
    rw [su_row (by omega), st, st, st, st, tz_r (by omega)]
  · rw [su_row (by decide), su_row (by decide), su_row (by decide), su_row (by decide), su_at, if_pos rfl]
  · rw [su_row (by decide), su_row (by decide), su_row (by decide), su_at, if_pos rfl]
  · rw [su_row (by decide), su_row (by decide), su_at, if_pos rfl]
  · rw [su_row (by decide), su_at, if_pos rfl]
theorem addF_R21 (hG : GI σ n bf nn nr ns) {s a b c o : Int32} : AddR σ (addF (su σ 21 (nnF σ) o) s a b c) nn ∧ addF (su σ 21 (nnF σ) o) s a b c 17 nn = s ∧ addF (su σ 21 (nnF σ) o) s a b c 18 nn = a ∧ addF (su σ 21 (nnF σ) o) s a b c 19 nn = b ∧ addF (su σ 21 (nnF σ) o) s a b c 20 nn = c ∧ addF (su σ 21 (nnF σ) o) s a b c 21 nn = o := by
  have e0 : ∀ i, su σ 21 nn o 0 i = σ 0 i := fun i => by rw [su_row (by decide)]
  have en : nnF (su σ 21 nn o) = nn := by
    have : nnF (su σ 21 nn o) = nnF σ := by unfold nnF; rw [e0]
    rw [this, hG.nnF]
  rw [hG.nnF]
  unfold addF
  rw [en, e0, hG.d16, nI_1]
  refine ⟨⟨fun t h0 ht => ?_, fun i h0 h16 => ?_, ?_, fun t j h1 h2 hj => ?_⟩, ?_, ?_, ?_, ?_, ?_⟩
  · rw [su_row h0, su_row (by omega), su_row (by omega), su_row (by omega), su_row (by omega), tz_r h0, su_row (by omega)]
  · rw [su_at, if_neg h16, su_row (by decide), su_row (by decide), su_row (by decide), su_row (by decide), tz_0 h0, e0]
  · rw [su_at, if_pos rfl]
  · have st : ∀ (τ : Rows) (u : Nat) (v : Int32), su τ u nn v t j = τ t j := fun τ u v => by
      by_cases e : t = u
      · subst e; rw [su_at, if_neg hj]
      · rw [su_row e]
    rw [su_row (by omega), st, st, st, st, tz_r (by omega), st]
  · rw [su_row (by decide), su_row (by decide), su_row (by decide), su_row (by decide), su_at, if_pos rfl]
  · rw [su_row (by decide), su_row (by decide), su_row (by decide), su_at, if_pos rfl]
  · rw [su_row (by decide), su_row (by decide), su_at, if_pos rfl]
  · rw [su_row (by decide), su_at, if_pos rfl]
  · rw [su_row (by decide), su_row (by decide), su_row (by decide), su_row (by decide), su_row (by decide), tz_r (by decide), su_at, if_pos rfl]
/-- a node's cell is written, then put behind the others -/
theorem node_end (h : CX A D V σ n bf nn nr ns g) (hnn : nn < 30) (hq : gK g q = 0) (h1 : CR (va_up A (jl nn) q) D (nn + 1) V1 g1) (hV1 : ∀ u, u ≠ jl nn → V1 u = V u) (hR1 : ∀ a, gR g1 a = gR (sNew g q 6 0) a) (hA : AddR σ σ' nn) (hN' : NW σ' nn) (hv' : vNode V1 σ' nn) {Q : Int32 → gS → Prop} (hQ : ∀ g', CS (A 0) (A 73) σ' g' → Q (nI nn) g') : gK g1 (A 0) = 11 ∧ ∃ y, gR g1 (A 0) 2 = some y ∧ gK g1 y = 7 ∧ w_X6_append g1 y q (fun x g' => Q x g') := by
  obtain ⟨⟨hr, hv, hdoc, hnode, hf⟩, hce, ⟨hG, hN, hW, hs⟩, hE⟩ := h
  have hA0 : ∀ l, l < 2000 → va_up A (jl nn) q l = A l := fun l hl => va_up_ne _ _ (jl_ne hl)
  have k0 := h1.k0
  rw [hA0 0 (by decide)] at k0
  have r02 := h1.r0_2
  rw [hA0 0 (by decide), hA0 14 (by decide)] at r02
  have k14 := h1.k14
  rw [hA0 14 (by decide)] at k14
  have i14 := h1.i14
  rw [hA0 14 (by decide), hV1 14 (jl_ne (by decide))] at i14
  have r14 := h1.r14_1
  rw [hA0 14 (by decide), hA0 15 (by decide)] at r14
  have k15 := h1.k15
  rw [hA0 15 (by decide)] at k15
  have n15 := h1.n15
  rw [hA0 15 (by decide)] at n15
  have kq := h1.kj (q := q) (va_up_self _ _ _)
  refine ⟨k0, _, r02, k14, ?_⟩
  unfold w_X6_append w_X6_isFull b_X6_isFull_17
  refine ⟨k14, k14, _, r14, k15, ?_⟩
  rw [i14, hv.2.2.2.2.2.1, n15]
  refine ⟨fun _ => ⟨Or.inl rfl, fun _ => ⟨_, r14, k15, by rw [n15]; exact vpi hnn, kq, fun g2 e2 => ?_⟩, fun p => absurd rfl p⟩, fun c => absurd ((nI_lt_iff (by omega) (by decide)).mpr hnn) c⟩
  subst e2
  rw [cl_nI (by omega)]
  have h2 : CR (va_up A (jl nn) q) D (nn + 1) V1 (sV g1 (A 15) nn (some q)) := by
    have := h1.v 15 27 (KL_f (by decide)) (by decide) (by decide) nn rfl (some q)
    rw [hA0 15 (by decide)] at this; exact this
  have k14' := h2.k14
  rw [hA0 14 (by decide)] at k14'
  refine ⟨k14', fun g3 e3 => ?_⟩
  subst e3
  have i14' := h2.i14
  rw [hA0 14 (by decide), hV1 14 (jl_ne (by decide))] at i14'
  rw [i14', hv.2.2.2.2.2.1, nI_1]
  have h3 : CR (va_up A (jl nn) q) D (nn + 1) (su V1 14 2 (nI (nn + 1))) (sU (sV g1 (A 15) nn (some q)) (A 14) 2 (nI (nn + 1))) := by
    have := h2.w 14 7 (KL_f (by decide)) (by decide) 2 (nI (nn + 1))
    rw [hA0 14 (by decide)] at this; exact this
  have hne : ∀ l k, KL D nn l = k → k ≠ 0 → A l ≠ q := fun l k hl hk e => by
    have := hr.K l k hl hk
    rw [e, hq] at this; exact hk this.symm
  have gv : ∀ a j, a ≠ q → gR (sU (sV g1 (A 15) nn (some q)) (A 14) 2 (nI (nn + 1))) a j = if a = A 15 ∧ j = nn then some q else gR g a j := fun a j ha => by
    show gR (sV g1 (A 15) nn (some q)) a j = _
    rw [gR_sV, hR1, gR_new_ne ha]
  have ev : ∀ u, u ≠ jl nn → u ≠ 14 → su V1 14 2 (nI (nn + 1)) u = V u := fun u a b => by rw [su_row b, hV1 u a]
  have n2 : A 2 ≠ A 15 := hr.ne (by rw [KL_f (by decide)]; decide) (by rw [KL_f (by decide)]; decide) (by decide)
  have n1 : A 1 ≠ A 15 := hr.ne (by rw [KL_f (by decide)]; decide) (by rw [KL_f (by decide)]; decide) (by decide)
  have n19 : A 19 ≠ A 15 := hr.ne (by rw [KL_f (by decide)]; decide) (by rw [KL_f (by decide)]; decide) (by decide)
  obtain ⟨p1, p2, p3, p4⟩ := hA
  have er : ∀ t, t ≠ 0 → (t < 17 ∨ 21 < t) → σ' t = σ t := p1
  have e73 : va_up A (jl nn) q 73 = A 73 := hA0 73 (by decide)
  have e00 : va_up A (jl nn) q 0 = A 0 := hA0 0 (by decide)
  rw [← e73, ← e00] at hQ
  refine hQ _ (CX.cs (A := va_up A (jl nn) q) (D := D) (V := su V1 14 2 (nI (nn + 1))) (n := n) (bf := bf) (nn := nn + 1) (nr := nr) (ns := ns) ⟨⟨h3, ?_, fun d hd => vDoc_eq (hdoc d hd) (fun i _ => by rw [ev _ (by unfold dl jl; have := hr.D6; omega) (by unfold dl; omega)]) ?_ (fun r _ _ => ev _ (by unfold dl jl; have := hr.D6; omega) (by unfold dl; omega)) (fun t _ _ e1 e2 => er t (by omega) (by omega)), fun j hj => ?_, ?_⟩, vCen_eq hce (fun u a b => ev u (by unfold jl; omega) (by omega)) (er 6 (by decide) (by decide)) (er 7 (by decide) (by decide)) (er 8 (by decide) (by decide)), ⟨?_, fun j hj => ?_, by unfold WG at hW ⊢; rw [er 12 (by decide) (by decide)]; exact hW, hs.same (er 5 (by decide) (by decide)) (er 6 (by decide) (by decide)) (er 15 (by decide) (by decide))⟩, hE.same (p2 2 (by decide) (by decide)) (er 5 (by decide) (by decide)) (er 7 (by decide) (by decide))⟩)
  · have e := fun u (hu : u < 100) (h14 : u ≠ 14) => ev u (jl_ne (nn := nn) (by omega)) h14
    unfold vInt at hv ⊢
    rw [e 1 (by decide) (by decide), e 3 (by decide) (by decide), e 11 (by decide) (by decide), e 12 (by decide) (by decide), e 13 (by decide) (by decide), e 18 (by decide) (by decide), e 20 (by decide) (by decide), e 21 (by decide) (by decide), e 36 (by decide) (by decide), e 38 (by decide) (by decide), e 40 (by decide) (by decide), er 14 (by decide) (by decide), er 10 (by decide) (by decide), er 11 (by decide) (by decide), er 12 (by decide) (by decide), er 23 (by decide) (by decide), er 24 (by decide) (by decide), su_at, if_pos rfl]
    exact ⟨hv.1, hv.2.1, hv.2.2.1, hv.2.2.2.1, hv.2.2.2.2.1, rfl, hv.2.2.2.2.2.2⟩
  · rw [ev _ (by unfold dl jl; have := hr.D6; omega) (by unfold dl; omega), (hdoc d hd).2.2.1]; unfold hmF; rw [er 6 (by decide) (by decide), er 15 (by decide) (by decide)]
  · by_cases c : j = nn
    · subst c
      refine vNode_cong hv' (su_row (by unfold jl; omega)) (fun _ _ _ => rfl)
    · exact vNode_cong (hnode j (by omega)) (ev _ (by unfold jl; omega) (by unfold jl; omega)) (fun t a b => p4 t j a b c)
  · obtain ⟨r1, r2, r3, r4, r5, r6⟩ := hf
    have hdl : ∀ d, va_up A (jl nn) q (dl d 0) = A (dl d 0) ∨ ¬ d < 60 := fun d => by
      by_cases c : d < 60
      · exact Or.inl (hA0 _ (by unfold dl; omega))
      · exact Or.inr c
    have hn := hG.n
    refine ⟨fun d hd => ?_, ?_, fun j hj => ?_, fun p hp => ?_, r5, r6⟩
    · rw [hA0 2 (by decide), hA0 (dl d 0) (by unfold dl; omega), gv _ _ (hne 2 25 (KL_f (by decide)) (by decide)), if_neg (fun p => n2 p.1)]; exact r1 d hd
    · rw [hA0 1 (by decide), hA0 (dl n 0) (by unfold dl; omega), gv _ _ (hne 1 1 (KL_f (by decide)) (by decide)), if_neg (fun p => n1 p.1)]; exact r2
    · rw [hA0 15 (by decide), gv _ _ (hne 15 27 (KL_f (by decide)) (by decide))]
      by_cases c : j = nn
      · subst c; rw [if_pos ⟨rfl, rfl⟩, va_up_self]
      · rw [if_neg (fun p => c p.2), va_up_ne _ _ (by unfold jl; omega)]; exact r3 j (by omega)
    · obtain ⟨d, hd, e1, e2⟩ := r4 p hp
      exact ⟨d, hd, by rw [er 23 (by decide) (by decide)]; exact e1, by rw [hA0 19 (by decide), hA0 (dl d 0) (by unfold dl; omega), gv _ _ (hne 19 25 (KL_f (by decide)) (by decide)), if_neg (fun p => n19 p.1)]; exact e2⟩
  · obtain ⟨a1, a2, a3, a4, a5, a6, a7, a8⟩ := hG
    refine ⟨⟨a1.1, a1.2.1, by omega, a1.2.2.2⟩, ?_, ?_, ?_, ?_, ?_, ?_, ?_⟩
    · rw [p2 1 (by decide) (by decide), p2 9 (by decide) (by decide), p2 22 (by decide) (by decide), p2 13 (by decide) (by decide), p3]
      exact ⟨a2.1, a2.2.1, rfl, a2.2.2.2⟩
    · rw [p2 2 (by decide) (by decide)]; exact a3
    · rw [er 7 (by decide) (by decide)]; exact a4
    · rw [er 7 (by decide) (by decide), er 8 (by decide) (by decide)]; exact a5
    · rw [er 5 (by decide) (by decide), er 6 (by decide) (by decide)]; exact a6
    · rw [er 10 (by decide) (by decide)]; exact a7
    · rw [er 11 (by decide) (by decide)]; exact a8
  · by_cases c : j = nn
    · rw [c]; exact hN'
    · exact NW_cong (hN j (by omega)) (fun t i a b hi => p4 t i a b (by omega))
/-- is there room, and the new cell -/
theorem node_new (h : CX A D V σ n bf nn nr ns g) {s : Int32} {P : gS → Nat → Prop} {Y : Prop} (hfull : nn = 30 → Y) (hP : nn < 30 → ∀ q, gK g q = 0 → CR (va_up A (jl nn) q) D (nn + 1) (su (va_up V (jl nn) (fun _ => 0)) (jl nn) 0 s) (sU (sNew g q 6 0) q 0 s) → P (sU (sNew g q 6 0) q 0 s) q) : w_X6_isFull g (A 14) (fun x => ((x = 0 → (∀ q, gK g q = 0 → (∀ g2, g2 = sNew g q 6 0 → w_X5_init g2 q s (fun g3 => P g3 q)))) ∧ (¬ x = 0 → Y))) := by
  obtain ⟨⟨hr, hv, hdoc, hnode, hf⟩, hce, ⟨hG, hN, hW, hs⟩, hE⟩ := h
  have hnn := hr.nn3
  unfold w_X6_isFull b_X6_isFull_17
  refine ⟨hr.k14, _, hr.r14_1, hr.k15, ?_⟩
  rw [hr.i14, hv.2.2.2.2.2.1, hr.n15]
  refine ⟨fun c => ⟨Or.inl rfl, fun _ q hq g2 e2 => ?_, fun p => absurd rfl p⟩, fun c => ⟨Or.inr rfl, fun p => absurd p (by decide), fun _ => hfull ?_⟩⟩
  · subst e2
    have hlt := (nI_lt_iff (by omega) (by decide)).mp c
    have h1 := hr.node hlt hq
    unfold w_X5_init
    refine ⟨h1.kj (va_up_self _ _ _), fun g3 e3 => ?_⟩
    subst e3
    exact hP hlt q hq (h1.wj (va_up_self _ _ _) 0 s)
  · have : ¬ nn < 30 := fun p => c ((nI_lt_iff (by omega) (by decide)).mpr p)
    omega
end CADD
