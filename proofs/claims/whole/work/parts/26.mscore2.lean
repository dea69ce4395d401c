/-! THE REFERENCE'S SCORES: methods -/
theorem GI.al {σ : Rows} {n bf nn nr ns : Nat} (h : GI σ n bf nn nr ns) {t : Nat} (ht : t < 200) : σ 11 t = -1 ∨ ∃ a, a < 200 ∧ σ 11 t = nI a := h.2.2.2.2.2.2.2 t ht
theorem nI_nm1 {a : Nat} (ha : a < 2 ^ 31) : ¬ nI a = -1 := fun e => not_lt0 ha (by rw [e]; decide)
theorem bI_n0 {b : Bool} (h : ¬ bI b = 0) : b = true := by
  cases b
  · exact absurd rfl h
  · rfl
theorem absd : ∀ p, p < 12 → ∀ q, q < 12 → (if 0 ≤ nI p - nI q then nI p - nI q else 0 - (nI p - nI q)) = nI (if p ≤ q then q - p else p - q) := by decide +kernel
theorem lpx1_s {A1 : Type} {body : A1 → (A1 → Prop) → Prop} (n : Nat) (F1 : Nat → A1) {a1 : A1} (e1 : a1 = F1 0) (hs : ∀ k, k < n → ∀ K : A1 → Prop, K (F1 (k + 1)) → body (F1 k) K) (he : ∀ K : A1 → Prop, body (F1 n) K) : lpx1 body a1 := by
  rw [e1]; exact lpx1_t n F1 hs he
theorem lpx2_s {A1 : Type} {A2 : Type} {body : A1 → A2 → (A1 → A2 → Prop) → Prop} (n : Nat) (F1 : Nat → A1) (F2 : Nat → A2) {a1 : A1} {a2 : A2} (e1 : a1 = F1 0) (e2 : a2 = F2 0) (hs : ∀ k, k < n → ∀ K : A1 → A2 → Prop, K (F1 (k + 1)) (F2 (k + 1)) → body (F1 k) (F2 k) K) (he : ∀ K : A1 → A2 → Prop, body (F1 n) (F2 n) K) : lpx2 body a1 a2 := by
  rw [e1, e2]; exact lpx2_t n F1 F2 hs he
theorem lpx3_s {A1 : Type} {A2 : Type} {A3 : Type} {body : A1 → A2 → A3 → (A1 → A2 → A3 → Prop) → Prop} (n : Nat) (F1 : Nat → A1) (F2 : Nat → A2) (F3 : Nat → A3) {a1 : A1} {a2 : A2} {a3 : A3} (e1 : a1 = F1 0) (e2 : a2 = F2 0) (e3 : a3 = F3 0) (hs : ∀ k, k < n → ∀ K : A1 → A2 → A3 → Prop, K (F1 (k + 1)) (F2 (k + 1)) (F3 (k + 1)) → body (F1 k) (F2 k) (F3 k) K) (he : ∀ K : A1 → A2 → A3 → Prop, body (F1 n) (F2 n) (F3 n) K) : lpx3 body a1 a2 a3 := by
  rw [e1, e2, e3]; exact lpx3_t n F1 F2 F3 hs he
theorem lpx4_s {A1 : Type} {A2 : Type} {A3 : Type} {A4 : Type} {body : A1 → A2 → A3 → A4 → (A1 → A2 → A3 → A4 → Prop) → Prop} (n : Nat) (F1 : Nat → A1) (F2 : Nat → A2) (F3 : Nat → A3) (F4 : Nat → A4) {a1 : A1} {a2 : A2} {a3 : A3} {a4 : A4} (e1 : a1 = F1 0) (e2 : a2 = F2 0) (e3 : a3 = F3 0) (e4 : a4 = F4 0) (hs : ∀ k, k < n → ∀ K : A1 → A2 → A3 → A4 → Prop, K (F1 (k + 1)) (F2 (k + 1)) (F3 (k + 1)) (F4 (k + 1)) → body (F1 k) (F2 k) (F3 k) (F4 k) K) (he : ∀ K : A1 → A2 → A3 → A4 → Prop, body (F1 n) (F2 n) (F3 n) (F4 n) K) : lpx4 body a1 a2 a3 a4 := by
  rw [e1, e2, e3, e4]; exact lpx4_t n F1 F2 F3 F4 hs he
theorem lpx5_s {A1 : Type} {A2 : Type} {A3 : Type} {A4 : Type} {A5 : Type} {body : A1 → A2 → A3 → A4 → A5 → (A1 → A2 → A3 → A4 → A5 → Prop) → Prop} (n : Nat) (F1 : Nat → A1) (F2 : Nat → A2) (F3 : Nat → A3) (F4 : Nat → A4) (F5 : Nat → A5) {a1 : A1} {a2 : A2} {a3 : A3} {a4 : A4} {a5 : A5} (e1 : a1 = F1 0) (e2 : a2 = F2 0) (e3 : a3 = F3 0) (e4 : a4 = F4 0) (e5 : a5 = F5 0) (hs : ∀ k, k < n → ∀ K : A1 → A2 → A3 → A4 → A5 → Prop, K (F1 (k + 1)) (F2 (k + 1)) (F3 (k + 1)) (F4 (k + 1)) (F5 (k + 1)) → body (F1 k) (F2 k) (F3 k) (F4 k) (F5 k) K) (he : ∀ K : A1 → A2 → A3 → A4 → A5 → Prop, body (F1 n) (F2 n) (F3 n) (F4 n) (F5 n) K) : lpx5 body a1 a2 a3 a4 a5 := by
  rw [e1, e2, e3, e4, e5]; exact lpx5_t n F1 F2 F3 F4 F5 hs he
section MSCORE2
variable {FR : gS → Prop} {m : Nat} {μ : Nat → Nat} {σ : Rows} {n : Nat} {T : Nat → Int32} {g : gS} {bf nn nr ns : Nat}
theorem mt_termScore (h : MT FR m μ σ n T g) (hG : GI σ n bf nn nr ns) {j d a : Nat} (hj : j < 30) (hd : d < n) (hl : σ 6 d ≠ 0) (ha : a < 200) (ea : σ 18 j = nI a) {Q : Int32 → gS → Prop} (hQ : ∀ g', MT FR m μ σ n T g' → Q (termF σ n d a (σ 19 j)) g') : w_X11_termScore g m (nI j) (nI d) Q := by
  have hn := hG.n
  unfold w_X11_termScore
  refine lpx4_i 3 (fun k g' s i f => s = tsSum σ n d a (σ 19 j) k ∧ i = bI (orB (fun f => !decide (fbit (σ 19 j) (nI f) = 0) && orB (fun k => lkB σ (nI a) (tmF σ d f k)) (lnF σ d f)) k) ∧ f = nI k ∧ MT FR m μ σ n T g') ?_ ?_ g 0 0 0 ⟨rfl, rfl, rfl, h⟩
  · rintro k g1 _ _ _ hk ⟨rfl, rfl, rfl, h1⟩ K hK
    unfold l_X11_termScore_8
    refine ⟨fun c => absurd c (nI_ge hk (by decide)), fun _ => ⟨h1.k, _, h1.r19, h1.k19, by rw [h1.n19]; exact vpi hj, fun c => ?_, fun c => ?_⟩⟩
    · unfold b_X11_termScore_125
      rw [h1.i19, cl_nI (by omega)] at c
      refine hK _ _ _ _ ⟨?_, ?_, nI_1 k, h1⟩
      · rw [tsSum, isum, if_pos (show fbit (σ 19 j) (nI k) = 0 from c)]; exact (Int32.add_zero _).symm
      · rw [orB]; rw [show fbit (σ 19 j) (nI k) = 0 from c]; simp
    · rw [h1.i19, cl_nI (by omega)] at c
      obtain ⟨hl1, hl2⟩ := hG.ln (show d < 60 by omega) hk
      generalize eX : orB (fun f => !decide (fbit (σ 19 j) (nI f) = 0) && orB (fun k => lkB σ (nI a) (tmF σ d f k)) (lnF σ d f)) k = X at hK ⊢
      refine lpx2_s (lnF σ d k) (fun q => bI (X || orB (fun k' => lkB σ (nI a) (tmF σ d k k')) q)) (fun q => nI q) (by simp [orB]) rfl (fun q hq K2 hK2 => ?_) (fun K2 => ?_)
      · unfold l_X11_termScore_34
        refine ⟨h1.k, (mt_many h1 (by omega) hk).mpr ?_⟩
        rw [hl2]
        refine ⟨fun c => absurd c (nI_ge hq (by omega)), fun _ => (mt_at h1 (by omega) hk (by omega)).mpr ?_⟩
        obtain ⟨u, hu, eu⟩ := hG.tm (show d < 60 by omega) hk hq
        rw [eu]
        refine mt_looksFor h1 hj ha hu ea ?_
        rw [bI_or, nI_1]
        rw [orB, eu, ← Bool.or_assoc] at hK2
        exact hK2
      · unfold l_X11_termScore_34
        refine ⟨h1.k, (mt_many h1 (by omega) hk).mpr ?_⟩
        rw [hl2]
        refine ⟨fun _ => ⟨_, h1.r18, h1.k18, by rw [h1.n18]; exact vpi hj, ?_⟩, fun c => absurd (nI_le (Nat.le_refl _) (by omega)) c⟩
        rw [h1.i18, cl_nI (by omega), ea]
        refine mt_taste h1 hG hd hl hk ha (fun g2 h2 => ⟨h2.k, _, h2.r11, _, h2.r18, h2.k18, by rw [h2.n18]; exact vpi hj, h2.k11, ?_⟩)
        rw [h2.i18]; (try simp (disch := omega) only [cl_nI]); rw [ea, h2.i11, h2.n11]; (try simp (disch := omega) only [cl_nI])
        unfold b_X11_termScore_122 b_X11_termScore_125
        have fin : ∀ g3, MT FR m μ σ n T g3 → K g3 (tsSum σ n d a (σ 19 j) k + (tasteF σ n d k a + alT σ n d k a)) (bI (X || orB (fun k' => lkB σ (nI a) (tmF σ d k k')) (lnF σ d k))) (nI k + 1) := by
          intro g3 h3
          refine hK _ _ _ _ ⟨?_, ?_, nI_1 k, h3⟩
          · unfold tsSum; rw [isum, if_neg (show ¬ fbit (σ 19 j) (nI k) = 0 from c)]
          · rw [orB, eX, decide_eq_false (show ¬ fbit (σ 19 j) (nI k) = 0 from c)]; simp
        refine ⟨vpi ha, fun c2 => ?_, fun c2 => ⟨_, h2.r11, _, h2.r18, h2.k18, by rw [h2.n18]; exact vpi hj, h2.k11, ?_⟩⟩
        · have := fin g2 h2; rw [alT, if_pos c2] at this; exact this
        · rw [h2.i18]; (try simp (disch := omega) only [cl_nI]); rw [ea, h2.n11, h2.i11]; (try simp (disch := omega) only [cl_nI])
          rcases hG.al ha with e | ⟨b, hb, e⟩
          · exact absurd e c2
          · refine ⟨vpi ha, ?_⟩
            rw [e]
            refine mt_taste h2 hG hd hl hk hb (fun g3 h3 => ?_)
            have := fin g3 h3; rw [alT, if_neg c2, e, cl_nI (by omega)] at this; exact this
  · rintro g1 _ _ _ ⟨rfl, rfl, rfl, h1⟩ K
    unfold l_X11_termScore_8 b_X11_termScore_144
    have := hQ g1 h1
    unfold termF tsIs at this
    refine ⟨fun _ => ⟨fun c => ?_, fun c => m_least ?_⟩, fun c => absurd (by decide) c⟩
    · rw [if_pos (bI_0.mp c)] at this; exact this
    · rw [if_neg (fun e => c (by rw [e]; rfl))] at this; exact this
/-- near one another in a field -/
theorem mt_nearRow (h : MT FR m μ σ n T g) (hG : GI σ n bf nn nr ns) {j d f ja jb a b : Nat} (hj : j < 30) (hd : d < 60) (hf : f < 3) (hja : ja < 30) (hjb : jb < 30) (ea : σ 18 j = nI ja) (eb : σ 19 j = nI jb) (ha : a < 200) (hb : b < 200) (e1 : σ 18 ja = nI a) (e2 : σ 18 jb = nI b) {i3 : Int32} {Q : Int32 → Prop} {k5 : Int32 → Int32 → Prop} (hQ : k5 (i3 + bI (nearIn σ d f (nI a) (nI b) (σ 20 j) (σ 21 j))) (nI (f + 1))) : lpx2 (l_X11_nearFields_58 g m (nI j) (nI d) i3 (nI f) Q k5) 0 0 := by
  obtain ⟨hl1, hl2⟩ := hG.ln hd hf
  refine lpx2_t (lnF σ d f) (fun p => bI (orB (fun p => orB (fun q => nearB (σ 20 j) (σ 21 j) p q && (lkB σ (nI a) (tmF σ d f p) && lkB σ (nI b) (tmF σ d f q))) (lnF σ d f)) p)) (fun p => nI p) (fun p hp K hK => ?_) (fun K => ?_)
  · unfold l_X11_nearFields_58
    refine ⟨h.k, (mt_many h hd hf).mpr ?_⟩
    rw [hl2]
    refine ⟨fun c => absurd c (nI_ge hp (by omega)), fun _ => ?_⟩
    obtain ⟨u, hu, eu⟩ := hG.tm hd hf hp
    rw [orB] at hK
    generalize orB (fun p => orB (fun q => nearB (σ 20 j) (σ 21 j) p q && (lkB σ (nI a) (tmF σ d f p) && lkB σ (nI b) (tmF σ d f q))) (lnF σ d f)) p = X at hK ⊢
    refine lpx2_s (lnF σ d f) (fun q => bI (X || orB (fun q => nearB (σ 20 j) (σ 21 j) p q && (lkB σ (nI a) (tmF σ d f p) && lkB σ (nI b) (tmF σ d f q))) q)) (fun q => nI q) (by simp [orB]) rfl (fun q hq K2 hK2 => ?_) (fun K2 => ?_)
    · unfold l_X11_nearFields_73
      refine ⟨h.k, (mt_many h hd hf).mpr ?_⟩
      rw [hl2]
      obtain ⟨v, hv, ev⟩ := hG.tm hd hf hq
      rw [orB, ← Bool.or_assoc] at hK2
      generalize (X || orB (fun q => nearB (σ 20 j) (σ 21 j) p q && (lkB σ (nI a) (tmF σ d f p) && lkB σ (nI b) (tmF σ d f q))) q) = Y at hK2 ⊢
      have no : nearB (σ 20 j) (σ 21 j) p q = false → K2 (bI Y ||| 0) (nI q + 1) := by
        intro e
        rw [e] at hK2
        have : bI Y ||| 0 = bI Y := by have := bI_or Y false; simpa using this
        rw [this, nI_1]; simpa using hK2
      have yes : nearB (σ 20 j) (σ 21 j) p q = true → b_X11_nearFields_130 g m (nI j) (nI d) i3 (nI f) (bI Y) (nI p) (nI q) 1 Q k5 (fun x y => K x y) K2 := by
        intro e
        rw [e, Bool.true_and] at hK2
        unfold b_X11_nearFields_130 b_X11_nearFields_187 b_X11_nearFields_188
        refine ⟨fun c => absurd c (by decide), fun _ => ⟨h.k, _, h.r18, h.k18, by rw [h.n18]; exact vpi hj, (mt_at h hd hf (by omega)).mpr ?_⟩⟩
        rw [h.i18]; (try simp (disch := omega) only [cl_nI]); rw [ea, eu]
        refine mt_looksFor h hja ha hu e1 ⟨fun c => ?_, fun c => ⟨_, h.r19, h.k19, by rw [h.n19]; exact vpi hj, (mt_at h hd hf (by omega)).mpr ?_⟩⟩
        · have := bI_or Y false
          rw [eu, bI_0.mp c] at hK2
          rw [show (0 : Int32) = bI false from rfl, this, nI_1]; simpa using hK2
        · rw [h.i19]; (try simp (disch := omega) only [cl_nI]); rw [eb, ev]
          refine mt_looksFor h hjb hb hv e2 ⟨fun c2 => ?_, fun c2 => ?_⟩
          · have := bI_or Y false
            rw [ev, bI_0.mp c2] at hK2
            rw [show (0 : Int32) = bI false from rfl, this, nI_1]; simpa using hK2
          · have := bI_or Y true
            rw [eu, ev, bI_n0 c, bI_n0 c2] at hK2
            rw [show (1 : Int32) = bI true from rfl, this]
            rw [show bI true = 1 from rfl, nI_1]; simpa using hK2
      refine ⟨fun c => absurd c (nI_ge hq (by omega)), fun _ => ⟨fun c => ?_, fun c => ⟨_, h.r20, h.k20, by rw [h.n20]; exact vpi hj, ?_, ?_⟩⟩⟩
      · have : p = q := (nI_inj (by omega) (by omega)).mp c
        unfold b_X11_nearFields_129 b_X11_nearFields_130 b_X11_nearFields_187 b_X11_nearFields_188
        exact ⟨fun _ => no (by simp [nearB, this]), fun c => absurd rfl c⟩
      · rw [absd p (by omega) q (by omega), h.i20, cl_nI (by omega)]
        intro c2
        unfold b_X11_nearFields_129 b_X11_nearFields_130 b_X11_nearFields_187 b_X11_nearFields_188
        exact ⟨fun _ => no (by simp only [nearB, decide_eq_false_iff_not]; exact fun e => e.2.1 c2), fun c => absurd rfl c⟩
      · rw [absd p (by omega) q (by omega), h.i20, cl_nI (by omega)]
        intro c2
        have hpq : p ≠ q := fun e => c (by rw [e])
        refine ⟨_, h.r21, h.k21, by rw [h.n21]; exact vpi hj, ?_, ?_⟩
        · rw [h.i21]; (try simp (disch := omega) only [cl_nI])
          intro c3
          exact yes (by simp only [nearB, decide_eq_true_eq]; exact ⟨hpq, c2, Or.inl c3⟩)
        · rw [h.i21]; (try simp (disch := omega) only [cl_nI])
          intro c3
          refine ⟨fun c4 => ?_, fun c4 => ?_⟩
          · unfold b_X11_nearFields_129 b_X11_nearFields_130 b_X11_nearFields_187 b_X11_nearFields_188
            have : ¬ p < q := by have := (nI_le_iff (by omega) (by omega)).mp c4; omega
            exact ⟨fun _ => no (by simp only [nearB, decide_eq_false_iff_not]; exact fun e => e.2.2.elim c3 this), fun c => absurd rfl c⟩
          · have : p < q := by
              rcases Nat.lt_or_ge p q with e | e
              · exact e
              · exact absurd ((nI_le_iff (by omega) (by omega)).mpr e) c4
            exact yes (by simp only [nearB, decide_eq_true_eq]; exact ⟨hpq, c2, Or.inr this⟩)
    · unfold l_X11_nearFields_73
      refine ⟨h.k, (mt_many h hd hf).mpr ?_⟩
      rw [hl2]
      refine ⟨fun _ => ?_, fun c => absurd (nI_le (Nat.le_refl _) (by omega)) c⟩
      rw [nI_1]; exact hK
  · unfold l_X11_nearFields_58
    refine ⟨h.k, (mt_many h hd hf).mpr ?_⟩
    rw [hl2]
    unfold b_X11_nearFields_214 b_X11_nearFields_216
    refine ⟨fun _ => ?_, fun c => absurd (nI_le (Nat.le_refl _) (by omega)) c⟩
    unfold nearIn at hQ
    rw [nI_1]
    refine ⟨fun c => ?_, fun c => ?_⟩
    · rw [bI_0.mp c] at hQ; exact hQ
    · rw [bI_n0 c] at hQ; exact hQ
end MSCORE2
