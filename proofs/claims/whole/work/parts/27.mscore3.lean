/-! THE REFERENCE'S SCORES: a node, and all -/
section MSCORE3
variable {FR : gS → Prop} {m : Nat} {μ : Nat → Nat} {σ : Rows} {n : Nat} {T : Nat → Int32} {g : gS} {bf nn nr ns : Nat}
/-- all nodes -/
def NG (σ : Rows) (nn : Nat) : Prop := ∀ j, j < nn → NW σ j
theorem NW.term (h : NW σ n) (e : σ 17 n = 0) : ∃ a b, a < 200 ∧ 1 ≤ b ∧ b < 8 ∧ σ 18 n = nI a ∧ σ 19 n = nI b := by
  rcases h with ⟨_, h⟩ | ⟨h, _⟩ | ⟨h, _⟩ | h | ⟨h, _⟩ | ⟨h, _⟩ | ⟨h, _⟩
  · exact h
  · rcases h with h | h | h <;> (rw [e] at h; exact absurd h (by decide))
  all_goals (rw [e] at h; exact absurd h (by decide))
theorem mt_nearFields (h : MT FR m μ σ n T g) (hG : GI σ n bf nn nr ns) {j d ja jb a b : Nat} (hj : j < 30) (hd : d < 60) (hja : ja < 30) (hjb : jb < 30) (ea : σ 18 j = nI ja) (eb : σ 19 j = nI jb) (ha : a < 200) (hb : b < 200) (e1 : σ 18 ja = nI a) (e2 : σ 18 jb = nI b) {Q : Int32 → Prop} (hQ : Q (nearF σ d (nI a) (nI b) (σ 19 ja) (σ 19 jb) (σ 20 j) (σ 21 j) 3)) : w_X11_nearFields g m (nI j) (nI d) Q := by
  unfold w_X11_nearFields
  refine lpx2_s 3 (fun f => nearF σ d (nI a) (nI b) (σ 19 ja) (σ 19 jb) (σ 20 j) (σ 21 j) f) (fun f => nI f) rfl rfl (fun f hf K hK => ?_) (fun K => ?_)
  · unfold l_X11_nearFields_5 b_X11_nearFields_216
    refine ⟨fun c => absurd c (nI_ge hf (by decide)), fun _ => ⟨h.k, _, h.r19, _, h.r18, h.k18, by rw [h.n18]; exact vpi hj, h.k19, ?_⟩⟩
    rw [h.i18, h.n19, h.i19]; (try simp (disch := omega) only [cl_nI]); rw [ea]; (try simp (disch := omega) only [cl_nI])
    unfold nearF at hK
    rw [isum] at hK
    refine ⟨vpi hja, fun c => ?_, fun c => ⟨_, h.r19, _, h.r19, h.k19, by rw [h.n19]; exact vpi hj, h.k19, ?_⟩⟩
    · rw [if_pos (Or.inl (show fbit (σ 19 ja) (nI f) = 0 from c))] at hK
      rw [nI_1]
      simpa [Int32.add_zero, nearF] using hK
    · rw [h.n19, h.i19]; (try simp (disch := omega) only [cl_nI]); rw [eb]; (try simp (disch := omega) only [cl_nI])
      refine ⟨vpi hjb, fun c2 => ?_, fun c2 => ?_⟩
      · rw [if_pos (Or.inr (show fbit (σ 19 jb) (nI f) = 0 from c2))] at hK
        rw [nI_1]
        simpa [Int32.add_zero, nearF] using hK
      · rw [if_neg (by rintro (e | e); exact c e; exact c2 e)] at hK
        exact mt_nearRow h hG hj hd hf hja hjb ea eb ha hb e1 e2 hK
  · unfold l_X11_nearFields_5
    exact ⟨fun _ => hQ, fun c => absurd (by decide) c⟩
theorem mt_mostScore (h : MT FR m μ σ n T g) {j a b : Nat} (hj : j < 30) (hab : a + b ≤ j) (ea : σ 18 j = nI a) (eb : σ 19 j = nI b) {Q : Int32 → Prop} (hQ : Q (if nI (mostCnt T a b) < σ 20 j then -1 else leastF (mostSum T a b))) : w_X11_mostScore g m (nI j) Q := by
  unfold w_X11_mostScore
  refine ⟨h.k, _, h.r18, h.k18, by rw [h.n18]; exact vpi hj, ?_⟩
  rw [h.i18]; (try simp (disch := omega) only [cl_nI]); rw [ea]
  refine lpx3_s b (fun k => mostSum T a k) (fun k => nI (mostCnt T a k)) (fun k => nI (a + k)) rfl rfl rfl (fun k hk K hK => ?_) (fun K => ?_)
  · unfold l_X11_mostScore_12 b_X11_mostScore_55
    refine ⟨h.k, _, h.r18, h.k18, by rw [h.n18]; exact vpi hj, _, h.r19, h.k19, by rw [h.n19]; exact vpi hj, ?_⟩
    rw [h.i18, h.i19]; (try simp (disch := omega) only [cl_nI]); rw [ea, eb, nI_add]
    refine ⟨fun c => absurd c (nI_ge (by omega) (by omega)), fun _ => ⟨_, h.r29, h.k29, by rw [h.n29]; exact vpi (by omega), ?_⟩⟩
    rw [h.i29]; (try simp (disch := omega) only [cl_nI])
    unfold mostSum mostCnt at hK
    rw [isum, cnt] at hK
    refine ⟨fun c => ?_, fun c => ?_⟩
    · rw [if_pos c, decide_eq_true c, if_pos rfl, ← Nat.add_assoc] at hK
      rw [nI_1, nI_1]; exact hK
    · rw [if_neg c, decide_eq_false c, ← Nat.add_assoc] at hK
      rw [nI_1]
      simpa [Int32.add_zero, mostSum, mostCnt] using hK
  · unfold l_X11_mostScore_12 b_X11_mostScore_79
    refine ⟨h.k, _, h.r18, h.k18, by rw [h.n18]; exact vpi hj, _, h.r19, h.k19, by rw [h.n19]; exact vpi hj, ?_⟩
    rw [h.i18, h.i19]; (try simp (disch := omega) only [cl_nI]); rw [ea, eb, nI_add]
    refine ⟨fun _ => ⟨_, h.r20, h.k20, by rw [h.n20]; exact vpi hj, ?_, ?_⟩, fun c => absurd (nI_le (Nat.le_refl _) (by omega)) c⟩
    · rw [h.i20]; (try simp (disch := omega) only [cl_nI])
      intro c
      refine m_least ?_
      rw [if_neg (by rw [Int32.not_lt]; exact c)] at hQ
      exact hQ
    · rw [h.i20]; (try simp (disch := omega) only [cl_nI])
      intro c
      rw [if_pos (by rw [Int32.not_le] at c; exact c)] at hQ
      exact hQ
theorem i32_nl {a b : Int32} : ¬ a < b ↔ b ≤ a := Int32.not_lt
theorem i32_nle {a b : Int32} : ¬ a ≤ b ↔ b < a := Int32.not_le
theorem mt_scoreOf (h : MT FR m μ σ n T g) (hG : GI σ n bf nn nr ns) (hN : NG σ nn) {j d : Nat} (hj : j < nn) (hd : d < n) (hl : σ 6 d ≠ 0) {Q : Int32 → gS → Prop} (hQ : ∀ g', MT FR m μ σ n T g' → Q (scoreF σ n T j d) g') : w_X11_scoreOf g m (nI j) (nI d) Q := by
  have hn := hG.n
  have hnn : nn ≤ 30 := hG.1.2.2.1
  have hj3 : j < 30 := by omega
  unfold w_X11_scoreOf b_X11_scoreOf_321 b_X11_scoreOf_286 b_X11_scoreOf_262 b_X11_scoreOf_232 b_X11_scoreOf_185 b_X11_scoreOf_155 b_X11_scoreOf_93 b_X11_scoreOf_104
  refine ⟨h.k, _, h.r17, h.k17, by rw [h.n17]; exact vpi hj3, ?_⟩
  rw [h.i17]; (try simp (disch := omega) only [cl_nI])
  have hW := hN j hj
  rcases hW with ⟨e, a, b, ha, hb1, hb8, ea, eb⟩ | ⟨e, a, b, ha, hb, ea, eb⟩ | ⟨e, a, b, c, ha, hb, e1, e2, hc1, hc2, ho, ea, eb, ec⟩ | e | ⟨e, a, ha, ea⟩ | ⟨e, a, b, ha, hb, ea, eb⟩ | ⟨e, a, b, c, hab, hb2, hb4, hc1, hcb, ea, eb, ec⟩
  · have hs : scoreF σ n T j d = termF σ n d a (σ 19 j) := by unfold scoreF; simp [e, ea, cl_nI (show a < 2 ^ 31 by omega)]
    rw [hs] at hQ
    rw [e]
    refine ⟨fun c => absurd c (by decide), fun _ => mt_termScore h hG hj3 hd hl ha ea (fun g' h' => hQ g' h'), ?_⟩
    simp
  · have hac := cl_nI (show a < 2 ^ 31 by omega)
    have hbc := cl_nI (show b < 2 ^ 31 by omega)
    rcases e with e | e | e
    · have hs : scoreF σ n T j d = (if T a < 0 ∨ T b < 0 then -1 else leastF (T a + T b)) := by unfold scoreF; simp [e, ea, eb, hac, hbc]
      rw [hs] at hQ
      rw [e]
      refine ⟨fun c => absurd c (by decide), fun c => absurd c (by decide), fun _ => ?_, ?_⟩
      · refine ⟨_, h.r29, _, h.r18, h.k18, by rw [h.n18]; exact vpi hj3, h.k29, ?_⟩
        rw [h.i18, h.n29, h.i29]; (try simp (disch := omega) only [cl_nI]); rw [ea, hac]
        refine ⟨vpi (by omega), _, h.r29, _, h.r19, h.k19, by rw [h.n19]; exact vpi hj3, h.k29, ?_⟩
        rw [h.i19, h.n29, h.i29]; (try simp (disch := omega) only [cl_nI]); rw [eb, hbc]
        refine ⟨vpi (by omega), fun c => ?_, fun c => ⟨fun c2 => m_least ?_, fun c2 => ?_⟩⟩
        · have := hQ g h; rw [if_pos (Or.inl c)] at this; exact this
        · have := hQ g h; rw [if_neg (by rintro (q | q); exact c q; exact i32_nl.mpr c2 q)] at this; exact this
        · have := hQ g h; rw [if_pos (Or.inr (i32_nle.mp c2))] at this; exact this
      · simp
    · have hs : scoreF σ n T j d = (if T a < 0 then T b else if T b < 0 then T a else leastF (T a + T b)) := by unfold scoreF; simp [e, ea, eb, hac, hbc]
      rw [hs] at hQ
      rw [e]
      refine ⟨fun c => absurd c (by decide), fun c => absurd c (by decide), fun c => absurd c (by decide), fun _ => ?_, ?_⟩
      · refine ⟨_, h.r29, _, h.r18, h.k18, by rw [h.n18]; exact vpi hj3, h.k29, ?_⟩
        rw [h.i18, h.n29, h.i29]; (try simp (disch := omega) only [cl_nI]); rw [ea, hac]
        refine ⟨vpi (by omega), _, h.r29, _, h.r19, h.k19, by rw [h.n19]; exact vpi hj3, h.k29, ?_⟩
        rw [h.i19, h.n29, h.i29]; (try simp (disch := omega) only [cl_nI]); rw [eb, hbc]
        refine ⟨vpi (by omega), fun c => ⟨fun c2 => m_least ?_, fun c2 => ?_⟩, fun c => ?_⟩
        · have := hQ g h; rw [if_neg (i32_nl.mpr c), if_neg (i32_nl.mpr c2)] at this; exact this
        · have := hQ g h; rw [if_neg (i32_nl.mpr c), if_pos (i32_nle.mp c2)] at this; exact this
        · have := hQ g h; rw [if_pos (i32_nle.mp c)] at this; exact this
      · simp
    · have hs : scoreF σ n T j d = (if T b < 0 then T a else -1) := by unfold scoreF; simp [e, ea, eb, hac, hbc]
      rw [hs] at hQ
      rw [e]
      refine ⟨fun c => absurd c (by decide), fun c => absurd c (by decide), fun c => absurd c (by decide), fun c => absurd c (by decide), fun _ => ?_, ?_⟩
      · refine ⟨_, h.r29, _, h.r19, h.k19, by rw [h.n19]; exact vpi hj3, h.k29, ?_⟩
        rw [h.i19, h.n29, h.i29]; (try simp (disch := omega) only [cl_nI]); rw [eb, hbc]
        refine ⟨vpi (by omega), fun c => ?_, fun c => ⟨_, h.r29, _, h.r18, h.k18, by rw [h.n18]; exact vpi hj3, h.k29, ?_⟩⟩
        · have := hQ g h; rw [if_neg (i32_nl.mpr c)] at this; exact this
        · rw [h.i18, h.n29, h.i29]; (try simp (disch := omega) only [cl_nI]); rw [ea, hac]
          have := hQ g h; rw [if_pos (i32_nle.mp c)] at this
          exact ⟨vpi (by omega), this⟩
      · simp
  · have hac := cl_nI (show a < 2 ^ 31 by omega)
    have hbc := cl_nI (show b < 2 ^ 31 by omega)
    obtain ⟨ta, _, hta, _, _, eta, _⟩ := (hN a (by omega)).term e1
    obtain ⟨tb, _, htb, _, _, etb, _⟩ := (hN b (by omega)).term e2
    have hs : scoreF σ n T j d = (if nearF σ d (σ 18 a) (σ 18 b) (σ 19 a) (σ 19 b) (σ 20 j) (σ 21 j) 3 = 0 then -1 else leastF (T a + T b + 100 * nearF σ d (σ 18 a) (σ 18 b) (σ 19 a) (σ 19 b) (σ 20 j) (σ 21 j) 3)) := by unfold scoreF; simp [e, ea, eb, hac, hbc]
    rw [hs, eta, etb] at hQ
    rw [e]
    refine ⟨fun c => absurd c (by decide), fun c => absurd c (by decide), fun c => absurd c (by decide), fun c => absurd c (by decide), fun c => absurd c (by decide), fun _ => ?_, ?_⟩
    · refine mt_nearFields h hG hj3 (by omega) (show a < 30 by omega) (show b < 30 by omega) ea eb hta htb eta etb ⟨fun c => ?_, fun c => ⟨_, h.r29, _, h.r18, h.k18, by rw [h.n18]; exact vpi hj3, h.k29, ?_⟩⟩
      · have := hQ g h; rw [if_pos c] at this; exact this
      · rw [h.i18, h.n29, h.i29]; (try simp (disch := omega) only [cl_nI]); rw [ea, hac]
        refine ⟨vpi (by omega), _, h.r29, _, h.r19, h.k19, by rw [h.n19]; exact vpi hj3, h.k29, ?_⟩
        rw [h.i19, h.n29, h.i29]; (try simp (disch := omega) only [cl_nI]); rw [eb, hbc]
        have := hQ g h; rw [if_neg c] at this
        exact ⟨vpi (by omega), m_least this⟩
    · simp
  · have hs : scoreF σ n T j d = (if σ 3 d < σ 18 j ∨ σ 19 j < σ 3 d then -1 else 0) := by unfold scoreF; simp [e]
    rw [hs] at hQ
    rw [e]
    refine ⟨fun c => absurd c (by decide), fun c => absurd c (by decide), fun c => absurd c (by decide), fun c => absurd c (by decide), fun c => absurd c (by decide), fun c => absurd c (by decide), fun _ => ?_, ?_⟩
    · refine ⟨_, h.r3, h.k3, by rw [h.n3]; exact vpi (by omega), _, h.r18, h.k18, by rw [h.n18]; exact vpi hj3, _, h.r19, h.k19, by rw [h.n19]; exact vpi hj3, m_isIn.mpr ?_⟩
      rw [h.i3, h.i18, h.i19]; (try simp (disch := omega) only [cl_nI])
      have := hQ g h
      by_cases c : σ 3 d < σ 18 j ∨ σ 19 j < σ 3 d
      · rw [if_pos c] at this ⊢; exact ⟨fun _ => this, fun c => absurd rfl c⟩
      · rw [if_neg c] at this ⊢; exact ⟨fun c => absurd c (by decide), fun _ => this⟩
    · simp
  · have hs : scoreF σ n T j d = (if fbit (σ 18 j) (σ 4 d) = 0 then -1 else 0) := by unfold scoreF; simp [e]
    rw [hs] at hQ
    rw [e]
    refine ⟨fun c => absurd c (by decide), fun c => absurd c (by decide), fun c => absurd c (by decide), fun c => absurd c (by decide), fun c => absurd c (by decide), fun c => absurd c (by decide), fun c => absurd c (by decide), fun _ => ?_, ?_⟩
    · refine ⟨_, h.r18, h.k18, by rw [h.n18]; exact vpi hj3, _, h.r4, h.k4, by rw [h.n4]; exact vpi (by omega), ?_⟩
      rw [h.i4, h.i18]; (try simp (disch := omega) only [cl_nI])
      have := hQ g h
      unfold fbit at this
      refine ⟨fun c => ?_, fun c => ?_⟩
      · rw [if_pos c] at this; exact this
      · rw [if_neg c] at this; exact this
    · simp
  · have hac := cl_nI (show a < 2 ^ 31 by omega)
    have hs : scoreF σ n T j d = (if T a < 0 then -1 else leastF (T a * σ 19 j / 100)) := by unfold scoreF; simp [e, ea, hac]
    rw [hs] at hQ
    rw [e]
    refine ⟨fun c => absurd c (by decide), fun c => absurd c (by decide), fun c => absurd c (by decide), fun c => absurd c (by decide), fun c => absurd c (by decide), fun c => absurd c (by decide), fun c => absurd c (by decide), fun c => absurd c (by decide), fun _ => ?_⟩
    refine ⟨_, h.r29, _, h.r18, h.k18, by rw [h.n18]; exact vpi hj3, h.k29, ?_⟩
    rw [h.i18, h.n29, h.i29]; (try simp (disch := omega) only [cl_nI]); rw [ea, hac]
    refine ⟨vpi (by omega), fun c => ⟨_, h.r19, h.k19, by rw [h.n19]; exact vpi hj3, m_least ?_⟩, fun c => ?_⟩
    · rw [h.i19]; (try simp (disch := omega) only [cl_nI])
      have := hQ g h; rw [if_neg (i32_nl.mpr c)] at this; exact this
    · have := hQ g h; rw [if_pos (i32_nle.mp c)] at this; exact this
  · have hac := cl_nI (show a < 2 ^ 31 by omega)
    have hbc := cl_nI (show b < 2 ^ 31 by omega)
    have hs : scoreF σ n T j d = (if nI (mostCnt T a b) < σ 20 j then -1 else leastF (mostSum T a b)) := by unfold scoreF; simp [e, ea, eb, hac, hbc]
    rw [hs] at hQ
    rw [e]
    refine ⟨fun _ => mt_mostScore h hj3 hab ea eb (hQ g h), ?_⟩
    simp
/-- the scores of the nodes, one after another -/
def scT (σ : Rows) (n d : Nat) (T : Nat → Int32) : Nat → Nat → Int32
  | 0 => T
  | k + 1 => upd (scT σ n d T k) k (scoreF σ n (scT σ n d T k) k d)
theorem MT.sc (h : MT FR m μ σ n T g) (j : Nat) (v : Int32) : MT FR m μ σ n (upd T j v) (sU g (μ 29) j v) := by
  obtain ⟨σ2, h1, hb, hc⟩ := h
  refine ⟨_, h1.a 29 (by decide) j v, ⟨fun t a1 a2 a3 => ?_, fun i a1 a2 => ?_⟩, ?_⟩
  · by_cases e : t = 29
    · subst e
      rw [su_self, hb.1 29 (by decide) (by decide) (by decide), va_up_self, va_up_self]
    · rw [su_row e, hb.1 t a1 a2 a3, va_up_ne _ _ e, va_up_ne _ _ e]
  · rw [su_row (by decide)]; exact hb.2 i a1 a2
  · rw [su_row (by decide)]; exact hc
theorem mt_scores (hG : GI σ n bf nn nr ns) (hN : NG σ nn) {j d : Nat} (hj : j < nn) (hd : d < n) (hl : σ 6 d ≠ 0) (h : MT FR m μ σ n T g) {Q : Int32 → gS → Prop} (hQ : ∀ g', MT FR m μ σ n (scT σ n d T (j + 1)) g' → Q (scT σ n d T (j + 1) j) g') : lpx2 (l_X11_scoreNow_22 m (nI j) (nI d) Q) g 0 := by
  have hnn : nn ≤ 30 := hG.1.2.2.1
  refine lpx2_i (j + 1) (fun k g' i => i = nI k ∧ MT FR m μ σ n (scT σ n d T k) g') ?_ ?_ g 0 ⟨rfl, h⟩
  · rintro k g1 _ hk ⟨rfl, h1⟩ K hK
    unfold l_X11_scoreNow_22
    refine ⟨fun c => absurd c (nI_nlt (by omega) (by omega)), fun _ => ⟨h1.k, _, h1.r29, ?_⟩⟩
    refine mt_scoreOf h1 hG hN (by omega) hd hl (fun g2 h2 => ⟨h2.k29, by rw [h2.n29]; exact vpi (by omega), fun g3 e3 => ?_⟩)
    subst e3
    rw [cl_nI (by omega), nI_1]
    exact hK _ _ ⟨rfl, h2.sc k _⟩
  · rintro g1 _ ⟨rfl, h1⟩ K
    unfold l_X11_scoreNow_22
    refine ⟨fun _ => ⟨h1.k, _, h1.r29, h1.k29, by rw [h1.n29]; exact vpi (by omega), ?_⟩, fun c => absurd (nI_lt (by omega) (by omega)) c⟩
    rw [h1.i29, cl_nI (by omega)]
    exact hQ g1 h1
end MSCORE3
