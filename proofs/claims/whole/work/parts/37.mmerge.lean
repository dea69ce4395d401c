/-! THE REFERENCE MERGES -/
def mgK (σ : Rows) (a : Nat) : Nat → Rows
  | 0 => σ
  | k + 1 => if mgK σ a k 15 k < nI a then mgK σ a k else if mgK σ a k 5 k = 0 then su (mgK σ a k) 15 k (nI a) else su (su (mgK σ a k) 15 k (-1)) 6 k 0
def mgD (σ : Rows) (a : Nat) : Nat → Nat := cnt (fun i => !decide (σ 15 i < nI a) && !decide (σ 5 i = 0))
def mgL (σ : Rows) (a : Nat) : Nat → Nat := cnt (fun i => !decide (σ 15 i < nI a) && decide (σ 5 i = 0))
theorem mgK_r {σ : Rows} {a u : Nat} (h1 : u ≠ 15) (h2 : u ≠ 6) : ∀ k, mgK σ a k u = σ u
  | 0 => rfl
  | k + 1 => by
    rw [mgK]; split
    · exact mgK_r h1 h2 k
    · split
      · rw [su_row h1]; exact mgK_r h1 h2 k
      · rw [su_row h2, su_row h1]; exact mgK_r h1 h2 k
theorem mgK_15 {σ : Rows} {a : Nat} : ∀ k i, mgK σ a k 15 i = if i < k ∧ ¬ σ 15 i < nI a then (if σ 5 i = 0 then nI a else -1) else σ 15 i
  | 0, i => by rw [if_neg (by omega)]; rfl
  | k + 1, i => by
    have h5 : mgK σ a k 5 k = σ 5 k := by rw [mgK_r (by decide) (by decide)]
    have hk : mgK σ a k 15 k = σ 15 k := by rw [mgK_15 k k, if_neg (by omega)]
    rw [mgK, hk, h5]
    by_cases c : σ 15 k < nI a
    · rw [if_pos c, mgK_15 k i]
      by_cases e : i = k
      · subst e; rw [if_neg (by omega), if_neg (fun q => q.2 c)]
      · by_cases e2 : i < k
        · simp [e2, show i < k + 1 by omega]
        · simp [e2, show ¬ i < k + 1 by omega]
    · rw [if_neg c]
      by_cases e : i = k
      · subst e
        have pp : i < i + 1 ∧ ¬ σ 15 i < nI a := ⟨by omega, c⟩
        rw [if_pos pp]
        by_cases c2 : σ 5 i = 0
        · rw [if_pos c2, if_pos c2, su_at, if_pos rfl]
        · rw [if_neg c2, if_neg c2, su_row (by decide), su_at, if_pos rfl]
      · have : ∀ r : Rows, r 15 i = mgK σ a k 15 i → r 15 i = if i < k + 1 ∧ ¬ σ 15 i < nI a then (if σ 5 i = 0 then nI a else -1) else σ 15 i := by
          intro r hr
          rw [hr, mgK_15 k i]
          by_cases e2 : i < k
          · simp [e2, show i < k + 1 by omega]
          · simp [e2, show ¬ i < k + 1 by omega]
        by_cases c2 : σ 5 k = 0
        · rw [if_pos c2]; exact this _ (by rw [su_at, if_neg e])
        · rw [if_neg c2]; exact this _ (by rw [su_row (by decide), su_at, if_neg e])
theorem mgK_6 {σ : Rows} {a : Nat} : ∀ k i, mgK σ a k 6 i = if i < k ∧ ¬ σ 15 i < nI a ∧ ¬ σ 5 i = 0 then 0 else σ 6 i
  | 0, i => by rw [if_neg (by omega)]; rfl
  | k + 1, i => by
    have h5 : mgK σ a k 5 k = σ 5 k := by rw [mgK_r (by decide) (by decide)]
    have hk : mgK σ a k 15 k = σ 15 k := by rw [mgK_15 k k, if_neg (by omega)]
    rw [mgK, hk, h5]
    have : ∀ r : Rows, r 6 i = mgK σ a k 6 i → ¬ (i = k ∧ ¬ σ 15 k < nI a ∧ ¬ σ 5 k = 0) → r 6 i = if i < k + 1 ∧ ¬ σ 15 i < nI a ∧ ¬ σ 5 i = 0 then 0 else σ 6 i := by
      intro r hr hne
      rw [hr, mgK_6 k i]
      by_cases e : i = k
      · subst e
        rw [if_neg (by omega), if_neg (fun q => hne ⟨rfl, q.2⟩)]
      · by_cases e2 : i < k
        · simp [e2, show i < k + 1 by omega]
        · simp [e2, show ¬ i < k + 1 by omega]
    by_cases c : σ 15 k < nI a
    · rw [if_pos c]; exact this _ rfl (fun q => q.2.1 c)
    · rw [if_neg c]
      by_cases c2 : σ 5 k = 0
      · rw [if_pos c2]; exact this _ (by rw [su_row (by decide)]) (fun q => q.2.2 c2)
      · rw [if_neg c2]
        by_cases e : i = k
        · subst e; rw [su_at, if_pos rfl, if_pos ⟨by omega, c, c2⟩]
        · exact this _ (by rw [su_at, if_neg e, su_row (by decide)]) (fun q => e q.1)
def mergeR (σ : Rows) (n a : Nat) (t : Int32) : Rows := su (su (mgK σ a n) 0 13 (if mgL σ a n = 0 then nI a else nI (a + 1))) 14 a t
def flA (σ : Rows) (bf : Nat) (s : Int32) : Nat → Rows
  | 0 => σ
  | k + 1 => su (su (flA σ bf s k) 15 (bf + k) s) 6 (bf + k) 1
abbrev c3 (σ : Rows) : Prop := 2 < cl (σ 0 13) ∧ σ 14 (cl (σ 0 13) - 1) = σ 14 (cl (σ 0 13) - 2) ∧ σ 14 (cl (σ 0 13) - 2) = σ 14 (cl (σ 0 13) - 3)
def flL (n : Nat) : Nat → Rows → Rows
  | 0, σ => σ
  | k + 1, σ => if c3 σ then flL n k (mergeR σ n (cl (σ 0 13) - 3) (σ 14 (cl (σ 0 13) - 1) + 1)) else σ
def flB (σ : Rows) : Rows := if σ 0 9 < σ 0 1 then su (su (flA (tz σ 0) (cl (σ 0 9)) (σ 0 13) (nF σ - cl (σ 0 9))) 0 13 (σ 0 13 + 1)) 14 (cl (σ 0 13)) 0 else tz σ 0
def S_flush (σ : Rows) : Out := (0, σ 0 1 - σ 0 9, flL (nF σ) 60 (su (flB σ) 0 9 (σ 0 1)))
def mxF (σ : Rows) : Nat → Int32
  | 0 => 0
  | k + 1 => if mxF σ k < σ 14 k then σ 14 k else mxF σ k
def S_compact (σ : Rows) : Out := if σ 0 13 = 0 then good σ 0 else (0, nI (mgD σ 0 (nF σ)), mergeR (tz σ 0) (nF σ) 0 (mxF σ (cl (σ 0 13))))
/-- not counted -/
def MU (FR : gS → Prop) (m : Nat) (μ : Nat → Nat) (σ : Rows) (T : Nat → Int32) (g : gS) : Prop :=
  ∃ σ', MR FR m μ σ' g ∧ CB (va_up σ 29 T) σ' ∧ σ' 0 25 = 0
section MMERGE
variable {FR : gS → Prop} {m : Nat} {μ : Nat → Nat} {σ : Rows} {n : Nat} {T : Nat → Int32} {g : gS} {bf nn nr ns : Nat}
theorem MU.mt (h : MU FR m μ σ T g) (n : Nat) : MT FR m μ σ n T g := by
  obtain ⟨σ2, a, b, c⟩ := h
  exact ⟨σ2, a, b, Or.inl c⟩
theorem MT.u (h : MT FR m μ σ n T g) : MU FR m μ σ T (sU g m 25 0) := by
  obtain ⟨σ2, a, b, c⟩ := h
  refine ⟨_, a.s 25 0, ⟨fun t h0 h1 h2 => by rw [su_row h0]; exact b.1 t h0 h1 h2, fun j h1 h2 => by rw [su_at, if_neg h1]; exact b.2 j h1 h2⟩, by rw [su_at, if_pos rfl]⟩
theorem MU.w (h : MU FR m μ σ T g) (i : Nat) (v : Int32) (h1 : i ≠ 25) : MU FR m μ (su σ 0 i v) T (sU g m i v) := by
  obtain ⟨σ2, a, b, c⟩ := h
  refine ⟨_, a.s i v, by rw [up29_su (by decide)]; exact b.su2 0 i v, ?_⟩
  rw [su_at, if_neg (Ne.symm h1)]; exact c
theorem MU.wa (h : MU FR m μ σ T g) (t i : Nat) (v : Int32) (hk : mK t ≠ 0) (ht : t ≠ 29) : MU FR m μ (su σ t i v) T (sU g (μ t) i v) := by
  obtain ⟨σ2, a, b, c⟩ := h
  have h0 : t ≠ 0 := fun e => hk (by rw [e]; rfl)
  refine ⟨_, a.a t hk i v, by rw [up29_su ht]; exact b.su2 t i v, ?_⟩
  rw [su_row (Ne.symm h0)]; exact c
theorem mt_merge (h : MT FR m μ σ n T g) (hn : n ≤ 60) (h1 : σ 0 1 = nI n) {a : Nat} (ha : a ≤ 60) {t : Int32} {Q : Int32 → gS → Prop} (hQ : ∀ g', MU FR m μ (mergeR σ n a t) T g' → Q (nI (mgD σ a n)) g') : w_X11_merge g m (nI a) t Q := by
  unfold w_X11_merge
  refine ⟨h.k, fun g1 e1 => ?_⟩
  subst e1
  refine lpx4_i n (fun k g' d l i => d = nI (mgD σ a k) ∧ l = nI (mgL σ a k) ∧ i = nI k ∧ MU FR m μ (mgK σ a k) T g') ?_ ?_ _ 0 0 0 ⟨rfl, rfl, rfl, h.u⟩
  · rintro k g1 _ _ _ hk ⟨rfl, rfl, rfl, hu⟩ K hK
    have hm := hu.mt n
    have e1 : mgK σ a k 0 1 = nI n := by rw [mgK_r (by decide) (by decide)]; exact h1
    have e5 : mgK σ a k 5 k = σ 5 k := by rw [mgK_r (by decide) (by decide)]
    have e15 : mgK σ a k 15 k = σ 15 k := by rw [mgK_15 k k, if_neg (by omega)]
    unfold l_X11_merge_13 b_X11_merge_79
    refine ⟨hm.k, ?_⟩
    rw [hm.s (by decide) (by decide), e1]
    refine ⟨fun c => absurd c (nI_ge hk (by omega)), fun _ => ⟨_, hm.r15, hm.k15, by rw [hm.n15]; exact vpi (by omega), ?_⟩⟩
    rw [hm.i15, cl_nI (by omega), e15, nI_1]
    refine ⟨fun c => ⟨_, hm.r5, hm.k5, by rw [hm.n5]; exact vpi (by omega), ?_⟩, fun c => ?_⟩
    · have c' : ¬ σ 15 k < nI a := i32_nl.mpr c
      rw [hm.i5]; (try simp (disch := omega) only [cl_nI]); rw [e5]
      refine ⟨fun c2 => ⟨_, hm.r15, hm.k15, by rw [hm.n15]; exact vpi (by omega), fun g2 e2 => ?_⟩, fun c2 => ⟨_, hm.r15, hm.k15, by rw [hm.n15]; exact vpi (by omega), fun g2 e2 => ?_⟩⟩
      · subst e2
        have h2 := hu.wa 15 k (nI a) (by decide) (by decide)
        refine hK _ _ _ _ ⟨?_, ?_, by first | rfl | exact nI_1 k, ?_⟩
        · unfold mgD; rw [cnt_s, decide_eq_true c2]; simp
        · unfold mgL; rw [cnt_s, decide_eq_true c2, decide_eq_false c']; try rw [nI_1]
          simp
        · rw [mgK, e15, e5, if_neg c', if_pos c2]; exact h2
      · subst e2
        have h2 := hu.wa 15 k (-1) (by decide) (by decide)
        have m2 := h2.mt n
        refine ⟨m2.k, _, m2.r6, m2.k6, by rw [m2.n6]; exact vpi (by omega), fun g3 e3 => ?_⟩
        subst e3
        have h3 := h2.wa 6 k 0 (by decide) (by decide)
        refine hK _ _ _ _ ⟨?_, ?_, by first | rfl | exact nI_1 k, ?_⟩
        · unfold mgD; rw [cnt_s, decide_eq_false c2, decide_eq_false c', nI_1]; simp
        · unfold mgL; rw [cnt_s, decide_eq_false c2]; simp
        · rw [mgK, e15, e5, if_neg c', if_neg c2]; exact h3
    · have c' : σ 15 k < nI a := i32_nle.mp c
      refine hK _ _ _ _ ⟨?_, ?_, by first | rfl | exact nI_1 k, ?_⟩
      · unfold mgD; rw [cnt_s, decide_eq_true c']; simp
      · unfold mgL; rw [cnt_s, decide_eq_true c']; simp
      · rw [mgK, e15, if_pos c']; exact hu
  · rintro g1 _ _ _ ⟨rfl, rfl, rfl, hu⟩ K
    have hm := hu.mt n
    have e1 : mgK σ a n 0 1 = nI n := by rw [mgK_r (by decide) (by decide)]; exact h1
    have fin : ∀ v, v = (if mgL σ a n = 0 then nI a else nI (a + 1)) → b_X11_merge_98 g1 m (nI a) t (nI (mgD σ a n)) m v Q := by
      intro v hv
      subst hv
      unfold b_X11_merge_98
      refine ⟨hm.k, fun g2 e2 => ?_⟩
      subst e2
      have h2 := hu.w 13 (if mgL σ a n = 0 then nI a else nI (a + 1)) (by decide)
      have m2 := h2.mt n
      refine ⟨m2.k, _, m2.r14, m2.k14, by rw [m2.n14]; exact vpi (by omega), fun g3 e3 => ?_⟩
      subst e3
      rw [cl_nI (by omega)]
      exact hQ _ (h2.wa 14 a t (by decide) (by decide))
    unfold l_X11_merge_13
    refine ⟨hm.k, ?_⟩
    rw [hm.s (by decide) (by decide), e1]
    have hL : mgL σ a n ≤ n := cnt_le _ _
    refine ⟨fun _ => ⟨fun c => fin _ ?_, fun c => fin _ ?_⟩, fun c => absurd (nI_le (Nat.le_refl _) (by omega)) c⟩
    · have := (nI_inj (show mgL σ a n < 2 ^ 31 by omega) (show 0 < 2 ^ 31 by decide)).mp c
      rw [if_pos this]
    · rw [if_neg (fun e => c (by rw [e]; rfl)), nI_1]
theorem flA_0 {s : Int32} {u : Nat} (h1 : u ≠ 15) (h2 : u ≠ 6) : ∀ k, flA σ bf s k u = σ u
  | 0 => rfl
  | k + 1 => by rw [flA, su_row h2, su_row h1]; exact flA_0 h1 h2 k
theorem merge_0 {a : Nat} {t : Int32} {i : Nat} (hi : i ≠ 13) : mergeR σ n a t 0 i = σ 0 i := by
  unfold mergeR; rw [su_row (by decide), su_at, if_neg hi, mgK_r (by decide) (by decide)]
theorem merge_13 {a : Nat} {t : Int32} : mergeR σ n a t 0 13 = if mgL σ a n = 0 then nI a else nI (a + 1) := by
  unfold mergeR; rw [su_row (by decide), su_at, if_pos rfl]
/-- the last three merged as long as they are alike -/
theorem mt_flLoop (hn : n ≤ 60) {r0 : Nat} {many : Int32} (σ0 : Rows) (hs0 : ∃ s, s ≤ 60 ∧ σ0 0 13 = nI s) (h1 : σ0 0 1 = nI n) (h : MU FR m μ σ0 T g) {Q : Int32 → gS → Prop} (hQ : ∀ g', MU FR m μ (flL n 60 σ0) T g' → Q many g') : lpx1 (l_X11_flush_85 m many Q) g := by
  refine lpx1_i 60 (fun k g' => ∃ σk, MU FR m μ σk T g' ∧ flL n (60 - k) σk = flL n 60 σ0 ∧ σk 0 1 = nI n ∧ ∃ s, s + k ≤ 60 ∧ σk 0 13 = nI s) ?_ ?_ g ⟨σ0, h, rfl, h1, hs0⟩
  · rintro k g1 hk ⟨σk, hu, ef, e1, s, hs, es⟩ K hK
    have hm := hu.mt n
    have ecl : cl (σk 0 13) = s := by rw [es]; exact cl_nI (by omega)
    rw [show 60 - k = (60 - (k + 1)) + 1 by omega, flL] at ef
    have no : ¬ c3 σk → b_X11_flush_170 g1 many Q := by
      intro c
      rw [if_neg c] at ef
      exact hQ g1 (by rw [← ef]; exact hu)
    unfold l_X11_flush_85
    refine ⟨hm.k, ?_⟩
    rw [hm.s (by decide) (by decide), es]
    refine ⟨fun c => no ?_, fun c => ?_⟩
    · have := (nI_le_iff (show s < 2 ^ 31 by omega) (show 2 < 2 ^ 31 by decide)).mp c
      intro q
      unfold c3 at q
      rw [ecl] at q
      omega
    · have h2s : 2 < s := by
        rcases Nat.lt_or_ge 2 s with q | q
        · exact q
        · exact absurd ((nI_le_iff (by omega) (by decide)).mpr q) c
      have x1 : nI s - 1 = nI (s - 1) := nI_sub1 (by omega)
      have x2 : nI s - 2 = nI (s - 2) := by
        have : nI s = nI (s - 2) + 2 := by rw [show (2 : Int32) = nI 2 from rfl, nI_add, show s - 2 + 2 = s by omega]
        rw [this]; exact Int32.add_sub_cancel _ _
      have x3 : nI s - 3 = nI (s - 3) := by
        have : nI s = nI (s - 3) + 3 := by rw [show (3 : Int32) = nI 3 from rfl, nI_add, show s - 3 + 3 = s by omega]
        rw [this]; exact Int32.add_sub_cancel _ _
      rw [x1, x2, x3]
      refine ⟨_, hm.r14, hm.k14, by rw [hm.n14]; exact vpi (by omega), _, hm.r14, hm.k14, by rw [hm.n14]; exact vpi (by omega), ?_⟩
      rw [hm.i14, cl_nI (show s - 1 < 2 ^ 31 by omega), cl_nI (show s - 2 < 2 ^ 31 by omega)]
      refine ⟨fun c2 => ⟨_, hm.r14, hm.k14, by rw [hm.n14]; exact vpi (by omega), _, hm.r14, hm.k14, by rw [hm.n14]; exact vpi (by omega), ?_⟩, fun c2 => no (fun q => ?_)⟩
      · rw [hm.i14, cl_nI (show s - 3 < 2 ^ 31 by omega)]
        refine ⟨fun c4 => ⟨_, hm.r14, hm.k14, by rw [hm.n14]; exact vpi (by omega), ?_⟩, fun c4 => no (fun q => ?_)⟩
        · rw [hm.i14]
          refine mt_merge hm hn e1 (show s - 3 ≤ 60 by omega) (fun g2 h2 => hK _ ⟨_, h2, ?_, ?_, ?_⟩)
          · have c3k : c3 σk := by unfold c3; rw [ecl]; exact ⟨h2s, c2, c4⟩
            rw [if_pos c3k, ecl] at ef; exact ef
          · rw [merge_0 (by decide)]; exact e1
          · rw [merge_13]
            by_cases cL : mgL σk (s - 3) n = 0
            · exact ⟨s - 3, by omega, by rw [if_pos cL]⟩
            · exact ⟨s - 3 + 1, by omega, by rw [if_neg cL]⟩
        · unfold c3 at q
          rw [ecl] at q; exact c4 q.2.2
      · unfold c3 at q
        rw [ecl] at q; exact c2 q.2.1
  · rintro g1 ⟨σk, hu, ef, e1, s, hs, es⟩ K
    have hm := hu.mt n
    unfold l_X11_flush_85
    refine ⟨hm.k, ?_⟩
    rw [hm.s (by decide) (by decide), es]
    refine ⟨fun _ => hQ g1 (by rw [← ef]; exact hu), fun c => absurd (nI_le (show s ≤ 2 by omega) (by decide)) c⟩
theorem mo_flush (h : MT FR m μ σ n T g) (hG : GI σ n bf nn nr ns) (hns : bf < n → ns < 60) {Q : Int32 → gS → Prop} (hQ : ∀ g', MU FR m μ (S_flush σ).2.2 T g' → Q (S_flush σ).2.1 g') : w_X11_flush g m Q := by
  have hn := hG.n
  have hbf : bf ≤ n := hG.1.2.1
  have hns6 := hG.ns6
  unfold w_X11_flush
  unfold S_flush flB at hQ
  rw [hG.nF, show cl (σ 0 9) = bf by rw [hG.d9]; exact cl_nI (by omega), show cl (σ 0 13) = ns by rw [hG.d13]; exact cl_nI (by omega), hG.d13] at hQ
  rw [hG.d1, hG.d9] at hQ
  dsimp only at hQ
  refine ⟨h.k, fun g1 e1 => ?_⟩
  subst e1
  have h1 := h.z 0
  have z1 : tz σ 0 0 1 = nI n := by rw [tz_0 (by decide)]; exact hG.d1
  have z9 : tz σ 0 0 9 = nI bf := by rw [tz_0 (by decide)]; exact hG.d9
  have z13 : tz σ 0 0 13 = nI ns := by rw [tz_0 (by decide)]; exact hG.d13
  refine ⟨h1.k, fun g2 e2 => ?_⟩
  subst e2
  rw [h1.s (by decide) (by decide), h1.s (by decide) (by decide), z1, z9]
  have hu := h1.u
  have esub : nI n - nI bf = nI (n - bf) := by
    rw [show n = (n - bf) + bf by omega, ← nI_add, show n - bf + bf - bf = n - bf by omega]
    exact Int32.add_sub_cancel _ _
  rw [esub] at hQ ⊢
  have fin : ∀ (σ1 : Rows) (g3 : gS), σ1 0 1 = nI n → (∃ s, s ≤ 60 ∧ σ1 0 13 = nI s) → MU FR m μ σ1 T g3 → (∀ g', MU FR m μ (flL n 60 (su σ1 0 9 (nI n))) T g' → Q (nI (n - bf)) g') → b_X11_flush_77 g3 m (nI (n - bf)) Q := by
    intro σ1 g3 e1 es h3 hq
    unfold b_X11_flush_77
    have m3 := h3.mt n
    refine ⟨m3.k, fun g4 e4 => ?_⟩
    subst e4
    rw [m3.s (by decide) (by decide), e1]
    refine mt_flLoop (r0 := 0) hn (su σ1 0 9 (nI n)) ?_ ?_ (h3.w 9 (nI n) (by decide)) hq
    · rw [su_at, if_neg (by decide)]; exact es
    · rw [su_at, if_neg (by decide)]; exact e1
  refine ⟨fun c => ?_, fun c => ?_⟩
  · have := (nI_le_iff (show n - bf < 2 ^ 31 by omega) (show 0 < 2 ^ 31 by decide)).mp c
    rw [if_neg (fun q => by have := (nI_lt_iff (by omega) (by omega)).mp q; omega)] at hQ
    exact fin _ _ z1 ⟨ns, by omega, z13⟩ hu hQ
  · have hlt : bf < n := by
      rcases Nat.lt_or_ge bf n with q | q
      · exact q
      · exact absurd (by rw [show n - bf = 0 by omega]; decide) c
    rw [if_pos ((nI_lt_iff (by omega) (by omega)).mpr hlt)] at hQ
    have hu2 := hu.mt n
    refine ⟨hu2.k, ?_⟩
    rw [hu2.s (by decide) (by decide), z9]
    refine lpx2_i (n - bf) (fun k g' i => i = nI (bf + k) ∧ MU FR m μ (flA (tz σ 0) bf (nI ns) k) T g') ?_ ?_ _ _ ⟨rfl, hu⟩
    · rintro k g3 _ hk ⟨rfl, h3⟩ K hK
      have m3 := h3.mt n
      unfold l_X11_flush_29
      refine ⟨m3.k, ?_⟩
      rw [m3.s (by decide) (by decide), flA_0 (by decide) (by decide), z1]
      refine ⟨fun c => absurd c (nI_ge (by omega) (by omega)), fun _ => ⟨_, m3.r15, m3.k15, by rw [m3.n15]; exact vpi (by omega), fun g4 e4 => ?_⟩⟩
      subst e4
      rw [m3.s (by decide) (by decide), flA_0 (by decide) (by decide), z13, cl_nI (by omega)]
      have h4 := h3.wa 15 (bf + k) (nI ns) (by decide) (by decide)
      have m4 := h4.mt n
      refine ⟨m4.k, _, m4.r6, m4.k6, by rw [m4.n6]; exact vpi (by omega), fun g5 e5 => ?_⟩
      subst e5
      rw [nI_1]
      exact hK _ _ ⟨rfl, h4.wa 6 (bf + k) 1 (by decide) (by decide)⟩
    · rintro g3 _ ⟨rfl, h3⟩ K
      have m3 := h3.mt n
      unfold l_X11_flush_29
      refine ⟨m3.k, ?_⟩
      rw [m3.s (by decide) (by decide), m3.s (by decide) (by decide), flA_0 (by decide) (by decide), z1, z13]
      refine ⟨fun _ => ⟨_, m3.r14, fun g4 e4 => ?_⟩, fun c => absurd (nI_le (by omega) (by omega)) c⟩
      subst e4
      have h4 := h3.w 13 (nI ns + 1) (by decide)
      have m4 := h4.mt n
      have := hns hlt
      refine ⟨m4.k14, by rw [m4.n14]; exact vpi (by omega), fun g5 e5 => ?_⟩
      subst e5
      rw [cl_nI (by omega)]
      have h5 := h4.wa 14 ns 0 (by decide) (by decide)
      refine fin _ _ ?_ ⟨ns + 1, by omega, ?_⟩ h5 hQ
      · rw [su_row (by decide), su_at, if_neg (by decide), flA_0 (by decide) (by decide)]; exact z1
      · rw [su_row (by decide), su_at, if_pos rfl, nI_1]
theorem mo_compact (h : MT FR m μ σ n T g) (hG : GI σ n bf nn nr ns) {Q : Int32 → gS → Prop} (hQ : ∀ g', MT FR m μ (S_compact σ).2.2 n T g' → Q (S_compact σ).2.1 g') : w_X11_compact g m Q := by
  have hn := hG.n
  have hns6 := hG.ns6
  unfold w_X11_compact
  unfold S_compact at hQ
  rw [hG.nF, show cl (σ 0 13) = ns by rw [hG.d13]; exact cl_nI (by omega)] at hQ
  refine ⟨h.k, fun g1 e1 => ?_⟩
  subst e1
  have h1 := h.z 0
  refine ⟨h1.k, ?_⟩
  rw [h1.s (by decide) (by decide), tz_0 (by decide)]
  refine ⟨fun c => ?_, fun c => ?_⟩
  · rw [if_pos c] at hQ; exact hQ _ h1
  · rw [if_neg c] at hQ
    refine lpx2_s ns (fun k => mxF σ k) (fun k => nI k) rfl rfl (fun k hk K hK => ?_) (fun K => ?_)
    · unfold l_X11_compact_18
      refine ⟨h1.k, ?_⟩
      rw [h1.s (by decide) (by decide), tz_0 (by decide), hG.d13]
      refine ⟨fun c => absurd c (nI_ge hk (by omega)), fun _ => ⟨_, h1.r14, h1.k14, by rw [h1.n14]; exact vpi (by omega), ?_⟩⟩
      rw [h1.i14, cl_nI (by omega), nI_1]; exact hK
    · unfold l_X11_compact_18
      refine ⟨h1.k, ?_⟩
      rw [h1.s (by decide) (by decide), tz_0 (by decide), hG.d13]
      refine ⟨fun _ => ?_, fun c => absurd (nI_le (Nat.le_refl _) (by omega)) c⟩
      exact mt_merge (a := 0) h1 hn (by rw [tz_0 (by decide)]; exact hG.d1) (by omega) (fun g' h' => hQ _ (h'.mt n))
end MMERGE
