/-! THE REFERENCE'S READERS -/
/-- what a node's score looks at -/
theorem mostSum_congr {T T' : Nat → Int32} {a : Nat} : ∀ {b : Nat}, (∀ k, k < b → T (a + k) = T' (a + k)) → mostSum T a b = mostSum T' a b := by
  intro b h; unfold mostSum; exact isum_congr (fun k hk => by rw [h k hk])
theorem mostCnt_congr {T T' : Nat → Int32} {a : Nat} : ∀ {b : Nat}, (∀ k, k < b → T (a + k) = T' (a + k)) → mostCnt T a b = mostCnt T' a b := by
  intro b h; unfold mostCnt; exact cnt_congr (fun k hk => by rw [h k hk])
theorem scoreF_congr {σ : Rows} {n : Nat} {T T' : Nat → Int32} {j d : Nat} (hW : NW σ j) (h : ∀ i, i < j → T i = T' i) (hj : j < 30) : scoreF σ n T j d = scoreF σ n T' j d := by
  unfold scoreF
  dsimp only
  rcases hW with ⟨e, a, b, ha, hb1, hb8, ea, eb⟩ | ⟨e, a, b, ha, hb, ea, eb⟩ | ⟨e, a, b, c, ha, hb, e1, e2, hc1, hc2, ho, ea, eb, ec⟩ | e | ⟨e, a, ha, ea⟩ | ⟨e, a, b, ha, hb, ea, eb⟩ | ⟨e, a, b, c, hab, hb2, hb4, hc1, hcb, ea, eb, ec⟩
  · simp [e]
  · have hac := cl_nI (show a < 2 ^ 31 by omega)
    have hbc := cl_nI (show b < 2 ^ 31 by omega)
    rw [ea, eb, hac, hbc, h a ha, h b hb]
    rcases e with e | e | e <;> simp [e]
  · have hac := cl_nI (show a < 2 ^ 31 by omega)
    have hbc := cl_nI (show b < 2 ^ 31 by omega)
    rw [ea, eb, hac, hbc, h a ha, h b hb]
    simp [e]
  · simp [e]
  · simp [e]
  · have hac := cl_nI (show a < 2 ^ 31 by omega)
    rw [ea, hac, h a ha]
    simp [e]
  · have hac := cl_nI (show a < 2 ^ 31 by omega)
    have hbc := cl_nI (show b < 2 ^ 31 by omega)
    rw [ea, eb, hac, hbc, mostSum_congr (T := T) (T' := T') (a := a) (b := b) (fun k hk => h (a + k) (by omega)), mostCnt_congr (T := T) (T' := T') (a := a) (b := b) (fun k hk => h (a + k) (by omega))]
    simp [e]
def scV (σ : Rows) (n d j : Nat) : Int32 := scT σ n d (fun _ => 0) (j + 1) j
theorem scT_eq {σ : Rows} {n nn : Nat} {T : Nat → Int32} {d : Nat} (hN : NG σ nn) (hnn : nn ≤ 30) : ∀ k, k ≤ nn → ∀ j, j < k → scT σ n d T k j = scV σ n d j := by
  have key : ∀ k, k ≤ nn → ∀ T T' j, j < k → scT σ n d T k j = scT σ n d T' k j := by
    intro k
    induction k with
    | zero => exact fun _ _ _ j hj => absurd hj (Nat.not_lt_zero _)
    | succ k ih =>
      intro hk T T' j hj
      show upd (scT σ n d T k) k _ j = upd (scT σ n d T' k) k _ j
      unfold upd
      by_cases e : j = k
      · rw [if_pos e, if_pos e]
        exact scoreF_congr (hN k (by omega)) (fun i hi => ih (by omega) T T' i hi) (by omega)
      · rw [if_neg e, if_neg e]; exact ih (by omega) T T' j (by omega)
  intro k
  induction k with
  | zero => exact fun _ j hj => absurd hj (Nat.not_lt_zero _)
  | succ k ih =>
    intro hk j hj
    by_cases e : j = k
    · subst e; exact key (j + 1) hk T _ j hj
    · show upd (scT σ n d T k) k _ j = _
      unfold upd
      rw [if_neg e]; exact ih (by omega) j (by omega)
/-- a node's score by the scores before it -/
theorem scV_eq {σ : Rows} {n nn d j : Nat} (hN : NG σ nn) (hnn : nn ≤ 30) (hj : j < nn) : scV σ n d j = scoreF σ n (scV σ n d) j d := by
  unfold scV
  show upd (scT σ n d (fun _ => 0) j) j _ j = _
  unfold upd
  rw [if_pos rfl]
  exact scoreF_congr (hN j hj) (fun i hi => scT_eq hN hnn j (by omega) i hi) (by omega)
def there (σ : Rows) (d : Nat) : Bool := !decide (σ 6 d = 0) && decide (σ 5 d = 0)
def scoreNowF (σ : Rows) (n d j : Nat) : Int32 := if there σ d = true then scV σ n d j else -1
/-- the best of some -/
def bst (ok : Nat → Bool) (v : Nat → Int32) : Nat → Int32 × Int32
  | 0 => (-1, 0)
  | k + 1 => if ok k = true ∧ (bst ok v k).2 < v k then (nI k, v k) else bst ok v k
def hasF (σ : Rows) (d t : Nat) : Bool := orB (fun f => !decide (ctN σ d f t = 0)) 3
def lkVal (σ : Rows) (n e d f k : Nat) : Int32 := if !decide (ctF σ d f (tmF σ e f k) = 0) && !(hasB (tmF σ e f) k (tmF σ e f k)) then rareF σ n (tmF σ e f k).toNatClampNeg f else 0
def lkSum (σ : Rows) (n e d : Nat) : Int32 := isum (fun f => isum (fun k => lkVal σ n e d f k) (lnF σ e f)) 3
def likeF (σ : Rows) (n e : Nat) : Int32 := (bst (fun d => !decide (d = e) && there σ d) (lkSum σ n e) n).1
def mtAll (σ : Rows) (t : Nat) : Nat → Nat := cnt (fun d => there σ d && hasF σ d t)
def mtBoth (σ : Rows) (s t : Nat) : Nat → Nat := cnt (fun d => there σ d && hasF σ d t && hasF σ d s)
def mtS (σ : Rows) (n s : Nat) : Nat → Int32 × Nat × Nat
  | 0 => (-1, 0, 0)
  | t + 1 =>
    let p := mtS σ n s t
    if t ≠ s ∧ σ 10 t = 0 ∧ (p.2.1 < mtBoth σ s t n ∨ mtBoth σ s t n = p.2.1 ∧ 0 < mtBoth σ s t n ∧ mtAll σ t n < p.2.2) then (nI t, mtBoth σ s t n, mtAll σ t n) else p
def foundF (σ : Rows) (n j : Nat) : Nat → Nat := cnt (fun d => !decide (scoreNowF σ n d j < 0))
def kindF (σ : Rows) (nr : Nat) (k : Int32) : Nat := cnt (fun p => decide (σ 4 (σ 23 p).toNatClampNeg = k)) nr
def datesF (σ : Rows) (nr : Nat) (lo hi : Int32) : Nat := cnt (fun p => decide (¬ (σ 3 (σ 23 p).toNatClampNeg < lo ∨ hi < σ 3 (σ 23 p).toNatClampNeg))) nr
def sizeF (σ : Rows) (n : Nat) (s : Int32) : Nat := cnt (fun d => decide (σ 15 d = s)) n
section MREAD
variable {FR : gS → Prop} {m : Nat} {μ : Nat → Nat} {σ : Rows} {n : Nat} {T : Nat → Int32} {g : gS} {bf nn nr ns : Nat}
theorem mt_scoreNow (hG : GI σ n bf nn nr ns) (hN : NG σ nn) {j d : Nat} (hj : j < nn) (hd : d < n) (h : MT FR m μ σ n T g) {Q : Int32 → gS → Prop} (hQ : ∀ g' T', MT FR m μ σ n T' g' → (there σ d = true → ∀ i, i ≤ j → T' i = scV σ n d i) → Q (scoreNowF σ n d j) g') : w_X11_scoreNow g m (nI j) (nI d) Q := by
  have hn := hG.n
  have hnn : nn ≤ 30 := hG.1.2.2.1
  unfold w_X11_scoreNow b_X11_scoreNow_18
  refine ⟨h.k, _, h.r6, h.k6, by rw [h.n6]; exact vpi (by omega), ?_⟩
  rw [h.i6]; (try simp (disch := omega) only [cl_nI])
  refine ⟨fun c => ?_, fun c => ⟨_, h.r5, h.k5, by rw [h.n5]; exact vpi (by omega), ?_⟩⟩
  · have e : there σ d = false := by simp [there, c]
    have := hQ g T h (by rw [e]; exact fun q => absurd q (by decide))
    unfold scoreNowF at this; rw [e] at this; exact this
  · rw [h.i5]; (try simp (disch := omega) only [cl_nI])
    refine ⟨fun c2 => ?_, fun c2 => ?_⟩
    · have e : there σ d = true := by simp [there, c, c2]
      refine mt_scores hG hN hj hd c h (fun g' h' => ?_)
      have e2 : scT σ n d T (j + 1) j = scoreNowF σ n d j := by
        unfold scoreNowF; rw [if_pos e]; exact scT_eq hN hnn (j + 1) (by omega) j (by omega)
      rw [e2]
      exact hQ g' _ h' (fun _ i hi => scT_eq hN hnn (j + 1) (by omega) i (by omega))
    · have e : there σ d = false := by simp [there, c2]
      have := hQ g T h (by rw [e]; exact fun q => absurd q (by decide))
      unfold scoreNowF at this; rw [e] at this; exact this
theorem mt_foundNow (hG : GI σ n bf nn nr ns) (hN : NG σ nn) {j : Nat} (hj : j < nn) (h : MT FR m μ σ n T g) {Q : Int32 → gS → Prop} (hQ : ∀ g' T', MT FR m μ σ n T' g' → Q (nI (foundF σ n j n)) g') : w_X11_foundNow g m (nI j) Q := by
  have hn := hG.n
  unfold w_X11_foundNow
  refine lpx3_i n (fun k g' s i => s = nI (foundF σ n j k) ∧ i = nI k ∧ ∃ T', MT FR m μ σ n T' g') ?_ ?_ g 0 0 ⟨rfl, rfl, T, h⟩
  · rintro k g1 _ _ hk ⟨rfl, rfl, T1, h1⟩ K hK
    unfold l_X11_foundNow_4 b_X11_foundNow_27
    refine ⟨h1.k, ?_⟩
    rw [h1.s (by decide) (by decide), hG.d1]
    refine ⟨fun c => absurd c (nI_ge hk (by omega)), fun _ => mt_scoreNow hG hN hj hk h1 (fun g' T' h' _ => ⟨fun c => ?_, fun c => ?_⟩)⟩
    · refine hK _ _ _ ⟨?_, nI_1 k, T', h'⟩
      unfold foundF; rw [cnt, decide_eq_false (i32_nl.mpr c)]; exact nI_1 _
    · refine hK _ _ _ ⟨?_, nI_1 k, T', h'⟩
      unfold foundF; rw [cnt, decide_eq_true (i32_nle.mp c)]; exact Int32.add_zero _
  · rintro g1 _ _ ⟨rfl, rfl, T1, h1⟩ K
    unfold l_X11_foundNow_4
    refine ⟨h1.k, ?_⟩
    rw [h1.s (by decide) (by decide), hG.d1]
    exact ⟨fun _ => hQ g1 T1 h1, fun c => absurd (nI_le (Nat.le_refl _) (by omega)) c⟩
theorem mt_isThere (h : MT FR m μ σ n T g) {d : Nat} (hd : d < 60) {Q : Int32 → Prop} (hQ : Q (bI (there σ d))) : w_X11_isThere g m (nI d) Q := by
  unfold w_X11_isThere b_X11_isThere_22 b_X11_isThere_23
  unfold there at hQ
  refine ⟨h.k, _, h.r6, h.k6, by rw [h.n6]; exact vpi (by omega), ?_⟩
  rw [h.i6]; (try simp (disch := omega) only [cl_nI])
  refine ⟨fun c => ?_, fun c => ⟨_, h.r5, h.k5, by rw [h.n5]; exact vpi (by omega), ?_⟩⟩
  · simp [c, bI] at hQ; exact ⟨by simp, hQ⟩
  · rw [h.i5]; (try simp (disch := omega) only [cl_nI])
    refine ⟨fun c2 => ?_, fun c2 => ?_⟩
    · simp [c, c2, bI] at hQ; exact ⟨by simp, hQ⟩
    · simp [c, c2, bI] at hQ; exact ⟨by simp, hQ⟩
theorem mt_sizeNow (h : MT FR m μ σ n T g) (hG : GI σ n bf nn nr ns) {s : Int32} {Q : Int32 → Prop} (hQ : Q (nI (sizeF σ n s))) : w_X11_sizeNow g m s Q := by
  have hn := hG.n
  unfold w_X11_sizeNow
  refine lpx2_s n (fun k => nI (sizeF σ k s)) (fun k => nI k) rfl rfl (fun k hk K hK => ?_) (fun K => ?_)
  · unfold l_X11_sizeNow_4 b_X11_sizeNow_28
    refine ⟨h.k, ?_⟩
    rw [h.s (by decide) (by decide), hG.d1]
    refine ⟨fun c => absurd c (nI_ge hk (by omega)), fun _ => ⟨_, h.r15, h.k15, by rw [h.n15]; exact vpi (by omega), ?_⟩⟩
    rw [h.i15]; (try simp (disch := omega) only [cl_nI])
    unfold sizeF at hK; rw [cnt] at hK
    refine ⟨fun c => ?_, fun c => ?_⟩
    · rw [decide_eq_true c, if_pos rfl] at hK; rw [nI_1]; unfold sizeF; rw [nI_1]; exact hK
    · rw [decide_eq_false c] at hK; rw [nI_1]; unfold sizeF; simpa [Int32.add_zero] using hK
  · unfold l_X11_sizeNow_4
    refine ⟨h.k, ?_⟩
    rw [h.s (by decide) (by decide), hG.d1]
    exact ⟨fun _ => hQ, fun c => absurd (nI_le (Nat.le_refl _) (by omega)) c⟩
/-- results are numbers of documents -/
def RG (σ : Rows) (n nr : Nat) : Prop := ∀ p, p < nr → ∃ d, d < n ∧ σ 23 p = nI d
theorem mt_kindNow (h : MT FR m μ σ n T g) (hG : GI σ n bf nn nr ns) (hR : RG σ n nr) {s : Int32} {Q : Int32 → Prop} (hQ : Q (nI (kindF σ nr s))) : w_X11_kindNow g m s Q := by
  have hn := hG.n
  have hnr : nr ≤ 60 := hG.1.2.2.2.1
  have e22 : σ 0 22 = nI nr := hG.2.1.2.2.2.1
  unfold w_X11_kindNow
  refine lpx2_s nr (fun k => nI (kindF σ k s)) (fun k => nI k) rfl rfl (fun k hk K hK => ?_) (fun K => ?_)
  · unfold l_X11_kindNow_4 b_X11_kindNow_33
    refine ⟨h.k, ?_⟩
    rw [h.s (by decide) (by decide), e22]
    obtain ⟨d, hd, ed⟩ := hR k hk
    refine ⟨fun c => absurd c (nI_ge hk (by omega)), fun _ => ⟨_, h.r4, _, h.r23, h.k23, by rw [h.n23]; exact vpi (by omega), h.k4, ?_⟩⟩
    rw [h.i23, h.n4, h.i4]; (try simp (disch := omega) only [cl_nI]); rw [ed]; (try simp (disch := omega) only [cl_nI])
    unfold kindF at hK; rw [cnt, ed, cl_nI (show d < 2 ^ 31 by omega)] at hK
    refine ⟨vpi (by omega), fun c => ?_, fun c => ?_⟩
    · rw [decide_eq_true c, if_pos rfl] at hK; rw [nI_1]; unfold kindF; rw [nI_1]; exact hK
    · rw [decide_eq_false c] at hK; rw [nI_1]; unfold kindF; simpa [Int32.add_zero] using hK
  · unfold l_X11_kindNow_4
    refine ⟨h.k, ?_⟩
    rw [h.s (by decide) (by decide), e22]
    exact ⟨fun _ => hQ, fun c => absurd (nI_le (Nat.le_refl _) (by omega)) c⟩
theorem mt_datesLoop (h : MT FR m μ σ n T g) (hG : GI σ n bf nn nr ns) (hR : RG σ n nr) {p1 p2 : Int32} {Q : Int32 → gS → Prop} (hQ : Q (nI (datesF σ nr p1 (p1 + p2 - 1))) g) : lpx2 (l_X11_ofDates_38 g m p1 p2 Q) 0 0 := by
  have hn := hG.n
  have hnr : nr ≤ 60 := hG.1.2.2.2.1
  have e22 : σ 0 22 = nI nr := hG.2.1.2.2.2.1
  refine lpx2_s nr (fun k => nI (datesF σ k p1 (p1 + p2 - 1))) (fun k => nI k) rfl rfl (fun k hk K hK => ?_) (fun K => ?_)
  · unfold l_X11_ofDates_38 b_X11_ofDates_77
    refine ⟨h.k, ?_⟩
    rw [h.s (by decide) (by decide), e22]
    obtain ⟨d, hd, ed⟩ := hR k hk
    refine ⟨fun c => absurd c (nI_ge hk (by omega)), fun _ => ⟨_, h.r3, _, h.r23, h.k23, by rw [h.n23]; exact vpi (by omega), h.k3, ?_⟩⟩
    rw [h.i23, h.n3, h.i3]; (try simp (disch := omega) only [cl_nI]); rw [ed]; (try simp (disch := omega) only [cl_nI])
    unfold datesF at hK; rw [cnt, ed, cl_nI (show d < 2 ^ 31 by omega)] at hK
    refine ⟨vpi (by omega), m_isIn.mpr ?_⟩
    by_cases c : σ 3 d < p1 ∨ p1 + p2 - 1 < σ 3 d
    · rw [if_pos c]
      rw [decide_eq_false (not_not_intro c)] at hK
      refine ⟨fun _ => ?_, fun c => absurd rfl c⟩
      rw [nI_1]; unfold datesF; simpa [Int32.add_zero] using hK
    · rw [if_neg c]
      rw [decide_eq_true c, if_pos rfl] at hK
      refine ⟨fun c => absurd c (by decide), fun _ => ?_⟩
      rw [nI_1]; unfold datesF; rw [nI_1]; exact hK
  · unfold l_X11_ofDates_38
    refine ⟨h.k, ?_⟩
    rw [h.s (by decide) (by decide), e22]
    exact ⟨fun _ => hQ, fun c => absurd (nI_le (Nat.le_refl _) (by omega)) c⟩
theorem mt_has (h : MT FR m μ σ n T g) (hG : GI σ n bf nn nr ns) {d t : Nat} (hd : d < 60) (ht : t < 200) {Q : Int32 → Prop} (hQ : Q (bI (hasF σ d t))) : w_X11_has g m (nI d) (nI t) Q := by
  unfold w_X11_has b_X11_has_31
  have l0 := ctN_le (σ := σ) (d := d) (f := 0) (t := t)
  have l1 := ctN_le (σ := σ) (d := d) (f := 1) (t := t)
  have l2 := ctN_le (σ := σ) (d := d) (f := 2) (t := t)
  have m0 := (hG.ln hd (show 0 < 3 by decide)).1
  have m1 := (hG.ln hd (show 1 < 3 by decide)).1
  have m2 := (hG.ln hd (show 2 < 3 by decide)).1
  refine ⟨h.k, mt_count h hG hd (show 0 < 3 by decide) ht (mt_count h hG hd (show 1 < 3 by decide) ht (mt_count h hG hd (show 2 < 3 by decide) ht ?_))⟩
  rw [ctF_eq ht, ctF_eq ht, ctF_eq ht, nI_add, nI_add]
  unfold hasF at hQ
  simp only [orB, Bool.false_or] at hQ
  refine ⟨fun c => ?_, fun c => ?_⟩
  · have := (nI_le_iff (show ctN σ d 0 t + ctN σ d 1 t + ctN σ d 2 t < 2 ^ 31 by omega) (show 0 < 2 ^ 31 by decide)).mp c
    rw [show ctN σ d 0 t = 0 by omega, show ctN σ d 1 t = 0 by omega, show ctN σ d 2 t = 0 by omega] at hQ
    exact ⟨Or.inl rfl, hQ⟩
  · have : ¬ (ctN σ d 0 t = 0 ∧ ctN σ d 1 t = 0 ∧ ctN σ d 2 t = 0) := fun e => c ((nI_le_iff (show ctN σ d 0 t + ctN σ d 1 t + ctN σ d 2 t < 2 ^ 31 by omega) (show 0 < 2 ^ 31 by decide)).mpr (by omega))
    have e : (!decide (ctN σ d 0 t = 0) || !decide (ctN σ d 1 t = 0) || !decide (ctN σ d 2 t = 0)) = true := by
      by_cases a0 : ctN σ d 0 t = 0
      · by_cases a1 : ctN σ d 1 t = 0
        · have a2 : ¬ ctN σ d 2 t = 0 := fun e => this ⟨a0, a1, e⟩
          simp [a2]
        · simp [a1]
      · simp [a0]
    rw [e] at hQ
    exact ⟨Or.inr rfl, hQ⟩
end MREAD
