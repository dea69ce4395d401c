/-! THE REFERENCE'S DIGEST -/
def lf (f : Nat → Int64 → Int64) (x : Int64) : Nat → Int64
  | 0 => x
  | k + 1 => f k (lf f x k)
def dg1 (σ : Rows) (n : Nat) : Int64 := lf (fun k d => d * 31 + (stF σ k).toInt64) (80879 + (nI n).toInt64) n
def dg2 (σ : Rows) (n ns : Nat) : Int64 := lf (fun s d => (d * 31 + (σ 14 s).toInt64) * 31 + (nI (sizeF σ n (nI s))).toInt64) (dg1 σ n * 31 + (nI ns).toInt64) ns
def dgJ (σ : Rows) (n nn j : Nat) (d : Int64) : Int64 := lf (fun k d => d * 31 + (scoreNowF σ n k j).toInt64) ((d * 31 + (nI (foundF σ n j n)).toInt64) * 31 + (costF σ n nn (tnB σ true j)).toInt64) n
def dg3 (σ : Rows) (n nn ns : Nat) : Int64 := lf (dgJ σ n nn) (dg2 σ n ns * 31 + (nI nn).toInt64) nn
def dg4 (σ : Rows) (n nn nr ns : Nat) : Int64 := lf (fun p d => (d * 31 + (σ 23 p).toInt64) * 31 + (σ 24 p).toInt64) (dg3 σ n nn ns * 31 + (nI nr).toInt64) nr
def dg5 (σ : Rows) (n nn nr ns : Nat) : Int64 := lf (fun k d => d * 31 + (nI (kindF σ nr (nI k))).toInt64) (dg4 σ n nn nr ns) 8
def dgF (σ : Rows) (n nn nr ns : Nat) : Int64 := lf (fun k d => d * 31 + (likeF σ n k).toInt64) (dg5 σ n nn nr ns) n
/-- rows of rows -/
def Gr (q : Nat) (r : Nat → Nat) (n m : Nat) (F : Nat → Nat → Int32) : gS → Prop := fun h => gK h q = 24 ∧ gN h q = n ∧ (∀ i, i < n → gR h q i = some (r i)) ∧ ∀ i, i < n → Ce (r i) 21 m (F i) h
section MDIGEST
variable {FR FR' : gS → Prop} {m : Nat} {μ : Nat → Nat} {σ : Rows} {n : Nat} {T : Nat → Int32} {g g' : gS} {bf nn nr ns : Nat}
theorem gr_stb {q : Nat} {r : Nat → Nat} {N M : Nat} {F : Nat → Nat → Int32} (hr : ∀ i, i < N → ¬ Own m μ (r i)) : Stb (Gr q r N M F) m μ := by
  intro g a i v ha hc
  obtain ⟨h1, h2, h3, h4⟩ := hc
  exact ⟨h1, h2, h3, fun j hj => (h4 j hj).w (fun e => hr j hj (by rw [e]; exact ha))⟩
theorem mt_dgLike (hG : GI σ n bf nn nr ns) (h : MT FR m μ σ n T g) {x : Int64} {Q : Int64 → gS → Prop} (hQ : ∀ g', MT FR m μ σ n T g' → Q (lf (fun k d => d * 31 + (likeF σ n k).toInt64) x n) g') : lpx3 (l_X11_digest_427 m Q) g x 0 := by
  have hn := hG.n
  refine lpx3_i n (fun k g' d i => d = lf (fun k d => d * 31 + (likeF σ n k).toInt64) x k ∧ i = nI k ∧ MT FR m μ σ n T g') ?_ ?_ g x 0 ⟨rfl, rfl, h⟩
  · rintro k g1 _ _ hk ⟨rfl, rfl, h1⟩ K hK
    unfold l_X11_digest_427
    refine ⟨h1.k, ?_⟩
    rw [h1.s (by decide) (by decide), hG.d1]
    refine ⟨fun c => absurd c (nI_ge hk (by omega)), fun _ => mt_likeNow hG hk h1 (fun g2 h2 => ?_)⟩
    rw [nI_1]
    exact hK _ _ _ ⟨rfl, rfl, h2⟩
  · rintro g1 _ _ ⟨rfl, rfl, h1⟩ K
    unfold l_X11_digest_427
    refine ⟨h1.k, ?_⟩
    rw [h1.s (by decide) (by decide), hG.d1]
    exact ⟨fun _ => hQ g1 h1, fun c => absurd (nI_le (Nat.le_refl _) (by omega)) c⟩
theorem mt_dgKind (hG : GI σ n bf nn nr ns) (hR : RG σ n nr) (h : MT FR m μ σ n T g) {x : Int64} {Q : Int64 → gS → Prop} (hQ : lpx3 (l_X11_digest_427 m Q) g (lf (fun k d => d * 31 + (nI (kindF σ nr (nI k))).toInt64) x 8) 0) : lpx2 (l_X11_digest_397 g m Q) x 0 := by
  refine lpx2_s 8 (fun k => lf (fun k d => d * 31 + (nI (kindF σ nr (nI k))).toInt64) x k) (fun k => nI k) rfl rfl (fun k hk K hK => ?_) (fun K => ?_)
  · unfold l_X11_digest_397
    refine ⟨fun c => absurd c (nI_ge hk (by decide)), fun _ => ⟨h.k, mt_kindNow h hG hR ?_⟩⟩
    rw [nI_1]; exact hK
  · unfold l_X11_digest_397
    exact ⟨fun _ => hQ, fun c => absurd (by decide) c⟩
theorem mt_dgRes (hG : GI σ n bf nn nr ns) (h : MT FR m μ σ n T g) {x : Int64} {Q : Int64 → gS → Prop} (hQ : lpx2 (l_X11_digest_397 g m Q) (lf (fun p d => (d * 31 + (σ 23 p).toInt64) * 31 + (σ 24 p).toInt64) x nr) 0) : lpx2 (l_X11_digest_351 g m Q) x 0 := by
  have hnr := hG.nr6
  refine lpx2_s nr (fun k => lf (fun p d => (d * 31 + (σ 23 p).toInt64) * 31 + (σ 24 p).toInt64) x k) (fun k => nI k) rfl rfl (fun k hk K hK => ?_) (fun K => ?_)
  · unfold l_X11_digest_351
    refine ⟨h.k, ?_⟩
    rw [h.s (by decide) (by decide), hG.d22]
    refine ⟨fun c => absurd c (nI_ge hk (by omega)), fun _ => ⟨_, h.r23, h.k23, by rw [h.n23]; exact vpi (by omega), _, h.r24, h.k24, by rw [h.n24]; exact vpi (by omega), ?_⟩⟩
    rw [h.i23, h.i24, cl_nI (by omega), nI_1]; exact hK
  · unfold l_X11_digest_351
    refine ⟨h.k, ?_⟩
    rw [h.s (by decide) (by decide), hG.d22]
    exact ⟨fun _ => hQ, fun c => absurd (nI_le (Nat.le_refl _) (by omega)) c⟩
theorem mt_dgNodes (hG : GI σ n bf nn nr ns) (hN : NG σ nn) {q : Nat} {r : Nat → Nat} {F : Nat → Nat → Int32} (hF : ∀ i, i < n → ∀ j, j < nn → F i j = scoreNowF σ n i j) (h : MT (Gr q r n nn F) m μ σ n T g) {x : Int64} {Q : Int64 → gS → Prop} (hQ : ∀ g', MT (Gr q r n nn F) m μ σ n T g' → lpx2 (l_X11_digest_351 g' m Q) (lf (dgJ σ n nn) x nn * 31 + (nI nr).toInt64) 0) : lpx3 (l_X11_digest_225 m q Q) g x 0 := by
  have hn := hG.n
  have hnn := hG.nn3
  refine lpx3_i nn (fun j g' d i => d = lf (dgJ σ n nn) x j ∧ i = nI j ∧ MT (Gr q r n nn F) m μ σ n T g') ?_ ?_ g x 0 ⟨rfl, rfl, h⟩
  · rintro j g1 _ _ hj ⟨rfl, rfl, h1⟩ K hK
    unfold l_X11_digest_225
    refine ⟨h1.k, ?_⟩
    rw [h1.s (by decide) (by decide), hG.d16]
    refine ⟨fun c => absurd c (nI_ge hj (by omega)), fun _ => ?_⟩
    obtain ⟨f1, f2, f3, f4⟩ := h1.fr
    refine lpx2_s n (fun k => nI (foundF σ n j k)) (fun k => nI k) rfl rfl (fun k hk K2 hK2 => ?_) (fun K2 => ?_)
    · unfold l_X11_digest_240 b_X11_digest_266
      refine ⟨h1.k, ?_⟩
      rw [h1.s (by decide) (by decide), hG.d1]
      obtain ⟨c1, c2, c3⟩ := f4 k hk
      refine ⟨fun c => absurd c (nI_ge hk (by omega)), fun _ => ⟨f1, by rw [f2]; exact vpi hk (by omega), r k, by rw [cl_nI (by omega)]; exact f3 k hk, c1, by rw [c2]; exact vpi hj (by omega), ?_⟩⟩
      rw [c3, cl_nI (by omega), hF k hk j hj]
      unfold foundF at hK2
      rw [cnt_s] at hK2
      refine ⟨fun c => ?_, fun c => ?_⟩
      · rw [decide_eq_false (i32_nl.mpr c)] at hK2
        rw [nI_1, nI_1]; simpa [foundF] using hK2
      · rw [decide_eq_true (i32_nle.mp c)] at hK2
        rw [nI_1, Int32.add_zero]; simpa [foundF] using hK2
    · unfold l_X11_digest_240
      refine ⟨h1.k, ?_⟩
      rw [h1.s (by decide) (by decide), hG.d1]
      refine ⟨fun _ => mt_costNow h1 hG hN hj (fun g2 h2 => ?_), fun c => absurd (nI_le (Nat.le_refl _) (by omega)) c⟩
      obtain ⟨f1, f2, f3, f4⟩ := h2.fr
      refine lpx2_s n (fun k => lf (fun k d => d * 31 + (scoreNowF σ n k j).toInt64) ((lf (dgJ σ n nn) x j * 31 + (nI (foundF σ n j n)).toInt64) * 31 + (costF σ n nn (tnB σ true j)).toInt64) k) (fun k => nI k) rfl rfl (fun k hk K3 hK3 => ?_) (fun K3 => ?_)
      · unfold l_X11_digest_300
        refine ⟨h2.k, ?_⟩
        rw [h2.s (by decide) (by decide), hG.d1]
        obtain ⟨c1, c2, c3⟩ := f4 k hk
        refine ⟨fun c => absurd c (nI_ge hk (by omega)), fun _ => ⟨f1, by rw [f2]; exact vpi hk (by omega), r k, by rw [cl_nI (by omega)]; exact f3 k hk, c1, by rw [c2]; exact vpi hj (by omega), ?_⟩⟩
        rw [c3, cl_nI (by omega), hF k hk j hj, nI_1]
        exact hK3
      · unfold l_X11_digest_300
        refine ⟨h2.k, ?_⟩
        rw [h2.s (by decide) (by decide), hG.d1]
        refine ⟨fun _ => ?_, fun c => absurd (nI_le (Nat.le_refl _) (by omega)) c⟩
        rw [nI_1]
        exact hK _ _ _ ⟨rfl, rfl, h2⟩
  · rintro g1 _ _ ⟨rfl, rfl, h1⟩ K
    unfold l_X11_digest_225
    refine ⟨h1.k, ?_⟩
    rw [h1.s (by decide) (by decide), h1.s (by decide) (by decide), hG.d16, hG.d22]
    exact ⟨fun _ => hQ g1 h1, fun c => absurd (nI_le (Nat.le_refl _) (by omega)) c⟩
theorem mt_dgFill (hG : GI σ n bf nn nr ns) (hN : NG σ nn) {q : Nat} {r : Nat → Nat} (hr : ∀ i, i < n → ¬ Own m μ (r i)) (hi : ∀ i j, i < n → j < n → r i = r j → i = j) (h : MT (Gr q r n nn (fun _ _ => 0)) m μ σ n T g) {x : Int64} {Q : Int64 → gS → Prop} (hQ : ∀ g' T' F, (∀ i, i < n → ∀ j, j < nn → F i j = scoreNowF σ n i j) → MT (Gr q r n nn F) m μ σ n T' g' → lpx3 (l_X11_digest_225 m q Q) g' x 0) : lpx2 (l_X11_digest_125 m x q Q) g 0 := by
  have hn := hG.n
  have hnn := hG.nn3
  refine lpx2_i n (fun k g' i => i = nI k ∧ ∃ T' F, MT (Gr q r n nn F) m μ σ n T' g' ∧ ∀ i, i < k → ∀ j, j < nn → F i j = scoreNowF σ n i j) ?_ ?_ g 0 ⟨rfl, T, _, h, fun i hi => absurd hi (Nat.not_lt_zero _)⟩
  · rintro k g1 _ hk ⟨rfl, T1, F, h1, hF⟩ K hK
    have hk6 : k < 60 := by omega
    unfold l_X11_digest_125 b_X11_digest_154
    refine ⟨h1.k, ?_⟩
    rw [h1.s (by decide) (by decide), h1.s (by decide) (by decide), hG.d1, hG.d16]
    -- the row filled
    have fill : ∀ (b : Bool) (T2 : Nat → Int32) (g2 : gS), MT (Gr q r n nn F) m μ σ n T2 g2 → (b = true → ∀ j, j < nn → T2 j = scoreNowF σ n k j) → (b = false → ∀ j, j < nn → scoreNowF σ n k j = -1) → b_X11_digest_175 g2 m x q (nI k) (bI b) Q K := by
      intro b T2 g2 h2 hb1 hb2
      unfold b_X11_digest_175
      refine lpx2_i nn (fun j g' i => i = nI j ∧ ∃ F', MT (Gr q r n nn F') m μ σ n T2 g' ∧ (∀ i, i ≠ k → F' i = F i) ∧ ∀ i, i < j → F' k i = scoreNowF σ n k i) ?_ ?_ g2 0 ⟨rfl, F, h2, fun _ _ => rfl, fun i hi => absurd hi (Nat.not_lt_zero _)⟩
      · rintro j g3 _ hj ⟨rfl, F3, h3, hne, hF3⟩ K2 hK2
        unfold l_X11_digest_178
        refine ⟨h3.k, ?_⟩
        rw [h3.s (by decide) (by decide), hG.d16]
        obtain ⟨f1, f2, f3, f4⟩ := h3.fr
        obtain ⟨c1, c2, c3⟩ := f4 k hk
        have put : ∀ v, v = scoreNowF σ n k j → b_X11_digest_209 g3 m x q (nI k) (bI b) (nI j) (r k) (nI j) v Q (fun a b => K a b) K2 := by
          intro v hv
          unfold b_X11_digest_209
          refine ⟨c1, by rw [c2]; exact vpi hj (by omega), fun g4 e4 => ?_⟩
          subst e4
          rw [cl_nI (by omega), nI_1]
          refine hK2 _ _ ⟨rfl, va_up F3 k (upd (F3 k) j v), h3.out (hr k hk) ⟨f1, f2, f3, fun i hi2 => ?_⟩ (gr_stb hr), fun i hik => ?_, fun i hi2 => ?_⟩
          · by_cases e : i = k
            · subst e
              rw [va_up_self]
              refine ⟨c1, c2, ?_⟩
              show gI (sI g3 (r i) _) (r i) = _
              rw [gI_sI_self, c3]
            · rw [va_up_ne _ _ e]
              exact (f4 i hi2).w (fun q => e (hi i k hi2 hk q))
          · rw [va_up_ne _ _ hik]; exact hne i hik
          · rw [va_up_self]
            unfold upd
            split
            · rename_i e; rw [e]; exact hv
            · exact hF3 i (by omega)
        refine ⟨fun c => absurd c (nI_ge hj (by omega)), fun _ => ⟨f1, by rw [f2]; exact vpi hk (by omega), r k, by rw [cl_nI (by omega)]; exact f3 k hk, fun c => put _ ?_, fun c => ⟨_, h3.r29, h3.k29, by rw [h3.n29]; exact vpi (by omega), put _ ?_⟩⟩⟩
        · exact (hb2 (bI_0.mp c) j hj).symm
        · rw [h3.i29, cl_nI (by omega)]; exact hb1 (bI_n0 c) j hj
      · rintro g3 _ ⟨rfl, F3, h3, hne, hF3⟩ K2
        unfold l_X11_digest_178
        refine ⟨h3.k, ?_⟩
        rw [h3.s (by decide) (by decide), hG.d16]
        refine ⟨fun _ => ?_, fun c => absurd (nI_le (Nat.le_refl _) (by omega)) c⟩
        rw [nI_1]
        refine hK _ _ ⟨rfl, T2, F3, h3, fun i hi2 j hj => ?_⟩
        by_cases e : i = k
        · subst e; exact hF3 j hj
        · rw [hne i e]; exact hF i (by omega) j hj
    refine ⟨fun c => absurd c (nI_ge hk (by omega)), fun _ => ⟨fun c => ?_, fun c => mt_isThere h1 hk6 ⟨fun c2 => ?_, fun c2 => ?_⟩⟩⟩
    · have : nn = 0 := by
        have := (nI_le_iff (show nn < 2 ^ 31 by omega) (show 0 < 2 ^ 31 by decide)).mp c
        omega
      unfold b_X11_digest_155
      exact ⟨fun _ => fill false T1 g1 h1 (fun e => absurd e (by decide)) (fun _ j hj => by omega), fun c => absurd rfl c⟩
    · unfold b_X11_digest_155
      exact ⟨fun _ => fill false T1 g1 h1 (fun e => absurd e (by decide)) (fun _ j hj => by unfold scoreNowF; rw [bI_0.mp c2, if_neg (by decide)]), fun c => absurd rfl c⟩
    · have hth := bI_n0 c2
      have hpos : 0 < nn := by
        rcases Nat.eq_zero_or_pos nn with e | e
        · exact absurd (by rw [e]; decide) c
        · exact e
      unfold b_X11_digest_155
      refine ⟨fun c => absurd c (by decide), fun _ => ⟨h1.k, ?_⟩⟩
      rw [h1.s (by decide) (by decide), hG.d16, nI_sub1 hpos]
      refine mt_scoreNow hG hN (show nn - 1 < nn by omega) hk h1 (fun g2 T2 h2 hT => ?_)
      refine fill true T2 g2 h2 (fun _ j hj => ?_) (fun e => absurd e (by decide))
      unfold scoreNowF
      rw [if_pos hth]
      exact hT hth j (by omega)
  · rintro g1 _ ⟨rfl, T1, F, h1, hF⟩ K
    unfold l_X11_digest_125
    refine ⟨h1.k, ?_⟩
    rw [h1.s (by decide) (by decide), hG.d1]
    exact ⟨fun _ => hQ g1 T1 F hF h1, fun c => absurd (nI_le (Nat.le_refl _) (by omega)) c⟩
theorem mo_digest (h : MT TT m μ σ n T g) (hG : GI σ n bf nn nr ns) (hN : NG σ nn) (hR : RG σ n nr) {Q : Int64 → gS → Prop} (hQ : ∀ g' T', MT TT m μ (tz σ 0) n T' g' → Q (dgF (tz σ 0) n nn nr ns) g') : w_X11_digest g m Q := by
  have hn := hG.n
  have hnn := hG.nn3
  have hns := hG.ns6
  unfold w_X11_digest
  refine ⟨h.k, fun g1 e1 => ?_⟩
  subst e1
  have h1 := h.z 0
  have hGz : GI (tz σ 0) n bf nn nr ns := hG
  have hNz : NG (tz σ 0) nn := hN
  have hRz : RG (tz σ 0) n nr := hR
  generalize tz σ 0 = τ at *
  refine ⟨h1.k, ?_⟩
  rw [h1.s (by decide) (by decide), hGz.d1]
  refine lpx2_s n (fun k => lf (fun k d => d * 31 + (stF τ k).toInt64) (80879 + (nI n).toInt64) k) (fun k => nI k) rfl rfl (fun k hk K hK => ?_) (fun K => ?_)
  · unfold l_X11_digest_17
    refine ⟨h1.k, ?_⟩
    rw [h1.s (by decide) (by decide), hGz.d1]
    refine ⟨fun c => absurd c (nI_ge hk (by omega)), fun _ => mt_stateNow h1 (by omega) ?_⟩
    rw [nI_1]; exact hK
  unfold l_X11_digest_17
  refine ⟨h1.k, ?_⟩
  rw [h1.s (by decide) (by decide), hGz.d1]
  refine ⟨fun _ => ?_, fun c => absurd (nI_le (Nat.le_refl _) (by omega)) c⟩
  rw [h1.s (by decide) (by decide), hGz.d13]
  refine lpx2_s ns (fun k => lf (fun s d => (d * 31 + (τ 14 s).toInt64) * 31 + (nI (sizeF τ n (nI s))).toInt64) (dg1 τ n * 31 + (nI ns).toInt64) k) (fun k => nI k) rfl rfl (fun k hk K hK => ?_) (fun K => ?_)
  · unfold l_X11_digest_58
    refine ⟨h1.k, ?_⟩
    rw [h1.s (by decide) (by decide), hGz.d13]
    refine ⟨fun c => absurd c (nI_ge hk (by omega)), fun _ => ⟨_, h1.r14, h1.k14, by rw [h1.n14]; exact vpi (by omega), mt_sizeNow h1 hGz ?_⟩⟩
    rw [h1.i14, cl_nI (by omega), nI_1]; exact hK
  unfold l_X11_digest_58
  refine ⟨h1.k, ?_⟩
  rw [h1.s (by decide) (by decide), h1.s (by decide) (by decide), h1.s (by decide) (by decide), hGz.d13, hGz.d1, hGz.d16]
  rw [cl_nI (show n < 2 ^ 31 by omega), cl_nI (show nn < 2 ^ 31 by omega)]
  refine ⟨fun _ => ⟨⟨not_lt0 (by omega), not_lt0 (by omega), hn, hnn⟩, fun q r hq g2 e2 => ?_⟩, fun c => absurd (nI_le (Nat.le_refl _) (by omega)) c⟩
  subst e2
  obtain ⟨q1, q2, q3⟩ := hq
  have nq : ¬ Own m μ q := fun o => h1.own o q1
  have nr' : ∀ i, i < n → ¬ Own m μ (r i) := fun i hi o => h1.own o (q2 i hi).1
  have notin : ∀ a, Own m μ a → a ≠ q ∧ a ∉ (List.range n).map r := by
    intro a ha
    refine ⟨fun e => nq (by rw [← e]; exact ha), fun hm => ?_⟩
    obtain ⟨i, hi, e⟩ := List.mem_map.mp hm
    exact nr' i (List.mem_range.mp hi) (by rw [e]; exact ha)
  have isin : ∀ i, i < n → r i ∈ (List.range n).map r := fun i hi => List.mem_map.mpr ⟨i, List.mem_range.mpr hi, rfl⟩
  have h2 : MT (Gr q r n nn (fun _ _ => 0)) m μ τ n T (sGrid (sU g m 0 0) q r n nn) := by
    refine h1.ext (fun a ha => ?_) ⟨if_pos rfl, if_pos rfl, fun i hi => ?_, fun i hi => ⟨?_, ?_, ?_⟩⟩ (gr_stb nr')
    · obtain ⟨a1, a2⟩ := notin a ha
      refine ⟨?_, ?_, ?_, ?_⟩
      · show (if a = q then _ else if a ∈ _ then _ else _) = _; rw [if_neg a1, if_neg a2]; rfl
      · show (if a = q then _ else if a ∈ _ then _ else _) = _; rw [if_neg a1, if_neg a2]; rfl
      · show (if a = q ∨ a ∈ _ then _ else _) = _; rw [if_neg (fun o => o.elim a1 a2)]; rfl
      · show (if a = q then _ else if a ∈ _ then _ else _) = _; rw [if_neg a1, if_neg a2]; rfl
    · have e1 : gR (sGrid (sU g m 0 0) q r n nn) q = fun i => if i < n then some (r i) else none := if_pos rfl
      rw [e1]
      exact if_pos hi
    · show (if r i = q then _ else if r i ∈ _ then _ else _) = _; rw [if_neg (q2 i hi).2, if_pos (isin i hi)]
    · show (if r i = q then _ else if r i ∈ _ then _ else _) = _; rw [if_neg (q2 i hi).2, if_pos (isin i hi)]
    · show (if r i = q ∨ r i ∈ _ then _ else _) = _; rw [if_pos (Or.inr (isin i hi))]
  refine mt_dgFill hGz hNz nr' q3 h2 (fun g3 T3 F hF h3 => mt_dgNodes hGz hNz hF h3 (fun g4 h4 => mt_dgRes hGz h4 (mt_dgKind hGz hRz h4 (mt_dgLike hGz h4 (fun g5 h5 => ?_)))))
  refine hQ g5 T3 (h5.ext (fun a _ => ⟨rfl, rfl, rfl, rfl⟩) trivial stb_TT)
end MDIGEST
