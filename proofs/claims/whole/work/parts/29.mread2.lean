/-! THE REFERENCE'S READERS: like, mate -/
theorem bI_and : ∀ x y : Bool, bI x &&& bI y = bI (x && y) := by decide
section MREAD2
variable {FR : gS → Prop} {m : Nat} {μ : Nat → Nat} {σ : Rows} {n : Nat} {T : Nat → Int32} {g : gS} {bf nn nr ns : Nat}
theorem mt_likeField (hG : GI σ n bf nn nr ns) {e d f : Nat} (he : e < 60) (hd : d < 60) (hf : f < 3) (h : MT FR m μ σ n T g) {i2 i3 s0 : Int32} {Q : Int32 → gS → Prop} {k7 : gS → Int32 → Int32 → Int32 → Prop} {k40 : gS → Int32 → Int32 → Prop} (hQ : ∀ g', MT FR m μ σ n T g' → k40 g' (s0 + isum (fun k => lkVal σ n e d f k) (lnF σ e f)) (nI f + 1)) : lpx3 (l_X11_likeNow_49 m (nI e) i2 i3 (nI d) (nI f) Q k7 k40) g s0 0 := by
  obtain ⟨hl1, hl2⟩ := hG.ln he hf
  refine lpx3_i (lnF σ e f) (fun k g' s i => s = s0 + isum (fun k => lkVal σ n e d f k) k ∧ i = nI k ∧ MT FR m μ σ n T g') ?_ ?_ g s0 0 ⟨(Int32.add_zero _).symm, rfl, h⟩
  · rintro k g1 _ _ hk ⟨rfl, rfl, h1⟩ K hK
    unfold l_X11_likeNow_49
    refine ⟨h1.k, (mt_many h1 he hf).mpr ?_⟩
    rw [hl2]
    refine ⟨fun c => absurd c (nI_ge hk (by omega)), fun _ => (mt_at h1 he hf (by omega)).mpr ?_⟩
    obtain ⟨u, hu, eu⟩ := hG.tm he hf hk
    rw [eu]
    have run : ∀ X : Bool, X = !decide (ctF σ d f (nI u) = 0) → b_X11_likeNow_90 g1 m (nI e) i2 i3 (nI d) (s0 + isum (fun k => lkVal σ n e d f k) k) (nI f) (nI k) (nI u) (bI X) Q k7 k40 K := by
      intro X hX
      unfold b_X11_likeNow_90
      refine lpx2_s k (fun j => bI (X && !(hasB (tmF σ e f) j (nI u)))) (fun j => nI j) (by simp [hasB]) rfl (fun j hj K2 hK2 => ?_) (fun K2 => ?_)
      · unfold l_X11_likeNow_95 b_X11_likeNow_123
        refine ⟨fun c => absurd c (nI_ge hj (by omega)), fun _ => ⟨h1.k, (mt_at h1 he hf (by omega)).mpr ?_⟩⟩
        rw [hasB] at hK2
        refine ⟨fun c => ?_, fun c => ?_⟩
        · rw [decide_eq_true c] at hK2
          rw [show (0 : Int32) = bI false from rfl, bI_and, nI_1]; simpa using hK2
        · rw [decide_eq_false c] at hK2
          rw [show (bI (X && !(hasB (tmF σ e f) j (nI u))) &&& 1) = bI ((X && !(hasB (tmF σ e f) j (nI u))) && true) from bI_and _ true, nI_1]; simpa using hK2
      · unfold l_X11_likeNow_95 b_X11_likeNow_151
        have val : lkVal σ n e d f k = if (X && !(hasB (tmF σ e f) k (nI u))) = true then rareF σ n u f else 0 := by
          unfold lkVal; rw [eu, hX, cl_nI (show u < 2 ^ 31 by omega)]
        refine ⟨fun _ => ⟨fun c => ?_, fun c => ⟨h1.k, mt_rareNow h1 hG hu hf (fun g2 h2 => ?_)⟩⟩, fun c => absurd (nI_le (Nat.le_refl _) (by omega)) c⟩
        · rw [bI_0.mp c, if_neg (by decide)] at val
          refine hK _ _ _ ⟨?_, nI_1 k, h1⟩
          rw [isum, val, Int32.add_assoc]
        · rw [bI_n0 c, if_pos rfl] at val
          refine hK _ _ _ ⟨?_, nI_1 k, h2⟩
          rw [isum, val, Int32.add_assoc]
    refine mt_count h1 hG hd hf hu ⟨fun c => ?_, fun c => ?_⟩
    · refine run false ?_
      have : ctF σ d f (nI u) = 0 := by
        rw [ctF_eq hu] at c ⊢
        have hc := ctN_le (σ := σ) (d := d) (f := f) (t := u)
        have hl := (hG.ln hd hf).1
        have := (nI_le_iff (show ctN σ d f u < 2 ^ 31 by omega) (show 0 < 2 ^ 31 by decide)).mp c
        rw [show ctN σ d f u = 0 by omega]; rfl
      simp [this]
    · refine run true ?_
      have : ¬ ctF σ d f (nI u) = 0 := fun e => c (by rw [e]; decide)
      simp [this]
  · rintro g1 _ _ ⟨rfl, rfl, h1⟩ K
    unfold l_X11_likeNow_49
    refine ⟨h1.k, (mt_many h1 he hf).mpr ?_⟩
    rw [hl2]
    exact ⟨fun _ => hQ g1 h1, fun c => absurd (nI_le (Nat.le_refl _) (by omega)) c⟩
theorem mt_likeNow (hG : GI σ n bf nn nr ns) {e : Nat} (he : e < n) (h : MT FR m μ σ n T g) {Q : Int32 → gS → Prop} (hQ : ∀ g', MT FR m μ σ n T g' → Q (likeF σ n e) g') : w_X11_likeNow g m (nI e) Q := by
  have hn := hG.n
  unfold w_X11_likeNow
  refine lpx4_i n (fun k g' b s i => b = (bst (fun d => !decide (d = e) && there σ d) (lkSum σ n e) k).1 ∧ s = (bst (fun d => !decide (d = e) && there σ d) (lkSum σ n e) k).2 ∧ i = nI k ∧ MT FR m μ σ n T g') ?_ ?_ g (-1) 0 0 ⟨rfl, rfl, rfl, h⟩
  · rintro k g1 _ _ _ hk ⟨rfl, rfl, rfl, h1⟩ K hK
    unfold l_X11_likeNow_7
    refine ⟨h1.k, ?_⟩
    rw [h1.s (by decide) (by decide), hG.d1]
    have no : ∀ g2, MT FR m μ σ n T g2 → ¬ ((!decide (k = e) && there σ k) = true ∧ (bst (fun d => !decide (d = e) && there σ d) (lkSum σ n e) k).2 < lkSum σ n e k) → K g2 (bst (fun d => !decide (d = e) && there σ d) (lkSum σ n e) k).1 (bst (fun d => !decide (d = e) && there σ d) (lkSum σ n e) k).2 (nI k + 1) := by
      intro g2 h2 c
      refine hK _ _ _ _ ⟨?_, ?_, nI_1 k, h2⟩ <;> rw [bst, if_neg c]
    unfold b_X11_likeNow_178
    refine ⟨fun c => absurd c (nI_ge hk (by omega)), fun _ => ⟨fun c => ?_, fun c => mt_isThere h1 (by omega) ⟨fun c2 => ?_, fun c2 => ?_⟩⟩⟩
    · have := (nI_inj (by omega) (by omega)).mp c
      exact no g1 h1 (by simp [this])
    · exact no g1 h1 (by rw [bI_0.mp c2]; simp)
    · have hke : ¬ k = e := fun q => c (by rw [q])
      refine lpx3_i 3 (fun f g' s i => s = isum (fun f => isum (fun j => lkVal σ n e k f j) (lnF σ e f)) f ∧ i = nI f ∧ MT FR m μ σ n T g') ?_ ?_ g1 0 0 ⟨rfl, rfl, h1⟩
      · rintro f g2 _ _ hf ⟨rfl, rfl, h2⟩ K2 hK2
        unfold l_X11_likeNow_40
        refine ⟨fun c => absurd c (nI_ge hf (by decide)), fun _ => mt_likeField hG (by omega) (by omega) hf h2 (fun g3 h3 => hK2 _ _ _ ⟨rfl, nI_1 f, h3⟩)⟩
      · rintro g2 _ _ ⟨rfl, rfl, h2⟩ K2
        unfold l_X11_likeNow_40 b_X11_likeNow_178
        refine ⟨fun _ => ⟨fun c3 => ?_, fun c3 => ?_⟩, fun c => absurd (by decide) c⟩
        · exact no g2 h2 (fun q => i32_nl.mpr c3 q.2)
        · have : (!decide (k = e) && there σ k) = true ∧ (bst (fun d => !decide (d = e) && there σ d) (lkSum σ n e) k).2 < lkSum σ n e k := ⟨by rw [bI_n0 c2]; simp [hke], i32_nle.mp c3⟩
          refine hK _ _ _ _ ⟨?_, ?_, nI_1 k, h2⟩ <;> rw [bst, if_pos this]
          rfl
  · rintro g1 _ _ _ ⟨rfl, rfl, rfl, h1⟩ K
    unfold l_X11_likeNow_7
    refine ⟨h1.k, ?_⟩
    rw [h1.s (by decide) (by decide), hG.d1]
    exact ⟨fun _ => hQ g1 h1, fun c => absurd (nI_le (Nat.le_refl _) (by omega)) c⟩
theorem cnt_s {p : Nat → Bool} {k : Nat} : cnt p (k + 1) = cnt p k + if p k = true then 1 else 0 := rfl
theorem mt_mateLoop (h : MT FR m μ σ n T g) (hG : GI σ n bf nn nr ns) {s : Nat} (hs : s < 200) {Q : Int32 → gS → Prop} (hQ : Q (mtS σ n s 200).1 g) : lpx4 (l_X11_mate_37 g m (nI s) Q) (-1) 0 0 0 := by
  have hn := hG.n
  refine lpx4_s 200 (fun t => (mtS σ n s t).1) (fun t => nI (mtS σ n s t).2.1) (fun t => nI (mtS σ n s t).2.2) (fun t => nI t) rfl rfl rfl rfl (fun t ht K hK => ?_) (fun K => ?_)
  · unfold l_X11_mate_37
    have hb : (mtS σ n s t).2.1 ≤ 60 ∧ (mtS σ n s t).2.2 ≤ 60 := by
      clear hK
      induction t with
      | zero => exact ⟨Nat.zero_le _, Nat.zero_le _⟩
      | succ t ih =>
        rw [mtS]; split
        · exact ⟨Nat.le_trans (cnt_le _ _) hn, Nat.le_trans (cnt_le _ _) hn⟩
        · exact ih (by omega)
    have hB : mtBoth σ s t n ≤ 60 := Nat.le_trans (cnt_le _ _) hn
    have hA : mtAll σ t n ≤ 60 := Nat.le_trans (cnt_le _ _) hn
    have no : ¬ (t ≠ s ∧ σ 10 t = 0 ∧ ((mtS σ n s t).2.1 < mtBoth σ s t n ∨ mtBoth σ s t n = (mtS σ n s t).2.1 ∧ 0 < mtBoth σ s t n ∧ mtAll σ t n < (mtS σ n s t).2.2)) → b_X11_mate_168 g m (nI s) (mtS σ n s t).1 (nI (mtS σ n s t).2.1) (nI (mtS σ n s t).2.2) (nI t) Q K := by
      intro c
      unfold b_X11_mate_168
      rw [mtS] at hK
      rw [if_neg c] at hK
      rw [nI_1]; exact hK
    have yes : (t ≠ s ∧ σ 10 t = 0 ∧ ((mtS σ n s t).2.1 < mtBoth σ s t n ∨ mtBoth σ s t n = (mtS σ n s t).2.1 ∧ 0 < mtBoth σ s t n ∧ mtAll σ t n < (mtS σ n s t).2.2)) → b_X11_mate_158 g m (nI s) (nI t) (nI (mtBoth σ s t n)) (nI (mtAll σ t n)) Q K := by
      intro c
      unfold b_X11_mate_158 b_X11_mate_168
      rw [mtS] at hK
      rw [if_pos c] at hK
      rw [nI_1]; exact hK
    refine ⟨fun c => absurd c (nI_ge ht (by decide)), fun _ => ⟨fun c => ?_, fun c => ⟨h.k, _, h.r10, h.k10, by rw [h.n10]; exact vpi ht, ?_, ?_⟩⟩⟩
    · have := (nI_inj (by omega) (by omega)).mp c
      exact no (fun q => q.1 this)
    · rw [h.i10]; (try simp (disch := omega) only [cl_nI])
      intro c2
      have hts : t ≠ s := fun q => c (by rw [q])
      refine lpx3_s n (fun d => nI (mtBoth σ s t d)) (fun d => nI (mtAll σ t d)) (fun d => nI d) rfl rfl rfl (fun d hd K2 hK2 => ?_) (fun K2 => ?_)
      · unfold l_X11_mate_73 b_X11_mate_125 b_X11_mate_128
        refine ⟨h.k, ?_⟩
        rw [h.s (by decide) (by decide), hG.d1]
        unfold mtBoth mtAll at hK2
        rw [cnt_s, cnt_s] at hK2
        refine ⟨fun c => absurd c (nI_ge hd (by omega)), fun _ => mt_isThere h (by omega) ⟨fun c3 => ?_, fun c3 => mt_has h hG (by omega) ht ⟨fun c4 => ?_, fun c4 => mt_has h hG (by omega) hs ⟨fun c5 => ?_, fun c5 => ?_⟩⟩⟩⟩
        · rw [bI_0.mp c3] at hK2
          rw [nI_1]; simpa [mtBoth, mtAll] using hK2
        · rw [bI_n0 c3, bI_0.mp c4] at hK2
          rw [nI_1]; simpa [mtBoth, mtAll] using hK2
        · rw [bI_n0 c3, bI_n0 c4, bI_0.mp c5] at hK2
          rw [nI_1, nI_1, Int32.add_zero]; simpa [mtBoth, mtAll] using hK2
        · rw [bI_n0 c3, bI_n0 c4, bI_n0 c5] at hK2
          rw [nI_1, nI_1, nI_1]; simpa [mtBoth, mtAll] using hK2
      · unfold l_X11_mate_73
        refine ⟨h.k, ?_⟩
        rw [h.s (by decide) (by decide), hG.d1]
        refine ⟨fun _ => ⟨fun c3 => ?_, fun c3 => ⟨fun c4 => ⟨fun c5 => ?_, fun c5 => ⟨fun c6 => ?_, fun c6 => ?_⟩⟩, fun c4 => ?_⟩⟩, fun c => absurd (nI_le (Nat.le_refl _) (by omega)) c⟩
        · exact yes ⟨hts, c2, Or.inl ((nI_lt_iff (by omega) (by omega)).mp c3)⟩
        · have := (nI_le_iff (show mtBoth σ s t n < 2 ^ 31 by omega) (show 0 < 2 ^ 31 by decide)).mp c5
          exact no (fun q => q.2.2.elim (fun r => by omega) (fun r => by omega))
        · have := (nI_le_iff (by omega) (by omega)).mp c6
          have h3 : ¬ (mtS σ n s t).2.1 < mtBoth σ s t n := fun q => c3 ((nI_lt_iff (by omega) (by omega)).mpr q)
          exact no (fun q => q.2.2.elim (fun r => by omega) (fun r => by omega))
        · refine yes ⟨hts, c2, Or.inr ⟨(nI_inj (by omega) (by omega)).mp c4, ?_, ?_⟩⟩
          · rcases Nat.eq_zero_or_pos (mtBoth σ s t n) with e | e
            · exact absurd (by rw [e]; decide) c5
            · exact e
          · rcases Nat.lt_or_ge (mtAll σ t n) (mtS σ n s t).2.2 with e | e
            · exact e
            · exact absurd ((nI_le_iff (by omega) (by omega)).mpr e) c6
        · have h3 : ¬ (mtS σ n s t).2.1 < mtBoth σ s t n := fun q => c3 ((nI_lt_iff (by omega) (by omega)).mpr q)
          exact no (fun q => q.2.2.elim h3 (fun r => c4 (by rw [r.1])))
    · rw [h.i10]; (try simp (disch := omega) only [cl_nI])
      exact fun c2 => no (fun q => c2 q.2.1)
  · unfold l_X11_mate_37
    exact ⟨fun _ => hQ, fun c => absurd (by decide) c⟩
end MREAD2
