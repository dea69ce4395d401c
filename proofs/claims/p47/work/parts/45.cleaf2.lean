/-! THE CLASS: lexicon, census, taste -/
def isC (cb : Nat) : Prop := cb = 4 ∨ cb = 30
section CCEN
variable {A : Nat → Nat} {D : Nat} {V σ ρ : Rows} {n bf nn nr ns cb : Nat} {g : gS}
theorem CR.ck0 (h : CR A D nn V g) (hc : isC cb) : gK g (A cb) = 2 ∧ gI g (A cb) = V cb ∧ gR g (A cb) 0 = some (A (cb + 1)) ∧ gR g (A cb) 1 = some (A (cb + 5)) ∧ gK g (A (cb + 1)) = 24 ∧ gN g (A (cb + 1)) = 3 ∧ gK g (A (cb + 5)) = 21 ∧ gN g (A (cb + 5)) = 3 ∧ gI g (A (cb + 5)) = V (cb + 5) := by
  rcases hc with e | e
  · subst e; exact ⟨h.k4, h.i4, h.r4_0, h.r4_1, h.k5, h.n5, h.k9, h.n9, h.i9⟩
  · subst e; exact ⟨h.k30, h.i30, h.r30_0, h.r30_1, h.k31, h.n31, h.k35, h.n35, h.i35⟩
theorem CR.cf (h : CR A D nn V g) (hc : isC cb) {f : Nat} (hf : f < 3) : gR g (A (cb + 1)) f = some (A (cb + 2 + f)) ∧ gK g (A (cb + 2 + f)) = 21 ∧ gN g (A (cb + 2 + f)) = 200 ∧ gI g (A (cb + 2 + f)) = V (cb + 2 + f) := by
  rcases hc with e | e
  · subst e
    rcases f with _ | _ | _ | f
    · exact ⟨h.r5_0, h.k6, h.n6, h.i6⟩
    · exact ⟨h.r5_1, h.k7, h.n7, h.i7⟩
    · exact ⟨h.r5_2, h.k8, h.n8, h.i8⟩
    · omega
  · subst e
    rcases f with _ | _ | _ | f
    · exact ⟨h.r31_0, h.k32, h.n32, h.i32⟩
    · exact ⟨h.r31_1, h.k33, h.n33, h.i33⟩
    · exact ⟨h.r31_2, h.k34, h.n34, h.i34⟩
    · omega
theorem x_spreadOf (h : CR A D nn V g) (hc : isC cb) (hv : vCen V cb ρ n) {t f : Nat} (ht : t < 200) (hf : f < 3) {Q : Int32 → Prop} (hQ : Q (spF ρ t f n)) : w_X1_spreadOf g (A cb) (nI t) (nI f) Q := by
  obtain ⟨a1, a2, a3, a4, a5, a6, _⟩ := h.ck0 hc
  obtain ⟨b1, b2, b3, b4⟩ := h.cf hc hf
  unfold w_X1_spreadOf b_X1_spreadOf_28
  refine ⟨fun c => absurd c (not_lt0 (by omega)), fun _ => ⟨a1, _, a3, a5, ?_⟩⟩
  rw [a6]
  refine ⟨fun c => absurd c (nI_ge hf (by decide)), fun _ => ⟨fun c => absurd c (not_lt0 (by omega)), fun _ => ⟨_, a3, a5, by rw [a6]; exact vpi hf, _, by rw [cl_nI (by omega)]; exact b1, b2, ?_⟩⟩⟩
  rw [b3]
  refine ⟨fun _ => ⟨_, a3, a5, by rw [a6]; exact vpi hf, _, by rw [cl_nI (by omega)]; exact b1, b2, by rw [b3]; exact vpi ht, ?_⟩, fun c => absurd ((nI_lt_iff (by omega) (by decide)).mpr ht) c⟩
  rw [b4, cl_nI (by omega), hv.2.2 f t hf ht]; exact hQ
theorem x_spreadNo (h : CR A D nn V g) (hc : isC cb) {f : Nat} (hf : f < 3) {Q : Int32 → Prop} (hQ : Q 0) : w_X1_spreadOf g (A cb) (-1) (nI f) Q := by
  obtain ⟨a1, a2, a3, a4, a5, a6, _⟩ := h.ck0 hc
  unfold w_X1_spreadOf b_X1_spreadOf_28
  refine ⟨fun c => absurd c (not_lt0 (by omega)), fun _ => ⟨a1, _, a3, a5, ?_⟩⟩
  rw [a6]
  exact ⟨fun c => absurd c (nI_ge hf (by decide)), fun _ => ⟨fun _ => hQ, fun c => absurd (by decide) c⟩⟩
theorem x_lengthOf (h : CR A D nn V g) (hc : isC cb) (hv : vCen V cb ρ n) {f : Nat} (hf : f < 3) {Q : Int32 → Prop} (hQ : Q (leF ρ f n)) : w_X1_lengthOf g (A cb) (nI f) Q := by
  obtain ⟨a1, a2, a3, a4, a5, a6, a7, a8, a9⟩ := h.ck0 hc
  unfold w_X1_lengthOf b_X1_lengthOf_13 b_X1_lengthOf_23
  refine ⟨fun c => absurd c (not_lt0 (by omega)), fun _ => ⟨a1, _, a4, a7, ?_⟩⟩
  rw [a8]
  refine ⟨fun _ => ⟨_, a4, a7, by rw [a8]; exact vpi hf, ?_⟩, fun c => absurd ((nI_lt_iff (by omega) (by decide)).mpr hf) c⟩
  rw [a9, cl_nI (by omega), hv.2.1 f hf]; exact hQ
theorem x_rarityOf (h : CR A D nn V g) (hc : isC cb) (hv : vCen V cb ρ n) {s : Nat} (hs : s < 1000) {Q : Int32 → Prop} (hQ : Q (rootF (10000 * (lyF ρ n + 1) / (nI s + 1)))) : w_X1_rarityOf g (A cb) (nI s) Q := by
  obtain ⟨a1, a2, _⟩ := h.ck0 hc
  unfold w_X1_rarityOf
  refine ⟨fun _ => ⟨a1, ?_, ?_⟩, fun c => absurd (le0 (by omega)) c⟩
  · rw [nI_1]; intro e
    have := (nI_inj (show s + 1 < 2 ^ 31 by omega) (show 0 < 2 ^ 31 by omega)).mp e
    omega
  · rw [a2, hv.1]
    generalize 10000 * (lyF ρ n + 1) / (nI s + 1) = x at hQ ⊢
    have hb : ∀ k, k < 16 → btS k >>> (1 &&& 31) = btS (k + 1) := by decide +kernel
    refine lpx2_s 15 (fun k => rtS x k) (fun k => btS k) rfl rfl (fun k hk K hK => ?_) (fun K => ?_)
    · unfold l_X1_rarityOf_28 b_X1_rarityOf_51
      rw [hb k (by omega)]
      refine ⟨fun c => absurd c (btS_pos k hk), fun _ => ⟨fun c => ?_, fun c => ?_⟩⟩
      · simp only [rtS, if_pos c] at hK; exact hK
      · simp only [rtS, if_neg c] at hK; exact hK
    · unfold l_X1_rarityOf_28
      exact ⟨fun _ => hQ, fun c => absurd btS_end c⟩
/-- the lexicon holds these -/
def vLex (V σ : Rows) : Prop := (∀ t, t < 200 → V 11 t = σ 10 t ∧ V 12 t = σ 11 t) ∧ ∀ f, f < 3 → V 13 f = σ 12 f
theorem vInt.lex (h : vInt V σ n nn nr ns) : vLex V σ := ⟨h.2.2.2.1, h.2.2.2.2.1⟩
theorem x_isMuted (h : CR A D nn V g) (hv : vLex V σ) {t : Nat} (ht : t < 200) {Q : Int32 → Prop} (hQ : Q (bI (!decide (σ 10 t = 0)))) : w_X4_isMuted g (A 10) (nI t) Q := by
  unfold w_X4_isMuted b_X4_isMuted_26 b_X4_isMuted_27
  refine ⟨fun c => absurd c (not_lt0 (by omega)), fun _ => ⟨h.k10, _, h.r10_0, h.k11, ?_⟩⟩
  rw [h.n11]
  refine ⟨fun c => absurd c (nI_ge ht (by decide)), fun _ => ⟨_, h.r10_0, h.k11, by rw [h.n11]; exact vpi ht, ?_⟩⟩
  rw [h.i11, cl_nI (by omega), (hv.1 t ht).1]
  refine ⟨fun c => ?_, fun c => ?_⟩
  · rw [decide_eq_true c] at hQ; exact ⟨Or.inl rfl, hQ⟩
  · rw [decide_eq_false c] at hQ; exact ⟨Or.inr rfl, hQ⟩
theorem x_isMutedNo (h : CR A D nn V g) {Q : Int32 → Prop} (hQ : Q 0) : w_X4_isMuted g (A 10) (-1) Q := by
  unfold w_X4_isMuted b_X4_isMuted_26 b_X4_isMuted_27
  exact ⟨fun _ => ⟨Or.inl rfl, hQ⟩, fun c => absurd (by decide) c⟩
theorem x_aliasOf (h : CR A D nn V g) (hv : vLex V σ) {t : Nat} (ht : t < 200) {Q : Int32 → Prop} (hQ : Q (σ 11 t)) : w_X4_aliasOf g (A 10) (nI t) Q := by
  unfold w_X4_aliasOf b_X4_aliasOf_13 b_X4_aliasOf_23
  refine ⟨fun c => absurd c (not_lt0 (by omega)), fun _ => ⟨h.k10, _, h.r10_1, h.k12, ?_⟩⟩
  rw [h.n12]
  refine ⟨fun _ => ⟨_, h.r10_1, h.k12, by rw [h.n12]; exact vpi ht, ?_⟩, fun c => absurd ((nI_lt_iff (by omega) (by decide)).mpr ht) c⟩
  rw [h.i12, cl_nI (by omega), (hv.1 t ht).2]; exact hQ
theorem x_weightOf (h : CR A D nn V g) (hv : vLex V σ) {f : Nat} (hf : f < 3) {Q : Int32 → Prop} (hQ : Q (σ 12 f)) : w_X4_weightOf g (A 10) (nI f) Q := by
  unfold w_X4_weightOf b_X4_weightOf_13 b_X4_weightOf_23
  refine ⟨fun c => absurd c (not_lt0 (by omega)), fun _ => ⟨h.k10, _, h.r10_2, h.k13, ?_⟩⟩
  rw [h.n13]
  refine ⟨fun _ => ⟨_, h.r10_2, h.k13, by rw [h.n13]; exact vpi hf, ?_⟩, fun c => absurd ((nI_lt_iff (by omega) (by decide)).mpr hf) c⟩
  rw [h.i13, cl_nI (by omega), hv.2 f hf]; exact hQ
theorem x_unmuted (h : CR A D nn V g) (hv : vLex V σ) {t : Nat} (ht : t < 200) {Q : Int32 → Prop} (hQ : Q (if σ 10 t = 0 then nI t else -1)) : w_X4_unmuted g (A 10) (nI t) Q := by
  unfold w_X4_unmuted b_X4_unmuted_13
  refine ⟨h.k10, x_isMuted h hv ht ⟨fun c => ?_, fun c => ?_⟩⟩
  · have : σ 10 t = 0 := by have := bI_0.mp c; simpa using this
    rw [if_pos this] at hQ; exact hQ
  · have : ¬ σ 10 t = 0 := by have := bI_n0 c; simpa using this
    rw [if_neg this] at hQ; exact hQ
theorem x_unmutedNo (h : CR A D nn V g) {Q : Int32 → Prop} (hQ : Q (-1)) : w_X4_unmuted g (A 10) (-1) Q := by
  unfold w_X4_unmuted b_X4_unmuted_13
  exact ⟨h.k10, x_isMutedNo h ⟨fun _ => hQ, fun c => absurd rfl c⟩⟩
/-- who finds whom; with or without aliases -/
theorem x_finds (h : CR A D nn V g) (hv : vLex V σ) {a t : Nat} (ha : a < 200) (ht : t < 200) {b : Bool} (hρ : ρ 10 = σ 10 ∧ ∀ t, t < 200 → ρ 11 t = if b = true then σ 11 t else -1) {Q : Int32 → Prop} (hQ : Q (bI (lkB ρ (nI a) (nI t)))) : w_X4_finds g (A 10) (nI a) (nI t) (bI b) Q := by
  unfold lkB at hQ
  rw [cl_nI (by omega), cl_nI (by omega), hρ.1, hρ.2 a ha] at hQ
  unfold w_X4_finds b_X4_finds_35 b_X4_finds_56 b_X4_finds_60 b_X4_finds_61
  refine ⟨fun c => absurd c (not_lt0 (by omega)), fun _ => ⟨h.k10, _, h.r10_1, h.k12, ?_⟩⟩
  rw [h.n12]
  refine ⟨fun c => absurd c (nI_ge ha (by decide)), fun _ => ⟨fun c => absurd c (not_lt0 (by omega)), fun _ => ⟨_, h.r10_0, h.k11, ?_⟩⟩⟩
  rw [h.n11]
  refine ⟨fun c => absurd c (nI_ge ht (by decide)), fun _ => ⟨_, h.r10_0, h.k11, by rw [h.n11]; exact vpi ht, ?_⟩⟩
  rw [h.i11, cl_nI (by omega), (hv.1 t ht).1]
  refine ⟨fun c => ⟨fun c2 => ⟨Or.inr rfl, ?_⟩, fun c2 => ⟨fun c3 => ⟨Or.inl rfl, ?_⟩, fun c3 => ⟨_, h.r10_1, h.k12, by rw [h.n12]; exact vpi ha, ?_⟩⟩⟩, fun c => ?_⟩
  · rw [decide_eq_true ⟨c, Or.inl c2.symm⟩] at hQ; exact hQ
  · rw [bI_0.mp c3, if_neg (by decide), decide_eq_false (fun q => q.2.elim (fun q => c2 q.symm) (fun q => nI_nm1 (show t < 2 ^ 31 by omega) q.symm))] at hQ; exact hQ
  · rw [h.i12, cl_nI (by omega), (hv.1 a ha).2]
    rw [bI_n0 c3, if_pos rfl] at hQ
    refine ⟨fun c4 => ⟨Or.inr rfl, ?_⟩, fun c4 => ⟨Or.inl rfl, ?_⟩⟩
    · rw [decide_eq_true ⟨c, Or.inr c4.symm⟩] at hQ; exact hQ
    · rw [decide_eq_false (fun q => q.2.elim (fun q => c2 q.symm) (fun q => c4 q.symm))] at hQ; exact hQ
  · rw [decide_eq_false (fun q => c q.1)] at hQ; exact hQ
theorem bit1 (x : Int32) {k : Nat} (hk : k < 31) : ((x >>> (nI k &&& 31)) &&& 1) = 1 ↔ ¬ ((x >>> (nI k &&& 31)) &&& 1) = 0 := by
  constructor
  · intro e q; rw [q] at e; exact absurd e (by decide)
  · intro q
    have hb : bt x k = true := by
      cases e : bt x k
      · exact absurd ((bit_shr x hk).mpr e) q
      · rfl
    generalize x >>> (nI k &&& 31) = v at q
    rw [← Int32.toBitVec_inj] at q ⊢
    show v.toBitVec &&& 1#32 = 1#32
    have q' : ¬ v.toBitVec &&& 1#32 = 0#32 := q
    apply BitVec.eq_of_getLsbD_eq
    intro i hi
    rw [BitVec.getLsbD_and]
    by_cases e : i = 0
    · subst e
      cases e2 : v.toBitVec.getLsbD 0
      · exfalso; apply q'
        apply BitVec.eq_of_getLsbD_eq
        intro i hi
        rw [BitVec.getLsbD_and]
        by_cases e3 : i = 0
        · subst e3; rw [e2]; simp
        · simp [BitVec.getLsbD_one, e3]
      · simp
    · simp [BitVec.getLsbD_one, e]
theorem x_isFor (h : CR A D nn V g) {j f : Nat} (hj : j < nn) (hf : f < 3) {b : Int32} (eb : V (jl j) 2 = b) {Q : Int32 → Prop} (hQ : Q (bI (!decide (fbit b (nI f) = 0)))) : w_X5_isFor g (A (jl j)) (nI f) Q := by
  unfold w_X5_isFor b_X5_isFor_17
  refine ⟨h.jk hj, ?_⟩
  rw [h.ji hj, eb]
  unfold fbit at hQ
  rw [bit1 b (show f < 31 by omega)]
  refine ⟨fun c => ⟨Or.inr rfl, ?_⟩, fun c => ⟨Or.inl rfl, ?_⟩⟩
  · rw [decide_eq_false c] at hQ; exact hQ
  · rw [decide_eq_true (Classical.not_not.mp c)] at hQ; exact hQ
end CCEN
