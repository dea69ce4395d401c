/-! THE CLASS: nodes, near -/
/-- weights are small numbers -/
def WG (σ : Rows) : Prop := ∀ f, f < 3 → ∃ w, w ≤ 9 ∧ σ 12 f = nI w
theorem bt_nat : ∀ k, k < 15 → btS k = nI (2 ^ (14 - k)) := by decide +kernel
theorem root_ok (x : Int32) : ∃ r, r ≤ 32767 ∧ rootF x = nI r := by
  have key : ∀ k, k ≤ 15 → ∃ r, r + 2 ^ (15 - k) ≤ 32768 ∧ rtS x k = nI r := by
    intro k
    induction k with
    | zero => exact fun _ => ⟨0, by decide, rfl⟩
    | succ k ih =>
      intro hk
      obtain ⟨r, hr, e⟩ := ih (by omega)
      have hp : 2 ^ (15 - k) = 2 ^ (15 - (k + 1)) + 2 ^ (15 - (k + 1)) := by
        rw [show 15 - k = (15 - (k + 1)) + 1 by omega, Nat.pow_succ]; omega
      rw [hp] at hr
      rw [rtS]
      split
      · exact ⟨r, Nat.le_trans (Nat.add_le_add_left (Nat.le_add_left _ _) r) hr, e⟩
      · refine ⟨r + 2 ^ (14 - k), ?_, ?_⟩
        · rw [show 14 - k = 15 - (k + 1) by omega, Nat.add_assoc]; exact hr
        · rw [e, bt_nat k (by omega), nI_add]
  obtain ⟨r, hr, e⟩ := key 15 (Nat.le_refl _)
  exact ⟨r, by omega, e⟩
section COK
variable {ρ : Rows} {n bf nn nr ns : Nat}
theorem taste_ok (hG : GI ρ n bf nn nr ns) (hW : WG ρ) {d f t : Nat} (hd : d < n) (h6 : ρ 6 d ≠ 0) (hf : f < 3) (ht : t < 200) : ∃ m, m ≤ 6000000 ∧ tasteF ρ n d f t = nI m := by
  have hn := hG.n
  unfold tasteF
  by_cases c : ctF ρ d f (nI t) = 0
  · rw [if_pos c]; exact ⟨0, by decide, rfl⟩
  · rw [if_neg c, ctF_eq ht]
    have hpos : 0 < ctN ρ d f t := by
      rcases Nat.eq_zero_or_pos (ctN ρ d f t) with e | e
      · rw [ctF_eq ht, e] at c; exact absurd rfl c
      · exact e
    have hln := (hG.ln (show d < 60 by omega) hf)
    have hct := ctN_le (σ := ρ) (d := d) (f := f) (t := t)
    have hge := leN_ge (σ := ρ) (f := f) hd h6
    have hle2 := leN_le hG hf
    have hly := lyN_le (σ := ρ) (n := n)
    obtain ⟨r, hr, er⟩ := root_ok (10000 * (lyF ρ n + 1) / (spF ρ t f n + 1))
    obtain ⟨w, hw, ew⟩ := hW f hf
    have e9 : 9 * lnF ρ d f * lyN ρ n < 2 ^ 31 := Nat.lt_of_le_of_lt (Nat.mul_le_mul (show 9 * lnF ρ d f ≤ 108 by omega) (show lyN ρ n ≤ 60 by omega)) (by decide)
    have hden : 10 * nI (ctN ρ d f t) + 3 + 9 * ρ 7 (d * 3 + f) * lyF ρ n / leF ρ f n = nI (10 * ctN ρ d f t + 3 + 9 * lnF ρ d f * lyN ρ n / leN ρ f n) := by
      rw [hln.2, lyF_eq, leF_eq hG hf, show (9 : Int32) = nI 9 from rfl, show (10 : Int32) = nI 10 from rfl, show (3 : Int32) = nI 3 from rfl, nI_mul, nI_mul, nI_mul, nI_add, nI_div e9 (by omega) (by omega), nI_add]
    have hx9 : 9 * lnF ρ d f * lyN ρ n / leN ρ f n ≤ 108 * 60 := Nat.le_trans (Nat.div_le_self _ _) (Nat.mul_le_mul (by omega) (by omega))
    unfold rareF
    rw [er, hden, ew]
    generalize 9 * lnF ρ d f * lyN ρ n / leN ρ f n = z at hx9 ⊢
    have h1 : r * ctN ρ d f t * 20 ≤ 32767 * 12 * 20 := Nat.mul_le_mul (Nat.mul_le_mul hr (by omega)) (Nat.le_refl 20)
    rw [nI_mul, show (20 : Int32) = nI 20 from rfl, nI_mul, nI_div (by omega) (by omega) (by omega), nI_mul]
    refine ⟨_, ?_, rfl⟩
    have h2 : r * ctN ρ d f t * 20 / (10 * ctN ρ d f t + 3 + z) ≤ 32767 * 12 * 20 / 13 := Nat.le_trans (Nat.div_le_div_right h1) (Nat.div_le_div_left (by omega) (by decide))
    exact Nat.le_trans (Nat.mul_le_mul h2 hw) (by decide)
theorem sum_ok (hG : GI ρ n bf nn nr ns) (hW : WG ρ) {d a : Nat} {b : Int32} (hd : d < n) (h6 : ρ 6 d ≠ 0) (ha : a < 200) : ∀ k, k ≤ 3 → ∃ m, m ≤ 12000000 * k ∧ tsSum ρ n d a b k = nI m
  | 0, _ => ⟨0, by omega, rfl⟩
  | k + 1, hk => by
    obtain ⟨m, hm, e⟩ := sum_ok hG hW (b := b) hd h6 ha k (by omega)
    unfold tsSum at e ⊢
    rw [isum, e]
    by_cases c : fbit b (nI k) = 0
    · rw [if_pos c]; exact ⟨m, by omega, Int32.add_zero _⟩
    · rw [if_neg c]
      obtain ⟨m1, hm1, e1⟩ := taste_ok hG hW (t := a) hd h6 (show k < 3 by omega) ha
      have : ∃ m2, m2 ≤ 6000000 ∧ alT ρ n d k a = nI m2 := by
        unfold alT
        split
        · exact ⟨0, by decide, rfl⟩
        · rename_i c2
          rcases hG.al ha with e2 | ⟨b2, hb2, e2⟩
          · exact absurd e2 c2
          · rw [e2, cl_nI (show b2 < 2 ^ 31 by omega)]; exact taste_ok hG hW hd h6 (by omega) hb2
      obtain ⟨m2, hm2, e2⟩ := this
      rw [e1, e2, nI_add, nI_add]
      exact ⟨m + (m1 + m2), by omega, rfl⟩
/-- scores: none, or a number up to a million -/
def okS (x : Int32) : Prop := x = -1 ∨ ∃ m, m ≤ 1000000 ∧ x = nI m
theorem least_nI {m : Nat} (h : m < 2 ^ 31) : leastF (nI m) = nI (min m 1000000) := by
  unfold leastF
  by_cases c : m < 1000000
  · rw [if_pos (show nI m < (1000000 : Int32) from (nI_lt_iff h (by decide)).mpr c), Nat.min_eq_left (by omega)]
  · rw [if_neg (show ¬ nI m < (1000000 : Int32) from fun q => c ((nI_lt_iff h (by decide)).mp q)), Nat.min_eq_right (by omega)]; rfl
theorem okS_least {m : Nat} (h : m < 2 ^ 31) : okS (leastF (nI m)) := Or.inr ⟨_, Nat.min_le_right _ _, least_nI h⟩
theorem least_m1 : leastF (-1) = -1 := by decide
theorem okS_lt {x : Int32} (h : okS x) : x < 0 ↔ x = -1 := by
  rcases h with e | ⟨m, hm, e⟩
  · subst e; exact ⟨fun _ => rfl, fun _ => by decide⟩
  · subst e; exact ⟨fun q => absurd q (not_lt0 (by omega)), fun q => absurd q (nI_nm1 (by omega))⟩
theorem term_ok (hG : GI ρ n bf nn nr ns) (hW : WG ρ) {d a : Nat} {b : Int32} (hd : d < n) (h6 : ρ 6 d ≠ 0) (ha : a < 200) : okS (termF ρ n d a b) ∧ (termF ρ n d a b = -1 ↔ tsIs ρ d (nI a) b = false) ∧ leastF (tvF ρ n d a b) = termF ρ n d a b := by
  unfold termF tvF
  obtain ⟨m, hm, e⟩ := sum_ok hG hW (b := b) hd h6 ha 3 (Nat.le_refl 3)
  by_cases c : tsIs ρ d (nI a) b = false
  · rw [if_pos c, if_pos c]; exact ⟨Or.inl rfl, ⟨fun _ => c, fun _ => rfl⟩, least_m1⟩
  · rw [if_neg c, if_neg c, e]
    refine ⟨okS_least (by omega), ⟨fun q => ?_, fun q => absurd q c⟩, rfl⟩
    rw [least_nI (by omega)] at q
    exact absurd q (nI_nm1 (by omega))
end COK
/-- near as the class asks it -/
def apF (x c o : Int32) : Bool := if x = 0 then false else if c < x then false else if o = 0 then !decide (x < -c) else !decide (x < 1)
theorem ap_near0 : ∀ p, p < 12 → ∀ q, q < 12 → ∀ c, c < 11 → apF (nI q - nI p) (nI c) 0 = nearB (nI c) 0 p q := by decide +kernel
theorem ap_near1 : ∀ p, p < 12 → ∀ q, q < 12 → ∀ c, c < 11 → apF (nI q - nI p) (nI c) 1 = nearB (nI c) 1 p q := by decide +kernel
section CNODE
variable {A : Nat → Nat} {D : Nat} {V σ ρ : Rows} {n bf nn nr ns cb sb : Nat} {ub : Bool} {g : gS}
theorem x_apart (h : CR A D nn V g) {j p q c : Nat} (hj : j < nn) (hp : p < 12) (hq : q < 12) (hc : c < 11) {o : Int32} (ho : o = 0 ∨ o = 1) (e5 : V (jl j) 5 = nI c) (e6 : V (jl j) 6 = o) {Q : Int32 → Prop} (hQ : Q (bI (nearB (nI c) o p q))) : w_X5_isApartAsAsked g (A (jl j)) (nI q - nI p) Q := by
  have e : apF (nI q - nI p) (nI c) o = nearB (nI c) o p q := by
    rcases ho with e | e
    · rw [e]; exact ap_near0 p hp q hq c hc
    · rw [e]; exact ap_near1 p hp q hq c hc
  rw [← e] at hQ
  unfold apF at hQ
  unfold w_X5_isApartAsAsked b_X5_isApartAsAsked_29 b_X5_isApartAsAsked_36 b_X5_isApartAsAsked_37
  refine ⟨fun c1 => ⟨Or.inl rfl, ?_⟩, fun c1 => ⟨h.jk hj, ?_⟩⟩
  · rw [if_pos c1] at hQ; exact hQ
  · rw [if_neg c1] at hQ
    rw [h.ji hj, e5, e6]
    refine ⟨fun c2 => ⟨Or.inl rfl, ?_⟩, fun c2 => ?_⟩
    · rw [if_pos c2] at hQ; exact hQ
    · rw [if_neg c2] at hQ
      refine ⟨fun c3 => ?_, fun c3 => ?_⟩
      · rw [if_pos c3] at hQ
        refine ⟨fun c4 => ⟨Or.inl rfl, ?_⟩, fun c4 => ⟨Or.inr rfl, ?_⟩⟩
        · rw [decide_eq_true c4] at hQ; exact hQ
        · rw [decide_eq_false c4] at hQ; exact hQ
      · rw [if_neg c3] at hQ
        refine ⟨fun c4 => ⟨Or.inl rfl, ?_⟩, fun c4 => ⟨Or.inr rfl, ?_⟩⟩
        · rw [decide_eq_true c4] at hQ; exact hQ
        · rw [decide_eq_false c4] at hQ; exact hQ
theorem x_nodeAt (h : CR A D nn V g) (e2 : V 14 2 = nI nn) (hf : ∀ j, j < nn → gR g (A 15) j = some (A (jl j))) {j : Nat} (hj : j < nn) {Q : Option Nat → Prop} (hQ : Q (some (A (jl j)))) : w_X6_nodeAt g (A 14) (nI j) Q := by
  have := h.nn3
  unfold w_X6_nodeAt b_X6_nodeAt_21 b_X6_nodeAt_31
  refine ⟨fun c => absurd c (not_lt0 (by omega)), fun _ => ⟨h.k14, ?_⟩⟩
  rw [h.i14, e2]
  refine ⟨fun c => absurd c (nI_ge hj (by omega)), fun _ => ⟨_, h.r14_1, h.k15, ?_⟩⟩
  rw [h.n15]
  refine ⟨fun _ => ⟨_, h.r14_1, h.k15, by rw [h.n15]; exact vpi (by omega), fun o ho => ?_⟩, fun c => absurd ((nI_lt_iff (by omega) (by decide)).mpr (show j < 30 by omega)) c⟩
  subst ho
  rw [cl_nI (by omega), hf j hj]; exact hQ
theorem x_nodeNo (h : CR A D nn V g) (e2 : V 14 2 = nI nn) {x : Int32} (hx : ¬ inR x 0 (nI nn - 1)) {Q : Option Nat → Prop} (hQ : Q none) : w_X6_nodeAt g (A 14) x Q := by
  have := h.nn3
  unfold w_X6_nodeAt b_X6_nodeAt_21 b_X6_nodeAt_31
  refine ⟨fun _ => hQ, fun c => ⟨h.k14, ?_⟩⟩
  rw [h.i14, e2]
  refine ⟨fun _ => hQ, fun c2 => ?_⟩
  obtain ⟨k, hk, rfl⟩ := nI_of c
  have hkn : k < nn := by
    rcases Nat.lt_or_ge k nn with q | q
    · exact q
    · exact absurd (nI_le q hk) c2
  exact absurd (nI_inR (by omega) hkn) hx
theorem x_valueAt (h : CR A D nn V g) (hs : isS sb cb ub) {i : Nat} (hi : i < 30) {Q : Int32 → Prop} (hQ : Q (V (sb + 1) i)) : w_X8_valueAt g (A sb) (nI i) Q := by
  obtain ⟨s1, s2, s3, s4, s5, s6, s7, s8, s9⟩ := h.s0 hs
  unfold w_X8_valueAt b_X8_valueAt_13 b_X8_valueAt_23
  refine ⟨fun c => absurd c (not_lt0 (by omega)), fun _ => ⟨s1, _, s6, s7, ?_⟩⟩
  rw [s8]
  refine ⟨fun _ => ⟨_, s6, s7, by rw [s8]; exact vpi hi, ?_⟩, fun c => absurd ((nI_lt_iff (by omega) (by decide)).mpr hi) c⟩
  rw [s9, cl_nI (by omega)]; exact hQ
/-- parts of a node, summed -/
theorem x_sumAL (h : CR A D nn V g) (hs : isS sb cb ub) {j P : Nat} (hj : j < nn) {pp : Nat → Nat} (hP : P ≤ 30) (hpp : ∀ i, i < P → pp i < 30) (h1 : ∀ Q : Int32 → Prop, Q (nI P) → w_X5_partCount g (A (jl j)) Q) (h2 : ∀ i, i < P → ∀ Q : Int32 → Prop, Q (nI (pp i)) → w_X5_partAt g (A (jl j)) (nI i) Q) {least : Int32} {Q : Int32 → Prop} (hQ : Q (if nI (cnt (fun i => !decide (V (sb + 1) (pp i) = -1)) P) < least then -1 else isum (fun i => if V (sb + 1) (pp i) = -1 then 0 else V (sb + 1) (pp i)) P)) : w_X8_sumOfAtLeast g (A sb) (A (jl j)) least Q := by
  obtain ⟨s1, _⟩ := h.s0 hs
  unfold w_X8_sumOfAtLeast
  refine lpx3_s P (fun k => nI (cnt (fun i => !decide (V (sb + 1) (pp i) = -1)) k)) (fun k => isum (fun i => if V (sb + 1) (pp i) = -1 then 0 else V (sb + 1) (pp i)) k) (fun k => nI k) rfl rfl rfl (fun k hk K hK => ?_) (fun K => ?_)
  · unfold l_X8_sumOfAtLeast_8 b_X8_sumOfAtLeast_45
    refine ⟨h.jk hj, h1 _ ⟨fun c => absurd c (nI_ge hk (by omega)), fun _ => h2 k hk _ ⟨s1, x_valueAt h hs (hpp k hk) ?_⟩⟩⟩
    rw [cnt_s, isum] at hK
    refine ⟨fun c => ?_, fun c => ?_⟩
    · rw [decide_eq_true c, if_pos c] at hK
      rw [nI_1]; simpa [Int32.add_zero] using hK
    · rw [decide_eq_false c, if_neg c] at hK
      rw [nI_1, nI_1]; simpa using hK
  · unfold l_X8_sumOfAtLeast_8 b_X8_sumOfAtLeast_62
    refine ⟨h.jk hj, h1 _ ⟨fun _ => ⟨fun c => ?_, fun c => ?_⟩, fun c => absurd (nI_le (Nat.le_refl _) (by omega)) c⟩⟩
    · rw [if_pos c] at hQ; exact hQ
    · rw [if_neg c] at hQ; exact hQ
theorem x_isNearIn (h : CR A D nn V g) (hs : isS sb cb ub) (hub : V sb 3 = bI ub) (hG : GI σ n bf nn nr ns) (hρ : rhoF σ ρ ub) (hl : vLex V σ) {d f j c a b : Nat} (hd : d < D) (hd6 : d < 60) (hf : f < 3) (hv : vRow V σ d f) (hj : j < nn) (hc : c < 11) {o : Int32} (ho : o = 0 ∨ o = 1) (e5 : V (jl j) 5 = nI c) (e6 : V (jl j) 6 = o) (ha : a < 200) (hb : b < 200) {Q : Int32 → Prop} (hQ : Q (bI (nearIn ρ d f (nI a) (nI b) (nI c) o))) : w_X8_isNearIn g (A sb) (A (dl d (2 + f))) (A (jl j)) (nI a) (nI b) Q := by
  obtain ⟨s1, s2, s3, s4, s5, s6, s7, s8, s9⟩ := h.s0 hs
  obtain ⟨hl1, hl2⟩ := hG.ln hd6 hf
  obtain ⟨v3, vp, _⟩ := hv
  have elen : lnF ρ d f = lnF σ d f := by unfold lnF; rw [hρ.1 7 (by decide) (by decide)]
  have etm : tmF ρ d f = tmF σ d f := by unfold tmF; rw [hρ.1 8 (by decide) (by decide)]
  have hρ2 : ρ 10 = σ 10 ∧ ∀ t, t < 200 → ρ 11 t = if ub = true then σ 11 t else -1 := ⟨hρ.1 10 (by decide) (by decide), hρ.2⟩
  have e3 : V (dl d (2 + f)) 3 = nI (lnF σ d f) := by rw [v3]; exact hl2
  unfold nearIn at hQ
  rw [elen, etm] at hQ
  unfold w_X8_isNearIn
  refine lpx1_i (lnF σ d f) (fun p x => x = nI p ∧ orB (fun p => orB (fun q => nearB (nI c) o p q && (lkB ρ (nI a) (tmF σ d f p) && lkB ρ (nI b) (tmF σ d f q))) (lnF σ d f)) p = false) ?_ ?_ 0 ⟨rfl, rfl⟩
  · rintro p _ hp ⟨rfl, hno⟩ K hK
    unfold l_X8_isNearIn_3 b_X8_isNearIn_90
    obtain ⟨u, hu, eu⟩ := hG.tm hd6 hf hp
    refine ⟨h.tk hd hf, ?_⟩
    rw [h.ti hd hf, e3]
    refine ⟨fun c => absurd c (nI_ge hp (by omega)), fun _ => ⟨s1, _, s4, x_termOn h hd hf hl1 e3 (vp p hp) hp ⟨h.k10, ?_⟩⟩⟩
    rw [eu, s2, hub]
    refine x_finds h hl ha hu hρ2 ⟨fun c1 => ?_, fun c1 => ?_⟩
    · rw [nI_1]
      refine hK _ ⟨rfl, ?_⟩
      rw [orB, hno, Bool.false_or]
      cases e : orB (fun q => nearB (nI c) o p q && (lkB ρ (nI a) (tmF σ d f p) && lkB ρ (nI b) (tmF σ d f q))) (lnF σ d f)
      · rfl
      · obtain ⟨q, hq, eq⟩ := orB_iff.mp e
        rw [eu, bI_0.mp c1] at eq; simp at eq
    · refine lpx1_i (lnF σ d f) (fun q x => x = nI q ∧ orB (fun q => nearB (nI c) o p q && (lkB ρ (nI a) (tmF σ d f p) && lkB ρ (nI b) (tmF σ d f q))) q = false) ?_ ?_ 0 ⟨rfl, rfl⟩
      · rintro q _ hq ⟨rfl, hno2⟩ K2 hK2
        unfold l_X8_isNearIn_39 b_X8_isNearIn_84
        obtain ⟨w, hw, ew⟩ := hG.tm hd6 hf hq
        refine ⟨h.tk hd hf, ?_⟩
        rw [h.ti hd hf, e3]
        have no : (nearB (nI c) o p q && (lkB ρ (nI a) (tmF σ d f p) && lkB ρ (nI b) (tmF σ d f q))) = false → K2 (nI q + 1) := by
          intro e
          rw [nI_1]
          refine hK2 _ ⟨rfl, ?_⟩
          rw [orB, hno2, e]; rfl
        refine ⟨fun c => absurd c (nI_ge hq (by omega)), fun _ => ⟨h.jk hj, x_apart h hj (by omega) (by omega) hc ho e5 e6 ⟨fun c2 => no ?_, fun c2 => ⟨s1, _, s4, x_termOn h hd hf hl1 e3 (vp q hq) hq ⟨h.k10, ?_⟩⟩⟩⟩⟩
        · rw [bI_0.mp c2, Bool.false_and]
        · rw [ew, s2, hub]
          refine x_finds h hl hb hw hρ2 ⟨fun c3 => no ?_, fun c3 => ?_⟩
          · rw [ew, bI_0.mp c3, Bool.and_false, Bool.and_false]
          · have : orB (fun p => orB (fun q => nearB (nI c) o p q && (lkB ρ (nI a) (tmF σ d f p) && lkB ρ (nI b) (tmF σ d f q))) (lnF σ d f)) (lnF σ d f) = true := by
              refine orB_iff.mpr ⟨p, hp, orB_iff.mpr ⟨q, hq, ?_⟩⟩
              rw [bI_n0 c2, eu, ew, bI_n0 c1, bI_n0 c3]; rfl
            rw [this] at hQ; exact hQ
      · rintro _ ⟨rfl, hno2⟩ K2
        unfold l_X8_isNearIn_39 b_X8_isNearIn_90
        refine ⟨h.tk hd hf, ?_⟩
        rw [h.ti hd hf, e3]
        refine ⟨fun _ => ?_, fun c => absurd (nI_le (Nat.le_refl _) (by omega)) c⟩
        rw [nI_1]
        exact hK _ ⟨rfl, by rw [orB, hno, hno2]; rfl⟩
  · rintro _ ⟨rfl, hno⟩ K
    unfold l_X8_isNearIn_3
    refine ⟨h.tk hd hf, ?_⟩
    rw [h.ti hd hf, e3]
    rw [hno] at hQ
    exact ⟨fun _ => hQ, fun c => absurd (nI_le (Nat.le_refl _) (by omega)) c⟩
end CNODE
