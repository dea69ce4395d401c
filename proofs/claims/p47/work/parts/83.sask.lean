/-! THE ENGINE'S CALLS THAT MAKE A NODE, as the law makes them -/
section SASK
variable {σ σ' : Rows} {n bf nn nr ns a : Nat} {g g' : gS}
/-- what one more node changes of the rows -/
def QryR (nn : Nat) (s : Int32) (σ σ' : Rows) : Prop := (∀ t, t ≠ 0 → t ≠ 17 → t ≠ 18 → t ≠ 19 → t ≠ 20 → t ≠ 21 → σ' t = σ t) ∧ (∀ i, i ≠ 0 → i ≠ 16 → σ' 0 i = σ 0 i) ∧ (∀ j, j ≠ nn → σ' 17 j = σ 17 j) ∧ σ' 17 nn = s ∧ σ' 0 16 = nI (nn + 1)
theorem addF_q (h : GI σ n bf nn nr ns) {s x y z : Int32} : QryR nn s σ (addF σ s x y z) := by
  unfold addF
  rw [h.nnF]
  refine ⟨fun t h0 h17 h18 h19 h20 h21 => ?_, fun i h0 h16 => ?_, fun j hj => ?_, ?_, ?_⟩
  · rw [su_row h0, su_row h20, su_row h19, su_row h18, su_row h17, tz_r h0]
  · rw [su_at, if_neg h16, su_row (by decide), su_row (by decide), su_row (by decide), su_row (by decide), tz_0 h0]
  · rw [su_row (by decide), su_row (by decide), su_row (by decide), su_row (by decide), su_at, if_neg hj, tz_r (by decide)]
  · rw [su_row (by decide), su_row (by decide), su_row (by decide), su_row (by decide), su_at, if_pos rfl]
  · rw [su_at, if_pos rfl, h.d16, nI_1]
theorem addF_n (h : GI σ n bf nn nr ns) {s x y z o : Int32} : QryR nn s σ (addF (su σ 21 nn o) s x y z) := by
  have e0 : su σ 21 nn o 0 = σ 0 := su_row (by decide)
  have en : nnF (su σ 21 nn o) = nn := by
    have := h.nn3
    unfold nnF
    rw [e0, h.d16]
    exact cl_nI (by omega)
  unfold addF
  rw [en]
  refine ⟨fun t h0 h17 h18 h19 h20 h21 => ?_, fun i h0 h16 => ?_, fun j hj => ?_, ?_, ?_⟩
  · rw [su_row h0, su_row h20, su_row h19, su_row h18, su_row h17, tz_r h0, su_row h21]
  · rw [su_at, if_neg h16, su_row (by decide), su_row (by decide), su_row (by decide), su_row (by decide), tz_0 h0, e0]
  · rw [su_row (by decide), su_row (by decide), su_row (by decide), su_row (by decide), su_at, if_neg hj, tz_r (by decide), su_row (by decide)]
  · rw [su_row (by decide), su_row (by decide), su_row (by decide), su_row (by decide), su_at, if_pos rfl]
  · rw [su_at, if_pos rfl, e0, h.d16, nI_1]
theorem EE.add (h : EE a σ n bf nn nr ns g) (hnn : nn < 30) {s : Int32} (hR : QryR nn s σ σ') {o : Nat} (hc : CS a o σ' g') : EE a σ' n bf (nn + 1) nr ns g' := by
  have hG := h.gi
  obtain ⟨-, h0, -, -, h16⟩ := hR
  exact EE.num hc ((h0 1 (by decide) (by decide)).trans hG.d1) ((h0 9 (by decide) (by decide)).trans hG.d9) h16 ((h0 22 (by decide) (by decide)).trans hG.d22) ((h0 13 (by decide) (by decide)).trans hG.d13) hG.n (by have := hG.1.2.1; have := hG.n; omega) (by omega) hG.nr6 hG.ns6
theorem full_no (h : GI σ n bf nn nr ns) (hnn : nn < 30) : ¬ σ 0 16 = 30 := fun q => by
  have := (nI_inj (show nn < 2 ^ 31 by omega) (show 30 < 2 ^ 31 by decide)).mp (h.d16.symm.trans q)
  omega
theorem addO_ok (h : GI σ n bf nn nr ns) (hnn : nn < 30) {full s x y z : Int32} : addO σ full s x y z = (0, nI nn, addF σ s x y z) := by
  unfold addO
  rw [if_neg (full_no h hnn), h.d16]
theorem q_term (h : EE a σ n bf nn nr ns g) (hnn : nn < 30) {t f : Nat} (ht : t < 200) (hf1 : 1 ≤ f) (hf7 : f ≤ 7) {Q : Int32 → gS → Prop} (hQ : ∀ g' σ', QryR nn 0 σ σ' → EE a σ' n bf (nn + 1) nr ns g' → Q (nI nn) g') : w_X10_term g a (nI t) (nI f) Q (fun _ _ => False) := by
  obtain ⟨A, D, V, rfl, hx⟩ := id h
  have e : S_term σ (nI t) (nI f) = (0, nI nn, addF σ 0 (nI t) (nI f) 0) := by
    unfold S_term
    rw [if_neg (fun q => q.elim (fun q => q (nI_rng (lo := 0) (hi := 199) (by decide) (by omega) (by omega))) (fun q => q (nI_rng (lo := 1) (hi := 7) (by decide) hf1 hf7))), addO_ok h.gi hnn]
  refine p_term hx (fun _ g' hg => ?_) (fun q => by rw [e] at q; exact z01 q) (fun q => by rw [e] at q; exact z02 q)
  rw [e] at hg ⊢
  exact hQ g' _ (addF_q h.gi) (h.add hnn (addF_q h.gi) hg)
theorem q_pair (h : EE a σ n bf nn nr ns g) (hnn : nn < 30) {s : Int32} (hs : s = 1 ∨ s = 2 ∨ s = 3) {x y : Nat} (hx1 : x < nn) (hy1 : y < nn) {Q : Int32 → gS → Prop} (hQ : ∀ g' σ', QryR nn s σ σ' → EE a σ' n bf (nn + 1) nr ns g' → Q (nI nn) g') : w_X10_appendPair g a s (nI x) (nI y) Q (fun _ _ => False) := by
  obtain ⟨A, D, V, rfl, hx⟩ := id h
  have e : S_pair σ s (nI x) (nI y) = (0, nI nn, addF σ s (nI x) (nI y) 0) := by
    unfold S_pair
    rw [if_neg (fun q => q.elim (fun q => q (h.gi.iNn hx1)) (fun q => q (h.gi.iNn hy1))), addO_ok h.gi hnn]
  refine p_pair hx hs (fun _ g' hg => ?_) (fun q => by rw [e] at q; exact z01 q) (fun q => by rw [e] at q; exact z02 q)
  rw [e] at hg ⊢
  exact hQ g' _ (addF_q h.gi) (h.add hnn (addF_q h.gi) hg)
theorem q_dated (h : EE a σ n bf nn nr ns g) (hnn : nn < 30) {x y : Nat} (hx1 : x < 10000) (hy1 : y < 10000) {Q : Int32 → gS → Prop} (hQ : ∀ g' σ', QryR nn 5 σ σ' → EE a σ' n bf (nn + 1) nr ns g' → Q (nI nn) g') : w_X10_dated g a (nI x) (nI y) Q (fun _ _ => False) := by
  obtain ⟨A, D, V, rfl, hx⟩ := id h
  have e : S_dated σ (nI x) (nI y) = (0, nI nn, addF σ 5 (nI x) (nI y) 0) := by
    unfold S_dated
    rw [if_neg (fun q => q.elim (fun q => q (nI_rng (lo := 0) (hi := 9999) (by decide) (by omega) (by omega))) (fun q => q (nI_rng (lo := 0) (hi := 9999) (by decide) (by omega) (by omega)))), addO_ok h.gi hnn]
  refine p_dated hx (fun _ g' hg => ?_) (fun q => by rw [e] at q; exact z01 q) (fun q => by rw [e] at q; exact z02 q)
  rw [e] at hg ⊢
  exact hQ g' _ (addF_q h.gi) (h.add hnn (addF_q h.gi) hg)
theorem q_kind (h : EE a σ n bf nn nr ns g) (hnn : nn < 30) {x : Nat} (hx1 : 1 ≤ x) (hx2 : x ≤ 255) {Q : Int32 → gS → Prop} (hQ : ∀ g' σ', QryR nn 6 σ σ' → EE a σ' n bf (nn + 1) nr ns g' → Q (nI nn) g') : w_X10_kind g a (nI x) Q (fun _ _ => False) := by
  obtain ⟨A, D, V, rfl, hx⟩ := id h
  have e : S_kind σ (nI x) = (0, nI nn, addF σ 6 (nI x) 0 0) := by
    unfold S_kind
    rw [if_neg (fun q => q (nI_rng (lo := 1) (hi := 255) (by decide) hx1 hx2)), addO_ok h.gi hnn]
  refine p_kind hx (fun _ g' hg => ?_) (fun q => by rw [e] at q; exact z01 q) (fun q => by rw [e] at q; exact z02 q)
  rw [e] at hg ⊢
  exact hQ g' _ (addF_q h.gi) (h.add hnn (addF_q h.gi) hg)
theorem q_scaled (h : EE a σ n bf nn nr ns g) (hnn : nn < 30) {x y : Nat} (hx1 : x < nn) (hy1 : y ≤ 500) {Q : Int32 → gS → Prop} (hQ : ∀ g' σ', QryR nn 7 σ σ' → EE a σ' n bf (nn + 1) nr ns g' → Q (nI nn) g') : w_X10_scaled g a (nI x) (nI y) Q (fun _ _ => False) := by
  obtain ⟨A, D, V, rfl, hx⟩ := id h
  have e : S_scaled σ (nI x) (nI y) = (0, nI nn, addF σ 7 (nI x) (nI y) 0) := by
    unfold S_scaled
    rw [if_neg (fun q => q (h.gi.iNn hx1)), if_neg (fun q => q (nI_rng (lo := 0) (hi := 500) (by decide) (by omega) hy1)), addO_ok h.gi hnn]
  refine p_scaled hx (fun _ g' hg => ?_) (fun q => by rw [e] at q; exact z01 q) (fun q => by rw [e] at q; exact z02 q) (fun q => by rw [e] at q; exact z03 q)
  rw [e] at hg ⊢
  exact hQ g' _ (addF_q h.gi) (h.add hnn (addF_q h.gi) hg)
theorem q_most (h : EE a σ n bf nn nr ns g) (hnn : nn < 30) {x y z : Nat} (hx1 : x + y ≤ nn) (hy1 : 2 ≤ y) (hy2 : y ≤ 4) (hz1 : 1 ≤ z) (hz2 : z ≤ y) {Q : Int32 → gS → Prop} (hQ : ∀ g' σ', QryR nn 8 σ σ' → EE a σ' n bf (nn + 1) nr ns g' → Q (nI nn) g') : w_X10_most g a (nI x) (nI y) (nI z) Q (fun _ _ => False) := by
  obtain ⟨A, D, V, rfl, hx⟩ := id h
  have nl : ¬ σ 0 16 - nI x < nI y := fun q => by
    rw [h.gi.d16, nI_sb (by omega)] at q
    have := (nI_lt_iff (show nn - x < 2 ^ 31 by omega) (show y < 2 ^ 31 by omega)).mp q
    omega
  have e : S_most σ (nI x) (nI y) (nI z) = (0, nI nn, addF σ 8 (nI x) (nI y) (nI z)) := by
    unfold S_most
    rw [if_neg (fun q => q.elim (fun q => q (h.gi.iNn (show x < nn by omega))) nl), if_neg (fun q => q.elim (fun q => q (nI_rng (lo := 2) (hi := 4) (by decide) hy1 hy2)) (fun q => q (nI_rng (lo := 1) (hi := y) (by omega) hz1 hz2))), addO_ok h.gi hnn]
  refine p_most hx (fun _ g' hg => ?_) (fun q => by rw [e] at q; exact z01 q) (fun q => by rw [e] at q; exact z02 q) (fun q => by rw [e] at q; exact z03 q)
  rw [e] at hg ⊢
  exact hQ g' _ (addF_q h.gi) (h.add hnn (addF_q h.gi) hg)
theorem q_near (h : EE a σ n bf nn nr ns g) (hnn : nn < 30) {x y z : Nat} {w : Int32} (hw : w = 0 ∨ w = 1) (hx1 : x < nn) (hy1 : y < nn) (hz1 : 1 ≤ z) (hz2 : z ≤ 10) (hx2 : σ 17 x = 0) (hy2 : σ 17 y = 0) {Q : Int32 → gS → Prop} (hQ : ∀ g' σ', QryR nn 4 σ σ' → EE a σ' n bf (nn + 1) nr ns g' → Q (nI nn) g') : w_X10_near g a (nI x) (nI y) (nI z) w Q (fun _ _ => False) := by
  obtain ⟨A, D, V, rfl, hx⟩ := id h
  have hG := h.gi
  have e : S_near σ (nI x) (nI y) (nI z) w = (0, nI nn, addF (su σ 21 nn w) 4 (nI x) (nI y) (nI z)) := by
    unfold S_near
    rw [if_neg (fun q => q.elim (fun q => q (hG.iNn hx1)) (fun q => q (hG.iNn hy1))), show cl (nI x) = x from cl_nI (by omega), show cl (nI y) = y from cl_nI (by omega), if_neg (fun q => q.elim (fun q => q hx2) (fun q => q.elim (fun q => q hy2) (fun q => q (nI_rng (lo := 1) (hi := 10) (by decide) hz1 hz2)))), if_neg (full_no hG hnn), hG.d16, hG.nnF]
  refine p_near hx hw (fun _ g' hg => ?_) (fun q => by rw [e] at q; exact z01 q) (fun q => by rw [e] at q; exact z02 q) (fun q => by rw [e] at q; exact z03 q)
  rw [e] at hg ⊢
  exact hQ g' _ (addF_n hG) (h.add hnn (addF_n hG) hg)
end SASK
