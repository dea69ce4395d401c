/-! THE ENGINE'S CALLS THAT PUT SOMETHING DOWN, as the law makes them -/
section SPUT
variable {σ σ' : Rows} {n bf nn nr ns a : Nat} {g g' : gS}
theorem EE.num {o : Nat} (h : CS a o σ' g') (e1 : σ' 0 1 = nI n) (e9 : σ' 0 9 = nI bf) (e16 : σ' 0 16 = nI nn) (e22 : σ' 0 22 = nI nr) (e13 : σ' 0 13 = nI ns) (b1 : n ≤ 60) (b2 : bf ≤ 60) (b3 : nn ≤ 60) (b4 : nr ≤ 60) (b5 : ns ≤ 60) : EE a σ' n bf nn nr ns g' := by
  obtain ⟨A, D, V, n1, bf1, nn1, nr1, ns1, q1, q2, hx⟩ := h
  obtain ⟨⟨c1, c2, c3, c4, c5⟩, ⟨d1, d2, d3, d4, d5⟩, -⟩ := hx.2.2.1.1
  have z1 : n1 = n := (nI_inj (by omega) (by omega)).mp (d1.symm.trans e1)
  have z2 : bf1 = bf := (nI_inj (by omega) (by omega)).mp (d2.symm.trans e9)
  have z3 : nn1 = nn := (nI_inj (by omega) (by omega)).mp (d3.symm.trans e16)
  have z4 : nr1 = nr := (nI_inj (by omega) (by omega)).mp (d4.symm.trans e22)
  have z5 : ns1 = ns := (nI_inj (by omega) (by omega)).mp (d5.symm.trans e13)
  subst z1; subst z2; subst z3; subst z4; subst z5
  exact ⟨A, D, V, q1, hx⟩
theorem EE.ex (h : EE a σ n bf nn nr ns g) : (σ 0 2 = 0 → ∀ d f, n ≤ d → d < 60 → f < 3 → σ 7 (d * 3 + f) = 0) ∧ ∀ d, n ≤ d → d < 60 → σ 5 d = 0 := by
  obtain ⟨A, D, V, -, hx⟩ := h
  obtain ⟨x1, x2, x3, x4⟩ := hx.2.2.2
  exact ⟨fun e d f h1 h2 h3 => x4 d f (by rw [x1 e]; exact h1) h2 h3, x3⟩
def opR (σ : Rows) (n : Nat) (x y : Int32) : Rows := su (su (su (tz σ 0) 0 2 1) 3 n x) 4 n y
def wrR (σ : Rows) (n f l : Nat) (x : Int32) : Rows := su (su (tz σ 0) 8 ((n * 3 + f) * 12 + l) x) 7 (n * 3 + f) (nI (l + 1))
def clR (σ : Rows) (n : Nat) : Rows := su (su (tz σ 0) 0 2 0) 0 1 (nI (n + 1))
def rmR (σ : Rows) (d : Nat) : Rows := su (tz σ 0) 5 d 1
theorem opR_0 {x y : Int32} {i : Nat} (h0 : i ≠ 0) (h2 : i ≠ 2) : opR σ n x y 0 i = σ 0 i := by
  unfold opR
  rw [su_row (by decide), su_row (by decide), su_at, if_neg h2, tz_0 h0]
theorem opR_r {x y : Int32} {t : Nat} (h0 : t ≠ 0) (h3 : t ≠ 3) (h4 : t ≠ 4) : opR σ n x y t = σ t := by
  unfold opR
  rw [su_row h4, su_row h3, su_row h0, tz_r h0]
theorem opR_3 {x y : Int32} {i : Nat} : opR σ n x y 3 i = if i = n then x else σ 3 i := by
  unfold opR
  rw [su_row (by decide), su_at, su_row (by decide), tz_r (by decide)]
theorem opR_4 {x y : Int32} {i : Nat} : opR σ n x y 4 i = if i = n then y else σ 4 i := by
  unfold opR
  rw [su_at, su_row (by decide), su_row (by decide), tz_r (by decide)]
theorem opR_2 {x y : Int32} : opR σ n x y 0 2 = 1 := by
  unfold opR
  rw [su_row (by decide), su_row (by decide), su_at, if_pos rfl]
theorem wrR_0 {f l i : Nat} {x : Int32} (h0 : i ≠ 0) : wrR σ n f l x 0 i = σ 0 i := by
  unfold wrR
  rw [su_row (by decide), su_row (by decide), tz_0 h0]
theorem wrR_r {f l t : Nat} {x : Int32} (h0 : t ≠ 0) (h7 : t ≠ 7) (h8 : t ≠ 8) : wrR σ n f l x t = σ t := by
  unfold wrR
  rw [su_row h7, su_row h8, tz_r h0]
theorem wrR_7 {f l i : Nat} {x : Int32} : wrR σ n f l x 7 i = if i = n * 3 + f then nI (l + 1) else σ 7 i := by
  unfold wrR
  rw [su_at, su_row (by decide), tz_r (by decide)]
theorem clR_0 {i : Nat} (h0 : i ≠ 0) (h1 : i ≠ 1) (h2 : i ≠ 2) : clR σ n 0 i = σ 0 i := by
  unfold clR
  rw [su_at, if_neg h1, su_at, if_neg h2, tz_0 h0]
theorem clR_r {t : Nat} (h0 : t ≠ 0) : clR σ n t = σ t := by
  unfold clR
  rw [su_row h0, su_row h0, tz_r h0]
theorem clR_1 : clR σ n 0 1 = nI (n + 1) := by
  unfold clR
  rw [su_at, if_pos rfl]
theorem clR_2 : clR σ n 0 2 = 0 := by
  unfold clR
  rw [su_at, if_neg (by decide), su_at, if_pos rfl]
theorem rmR_0 {d i : Nat} (h0 : i ≠ 0) : rmR σ d 0 i = σ 0 i := by
  unfold rmR
  rw [su_row (by decide), tz_0 h0]
theorem rmR_r {d t : Nat} (h0 : t ≠ 0) (h5 : t ≠ 5) : rmR σ d t = σ t := by
  unfold rmR
  rw [su_row h5, tz_r h0]
theorem rmR_5 {d i : Nat} : rmR σ d 5 i = if i = d then 1 else σ 5 i := by
  unfold rmR
  rw [su_at, tz_r (by decide)]
theorem q_open (h : EE a σ n bf nn nr ns g) (h2 : σ 0 2 = 0) (hn : n < 60) {t k : Nat} (ht : t < 10000) (hk : k < 8) {Q : Int32 → gS → Prop} (hQ : ∀ g', EE a (opR σ n (nI t) (nI k)) n bf nn nr ns g' → Q (nI n) g') : w_X10_open g a (nI t) (nI k) Q (fun _ _ => False) := by
  obtain ⟨A, D, V, rfl, hx⟩ := id h
  have hG := h.gi
  have n6 : ¬ σ 0 1 = 60 := fun q => by
    have := (nI_inj (show n < 2 ^ 31 by omega) (show 60 < 2 ^ 31 by decide)).mp (hG.d1.symm.trans q)
    omega
  have e : S_open σ (nI t) (nI k) = (0, nI n, opR σ n (nI t) (nI k)) := by
    unfold S_open
    rw [if_neg (fun q => q.elim (fun q => q (nI_rng (lo := 0) (hi := 9999) (by decide) (by omega) (by omega))) (fun q => q (nI_rng (lo := 0) (hi := 7) (by decide) (by omega) (by omega)))), if_neg (fun q => q.elim (fun q => q h2) n6), hG.nF, hG.d1]
    rfl
  refine p_open hx (fun _ g' hg => ?_) (fun q => by rw [e] at q; exact z01 q) (fun q => by rw [e] at q; exact z02 q)
  rw [e] at hg ⊢
  refine hQ g' (EE.num hg ?_ ?_ ?_ ?_ ?_ (by omega) (by have := hG.1.2.1; omega) (by have := hG.nn3; omega) hG.nr6 hG.ns6)
  · exact (opR_0 (by decide) (by decide)).trans hG.d1
  · exact (opR_0 (by decide) (by decide)).trans hG.d9
  · exact (opR_0 (by decide) (by decide)).trans hG.d16
  · exact (opR_0 (by decide) (by decide)).trans hG.d22
  · exact (opR_0 (by decide) (by decide)).trans hG.d13
theorem q_write (h : EE a σ n bf nn nr ns g) (h2 : σ 0 2 = 1) {f r l : Nat} (hf : f < 3) (hr : r < 200) (hl : l < 12) (e7 : σ 7 (n * 3 + f) = nI l) {Q : Int32 → gS → Prop} (hQ : ∀ g', EE a (wrR σ n f l (nI r)) n bf nn nr ns g' → Q (nI (l + 1)) g') : w_X10_write g a (nI f) (nI r) Q (fun _ _ => False) := by
  obtain ⟨A, D, V, rfl, hx⟩ := id h
  have hG := h.gi
  have hn := hG.n
  have n2 : ¬ σ 0 2 = 0 := fun q => by rw [h2] at q; exact absurd q (by decide)
  have n12 : ¬ nI l = 12 := fun q => by
    have := (nI_inj (show l < 2 ^ 31 by omega) (show 12 < 2 ^ 31 by decide)).mp q
    omega
  have e : S_write σ (nI f) (nI r) = (0, nI (l + 1), wrR σ n f l (nI r)) := by
    unfold S_write
    rw [if_neg (fun q => q.elim (fun q => q (nI_rng (lo := 0) (hi := 2) (by decide) (by omega) (by omega))) (fun q => q (nI_rng (lo := 0) (hi := 199) (by decide) (by omega) (by omega)))), hG.nF, show cl (nI f) = f from cl_nI (by omega), e7, show cl (nI l) = l from cl_nI (by omega), if_neg (fun q => q.elim n2 n12), nI_1]
    rfl
  refine p_write hx (fun _ g' hg => ?_) (fun q => by rw [e] at q; exact z01 q) (fun q => by rw [e] at q; exact z02 q)
  rw [e] at hg ⊢
  refine hQ g' (EE.num hg ?_ ?_ ?_ ?_ ?_ (by omega) (by have := hG.1.2.1; omega) (by have := hG.nn3; omega) hG.nr6 hG.ns6)
  · exact (wrR_0 (by decide)).trans hG.d1
  · exact (wrR_0 (by decide)).trans hG.d9
  · exact (wrR_0 (by decide)).trans hG.d16
  · exact (wrR_0 (by decide)).trans hG.d22
  · exact (wrR_0 (by decide)).trans hG.d13
theorem q_close (h : EE a σ n bf nn nr ns g) (h2 : σ 0 2 = 1) (hn : n < 60) {Q : Int32 → gS → Prop} (hQ : ∀ g', EE a (clR σ n) (n + 1) bf nn nr ns g' → Q (nI (n + 1 - bf)) g') : w_X10_close g a Q (fun _ _ => False) := by
  obtain ⟨A, D, V, rfl, hx⟩ := id h
  have hG := h.gi
  have hb := hG.1.2.1
  have e : S_close σ = (0, nI (n + 1 - bf), clR σ n) := by
    unfold S_close
    rw [if_neg (fun q => by rw [h2] at q; exact absurd q (by decide)), hG.d1, hG.d9, nI_1, nI_sb (by omega)]
    rfl
  refine p_close hx (fun _ g' hg => ?_) (fun q => by rw [e] at q; exact z01 q)
  rw [e] at hg ⊢
  refine hQ g' (EE.num hg clR_1 ?_ ?_ ?_ ?_ (by omega) (by omega) (by have := hG.nn3; omega) hG.nr6 hG.ns6)
  · exact (clR_0 (by decide) (by decide) (by decide)).trans hG.d9
  · exact (clR_0 (by decide) (by decide) (by decide)).trans hG.d16
  · exact (clR_0 (by decide) (by decide) (by decide)).trans hG.d22
  · exact (clR_0 (by decide) (by decide) (by decide)).trans hG.d13
theorem q_remove (h : EE a σ n bf nn nr ns g) {d : Nat} (hd : d < n) {Q : Int32 → gS → Prop} (hQ : ∀ g', EE a (rmR σ d) n bf nn nr ns g' → Q (if σ 5 d = 0 then 1 else 0) g') : w_X10_remove g a (nI d) Q (fun _ _ => False) := by
  obtain ⟨A, D, V, rfl, hx⟩ := id h
  have hG := h.gi
  have hn := hG.n
  have e : S_remove σ (nI d) = (0, (if σ 5 d = 0 then 1 else 0), rmR σ d) := by
    unfold S_remove
    rw [if_neg (fun q => q (hG.iDn hd)), show cl (nI d) = d from cl_nI (by omega)]
    rfl
  refine p_remove hx (fun _ g' hg => ?_) (fun q => by rw [e] at q; exact z01 q)
  rw [e] at hg ⊢
  refine hQ g' (EE.num hg ?_ ?_ ?_ ?_ ?_ (by omega) (by have := hG.1.2.1; omega) (by have := hG.nn3; omega) hG.nr6 hG.ns6)
  · exact (rmR_0 (by decide)).trans hG.d1
  · exact (rmR_0 (by decide)).trans hG.d9
  · exact (rmR_0 (by decide)).trans hG.d16
  · exact (rmR_0 (by decide)).trans hG.d22
  · exact (rmR_0 (by decide)).trans hG.d13
end SPUT
