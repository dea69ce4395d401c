/-! THE CLASS: scores of all nodes -/
section COK2
variable {ρ : Rows} {n bf nn nr ns : Nat}
theorem near_ok {d : Nat} {a b fa fb c o : Int32} : ∀ k, ∃ m, m ≤ k ∧ nearF ρ d a b fa fb c o k = nI m
  | 0 => ⟨0, Nat.le_refl 0, rfl⟩
  | k + 1 => by
    obtain ⟨m, hm, e⟩ := near_ok (d := d) (a := a) (b := b) (fa := fa) (fb := fb) (c := c) (o := o) k
    unfold nearF at e ⊢
    rw [isum, e]
    split
    · exact ⟨m, by omega, Int32.add_zero _⟩
    · cases nearIn ρ d k a b c o
      · exact ⟨m, by omega, Int32.add_zero _⟩
      · exact ⟨m + 1, by omega, nI_1 m⟩
theorem okS_m1 : okS (-1) := Or.inl rfl
theorem okS_0 : okS 0 := Or.inr ⟨0, by decide, rfl⟩
theorem okS_add {x y : Int32} (hx : okS x) (hy : okS y) (h1 : ¬ x < 0) (h2 : ¬ y < 0) : ∃ m, m ≤ 2000000 ∧ x + y = nI m := by
  obtain ⟨a, ha, ea⟩ := hx.resolve_left (fun e => h1 (by rw [e]; decide))
  obtain ⟨b, hb, eb⟩ := hy.resolve_left (fun e => h2 (by rw [e]; decide))
  exact ⟨a + b, by omega, by rw [ea, eb, nI_add]⟩
theorem most_ok {T : Nat → Int32} {a : Nat} : ∀ b, (∀ k, k < b → okS (T (a + k))) → ∃ m, m ≤ 1000000 * b ∧ mostSum T a b = nI m
  | 0, _ => ⟨0, by omega, rfl⟩
  | b + 1, h => by
    obtain ⟨m, hm, e⟩ := most_ok b (fun k hk => h k (by omega))
    unfold mostSum at e ⊢
    rw [isum, e]
    split
    · rename_i c
      obtain ⟨x, hx, ex⟩ := (h b (by omega)).resolve_left (fun e => by rw [e] at c; exact absurd c (by decide))
      rw [ex, nI_add]; exact ⟨m + x, by omega, rfl⟩
    · exact ⟨m, by omega, Int32.add_zero _⟩
theorem score_ok (hG : GI ρ n bf nn nr ns) (hW : WG ρ) {T : Nat → Int32} {j d : Nat} (hN : NW ρ j) (hj : j < 30) (hd : d < n) (h6 : ρ 6 d ≠ 0) (hT : ∀ i, i < j → okS (T i)) : okS (scoreF ρ n T j d) := by
  unfold scoreF
  dsimp only
  rcases hN with ⟨e, a, b, ha, hb1, hb8, ea, eb⟩ | ⟨e, a, b, ha, hb, ea, eb⟩ | ⟨e, a, b, c, ha, hb, e1, e2, hc1, hc2, ho, ea, eb, ec⟩ | e | ⟨e, a, ha, ea⟩ | ⟨e, a, b, ha, hb, ea, eb⟩ | ⟨e, a, b, c, hab, hb2, hb4, hc1, hcb, ea, eb, ec⟩
  · rw [if_pos e, ea, cl_nI (show a < 2 ^ 31 by omega)]
    exact (term_ok hG hW hd h6 ha).1
  · rw [ea, eb, cl_nI (show a < 2 ^ 31 by omega), cl_nI (show b < 2 ^ 31 by omega)]
    have hTa := hT a ha
    have hTb := hT b hb
    rcases e with e | e | e
    · simp only [e, if_neg (show ¬ (1 : Int32) = 0 by decide), if_true]
      split
      · exact okS_m1
      · rename_i c
        obtain ⟨m, hm, em⟩ := okS_add hTa hTb (fun q => c (Or.inl q)) (fun q => c (Or.inr q))
        rw [em]; exact okS_least (by omega)
    · simp only [e, if_neg (show ¬ (2 : Int32) = 0 by decide), if_neg (show ¬ (2 : Int32) = 1 by decide), if_true]
      split
      · exact hTb
      · split
        · exact hTa
        · rename_i c1 c2
          obtain ⟨m, hm, em⟩ := okS_add hTa hTb c1 c2
          rw [em]; exact okS_least (by omega)
    · simp only [e, if_neg (show ¬ (3 : Int32) = 0 by decide), if_neg (show ¬ (3 : Int32) = 1 by decide), if_neg (show ¬ (3 : Int32) = 2 by decide), if_true]
      split
      · exact hTa
      · exact okS_m1
  · rw [ea, eb, cl_nI (show a < 2 ^ 31 by omega), cl_nI (show b < 2 ^ 31 by omega)]
    simp only [e, if_neg (show ¬ (4 : Int32) = 0 by decide), if_neg (show ¬ (4 : Int32) = 1 by decide), if_neg (show ¬ (4 : Int32) = 2 by decide), if_neg (show ¬ (4 : Int32) = 3 by decide), if_true]
    split
    · exact okS_m1
    · obtain ⟨m, hm, em⟩ := near_ok (ρ := ρ) (d := d) (a := ρ 18 a) (b := ρ 18 b) (fa := ρ 19 a) (fb := ρ 19 b) (c := ρ 20 j) (o := ρ 21 j) 3
      rw [em]
      have x1 : ∃ x, x ≤ 2000000 ∧ (T a + T b + 100 * nI m = nI (x + 100 * m) ∨ T a + T b + 100 * nI m = -1 + nI (x + 100 * m) ∨ T a + T b + 100 * nI m = -1 + -1 + 100 * nI m) := by
        rcases hT a ha with e1 | ⟨x, hx, e1⟩ <;> rcases hT b hb with e2 | ⟨y, hy, e2⟩
        · exact ⟨0, by omega, Or.inr (Or.inr (by rw [e1, e2]))⟩
        · exact ⟨y, by omega, Or.inr (Or.inl (by rw [e1, e2, show (100 : Int32) = nI 100 from rfl, nI_mul, Int32.add_assoc, nI_add]))⟩
        · exact ⟨x, by omega, Or.inr (Or.inl (by rw [e1, e2, show (100 : Int32) = nI 100 from rfl, nI_mul, Int32.add_comm (nI x), Int32.add_assoc, nI_add]))⟩
        · exact ⟨x + y, by omega, Or.inl (by rw [e1, e2, show (100 : Int32) = nI 100 from rfl, nI_mul, nI_add, nI_add])⟩
      rename_i c
      have hm1 : 1 ≤ m := by
        rcases Nat.eq_zero_or_pos m with q | q
        · rw [em, q] at c; exact absurd rfl c
        · exact q
      obtain ⟨x, hx, e | e | e⟩ := x1
      · rw [e]; exact okS_least (by omega)
      · rw [e, show (-1 : Int32) + nI (x + 100 * m) = nI (x + 100 * m - 1) by rw [show x + 100 * m = (x + 100 * m - 1) + 1 by omega, ← nI_1, Int32.add_comm, Int32.add_assoc, show x + 100 * m - 1 + 1 - 1 = x + 100 * m - 1 by omega]; exact Int32.add_zero _]
        exact okS_least (by omega)
      · rw [e]
        have hm3 : m = 1 ∨ m = 2 ∨ m = 3 := by omega
        rcases hm3 with q | q | q <;> subst q
        · exact Or.inr ⟨98, by decide, by decide⟩
        · exact Or.inr ⟨198, by decide, by decide⟩
        · exact Or.inr ⟨298, by decide, by decide⟩
  · simp only [e, if_neg (show ¬ (5 : Int32) = 0 by decide), if_neg (show ¬ (5 : Int32) = 1 by decide), if_neg (show ¬ (5 : Int32) = 2 by decide), if_neg (show ¬ (5 : Int32) = 3 by decide), if_neg (show ¬ (5 : Int32) = 4 by decide), if_true]
    split
    · exact okS_m1
    · exact okS_0
  · simp only [e, if_neg (show ¬ (6 : Int32) = 0 by decide), if_neg (show ¬ (6 : Int32) = 1 by decide), if_neg (show ¬ (6 : Int32) = 2 by decide), if_neg (show ¬ (6 : Int32) = 3 by decide), if_neg (show ¬ (6 : Int32) = 4 by decide), if_neg (show ¬ (6 : Int32) = 5 by decide), if_true]
    split
    · exact okS_m1
    · exact okS_0
  · rw [ea, eb, cl_nI (show a < 2 ^ 31 by omega)]
    simp only [e, if_neg (show ¬ (7 : Int32) = 0 by decide), if_neg (show ¬ (7 : Int32) = 1 by decide), if_neg (show ¬ (7 : Int32) = 2 by decide), if_neg (show ¬ (7 : Int32) = 3 by decide), if_neg (show ¬ (7 : Int32) = 4 by decide), if_neg (show ¬ (7 : Int32) = 5 by decide), if_neg (show ¬ (7 : Int32) = 6 by decide), if_true]
    split
    · exact okS_m1
    · rename_i c
      obtain ⟨x, hx, ex⟩ := (hT a ha).resolve_left (fun q => c (by rw [q]; decide))
      have : x * b ≤ 1000000 * 500 := Nat.mul_le_mul hx hb
      rw [ex, nI_mul, show (100 : Int32) = nI 100 from rfl, nI_div (by omega) (by decide) (by decide)]
      exact okS_least (Nat.lt_of_le_of_lt (Nat.div_le_self _ _) (by omega))
  · rw [ea, eb, cl_nI (show a < 2 ^ 31 by omega), cl_nI (show b < 2 ^ 31 by omega)]
    simp only [e, if_neg (show ¬ (8 : Int32) = 0 by decide), if_neg (show ¬ (8 : Int32) = 1 by decide), if_neg (show ¬ (8 : Int32) = 2 by decide), if_neg (show ¬ (8 : Int32) = 3 by decide), if_neg (show ¬ (8 : Int32) = 4 by decide), if_neg (show ¬ (8 : Int32) = 5 by decide), if_neg (show ¬ (8 : Int32) = 6 by decide), if_neg (show ¬ (8 : Int32) = 7 by decide)]
    split
    · exact okS_m1
    · obtain ⟨m, hm, em⟩ := most_ok (T := T) (a := a) b (fun k hk => hT (a + k) (by omega))
      rw [em]; exact okS_least (by omega)
theorem scV_ok (hG : GI ρ n bf nn nr ns) (hW : WG ρ) (hN : NG ρ nn) {d : Nat} (hd : d < n) (h6 : ρ 6 d ≠ 0) : ∀ i, i < nn → okS (scV ρ n d i) := by
  have hnn := hG.nn3
  intro i
  induction i using Nat.strongRecOn with
  | _ i ih =>
    intro hi
    rw [scV_eq hN hnn hi]
    exact score_ok hG hW (hN i hi) (by omega) hd h6 (fun k hk => ih k hk (by omega))
end COK2
