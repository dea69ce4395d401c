/-! PURE ROWS: numbers, loops, sums -/
theorem lit_nI (n : Nat) : (OfNat.ofNat n : Int32) = nI n := rfl
theorem nI_mul (a b : Nat) : nI a * nI b = nI (a * b) := pk_mul a b
theorem nI_lt_iff {a b : Nat} (ha : a < 2 ^ 31) (hb : b < 2 ^ 31) : nI a < nI b ↔ a < b := nI_ltI ha hb
theorem nI_le_iff {a b : Nat} (ha : a < 2 ^ 31) (hb : b < 2 ^ 31) : nI a ≤ nI b ↔ a ≤ b := nI_leI ha hb
theorem nI_inj {a b : Nat} (ha : a < 2 ^ 31) (hb : b < 2 ^ 31) : nI a = nI b ↔ a = b := nI_eq ha hb
theorem vpi {n N : Nat} (h : n < N) (hN : N < 2 ^ 31 := by decide) : vp_in (nI n) N := vp_in_nI h hN
theorem cl_nI {n : Nat} (h : n < 2 ^ 31) : Int32.toNatClampNeg (nI n) = n := nI_clamp h
/-- an int between two bounds is a natural number -/
theorem in_nI {x : Int32} {n : Nat} (hn : n < 2 ^ 31) (h0 : ¬ x < 0) (h1 : x < nI n) : ∃ j, j < n ∧ x = nI j := by
  obtain ⟨j, hj, rfl⟩ := nI_of h0
  exact ⟨j, (nI_ltI hj hn).mp h1, rfl⟩
theorem not_lt0 {n : Nat} (h : n < 2 ^ 31) : ¬ nI n < 0 := nI_pos h
theorem le0 {n : Nat} (h : n < 2 ^ 31) : (0 : Int32) ≤ nI n := nI_pos' h
theorem i32_lt (a b : Int32) : a < b ↔ a.toInt < b.toInt := Int32.lt_iff_toInt_lt
theorem i32_le (a b : Int32) : a ≤ b ↔ a.toInt ≤ b.toInt := Int32.le_iff_toInt_le
theorem i32_eq (a b : Int32) : a = b ↔ a.toInt = b.toInt := Int32.toInt_inj.symm
/-- sums of ints -/
def isum (f : Nat → Int32) : Nat → Int32
  | 0 => 0
  | n + 1 => isum f n + f n
theorem isum_congr {f g : Nat → Int32} : ∀ {n : Nat}, (∀ k, k < n → f k = g k) → isum f n = isum g n
  | 0, _ => rfl
  | n + 1, h => by rw [isum, isum, isum_congr (fun k hk => h k (by omega)), h n (by omega)]
theorem isum_zero {f : Nat → Int32} : ∀ {n : Nat}, (∀ k, k < n → f k = 0) → isum f n = 0
  | 0, _ => rfl
  | n + 1, h => by rw [isum, isum_zero (fun k hk => h k (by omega)), h n (by omega)]; rfl
theorem isum_add (f g : Nat → Int32) : ∀ n, isum (fun k => f k + g k) n = isum f n + isum g n
  | 0 => rfl
  | n + 1 => by rw [isum, isum, isum, isum_add f g n]; simp only [Int32.add_assoc]; congr 1; rw [← Int32.add_assoc, ← Int32.add_assoc, Int32.add_comm (f n)]
theorem isum_swap (f : Nat → Nat → Int32) (m : Nat) : ∀ n, isum (fun i => isum (fun j => f i j) m) n = isum (fun j => isum (fun i => f i j) n) m
  | 0 => (isum_zero (fun _ _ => rfl)).symm
  | n + 1 => by
    rw [isum, isum_swap f m n, ← isum_add]
    rfl
/-- how many -/
def cnt (p : Nat → Bool) : Nat → Nat
  | 0 => 0
  | n + 1 => cnt p n + if p n then 1 else 0
theorem cnt_le (p : Nat → Bool) : ∀ n, cnt p n ≤ n
  | 0 => Nat.le_refl 0
  | n + 1 => by have := cnt_le p n; rw [cnt]; split <;> omega
theorem cnt_congr {p q : Nat → Bool} : ∀ {n : Nat}, (∀ k, k < n → p k = q k) → cnt p n = cnt q n
  | 0, _ => rfl
  | n + 1, h => by rw [cnt, cnt, cnt_congr (fun k hk => h k (by omega)), h n (by omega)]
theorem cnt_zero {p : Nat → Bool} : ∀ {n : Nat}, (∀ k, k < n → p k = false) → cnt p n = 0
  | 0, _ => rfl
  | n + 1, h => by rw [cnt, cnt_zero (fun k hk => h k (by omega)), h n (by omega)]; rfl
theorem cnt_pos {p : Nat → Bool} : ∀ {n k : Nat}, k < n → p k = true → 0 < cnt p n
  | n + 1, k, hk, hp => by
    rw [cnt]
    rcases Nat.lt_or_ge k n with h | h
    · have := cnt_pos h hp; omega
    · have : k = n := by omega
      subst this; rw [hp]; simp
/-- a count of at most n is a number -/
theorem isum_cnt (p : Nat → Bool) : ∀ n, isum (fun k => if p k then 1 else 0) n = nI (cnt p n)
  | 0 => rfl
  | n + 1 => by
    rw [isum, isum_cnt p n, cnt]
    cases p n
    · exact Int32.add_zero _
    · exact nI_1 _
theorem lpx1_i {A1 : Type} {body : A1 → (A1 → Prop) → Prop} (n : Nat) (Inv : Nat → A1 → Prop) (hs : ∀ (k : Nat) (a1 : A1), k < n → Inv k a1 → ∀ K : A1 → Prop, (∀ (b1 : A1), Inv (k + 1) b1 → K b1) → body a1 K) (he : ∀ (a1 : A1), Inv n a1 → ∀ K : A1 → Prop, body a1 K) (a1 : A1) (h0 : Inv 0 a1) : lpx1 body a1 := by
  have key : ∀ j k (a1 : A1), k + j = n → Inv k a1 → lpn1 body (j + 1) a1 := by
    intro j
    induction j with
    | zero => intro k a1 hk h; exact he a1 (by rw [← hk]; exact h) _
    | succ j ih => intro k a1 hk h; exact hs k a1 (by omega) h _ (fun b1 hb => ih (k + 1) b1 (by omega) hb)
  exact ⟨n + 1, key n 0 a1 (by omega) h0⟩
theorem lpx1_t {A1 : Type} {body : A1 → (A1 → Prop) → Prop} (n : Nat) (F1 : Nat → A1) (hs : ∀ k, k < n → ∀ K : A1 → Prop, K (F1 (k + 1)) → body (F1 k) K) (he : ∀ K : A1 → Prop, body (F1 n) K) : lpx1 body (F1 0) := by
  refine lpx1_i n (fun k a1 => a1 = F1 k) ?_ ?_ (F1 0) (by simp)
  · rintro k _ hk rfl K hK
    exact hs k hk K (hK (F1 (k + 1)) (by simp))
  · rintro _ rfl K
    exact he K
theorem lpx2_i {A1 : Type} {A2 : Type} {body : A1 → A2 → (A1 → A2 → Prop) → Prop} (n : Nat) (Inv : Nat → A1 → A2 → Prop) (hs : ∀ (k : Nat) (a1 : A1) (a2 : A2), k < n → Inv k a1 a2 → ∀ K : A1 → A2 → Prop, (∀ (b1 : A1) (b2 : A2), Inv (k + 1) b1 b2 → K b1 b2) → body a1 a2 K) (he : ∀ (a1 : A1) (a2 : A2), Inv n a1 a2 → ∀ K : A1 → A2 → Prop, body a1 a2 K) (a1 : A1) (a2 : A2) (h0 : Inv 0 a1 a2) : lpx2 body a1 a2 := by
  have key : ∀ j k (a1 : A1) (a2 : A2), k + j = n → Inv k a1 a2 → lpn2 body (j + 1) a1 a2 := by
    intro j
    induction j with
    | zero => intro k a1 a2 hk h; exact he a1 a2 (by rw [← hk]; exact h) _
    | succ j ih => intro k a1 a2 hk h; exact hs k a1 a2 (by omega) h _ (fun b1 b2 hb => ih (k + 1) b1 b2 (by omega) hb)
  exact ⟨n + 1, key n 0 a1 a2 (by omega) h0⟩
theorem lpx2_t {A1 : Type} {A2 : Type} {body : A1 → A2 → (A1 → A2 → Prop) → Prop} (n : Nat) (F1 : Nat → A1) (F2 : Nat → A2) (hs : ∀ k, k < n → ∀ K : A1 → A2 → Prop, K (F1 (k + 1)) (F2 (k + 1)) → body (F1 k) (F2 k) K) (he : ∀ K : A1 → A2 → Prop, body (F1 n) (F2 n) K) : lpx2 body (F1 0) (F2 0) := by
  refine lpx2_i n (fun k a1 a2 => a1 = F1 k ∧ a2 = F2 k) ?_ ?_ (F1 0) (F2 0) (by simp)
  · rintro k _ _ hk ⟨rfl, rfl⟩ K hK
    exact hs k hk K (hK (F1 (k + 1)) (F2 (k + 1)) (by simp))
  · rintro _ _ ⟨rfl, rfl⟩ K
    exact he K
theorem lpx3_i {A1 : Type} {A2 : Type} {A3 : Type} {body : A1 → A2 → A3 → (A1 → A2 → A3 → Prop) → Prop} (n : Nat) (Inv : Nat → A1 → A2 → A3 → Prop) (hs : ∀ (k : Nat) (a1 : A1) (a2 : A2) (a3 : A3), k < n → Inv k a1 a2 a3 → ∀ K : A1 → A2 → A3 → Prop, (∀ (b1 : A1) (b2 : A2) (b3 : A3), Inv (k + 1) b1 b2 b3 → K b1 b2 b3) → body a1 a2 a3 K) (he : ∀ (a1 : A1) (a2 : A2) (a3 : A3), Inv n a1 a2 a3 → ∀ K : A1 → A2 → A3 → Prop, body a1 a2 a3 K) (a1 : A1) (a2 : A2) (a3 : A3) (h0 : Inv 0 a1 a2 a3) : lpx3 body a1 a2 a3 := by
  have key : ∀ j k (a1 : A1) (a2 : A2) (a3 : A3), k + j = n → Inv k a1 a2 a3 → lpn3 body (j + 1) a1 a2 a3 := by
    intro j
    induction j with
    | zero => intro k a1 a2 a3 hk h; exact he a1 a2 a3 (by rw [← hk]; exact h) _
    | succ j ih => intro k a1 a2 a3 hk h; exact hs k a1 a2 a3 (by omega) h _ (fun b1 b2 b3 hb => ih (k + 1) b1 b2 b3 (by omega) hb)
  exact ⟨n + 1, key n 0 a1 a2 a3 (by omega) h0⟩
theorem lpx3_t {A1 : Type} {A2 : Type} {A3 : Type} {body : A1 → A2 → A3 → (A1 → A2 → A3 → Prop) → Prop} (n : Nat) (F1 : Nat → A1) (F2 : Nat → A2) (F3 : Nat → A3) (hs : ∀ k, k < n → ∀ K : A1 → A2 → A3 → Prop, K (F1 (k + 1)) (F2 (k + 1)) (F3 (k + 1)) → body (F1 k) (F2 k) (F3 k) K) (he : ∀ K : A1 → A2 → A3 → Prop, body (F1 n) (F2 n) (F3 n) K) : lpx3 body (F1 0) (F2 0) (F3 0) := by
  refine lpx3_i n (fun k a1 a2 a3 => a1 = F1 k ∧ a2 = F2 k ∧ a3 = F3 k) ?_ ?_ (F1 0) (F2 0) (F3 0) (by simp)
  · rintro k _ _ _ hk ⟨rfl, rfl, rfl⟩ K hK
    exact hs k hk K (hK (F1 (k + 1)) (F2 (k + 1)) (F3 (k + 1)) (by simp))
  · rintro _ _ _ ⟨rfl, rfl, rfl⟩ K
    exact he K
theorem lpx4_i {A1 : Type} {A2 : Type} {A3 : Type} {A4 : Type} {body : A1 → A2 → A3 → A4 → (A1 → A2 → A3 → A4 → Prop) → Prop} (n : Nat) (Inv : Nat → A1 → A2 → A3 → A4 → Prop) (hs : ∀ (k : Nat) (a1 : A1) (a2 : A2) (a3 : A3) (a4 : A4), k < n → Inv k a1 a2 a3 a4 → ∀ K : A1 → A2 → A3 → A4 → Prop, (∀ (b1 : A1) (b2 : A2) (b3 : A3) (b4 : A4), Inv (k + 1) b1 b2 b3 b4 → K b1 b2 b3 b4) → body a1 a2 a3 a4 K) (he : ∀ (a1 : A1) (a2 : A2) (a3 : A3) (a4 : A4), Inv n a1 a2 a3 a4 → ∀ K : A1 → A2 → A3 → A4 → Prop, body a1 a2 a3 a4 K) (a1 : A1) (a2 : A2) (a3 : A3) (a4 : A4) (h0 : Inv 0 a1 a2 a3 a4) : lpx4 body a1 a2 a3 a4 := by
  have key : ∀ j k (a1 : A1) (a2 : A2) (a3 : A3) (a4 : A4), k + j = n → Inv k a1 a2 a3 a4 → lpn4 body (j + 1) a1 a2 a3 a4 := by
    intro j
    induction j with
    | zero => intro k a1 a2 a3 a4 hk h; exact he a1 a2 a3 a4 (by rw [← hk]; exact h) _
    | succ j ih => intro k a1 a2 a3 a4 hk h; exact hs k a1 a2 a3 a4 (by omega) h _ (fun b1 b2 b3 b4 hb => ih (k + 1) b1 b2 b3 b4 (by omega) hb)
  exact ⟨n + 1, key n 0 a1 a2 a3 a4 (by omega) h0⟩
theorem lpx4_t {A1 : Type} {A2 : Type} {A3 : Type} {A4 : Type} {body : A1 → A2 → A3 → A4 → (A1 → A2 → A3 → A4 → Prop) → Prop} (n : Nat) (F1 : Nat → A1) (F2 : Nat → A2) (F3 : Nat → A3) (F4 : Nat → A4) (hs : ∀ k, k < n → ∀ K : A1 → A2 → A3 → A4 → Prop, K (F1 (k + 1)) (F2 (k + 1)) (F3 (k + 1)) (F4 (k + 1)) → body (F1 k) (F2 k) (F3 k) (F4 k) K) (he : ∀ K : A1 → A2 → A3 → A4 → Prop, body (F1 n) (F2 n) (F3 n) (F4 n) K) : lpx4 body (F1 0) (F2 0) (F3 0) (F4 0) := by
  refine lpx4_i n (fun k a1 a2 a3 a4 => a1 = F1 k ∧ a2 = F2 k ∧ a3 = F3 k ∧ a4 = F4 k) ?_ ?_ (F1 0) (F2 0) (F3 0) (F4 0) (by simp)
  · rintro k _ _ _ _ hk ⟨rfl, rfl, rfl, rfl⟩ K hK
    exact hs k hk K (hK (F1 (k + 1)) (F2 (k + 1)) (F3 (k + 1)) (F4 (k + 1)) (by simp))
  · rintro _ _ _ _ ⟨rfl, rfl, rfl, rfl⟩ K
    exact he K
theorem lpx5_i {A1 : Type} {A2 : Type} {A3 : Type} {A4 : Type} {A5 : Type} {body : A1 → A2 → A3 → A4 → A5 → (A1 → A2 → A3 → A4 → A5 → Prop) → Prop} (n : Nat) (Inv : Nat → A1 → A2 → A3 → A4 → A5 → Prop) (hs : ∀ (k : Nat) (a1 : A1) (a2 : A2) (a3 : A3) (a4 : A4) (a5 : A5), k < n → Inv k a1 a2 a3 a4 a5 → ∀ K : A1 → A2 → A3 → A4 → A5 → Prop, (∀ (b1 : A1) (b2 : A2) (b3 : A3) (b4 : A4) (b5 : A5), Inv (k + 1) b1 b2 b3 b4 b5 → K b1 b2 b3 b4 b5) → body a1 a2 a3 a4 a5 K) (he : ∀ (a1 : A1) (a2 : A2) (a3 : A3) (a4 : A4) (a5 : A5), Inv n a1 a2 a3 a4 a5 → ∀ K : A1 → A2 → A3 → A4 → A5 → Prop, body a1 a2 a3 a4 a5 K) (a1 : A1) (a2 : A2) (a3 : A3) (a4 : A4) (a5 : A5) (h0 : Inv 0 a1 a2 a3 a4 a5) : lpx5 body a1 a2 a3 a4 a5 := by
  have key : ∀ j k (a1 : A1) (a2 : A2) (a3 : A3) (a4 : A4) (a5 : A5), k + j = n → Inv k a1 a2 a3 a4 a5 → lpn5 body (j + 1) a1 a2 a3 a4 a5 := by
    intro j
    induction j with
    | zero => intro k a1 a2 a3 a4 a5 hk h; exact he a1 a2 a3 a4 a5 (by rw [← hk]; exact h) _
    | succ j ih => intro k a1 a2 a3 a4 a5 hk h; exact hs k a1 a2 a3 a4 a5 (by omega) h _ (fun b1 b2 b3 b4 b5 hb => ih (k + 1) b1 b2 b3 b4 b5 (by omega) hb)
  exact ⟨n + 1, key n 0 a1 a2 a3 a4 a5 (by omega) h0⟩
theorem lpx5_t {A1 : Type} {A2 : Type} {A3 : Type} {A4 : Type} {A5 : Type} {body : A1 → A2 → A3 → A4 → A5 → (A1 → A2 → A3 → A4 → A5 → Prop) → Prop} (n : Nat) (F1 : Nat → A1) (F2 : Nat → A2) (F3 : Nat → A3) (F4 : Nat → A4) (F5 : Nat → A5) (hs : ∀ k, k < n → ∀ K : A1 → A2 → A3 → A4 → A5 → Prop, K (F1 (k + 1)) (F2 (k + 1)) (F3 (k + 1)) (F4 (k + 1)) (F5 (k + 1)) → body (F1 k) (F2 k) (F3 k) (F4 k) (F5 k) K) (he : ∀ K : A1 → A2 → A3 → A4 → A5 → Prop, body (F1 n) (F2 n) (F3 n) (F4 n) (F5 n) K) : lpx5 body (F1 0) (F2 0) (F3 0) (F4 0) (F5 0) := by
  refine lpx5_i n (fun k a1 a2 a3 a4 a5 => a1 = F1 k ∧ a2 = F2 k ∧ a3 = F3 k ∧ a4 = F4 k ∧ a5 = F5 k) ?_ ?_ (F1 0) (F2 0) (F3 0) (F4 0) (F5 0) (by simp)
  · rintro k _ _ _ _ _ hk ⟨rfl, rfl, rfl, rfl, rfl⟩ K hK
    exact hs k hk K (hK (F1 (k + 1)) (F2 (k + 1)) (F3 (k + 1)) (F4 (k + 1)) (F5 (k + 1)) (by simp))
  · rintro _ _ _ _ _ ⟨rfl, rfl, rfl, rfl, rfl⟩ K
    exact he K
theorem lpx6_i {A1 : Type} {A2 : Type} {A3 : Type} {A4 : Type} {A5 : Type} {A6 : Type} {body : A1 → A2 → A3 → A4 → A5 → A6 → (A1 → A2 → A3 → A4 → A5 → A6 → Prop) → Prop} (n : Nat) (Inv : Nat → A1 → A2 → A3 → A4 → A5 → A6 → Prop) (hs : ∀ (k : Nat) (a1 : A1) (a2 : A2) (a3 : A3) (a4 : A4) (a5 : A5) (a6 : A6), k < n → Inv k a1 a2 a3 a4 a5 a6 → ∀ K : A1 → A2 → A3 → A4 → A5 → A6 → Prop, (∀ (b1 : A1) (b2 : A2) (b3 : A3) (b4 : A4) (b5 : A5) (b6 : A6), Inv (k + 1) b1 b2 b3 b4 b5 b6 → K b1 b2 b3 b4 b5 b6) → body a1 a2 a3 a4 a5 a6 K) (he : ∀ (a1 : A1) (a2 : A2) (a3 : A3) (a4 : A4) (a5 : A5) (a6 : A6), Inv n a1 a2 a3 a4 a5 a6 → ∀ K : A1 → A2 → A3 → A4 → A5 → A6 → Prop, body a1 a2 a3 a4 a5 a6 K) (a1 : A1) (a2 : A2) (a3 : A3) (a4 : A4) (a5 : A5) (a6 : A6) (h0 : Inv 0 a1 a2 a3 a4 a5 a6) : lpx6 body a1 a2 a3 a4 a5 a6 := by
  have key : ∀ j k (a1 : A1) (a2 : A2) (a3 : A3) (a4 : A4) (a5 : A5) (a6 : A6), k + j = n → Inv k a1 a2 a3 a4 a5 a6 → lpn6 body (j + 1) a1 a2 a3 a4 a5 a6 := by
    intro j
    induction j with
    | zero => intro k a1 a2 a3 a4 a5 a6 hk h; exact he a1 a2 a3 a4 a5 a6 (by rw [← hk]; exact h) _
    | succ j ih => intro k a1 a2 a3 a4 a5 a6 hk h; exact hs k a1 a2 a3 a4 a5 a6 (by omega) h _ (fun b1 b2 b3 b4 b5 b6 hb => ih (k + 1) b1 b2 b3 b4 b5 b6 (by omega) hb)
  exact ⟨n + 1, key n 0 a1 a2 a3 a4 a5 a6 (by omega) h0⟩
theorem lpx6_t {A1 : Type} {A2 : Type} {A3 : Type} {A4 : Type} {A5 : Type} {A6 : Type} {body : A1 → A2 → A3 → A4 → A5 → A6 → (A1 → A2 → A3 → A4 → A5 → A6 → Prop) → Prop} (n : Nat) (F1 : Nat → A1) (F2 : Nat → A2) (F3 : Nat → A3) (F4 : Nat → A4) (F5 : Nat → A5) (F6 : Nat → A6) (hs : ∀ k, k < n → ∀ K : A1 → A2 → A3 → A4 → A5 → A6 → Prop, K (F1 (k + 1)) (F2 (k + 1)) (F3 (k + 1)) (F4 (k + 1)) (F5 (k + 1)) (F6 (k + 1)) → body (F1 k) (F2 k) (F3 k) (F4 k) (F5 k) (F6 k) K) (he : ∀ K : A1 → A2 → A3 → A4 → A5 → A6 → Prop, body (F1 n) (F2 n) (F3 n) (F4 n) (F5 n) (F6 n) K) : lpx6 body (F1 0) (F2 0) (F3 0) (F4 0) (F5 0) (F6 0) := by
  refine lpx6_i n (fun k a1 a2 a3 a4 a5 a6 => a1 = F1 k ∧ a2 = F2 k ∧ a3 = F3 k ∧ a4 = F4 k ∧ a5 = F5 k ∧ a6 = F6 k) ?_ ?_ (F1 0) (F2 0) (F3 0) (F4 0) (F5 0) (F6 0) (by simp)
  · rintro k _ _ _ _ _ _ hk ⟨rfl, rfl, rfl, rfl, rfl, rfl⟩ K hK
    exact hs k hk K (hK (F1 (k + 1)) (F2 (k + 1)) (F3 (k + 1)) (F4 (k + 1)) (F5 (k + 1)) (F6 (k + 1)) (by simp))
  · rintro _ _ _ _ _ _ ⟨rfl, rfl, rfl, rfl, rfl, rfl⟩ K
    exact he K
theorem lpx7_i {A1 : Type} {A2 : Type} {A3 : Type} {A4 : Type} {A5 : Type} {A6 : Type} {A7 : Type} {body : A1 → A2 → A3 → A4 → A5 → A6 → A7 → (A1 → A2 → A3 → A4 → A5 → A6 → A7 → Prop) → Prop} (n : Nat) (Inv : Nat → A1 → A2 → A3 → A4 → A5 → A6 → A7 → Prop) (hs : ∀ (k : Nat) (a1 : A1) (a2 : A2) (a3 : A3) (a4 : A4) (a5 : A5) (a6 : A6) (a7 : A7), k < n → Inv k a1 a2 a3 a4 a5 a6 a7 → ∀ K : A1 → A2 → A3 → A4 → A5 → A6 → A7 → Prop, (∀ (b1 : A1) (b2 : A2) (b3 : A3) (b4 : A4) (b5 : A5) (b6 : A6) (b7 : A7), Inv (k + 1) b1 b2 b3 b4 b5 b6 b7 → K b1 b2 b3 b4 b5 b6 b7) → body a1 a2 a3 a4 a5 a6 a7 K) (he : ∀ (a1 : A1) (a2 : A2) (a3 : A3) (a4 : A4) (a5 : A5) (a6 : A6) (a7 : A7), Inv n a1 a2 a3 a4 a5 a6 a7 → ∀ K : A1 → A2 → A3 → A4 → A5 → A6 → A7 → Prop, body a1 a2 a3 a4 a5 a6 a7 K) (a1 : A1) (a2 : A2) (a3 : A3) (a4 : A4) (a5 : A5) (a6 : A6) (a7 : A7) (h0 : Inv 0 a1 a2 a3 a4 a5 a6 a7) : lpx7 body a1 a2 a3 a4 a5 a6 a7 := by
  have key : ∀ j k (a1 : A1) (a2 : A2) (a3 : A3) (a4 : A4) (a5 : A5) (a6 : A6) (a7 : A7), k + j = n → Inv k a1 a2 a3 a4 a5 a6 a7 → lpn7 body (j + 1) a1 a2 a3 a4 a5 a6 a7 := by
    intro j
    induction j with
    | zero => intro k a1 a2 a3 a4 a5 a6 a7 hk h; exact he a1 a2 a3 a4 a5 a6 a7 (by rw [← hk]; exact h) _
    | succ j ih => intro k a1 a2 a3 a4 a5 a6 a7 hk h; exact hs k a1 a2 a3 a4 a5 a6 a7 (by omega) h _ (fun b1 b2 b3 b4 b5 b6 b7 hb => ih (k + 1) b1 b2 b3 b4 b5 b6 b7 (by omega) hb)
  exact ⟨n + 1, key n 0 a1 a2 a3 a4 a5 a6 a7 (by omega) h0⟩
theorem lpx7_t {A1 : Type} {A2 : Type} {A3 : Type} {A4 : Type} {A5 : Type} {A6 : Type} {A7 : Type} {body : A1 → A2 → A3 → A4 → A5 → A6 → A7 → (A1 → A2 → A3 → A4 → A5 → A6 → A7 → Prop) → Prop} (n : Nat) (F1 : Nat → A1) (F2 : Nat → A2) (F3 : Nat → A3) (F4 : Nat → A4) (F5 : Nat → A5) (F6 : Nat → A6) (F7 : Nat → A7) (hs : ∀ k, k < n → ∀ K : A1 → A2 → A3 → A4 → A5 → A6 → A7 → Prop, K (F1 (k + 1)) (F2 (k + 1)) (F3 (k + 1)) (F4 (k + 1)) (F5 (k + 1)) (F6 (k + 1)) (F7 (k + 1)) → body (F1 k) (F2 k) (F3 k) (F4 k) (F5 k) (F6 k) (F7 k) K) (he : ∀ K : A1 → A2 → A3 → A4 → A5 → A6 → A7 → Prop, body (F1 n) (F2 n) (F3 n) (F4 n) (F5 n) (F6 n) (F7 n) K) : lpx7 body (F1 0) (F2 0) (F3 0) (F4 0) (F5 0) (F6 0) (F7 0) := by
  refine lpx7_i n (fun k a1 a2 a3 a4 a5 a6 a7 => a1 = F1 k ∧ a2 = F2 k ∧ a3 = F3 k ∧ a4 = F4 k ∧ a5 = F5 k ∧ a6 = F6 k ∧ a7 = F7 k) ?_ ?_ (F1 0) (F2 0) (F3 0) (F4 0) (F5 0) (F6 0) (F7 0) (by simp)
  · rintro k _ _ _ _ _ _ _ hk ⟨rfl, rfl, rfl, rfl, rfl, rfl, rfl⟩ K hK
    exact hs k hk K (hK (F1 (k + 1)) (F2 (k + 1)) (F3 (k + 1)) (F4 (k + 1)) (F5 (k + 1)) (F6 (k + 1)) (F7 (k + 1)) (by simp))
  · rintro _ _ _ _ _ _ _ ⟨rfl, rfl, rfl, rfl, rfl, rfl, rfl⟩ K
    exact he K
theorem lpx8_i {A1 : Type} {A2 : Type} {A3 : Type} {A4 : Type} {A5 : Type} {A6 : Type} {A7 : Type} {A8 : Type} {body : A1 → A2 → A3 → A4 → A5 → A6 → A7 → A8 → (A1 → A2 → A3 → A4 → A5 → A6 → A7 → A8 → Prop) → Prop} (n : Nat) (Inv : Nat → A1 → A2 → A3 → A4 → A5 → A6 → A7 → A8 → Prop) (hs : ∀ (k : Nat) (a1 : A1) (a2 : A2) (a3 : A3) (a4 : A4) (a5 : A5) (a6 : A6) (a7 : A7) (a8 : A8), k < n → Inv k a1 a2 a3 a4 a5 a6 a7 a8 → ∀ K : A1 → A2 → A3 → A4 → A5 → A6 → A7 → A8 → Prop, (∀ (b1 : A1) (b2 : A2) (b3 : A3) (b4 : A4) (b5 : A5) (b6 : A6) (b7 : A7) (b8 : A8), Inv (k + 1) b1 b2 b3 b4 b5 b6 b7 b8 → K b1 b2 b3 b4 b5 b6 b7 b8) → body a1 a2 a3 a4 a5 a6 a7 a8 K) (he : ∀ (a1 : A1) (a2 : A2) (a3 : A3) (a4 : A4) (a5 : A5) (a6 : A6) (a7 : A7) (a8 : A8), Inv n a1 a2 a3 a4 a5 a6 a7 a8 → ∀ K : A1 → A2 → A3 → A4 → A5 → A6 → A7 → A8 → Prop, body a1 a2 a3 a4 a5 a6 a7 a8 K) (a1 : A1) (a2 : A2) (a3 : A3) (a4 : A4) (a5 : A5) (a6 : A6) (a7 : A7) (a8 : A8) (h0 : Inv 0 a1 a2 a3 a4 a5 a6 a7 a8) : lpx8 body a1 a2 a3 a4 a5 a6 a7 a8 := by
  have key : ∀ j k (a1 : A1) (a2 : A2) (a3 : A3) (a4 : A4) (a5 : A5) (a6 : A6) (a7 : A7) (a8 : A8), k + j = n → Inv k a1 a2 a3 a4 a5 a6 a7 a8 → lpn8 body (j + 1) a1 a2 a3 a4 a5 a6 a7 a8 := by
    intro j
    induction j with
    | zero => intro k a1 a2 a3 a4 a5 a6 a7 a8 hk h; exact he a1 a2 a3 a4 a5 a6 a7 a8 (by rw [← hk]; exact h) _
    | succ j ih => intro k a1 a2 a3 a4 a5 a6 a7 a8 hk h; exact hs k a1 a2 a3 a4 a5 a6 a7 a8 (by omega) h _ (fun b1 b2 b3 b4 b5 b6 b7 b8 hb => ih (k + 1) b1 b2 b3 b4 b5 b6 b7 b8 (by omega) hb)
  exact ⟨n + 1, key n 0 a1 a2 a3 a4 a5 a6 a7 a8 (by omega) h0⟩
theorem lpx8_t {A1 : Type} {A2 : Type} {A3 : Type} {A4 : Type} {A5 : Type} {A6 : Type} {A7 : Type} {A8 : Type} {body : A1 → A2 → A3 → A4 → A5 → A6 → A7 → A8 → (A1 → A2 → A3 → A4 → A5 → A6 → A7 → A8 → Prop) → Prop} (n : Nat) (F1 : Nat → A1) (F2 : Nat → A2) (F3 : Nat → A3) (F4 : Nat → A4) (F5 : Nat → A5) (F6 : Nat → A6) (F7 : Nat → A7) (F8 : Nat → A8) (hs : ∀ k, k < n → ∀ K : A1 → A2 → A3 → A4 → A5 → A6 → A7 → A8 → Prop, K (F1 (k + 1)) (F2 (k + 1)) (F3 (k + 1)) (F4 (k + 1)) (F5 (k + 1)) (F6 (k + 1)) (F7 (k + 1)) (F8 (k + 1)) → body (F1 k) (F2 k) (F3 k) (F4 k) (F5 k) (F6 k) (F7 k) (F8 k) K) (he : ∀ K : A1 → A2 → A3 → A4 → A5 → A6 → A7 → A8 → Prop, body (F1 n) (F2 n) (F3 n) (F4 n) (F5 n) (F6 n) (F7 n) (F8 n) K) : lpx8 body (F1 0) (F2 0) (F3 0) (F4 0) (F5 0) (F6 0) (F7 0) (F8 0) := by
  refine lpx8_i n (fun k a1 a2 a3 a4 a5 a6 a7 a8 => a1 = F1 k ∧ a2 = F2 k ∧ a3 = F3 k ∧ a4 = F4 k ∧ a5 = F5 k ∧ a6 = F6 k ∧ a7 = F7 k ∧ a8 = F8 k) ?_ ?_ (F1 0) (F2 0) (F3 0) (F4 0) (F5 0) (F6 0) (F7 0) (F8 0) (by simp)
  · rintro k _ _ _ _ _ _ _ _ hk ⟨rfl, rfl, rfl, rfl, rfl, rfl, rfl, rfl⟩ K hK
    exact hs k hk K (hK (F1 (k + 1)) (F2 (k + 1)) (F3 (k + 1)) (F4 (k + 1)) (F5 (k + 1)) (F6 (k + 1)) (F7 (k + 1)) (F8 (k + 1)) (by simp))
  · rintro _ _ _ _ _ _ _ _ ⟨rfl, rfl, rfl, rfl, rfl, rfl, rfl, rfl⟩ K
    exact he K
theorem lpx9_i {A1 : Type} {A2 : Type} {A3 : Type} {A4 : Type} {A5 : Type} {A6 : Type} {A7 : Type} {A8 : Type} {A9 : Type} {body : A1 → A2 → A3 → A4 → A5 → A6 → A7 → A8 → A9 → (A1 → A2 → A3 → A4 → A5 → A6 → A7 → A8 → A9 → Prop) → Prop} (n : Nat) (Inv : Nat → A1 → A2 → A3 → A4 → A5 → A6 → A7 → A8 → A9 → Prop) (hs : ∀ (k : Nat) (a1 : A1) (a2 : A2) (a3 : A3) (a4 : A4) (a5 : A5) (a6 : A6) (a7 : A7) (a8 : A8) (a9 : A9), k < n → Inv k a1 a2 a3 a4 a5 a6 a7 a8 a9 → ∀ K : A1 → A2 → A3 → A4 → A5 → A6 → A7 → A8 → A9 → Prop, (∀ (b1 : A1) (b2 : A2) (b3 : A3) (b4 : A4) (b5 : A5) (b6 : A6) (b7 : A7) (b8 : A8) (b9 : A9), Inv (k + 1) b1 b2 b3 b4 b5 b6 b7 b8 b9 → K b1 b2 b3 b4 b5 b6 b7 b8 b9) → body a1 a2 a3 a4 a5 a6 a7 a8 a9 K) (he : ∀ (a1 : A1) (a2 : A2) (a3 : A3) (a4 : A4) (a5 : A5) (a6 : A6) (a7 : A7) (a8 : A8) (a9 : A9), Inv n a1 a2 a3 a4 a5 a6 a7 a8 a9 → ∀ K : A1 → A2 → A3 → A4 → A5 → A6 → A7 → A8 → A9 → Prop, body a1 a2 a3 a4 a5 a6 a7 a8 a9 K) (a1 : A1) (a2 : A2) (a3 : A3) (a4 : A4) (a5 : A5) (a6 : A6) (a7 : A7) (a8 : A8) (a9 : A9) (h0 : Inv 0 a1 a2 a3 a4 a5 a6 a7 a8 a9) : lpx9 body a1 a2 a3 a4 a5 a6 a7 a8 a9 := by
  have key : ∀ j k (a1 : A1) (a2 : A2) (a3 : A3) (a4 : A4) (a5 : A5) (a6 : A6) (a7 : A7) (a8 : A8) (a9 : A9), k + j = n → Inv k a1 a2 a3 a4 a5 a6 a7 a8 a9 → lpn9 body (j + 1) a1 a2 a3 a4 a5 a6 a7 a8 a9 := by
    intro j
    induction j with
    | zero => intro k a1 a2 a3 a4 a5 a6 a7 a8 a9 hk h; exact he a1 a2 a3 a4 a5 a6 a7 a8 a9 (by rw [← hk]; exact h) _
    | succ j ih => intro k a1 a2 a3 a4 a5 a6 a7 a8 a9 hk h; exact hs k a1 a2 a3 a4 a5 a6 a7 a8 a9 (by omega) h _ (fun b1 b2 b3 b4 b5 b6 b7 b8 b9 hb => ih (k + 1) b1 b2 b3 b4 b5 b6 b7 b8 b9 (by omega) hb)
  exact ⟨n + 1, key n 0 a1 a2 a3 a4 a5 a6 a7 a8 a9 (by omega) h0⟩
theorem lpx9_t {A1 : Type} {A2 : Type} {A3 : Type} {A4 : Type} {A5 : Type} {A6 : Type} {A7 : Type} {A8 : Type} {A9 : Type} {body : A1 → A2 → A3 → A4 → A5 → A6 → A7 → A8 → A9 → (A1 → A2 → A3 → A4 → A5 → A6 → A7 → A8 → A9 → Prop) → Prop} (n : Nat) (F1 : Nat → A1) (F2 : Nat → A2) (F3 : Nat → A3) (F4 : Nat → A4) (F5 : Nat → A5) (F6 : Nat → A6) (F7 : Nat → A7) (F8 : Nat → A8) (F9 : Nat → A9) (hs : ∀ k, k < n → ∀ K : A1 → A2 → A3 → A4 → A5 → A6 → A7 → A8 → A9 → Prop, K (F1 (k + 1)) (F2 (k + 1)) (F3 (k + 1)) (F4 (k + 1)) (F5 (k + 1)) (F6 (k + 1)) (F7 (k + 1)) (F8 (k + 1)) (F9 (k + 1)) → body (F1 k) (F2 k) (F3 k) (F4 k) (F5 k) (F6 k) (F7 k) (F8 k) (F9 k) K) (he : ∀ K : A1 → A2 → A3 → A4 → A5 → A6 → A7 → A8 → A9 → Prop, body (F1 n) (F2 n) (F3 n) (F4 n) (F5 n) (F6 n) (F7 n) (F8 n) (F9 n) K) : lpx9 body (F1 0) (F2 0) (F3 0) (F4 0) (F5 0) (F6 0) (F7 0) (F8 0) (F9 0) := by
  refine lpx9_i n (fun k a1 a2 a3 a4 a5 a6 a7 a8 a9 => a1 = F1 k ∧ a2 = F2 k ∧ a3 = F3 k ∧ a4 = F4 k ∧ a5 = F5 k ∧ a6 = F6 k ∧ a7 = F7 k ∧ a8 = F8 k ∧ a9 = F9 k) ?_ ?_ (F1 0) (F2 0) (F3 0) (F4 0) (F5 0) (F6 0) (F7 0) (F8 0) (F9 0) (by simp)
  · rintro k _ _ _ _ _ _ _ _ _ hk ⟨rfl, rfl, rfl, rfl, rfl, rfl, rfl, rfl, rfl⟩ K hK
    exact hs k hk K (hK (F1 (k + 1)) (F2 (k + 1)) (F3 (k + 1)) (F4 (k + 1)) (F5 (k + 1)) (F6 (k + 1)) (F7 (k + 1)) (F8 (k + 1)) (F9 (k + 1)) (by simp))
  · rintro _ _ _ _ _ _ _ _ _ ⟨rfl, rfl, rfl, rfl, rfl, rfl, rfl, rfl, rfl⟩ K
    exact he K
