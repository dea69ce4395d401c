/-! THE REFERENCE'S SCORES -/
def bI (b : Bool) : Int32 := if b = true then 1 else 0
theorem bI_t : bI true = 1 := rfl
theorem bI_f : bI false = 0 := rfl
theorem bI_or : ∀ x y : Bool, bI x ||| bI y = bI (x || y) := by decide
theorem bI_0 {b : Bool} : bI b = 0 ↔ b = false := by cases b <;> simp [bI]
theorem bI_01 : ∀ b : Bool, bI b = 0 ∨ bI b = 1 := by decide
def orB (p : Nat → Bool) : Nat → Bool
  | 0 => false
  | k + 1 => orB p k || p k
theorem orB_iff {p : Nat → Bool} : ∀ {n : Nat}, orB p n = true ↔ ∃ k, k < n ∧ p k = true
  | 0 => by simp [orB]
  | n + 1 => by
    rw [orB, Bool.or_eq_true, orB_iff]
    constructor
    · rintro (⟨k, hk, e⟩ | e)
      · exact ⟨k, by omega, e⟩
      · exact ⟨n, by omega, e⟩
    · rintro ⟨k, hk, e⟩
      rcases Nat.lt_or_ge k n with h | h
      · exact Or.inl ⟨k, h, e⟩
      · have : k = n := by omega
        subst this; exact Or.inr e
def leastF (x : Int32) : Int32 := if x < 1000000 then x else 1000000
def lkB (σ : Rows) (a t : Int32) : Bool := decide (σ 10 t.toNatClampNeg = 0 ∧ (a = t ∨ σ 11 a.toNatClampNeg = t))
def ctN (σ : Rows) (d f t : Nat) : Nat := if σ 10 t = 0 then cnt (fun k => decide (tmF σ d f k = nI t)) (lnF σ d f) else 0
theorem ctF_eq {σ : Rows} {d f t : Nat} (ht : t < 200) : ctF σ d f (nI t) = nI (ctN σ d f t) := by
  unfold ctF ctN
  rw [cl_nI (by omega)]
  split
  · rw [← isum_cnt]; exact isum_congr (fun k _ => by simp)
  · rfl
theorem ctN_le {σ : Rows} {d f t : Nat} : ctN σ d f t ≤ lnF σ d f := by
  unfold ctN; split
  · exact cnt_le _ _
  · omega
def tasteF (σ : Rows) (n d f t : Nat) : Int32 :=
  if ctF σ d f (nI t) = 0 then 0 else rareF σ n t f * ctF σ d f (nI t) * 20 / (10 * ctF σ d f (nI t) + 3 + 9 * σ 7 (d * 3 + f) * lyF σ n / leF σ f n) * σ 12 f
def fbit (b f : Int32) : Int32 := (b >>> (f &&& 31)) &&& 1
def alT (σ : Rows) (n d f a : Nat) : Int32 := if σ 11 a = -1 then 0 else tasteF σ n d f (σ 11 a).toNatClampNeg
def tsIs (σ : Rows) (d : Nat) (a b : Int32) : Bool := orB (fun f => !decide (fbit b (nI f) = 0) && orB (fun k => lkB σ a (tmF σ d f k)) (lnF σ d f)) 3
def tsSum (σ : Rows) (n d a : Nat) (b : Int32) : Nat → Int32 := isum (fun f => if fbit b (nI f) = 0 then 0 else tasteF σ n d f a + alT σ n d f a)
def termF (σ : Rows) (n d a : Nat) (b : Int32) : Int32 := if tsIs σ d (nI a) b = false then -1 else leastF (tsSum σ n d a b 3)
def nearB (c ord : Int32) (p q : Nat) : Bool := decide (p ≠ q ∧ ¬ c < nI (if p ≤ q then q - p else p - q) ∧ (ord = 0 ∨ p < q))
def nearIn (σ : Rows) (d f : Nat) (a b c ord : Int32) : Bool := orB (fun p => orB (fun q => nearB c ord p q && (lkB σ a (tmF σ d f p) && lkB σ b (tmF σ d f q))) (lnF σ d f)) (lnF σ d f)
def nearF (σ : Rows) (d : Nat) (a b fa fb c ord : Int32) : Nat → Int32 := isum (fun f => if fbit fa (nI f) = 0 ∨ fbit fb (nI f) = 0 then 0 else bI (nearIn σ d f a b c ord))
def mostSum (T : Nat → Int32) (a : Nat) : Nat → Int32 := isum (fun k => if 0 ≤ T (a + k) then T (a + k) else 0)
def mostCnt (T : Nat → Int32) (a : Nat) : Nat → Nat := cnt (fun k => decide (0 ≤ T (a + k)))
/-- what holds of a node -/
def NW (σ : Rows) (j : Nat) : Prop :=
  (σ 17 j = 0 ∧ ∃ a b, a < 200 ∧ 1 ≤ b ∧ b < 8 ∧ σ 18 j = nI a ∧ σ 19 j = nI b) ∨
  ((σ 17 j = 1 ∨ σ 17 j = 2 ∨ σ 17 j = 3) ∧ ∃ a b, a < j ∧ b < j ∧ σ 18 j = nI a ∧ σ 19 j = nI b) ∨
  (σ 17 j = 4 ∧ ∃ a b c, a < j ∧ b < j ∧ σ 17 a = 0 ∧ σ 17 b = 0 ∧ 1 ≤ c ∧ c ≤ 10 ∧ (σ 21 j = 0 ∨ σ 21 j = 1) ∧ σ 18 j = nI a ∧ σ 19 j = nI b ∧ σ 20 j = nI c) ∨
  σ 17 j = 5 ∨
  (σ 17 j = 6 ∧ ∃ a, a < 256 ∧ σ 18 j = nI a) ∨
  (σ 17 j = 7 ∧ ∃ a b, a < j ∧ b ≤ 500 ∧ σ 18 j = nI a ∧ σ 19 j = nI b) ∨
  (σ 17 j = 8 ∧ ∃ a b c, a + b ≤ j ∧ 2 ≤ b ∧ b ≤ 4 ∧ 1 ≤ c ∧ c ≤ b ∧ σ 18 j = nI a ∧ σ 19 j = nI b ∧ σ 20 j = nI c)
def scoreF (σ : Rows) (n : Nat) (T : Nat → Int32) (j d : Nat) : Int32 :=
  let a := (σ 18 j).toNatClampNeg
  let b := (σ 19 j).toNatClampNeg
  if σ 17 j = 0 then termF σ n d a (σ 19 j)
  else if σ 17 j = 1 then (if T a < 0 ∨ T b < 0 then -1 else leastF (T a + T b))
  else if σ 17 j = 2 then (if T a < 0 then T b else if T b < 0 then T a else leastF (T a + T b))
  else if σ 17 j = 3 then (if T b < 0 then T a else -1)
  else if σ 17 j = 4 then (if nearF σ d (σ 18 a) (σ 18 b) (σ 19 a) (σ 19 b) (σ 20 j) (σ 21 j) 3 = 0 then -1 else leastF (T a + T b + 100 * nearF σ d (σ 18 a) (σ 18 b) (σ 19 a) (σ 19 b) (σ 20 j) (σ 21 j) 3))
  else if σ 17 j = 5 then (if σ 3 d < σ 18 j ∨ σ 19 j < σ 3 d then -1 else 0)
  else if σ 17 j = 6 then (if fbit (σ 18 j) (σ 4 d) = 0 then -1 else 0)
  else if σ 17 j = 7 then (if T a < 0 then -1 else leastF (T a * σ 19 j / 100))
  else (if nI (mostCnt T a b) < σ 20 j then -1 else leastF (mostSum T a b))
section MSCORE
variable {FR : gS → Prop} {m : Nat} {μ : Nat → Nat} {σ : Rows} {n : Nat} {T : Nat → Int32} {g : gS} {bf nn nr ns : Nat}
end MSCORE
