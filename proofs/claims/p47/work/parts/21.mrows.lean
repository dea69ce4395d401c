/-! THE REFERENCE BY ROWS: row 0 its ints, row t the array of its field t -/
def mK : Nat → Nat
  | 3 => 21
  | 4 => 21
  | 5 => 22
  | 6 => 22
  | 7 => 21
  | 8 => 21
  | 10 => 22
  | 11 => 21
  | 12 => 21
  | 14 => 21
  | 15 => 21
  | 17 => 21
  | 18 => 21
  | 19 => 21
  | 20 => 21
  | 21 => 22
  | 23 => 21
  | 24 => 21
  | 27 => 21
  | 28 => 21
  | 29 => 21
  | _ => 0
def mN : Nat → Nat
  | 3 => 60
  | 4 => 60
  | 5 => 60
  | 6 => 60
  | 7 => 180
  | 8 => 2160
  | 10 => 200
  | 11 => 200
  | 12 => 3
  | 14 => 61
  | 15 => 60
  | 17 => 30
  | 18 => 30
  | 19 => 30
  | 20 => 30
  | 21 => 30
  | 23 => 60
  | 24 => 60
  | 27 => 3
  | 28 => 600
  | 29 => 30
  | _ => 0
abbrev Rows : Type := Nat → Nat → Int32
def su (σ : Rows) (t i : Nat) (v : Int32) : Rows := va_up σ t (upd (σ t) i v)
theorem su_row {σ : Rows} {t i u : Nat} {v : Int32} (h : u ≠ t) : su σ t i v u = σ u := va_up_ne _ _ h
theorem su_self {σ : Rows} {t i : Nat} {v : Int32} : su σ t i v t = upd (σ t) i v := va_up_self _ _ _
theorem su_at {σ : Rows} {t i j : Nat} {v : Int32} : su σ t i v t j = if j = i then v else σ t j := by rw [su_self]; rfl
