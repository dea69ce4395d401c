/-! THE REFERENCE: its constructor -/
def mK' (l : Nat) : Nat := if l = 0 then 12 else mK l
def V1m : Rows := su (su (su (fun _ _ => 0) 12 0 1) 12 1 1) 12 2 1
def V0m : Rows := va_up (va_up V1m 11 (fun i => if i < 200 then -1 else 0)) 15 (fun i => if i < 60 then -1 else 0)
/-- one more place of an array filled -/
theorem va_fill {V : Rows} {l k : Nat} {v : Int32} (h : V l = fun _ => 0) : su (va_up V l (fun i => if i < k then v else 0)) l k v = va_up V l (fun i => if i < k + 1 then v else 0) := by
  funext u j
  by_cases c : u = l
  · subst c
    rw [su_at, va_up_self, va_up_self]
    by_cases c2 : j = k
    · rw [if_pos c2, if_pos (by omega)]
    · rw [if_neg c2]
      by_cases c3 : j < k
      · rw [if_pos c3, if_pos (by omega)]
      · rw [if_neg c3, if_neg (by omega)]
  · rw [su_row c, va_up_ne _ _ c, va_up_ne _ _ c]
theorem va_fill0 {V : Rows} {l : Nat} {v : Int32} (h : V l = fun _ => 0) : va_up V l (fun i => if i < 0 then v else 0) = V := by
  funext u j
  by_cases c : u = l
  · subst c; rw [va_up_self, if_neg (Nat.not_lt_zero _), h]
  · rw [va_up_ne _ _ c]
theorem mK_lt {t : Nat} (h : mK t ≠ 0) : t < 30 := by
  rcases Nat.lt_or_ge t 30 with q | q
  · exact q
  · exfalso; apply h
    unfold mK
    split <;> first | omega | rfl
