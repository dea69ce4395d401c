/-! THE REFERENCE'S DIGEST -/
def lf (f : Nat → Int64 → Int64) (x : Int64) : Nat → Int64
  | 0 => x
  | k + 1 => f k (lf f x k)
def dg1 (σ : Rows) (n : Nat) : Int64 := lf (fun k d => d * 31 + (stF σ k).toInt64) (80879 + (nI n).toInt64) n
def dg2 (σ : Rows) (n ns : Nat) : Int64 := lf (fun s d => (d * 31 + (σ 14 s).toInt64) * 31 + (nI (sizeF σ n (nI s))).toInt64) (dg1 σ n * 31 + (nI ns).toInt64) ns
def dgJ (σ : Rows) (n nn j : Nat) (d : Int64) : Int64 := lf (fun k d => d * 31 + (scoreNowF σ n k j).toInt64) ((d * 31 + (nI (foundF σ n j n)).toInt64) * 31 + (costF σ n nn (tnB σ true j)).toInt64) n
def dg3 (σ : Rows) (n nn ns : Nat) : Int64 := lf (dgJ σ n nn) (dg2 σ n ns * 31 + (nI nn).toInt64) nn
def dg4 (σ : Rows) (n nn nr ns : Nat) : Int64 := lf (fun p d => (d * 31 + (σ 23 p).toInt64) * 31 + (σ 24 p).toInt64) (dg3 σ n nn ns * 31 + (nI nr).toInt64) nr
def dg5 (σ : Rows) (n nn nr ns : Nat) : Int64 := lf (fun k d => d * 31 + (nI (kindF σ nr (nI k))).toInt64) (dg4 σ n nn nr ns) 8
def dgF (σ : Rows) (n nn nr ns : Nat) : Int64 := lf (fun k d => d * 31 + (likeF σ n k).toInt64) (dg5 σ n nn nr ns) n
section MDIGEST
variable {FR FR' : gS → Prop} {m : Nat} {μ : Nat → Nat} {σ : Rows} {n : Nat} {T : Nat → Int32} {g g' : gS} {bf nn nr ns : Nat}
end MDIGEST
