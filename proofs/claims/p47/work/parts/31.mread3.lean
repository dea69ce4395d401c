/-! THE REFERENCE'S READERS: windows and costs -/
def souB (σ : Rows) (nn : Nat) (N : Nat → Bool) (f : Nat) (t : Int32) : Bool := orB (fun j => N j && !decide (fbit (σ 19 j) (nI f) = 0) && lkB σ (σ 18 j) t) nn
def winB (σ : Rows) (nn : Nat) (N : Nat → Bool) (d f s q : Nat) : Bool := souB σ nn N f (tmF σ d f (s + q)) && !(hasB (fun i => tmF σ d f (s + i)) q (tmF σ d f (s + q)))
def winV (σ : Rows) (nn : Nat) (N : Nat → Bool) (d f w s : Nat) : Nat := cnt (winB σ nn N d f s) (min (lnF σ d f) (s + w) - s)
def windowF (σ : Rows) (nn : Nat) (N : Nat → Bool) (d f w : Nat) : Int32 := (bst (fun _ => true) (fun s => nI (winV σ nn N d f w s)) (lnF σ d f)).1
def readF (σ : Rows) (n t f : Nat) : Int32 := if σ 10 t = 0 then spF σ t f n else 0
def alR (σ : Rows) (n a f : Nat) : Int32 := if σ 11 a = -1 then 0 else readF σ n (σ 11 a).toNatClampNeg f
def costT (σ : Rows) (n : Nat) (N : Nat → Bool) (j f : Nat) : Int32 := if N j = false ∨ fbit (σ 19 j) (nI f) = 0 then 0 else readF σ n (σ 18 j).toNatClampNeg f + alR σ n (σ 18 j).toNatClampNeg f
def costF (σ : Rows) (n nn : Nat) (N : Nat → Bool) : Int32 := isum (fun j => isum (fun f => costT σ n N j f) 3) nn
section MREAD3
variable {FR : gS → Prop} {m : Nat} {μ : Nat → Nat} {σ : Rows} {n : Nat} {T : Nat → Int32} {g : gS} {bf nn nr ns : Nat}
theorem tnB_term {σ : Rows} {wn : Bool} {top j : Nat} (h : tnB σ wn top j = true) : σ 17 j = 0 := by
  unfold tnB at h
  simp at h; exact h.2
end MREAD3
