/-! BITS, AND WHICH NODES ARE IN A NODE -/
def bt (x : Int32) (k : Nat) : Bool := x.toBitVec.getLsbD k
theorem sh_nat : ∀ k, k < 31 → ((nI k &&& 31).toBitVec.smod 32).toNat = k := by decide +kernel
theorem bit_shr (x : Int32) {k : Nat} (hk : k < 31) : ((x >>> (nI k &&& 31)) &&& 1) = 0 ↔ bt x k = false := by
  unfold bt
  rw [← Int32.toBitVec_inj]
  show (x.toBitVec.sshiftRight ((nI k &&& 31).toBitVec.smod 32).toNat) &&& 1#32 = 0#32 ↔ _
  rw [sh_nat k hk]
  have e0 : (x.toBitVec.sshiftRight k).getLsbD 0 = x.toBitVec.getLsbD k := by
    rw [BitVec.getLsbD_sshiftRight]; simp; omega
  rw [← e0]
  generalize x.toBitVec.sshiftRight k = v
  constructor
  · intro h
    have := congrArg (fun z => z.getLsbD 0) h
    simpa using this
  · intro h
    apply BitVec.eq_of_getLsbD_eq
    intro i hi
    rw [BitVec.getLsbD_and]
    by_cases e : i = 0
    · subst e; rw [h]; simp
    · simp [BitVec.getLsbD_one, e]
theorem bit_or (x y : Int32) (k : Nat) : bt (x ||| y) k = (bt x k || bt y k) := by
  unfold bt
  rw [Int32.toBitVec_or, BitVec.getLsbD_or]
theorem bit_one : ∀ a, a < 31 → ∀ k, k < 32 → bt (1 <<< (nI a &&& 31)) k = decide (k = a) := by decide +kernel
theorem bit_zero (k : Nat) : bt 0 k = false := by unfold bt; simp
def partB (σ : Rows) (wn : Bool) (k x : Nat) : Bool :=
  if σ 17 k = 1 ∨ σ 17 k = 2 ∨ σ 17 k = 4 then decide (x = (σ 18 k).toNatClampNeg) || decide (x = (σ 19 k).toNatClampNeg)
  else if σ 17 k = 3 then decide (x = (σ 18 k).toNatClampNeg) || (wn && decide (x = (σ 19 k).toNatClampNeg))
  else if σ 17 k = 7 then decide (x = (σ 18 k).toNatClampNeg)
  else if σ 17 k = 8 then decide ((σ 18 k).toNatClampNeg ≤ x) && decide (x < (σ 18 k).toNatClampNeg + (σ 19 k).toNatClampNeg)
  else false
def insF (σ : Rows) (wn : Bool) (top : Nat) : Nat → Nat → Bool
  | 0, x => decide (x = top)
  | i + 1, x => insF σ wn top i x || (insF σ wn top i (top - i) && partB σ wn (top - i) x)
def tnB (σ : Rows) (wn : Bool) (top x : Nat) : Bool := decide (x ≤ top) && insF σ wn top (top + 1) x && decide (σ 17 x = 0)
theorem part_lt {σ : Rows} {wn : Bool} {k x : Nat} (hW : NW σ k) (hk : k < 30) (h : partB σ wn k x = true) : x < k := by
  unfold partB at h
  rcases hW with ⟨e, a, b, ha, hb1, hb8, ea, eb⟩ | ⟨e, a, b, ha, hb, ea, eb⟩ | ⟨e, a, b, c, ha, hb, e1, e2, hc1, hc2, ho, ea, eb, ec⟩ | e | ⟨e, a, ha, ea⟩ | ⟨e, a, b, ha, hb, ea, eb⟩ | ⟨e, a, b, c, hab, hb2, hb4, hc1, hcb, ea, eb, ec⟩
  · simp [e] at h
  · have hac := cl_nI (show a < 2 ^ 31 by omega)
    have hbc := cl_nI (show b < 2 ^ 31 by omega)
    rw [ea, eb, hac, hbc] at h
    rcases e with e | e | e <;> simp [e] at h <;> omega
  · have hac := cl_nI (show a < 2 ^ 31 by omega)
    have hbc := cl_nI (show b < 2 ^ 31 by omega)
    rw [ea, eb, hac, hbc] at h
    simp [e] at h; omega
  · simp [e] at h
  · simp [e] at h
  · have hac := cl_nI (show a < 2 ^ 31 by omega)
    rw [ea, hac] at h
    simp [e] at h; omega
  · have hac := cl_nI (show a < 2 ^ 31 by omega)
    have hbc := cl_nI (show b < 2 ^ 31 by omega)
    rw [ea, eb, hac, hbc] at h
    simp [e] at h; omega
section MBITS
variable {FR : gS → Prop} {m : Nat} {μ : Nat → Nat} {σ : Rows} {n : Nat} {T : Nat → Int32} {g : gS} {bf nn nr ns : Nat}
end MBITS
