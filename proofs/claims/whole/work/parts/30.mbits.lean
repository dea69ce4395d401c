/-! BITS, AND WHICH NODES ARE IN A NODE -/
def bt (x : Int32) (k : Nat) : Bool := x.toBitVec.getLsbD k
theorem sh_nat : ∀ k, k < 31 → ((nI k &&& 31).toBitVec.smod 32).toNat = k := by decide +kernel
theorem bit_shr (x : Int32) {k : Nat} (hk : k < 31) : ((x >>> (nI k &&& 31)) &&& 1) = 0 ↔ bt x k = false := by
  unfold bt
  rw [← Int32.toBitVec_inj]
  show (x.toBitVec.sshiftRight ((nI k &&& 31).toBitVec.smod 32).toNat) &&& 1#32 = 0#32 ↔ _
  rw [sh_nat k hk]
  have e0 : (x.toBitVec.sshiftRight k).getLsbD 0 = x.toBitVec.getLsbD k := by
    rw [BitVec.getLsbD_sshiftRight]; simp; omega
  rw [← e0]
  generalize x.toBitVec.sshiftRight k = v
  constructor
  · intro h
    have := congrArg (fun z => z.getLsbD 0) h
    simpa using this
  · intro h
    apply BitVec.eq_of_getLsbD_eq
    intro i hi
    rw [BitVec.getLsbD_and]
    by_cases e : i = 0
    · subst e; rw [h]; simp
    · simp [BitVec.getLsbD_one, e]
theorem bit_or (x y : Int32) (k : Nat) : bt (x ||| y) k = (bt x k || bt y k) := by
  unfold bt
  rw [Int32.toBitVec_or, BitVec.getLsbD_or]
theorem bit_one : ∀ a, a < 31 → ∀ k, k < 32 → bt (1 <<< (nI a &&& 31)) k = decide (k = a) := by decide +kernel
theorem bit_zero (k : Nat) : bt 0 k = false := by unfold bt; simp
def partB (σ : Rows) (wn : Bool) (k x : Nat) : Bool :=
  if σ 17 k = 1 ∨ σ 17 k = 2 ∨ σ 17 k = 4 then decide (x = (σ 18 k).toNatClampNeg) || decide (x = (σ 19 k).toNatClampNeg)
  else if σ 17 k = 3 then decide (x = (σ 18 k).toNatClampNeg) || (wn && decide (x = (σ 19 k).toNatClampNeg))
  else if σ 17 k = 7 then decide (x = (σ 18 k).toNatClampNeg)
  else if σ 17 k = 8 then decide ((σ 18 k).toNatClampNeg ≤ x) && decide (x < (σ 18 k).toNatClampNeg + (σ 19 k).toNatClampNeg)
  else false
def insF (σ : Rows) (wn : Bool) (top : Nat) : Nat → Nat → Bool
  | 0, x => decide (x = top)
  | i + 1, x => insF σ wn top i x || (insF σ wn top i (top - i) && partB σ wn (top - i) x)
def tnB (σ : Rows) (wn : Bool) (top x : Nat) : Bool := decide (x ≤ top) && insF σ wn top (top + 1) x && decide (σ 17 x = 0)
theorem part_lt {σ : Rows} {wn : Bool} {k x : Nat} (hW : NW σ k) (hk : k < 30) (h : partB σ wn k x = true) : x < k := by
  unfold partB at h
  rcases hW with ⟨e, a, b, ha, hb1, hb8, ea, eb⟩ | ⟨e, a, b, ha, hb, ea, eb⟩ | ⟨e, a, b, c, ha, hb, e1, e2, hc1, hc2, ho, ea, eb, ec⟩ | e | ⟨e, a, ha, ea⟩ | ⟨e, a, b, ha, hb, ea, eb⟩ | ⟨e, a, b, c, hab, hb2, hb4, hc1, hcb, ea, eb, ec⟩
  · simp [e] at h
  · have hac := cl_nI (show a < 2 ^ 31 by omega)
    have hbc := cl_nI (show b < 2 ^ 31 by omega)
    rw [ea, eb, hac, hbc] at h
    rcases e with e | e | e <;> simp [e] at h <;> omega
  · have hac := cl_nI (show a < 2 ^ 31 by omega)
    have hbc := cl_nI (show b < 2 ^ 31 by omega)
    rw [ea, eb, hac, hbc] at h
    simp [e] at h; omega
  · simp [e] at h
  · simp [e] at h
  · have hac := cl_nI (show a < 2 ^ 31 by omega)
    rw [ea, hac] at h
    simp [e] at h; omega
  · have hac := cl_nI (show a < 2 ^ 31 by omega)
    have hbc := cl_nI (show b < 2 ^ 31 by omega)
    rw [ea, eb, hac, hbc] at h
    simp [e] at h; omega
section MBITS
variable {FR : gS → Prop} {m : Nat} {μ : Nat → Nat} {σ : Rows} {n : Nat} {T : Nat → Int32} {g : gS} {bf nn nr ns : Nat}
theorem mt_termNodes (h : MT FR m μ σ n T g) (hN : NG σ nn) (hnn : nn ≤ 30) {top : Nat} (ht : top < nn) {wn : Bool} {Q : Int32 → Prop} (hQ : ∀ x, (∀ j, j < 30 → bt x j = tnB σ wn top j) → Q x) : w_X11_termNodes g m (nI top) (bI wn) Q := by
  unfold w_X11_termNodes
  refine lpx3_i (top + 1) (fun i x y z => (∀ j, j < 30 → bt x j = insF σ wn top i j) ∧ (∀ j, j < 30 → bt y j = (decide (j ≤ top) && decide (top < j + i) && insF σ wn top i j && decide (σ 17 j = 0))) ∧ z = if i ≤ top then nI (top - i) else -1) ?_ ?_ _ _ _ ⟨fun j hj => ?_, fun j hj => ?_, ?_⟩
  · rintro i x y _ hi ⟨hx, hy, rfl⟩ K hK
    rw [if_pos (show i ≤ top by omega)]
    unfold l_X11_termNodes_10
    generalize ek : top - i = k at *
    have hk : k < nn := by omega
    have hkt : k + i = top := by omega
    have z1 : nI k + (-1) = if i + 1 ≤ top then nI (top - (i + 1)) else -1 := by
      by_cases e : i + 1 ≤ top
      · rw [if_pos e, show top - (i + 1) = k - 1 by omega]
        have : nI k = nI (k - 1) + 1 := by rw [nI_1, show k - 1 + 1 = k by omega]
        rw [this, Int32.add_assoc]; exact Int32.add_zero _
      · rw [if_neg e, show k = 0 by omega]; rfl
    refine ⟨fun c => absurd c (not_lt0 (by omega)), fun _ => ⟨fun c => ?_, fun c => ?_⟩⟩
    · rw [bit_shr x (show k < 31 by omega), hx k (by omega)] at c
      unfold b_X11_termNodes_212
      rw [z1]
      refine hK _ _ _ ⟨fun j hj => ?_, fun j hj => ?_, rfl⟩
      · rw [insF, ek, c, hx j hj]; simp
      · rw [insF, ek, c, hy j hj]
        by_cases e : j = k
        · subst e; simp [c]
        · by_cases e2 : top < j + i
          · simp [e2, show top < j + (i + 1) by omega]
          · simp [e2, show ¬ top < j + (i + 1) by omega]
    · rw [bit_shr x (show k < 31 by omega), hx k (by omega), Bool.not_eq_false] at c
      have hW := hN k hk
      have pk : partB σ wn k k = false := by
        cases e : partB σ wn k k
        · rfl
        · have := part_lt hW (by omega) e; omega
      -- one step on, when what is marked are the parts
      have on : ∀ x', ¬ σ 17 k = 0 → (∀ j, j < 30 → bt x' j = (insF σ wn top i j || partB σ wn k j)) → K x' y (nI k + (-1)) := by
        intro x' hs hx'
        rw [z1]
        refine hK _ _ _ ⟨fun j hj => ?_, fun j hj => ?_, rfl⟩
        · rw [insF, ek, c, hx' j hj]; simp
        · rw [insF, ek, c, hy j hj]
          by_cases e : j = k
          · subst e; simp [hs]
          · by_cases e2 : top < j + i
            · have : partB σ wn k j = false := by
                cases e3 : partB σ wn k j
                · rfl
                · have := part_lt hW (by omega) e3; omega
              simp [e2, show top < j + (i + 1) by omega, this]
            · simp [e2, show ¬ top < j + (i + 1) by omega]
      have hk3 : k < 30 := by omega
      refine ⟨h.k, _, h.r17, h.k17, by rw [h.n17]; exact vpi hk3, ?_⟩
      rw [h.i17]; (try simp (disch := omega) only [cl_nI])
      unfold b_X11_termNodes_212
      rcases hW with ⟨e, a, b, ha, hb1, hb8, ea, eb⟩ | ⟨e, a, b, ha, hb, ea, eb⟩ | ⟨e, a, b, c1, ha, hb, e1, e2, hc1, hc2, ho, ea, eb, ec⟩ | e | ⟨e, a, ha, ea⟩ | ⟨e, a, b, ha, hb, ea, eb⟩ | ⟨e, a, b, c1, hab, hb2, hb4, hc1, hcb, ea, eb, ec⟩
      · rw [e]
        refine ⟨fun c => absurd c (by decide), fun _ => ?_, by simp⟩
        rw [z1]
        have pf : ∀ j, partB σ wn k j = false := fun j => by simp [partB, e]
        refine hK _ _ _ ⟨fun j hj => ?_, fun j hj => ?_, rfl⟩
        · rw [insF, ek, c, pf, hx j hj]; simp
        · rw [insF, ek, c, pf, bit_or, bit_one k (by omega) j (by omega), hy j hj]
          by_cases e4 : j = k
          · subst e4; simp [e, c, show j ≤ top by omega, show top < j + (i + 1) by omega]
          · by_cases e2 : top < j + i
            · simp [e2, e4, show top < j + (i + 1) by omega]
            · simp [e2, e4, show ¬ top < j + (i + 1) by omega]
      · have two : ∀ j, j < 30 → bt (x ||| (1 <<< (nI a &&& 31) ||| 1 <<< (nI b &&& 31))) j = (insF σ wn top i j || (decide (j = a) || decide (j = b))) := fun j hj => by
          rw [bit_or, bit_or, bit_one a (by omega) j (by omega), bit_one b (by omega) j (by omega), hx j hj]
        rcases e with e | e | e
        · rw [e]
          refine ⟨fun c => absurd c (by decide), fun c => absurd c (by decide), fun _ => ⟨_, h.r18, h.k18, by rw [h.n18]; exact vpi hk3, _, h.r19, h.k19, by rw [h.n19]; exact vpi hk3, ?_⟩, by simp⟩
          rw [h.i18, h.i19]; (try simp (disch := omega) only [cl_nI]); rw [ea, eb]
          refine on _ (by rw [e]; decide) (fun j hj => ?_)
          rw [two j hj]
          simp [partB, e, ea, eb, cl_nI (show a < 2 ^ 31 by omega), cl_nI (show b < 2 ^ 31 by omega)]
        · rw [e]
          refine ⟨fun c => absurd c (by decide), fun c => absurd c (by decide), fun c => absurd c (by decide), fun _ => ⟨_, h.r18, h.k18, by rw [h.n18]; exact vpi hk3, _, h.r19, h.k19, by rw [h.n19]; exact vpi hk3, ?_⟩, by simp⟩
          rw [h.i18, h.i19]; (try simp (disch := omega) only [cl_nI]); rw [ea, eb]
          refine on _ (by rw [e]; decide) (fun j hj => ?_)
          rw [two j hj]
          simp [partB, e, ea, eb, cl_nI (show a < 2 ^ 31 by omega), cl_nI (show b < 2 ^ 31 by omega)]
        · rw [e]
          refine ⟨fun c => absurd c (by decide), fun c => absurd c (by decide), fun c => absurd c (by decide), fun c => absurd c (by decide), fun _ => ⟨_, h.r18, h.k18, by rw [h.n18]; exact vpi hk3, ?_, ?_⟩, by simp⟩
          · rw [h.i18]; (try simp (disch := omega) only [cl_nI]); rw [ea]
            intro c2
            refine on _ (by rw [e]; decide) (fun j hj => ?_)
            rw [bit_or, bit_one a (by omega) j (by omega), hx j hj]
            simp [partB, e, ea, eb, cl_nI (show a < 2 ^ 31 by omega), bI_0.mp c2]
          · rw [h.i18]; (try simp (disch := omega) only [cl_nI]); rw [ea]
            intro c2
            refine ⟨_, h.r19, h.k19, by rw [h.n19]; exact vpi hk3, ?_⟩
            rw [h.i19]; (try simp (disch := omega) only [cl_nI]); rw [eb]
            refine on _ (by rw [e]; decide) (fun j hj => ?_)
            rw [bit_or, bit_or, bit_one a (by omega) j (by omega), bit_one b (by omega) j (by omega), hx j hj]
            simp [partB, e, ea, eb, cl_nI (show a < 2 ^ 31 by omega), cl_nI (show b < 2 ^ 31 by omega), bI_n0 c2, Bool.or_assoc]
      · have two : ∀ j, j < 30 → bt (x ||| (1 <<< (nI a &&& 31) ||| 1 <<< (nI b &&& 31))) j = (insF σ wn top i j || (decide (j = a) || decide (j = b))) := fun j hj => by
          rw [bit_or, bit_or, bit_one a (by omega) j (by omega), bit_one b (by omega) j (by omega), hx j hj]
        rw [e]
        refine ⟨fun c => absurd c (by decide), fun c => absurd c (by decide), fun c => absurd c (by decide), fun c => absurd c (by decide), fun c => absurd c (by decide), fun _ => ⟨_, h.r18, h.k18, by rw [h.n18]; exact vpi hk3, _, h.r19, h.k19, by rw [h.n19]; exact vpi hk3, ?_⟩, by simp⟩
        rw [h.i18, h.i19]; (try simp (disch := omega) only [cl_nI]); rw [ea, eb]
        refine on _ (by rw [e]; decide) (fun j hj => ?_)
        rw [two j hj]
        simp [partB, e, ea, eb, cl_nI (show a < 2 ^ 31 by omega), cl_nI (show b < 2 ^ 31 by omega)]
      · have : K x y (nI k + (-1)) := on _ (by rw [e]; decide) (fun j hj => by rw [hx j hj]; simp [partB, e])
        rw [e]
        refine ⟨fun c => absurd c (by decide), fun c => absurd c (by decide), fun c => absurd c (by decide), fun c => absurd c (by decide), fun c => absurd c (by decide), fun c => absurd c (by decide), fun _ => this, by simp⟩
      · have : K x y (nI k + (-1)) := on _ (by rw [e]; decide) (fun j hj => by rw [hx j hj]; simp [partB, e])
        rw [e]
        refine ⟨fun c => absurd c (by decide), fun c => absurd c (by decide), fun c => absurd c (by decide), fun c => absurd c (by decide), fun c => absurd c (by decide), fun c => absurd c (by decide), fun c => absurd c (by decide), fun _ => this, by simp⟩
      · rw [e]
        refine ⟨fun c => absurd c (by decide), fun c => absurd c (by decide), fun c => absurd c (by decide), fun c => absurd c (by decide), fun c => absurd c (by decide), fun c => absurd c (by decide), fun c => absurd c (by decide), fun c => absurd c (by decide), fun _ => ⟨_, h.r18, h.k18, by rw [h.n18]; exact vpi hk3, ?_⟩, by simp⟩
        rw [h.i18]; (try simp (disch := omega) only [cl_nI]); rw [ea]
        refine on _ (by rw [e]; decide) (fun j hj => ?_)
        rw [bit_or, bit_one a (by omega) j (by omega), hx j hj]
        simp [partB, e, ea, cl_nI (show a < 2 ^ 31 by omega)]
      · rw [e]
        refine ⟨fun c => absurd c (by decide), fun c => absurd c (by decide), fun c => absurd c (by decide), fun c => absurd c (by decide), fun c => absurd c (by decide), fun c => absurd c (by decide), fun c => absurd c (by decide), fun c => absurd c (by decide), fun c => absurd c (by decide), fun _ => ⟨_, h.r18, h.k18, by rw [h.n18]; exact vpi hk3, ?_⟩⟩
        rw [h.i18]; (try simp (disch := omega) only [cl_nI]); rw [ea]
        refine lpx2_i b (fun q x' z => (∀ j, j < 30 → bt x' j = (insF σ wn top i j || (decide (a ≤ j) && decide (j < a + q)))) ∧ z = nI (a + q)) ?_ ?_ x (nI a) ⟨fun j hj => ?_, rfl⟩
        · rintro q x' _ hq ⟨hx', rfl⟩ K2 hK2
          unfold l_X11_termNodes_176
          refine ⟨h.k, _, h.r18, h.k18, by rw [h.n18]; exact vpi hk3, _, h.r19, h.k19, by rw [h.n19]; exact vpi hk3, ?_⟩
          rw [h.i18, h.i19]; (try simp (disch := omega) only [cl_nI]); rw [ea, eb, nI_add]
          refine ⟨fun c => absurd c (nI_ge (by omega) (by omega)), fun _ => ?_⟩
          rw [nI_1]
          refine hK2 _ _ ⟨fun j hj => ?_, rfl⟩
          rw [bit_or, bit_one (a + q) (by omega) j (by omega), hx' j hj]
          by_cases e5 : j = a + q
          · subst e5; simp
          · by_cases e6 : j < a + q
            · simp [e5, e6, show j < a + (q + 1) by omega]
            · simp [e5, e6, show ¬ j < a + (q + 1) by omega]
        · rintro x' _ ⟨hx', rfl⟩ K2
          unfold l_X11_termNodes_176 b_X11_termNodes_212
          refine ⟨h.k, _, h.r18, h.k18, by rw [h.n18]; exact vpi hk3, _, h.r19, h.k19, by rw [h.n19]; exact vpi hk3, ?_⟩
          rw [h.i18, h.i19]; (try simp (disch := omega) only [cl_nI]); rw [ea, eb, nI_add]
          refine ⟨fun _ => on _ (by rw [e]; decide) (fun j hj => ?_), fun c => absurd (nI_le (Nat.le_refl _) (by omega)) c⟩
          rw [hx' j hj]
          simp [partB, e, ea, eb, cl_nI (show a < 2 ^ 31 by omega), cl_nI (show b < 2 ^ 31 by omega)]
        · rw [hx j hj]
          have : (decide (a ≤ j) && decide (j < a + 0)) = false := by simp
          rw [this]; simp
  · rintro x y _ ⟨hx, hy, rfl⟩ K
    rw [if_neg (by omega)]
    unfold l_X11_termNodes_10
    refine ⟨fun _ => hQ y (fun j hj => ?_), fun c => absurd (by decide) c⟩
    rw [hy j hj]
    unfold tnB
    by_cases e : j ≤ top
    · simp [e, show top < j + (top + 1) by omega]
    · simp [e]
  · rw [bit_one top (by omega) j (by omega)]; rfl
  · rw [bit_zero]
    by_cases e : j ≤ top
    · simp [show ¬ top < j by omega]
    · simp [e]
  · rw [if_pos (Nat.zero_le _)]; rfl
end MBITS
