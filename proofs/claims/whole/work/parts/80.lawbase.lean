/-! THE LAW'S CALLS: class and reference side by side -/
theorem nan64 : ∀ b, b < 61 → ∀ a, a < 61 → (b = 0 ∨ FP.ddiv (FP.i2d (nI a)) (FP.i2d (nI b)) &&& 9223372036854775807 ≤ 9218868437227405312) := by decide +kernel
/-- what stands when the law's loop comes round -/
def LI (r1 r2 r3 : Nat) (gc gm : gS) : Prop := ∃ A D V σ n bf nn nr ns μ T, A 0 = r1 ∧ A 73 = r3 ∧ CX A D V σ n bf nn nr ns gc ∧ MT TT r2 μ σ n T gm
/-- what the law's helper leaves behind a call -/
def PC (r1 r3 : Nat) (out : Out) (x : Int32) (g : gS) : Prop := x = out.1 ∧ CS r1 r3 out.2.2 g ∧ (out.1 = 0 → gJ g r3 0 = out.2.1.toInt64)
def PZ (r1 r3 : Nat) (out : Out) (x : Int32) (g : gS) : Prop := x = out.1 ∧ CS r1 r3 out.2.2 g ∧ (out.1 = 0 → gJ g r3 0 = if out.2.1 = 0 then 0 else 1)
def SO (σ : Rows) (out : Out) : Prop := (out.1 = 0 ∨ out = bad σ out.1) ∧ out.2.2 0 0 = out.1 ∧ out.2.2 0 1 = σ 0 1
section LAWB
variable {A : Nat → Nat} {D : Nat} {V σ : Rows} {n bf nn nr ns r1 r2 r3 : Nat} {μ : Nat → Nat} {T : Nat → Int32} {g gc gm g4 g9 : gS} {out : Out} {x3 x8 : Int32}
theorem CX.sw (h : CX A D V σ n bf nn nr ns g) (a i : Nat) (v : Int64) : CX A D V σ n bf nn nr ns (sW g a i v) := h
theorem CS.sw (h : CS r1 r3 σ g) (a i : Nat) (v : Int64) : CS r1 r3 σ (sW g a i v) := by
  obtain ⟨A, D, V, n, bf, nn, nr, ns, e1, e2, hx⟩ := h
  exact ⟨A, D, V, n, bf, nn, nr, ns, e1, e2, hx.sw a i v⟩
theorem CX.k73 (h : CX A D V σ n bf nn nr ns g) : gK g (A 73) = 23 ∧ gN g (A 73) = 1 :=
  ⟨h.1.1.K 73 23 (KL_f (by decide)) (by decide), by rw [h.1.1.N 73 23 (KL_f (by decide)) (by decide), NL_f (by decide)]; rfl⟩
theorem CS.k73 (h : CS r1 r3 σ g) : gK g r3 = 23 ∧ gN g r3 = 1 := by
  obtain ⟨A, D, V, n, bf, nn, nr, ns, e1, e2, hx⟩ := h
  subst e2; exact hx.k73
theorem gJ_sW {a i : Nat} {v : Int64} : gJ (sW g a i v) a i = v := by
  show gJ (sJ g a (vp_updL (gJ g a) i v)) a i = v
  rw [gJ_sJ_self]
  show (if i = i then v else _) = v
  rw [if_pos rfl]
theorem w_out (hcs : CS r1 r3 out.2.2 g) (e : out.1 = 0) {Q : Int32 → gS → Prop} (hQ : ∀ x g', PC r1 r3 out x g' → Q x g') : gK g r3 = 23 ∧ (vp_in 0 (gN g r3) ∧ (∀ g7, g7 = sW g r3 (Int32.toNatClampNeg 0) out.2.1.toInt64 → (Q 0 g7))) := by
  obtain ⟨k1, k2⟩ := hcs.k73
  refine ⟨k1, by rw [k2]; exact vpi (n := 0) (by decide), fun g7 e7 => ?_⟩
  subst e7
  exact hQ _ _ ⟨e.symm, hcs.sw _ _ _, fun _ => gJ_sW⟩
theorem w_outz (hcs : CS r1 r3 out.2.2 g) (e : out.1 = 0) {Q : Int32 → gS → Prop} (hQ : ∀ x g', PZ r1 r3 out x g' → Q x g') : (out.2.1 = 0 → gK g r3 = 23 ∧ (vp_in 0 (gN g r3) ∧ (∀ g7, g7 = sW g r3 (Int32.toNatClampNeg 0) 0 → (Q 0 g7)))) ∧ (¬ out.2.1 = 0 → gK g r3 = 23 ∧ (vp_in 0 (gN g r3) ∧ (∀ g7, g7 = sW g r3 (Int32.toNatClampNeg 0) 1 → (Q 0 g7)))) := by
  obtain ⟨k1, k2⟩ := hcs.k73
  refine ⟨fun c => ⟨k1, by rw [k2]; exact vpi (n := 0) (by decide), fun g7 e7 => ?_⟩, fun c => ⟨k1, by rw [k2]; exact vpi (n := 0) (by decide), fun g7 e7 => ?_⟩⟩
  · subst e7
    exact hQ _ _ ⟨e.symm, hcs.sw _ _ _, fun _ => by rw [if_pos c]; exact gJ_sW⟩
  · subst e7
    exact hQ _ _ ⟨e.symm, hcs.sw _ _ _, fun _ => by rw [if_neg c]; exact gJ_sW⟩
theorem pc_bad (hc : CX A D V σ n bf nn nr ns g) (hs : SO σ out) {c : Int32} (e : out.1 = c) (h0 : c ≠ 0) : PC (A 0) (A 73) out c g := by
  have eb : out = bad σ out.1 := hs.1.resolve_left (by rw [e]; exact h0)
  refine ⟨e.symm, ?_, fun q => absurd (by rw [← e]; exact q) h0⟩
  have : out.2.2 = tz σ out.1 := by rw [eb]; rfl
  rw [this]; exact (hc.tz _).cs
theorem pz_bad (hc : CX A D V σ n bf nn nr ns g) (hs : SO σ out) {c : Int32} (e : out.1 = c) (h0 : c ≠ 0) : PZ (A 0) (A 73) out c g := by
  obtain ⟨a, b, _⟩ := pc_bad hc hs e h0
  exact ⟨a, b, fun q => absurd (by rw [← e]; exact q) h0⟩
theorem lg_self (x : Int64) : lg_cmp x x = 0 := by
  unfold lg_cmp
  rw [if_neg (by intro h; exact absurd h (Int64.lt_irrefl)), if_pos rfl]
theorem li_of (hcs : CS r1 r3 σ gc) (hm : MT TT r2 μ σ n T gm) (hn : σ 0 1 = nI n) (h6 : n ≤ 60) : LI r1 r2 r3 gc gm := by
  obtain ⟨A, D, V, n', bf, nn, nr, ns, e1, e2, hx⟩ := hcs
  have d1 := hx.2.2.1.1.d1
  have h6' := hx.2.2.1.1.n
  have : n' = n := (nI_inj (by omega) (by omega)).mp (by rw [← d1, hn])
  subst this
  exact ⟨A, D, V, σ, n', bf, nn, nr, ns, μ, T, e1, e2, hx, hm⟩
theorem li_u (hcs : CS r1 r3 σ gc) (hm : MU TT r2 μ σ T gm) : LI r1 r2 r3 gc gm := by
  obtain ⟨A, D, V, n', bf, nn, nr, ns, e1, e2, hx⟩ := hcs
  exact ⟨A, D, V, σ, n', bf, nn, nr, ns, μ, T, e1, e2, hx, hm.mt n'⟩
theorem tl_int {k : gS → gS → Int32 → Prop} {i4 : Int32} (hp : PC r1 r3 out x3 g4) (h00 : out.2.2 0 0 = out.1) (hn : out.2.2 0 1 = nI n) (h6 : n ≤ 60) (hm : MT TT r2 μ out.2.2 n T g9) (hk : ∀ gc gm, LI r1 r2 r3 gc gm → k gc gm (i4 + 5)) : gK g9 r2 = 12 ∧ (w_X11_thrown g9 r2 (fun x11 => ((x11 = x3 → ((x3 = 0 → (gK g4 r3 = 23 ∧ (vp_in 0 (gN g4 r3) ∧ (((lg_cmp (gJ g4 r3 (Int32.toNatClampNeg 0)) ((out.2.1 : Int32).toInt64)) = 0 → (k g4 g9 (i4 + 5))) ∧ (¬ (lg_cmp (gJ g4 r3 (Int32.toNatClampNeg 0)) ((out.2.1 : Int32).toInt64)) = 0 → (False)))))) ∧ (¬ x3 = 0 → (k g4 g9 (i4 + 5))))) ∧ (¬ x11 = x3 → (False))))) := by
  obtain ⟨p1, p2, p3⟩ := hp
  have kk := hk g4 g9 (li_of p2 hm hn h6)
  obtain ⟨k1, k2⟩ := p2.k73
  unfold w_X11_thrown
  refine ⟨hm.k, hm.k, ?_⟩
  rw [hm.s (by decide) (by decide), h00, ← p1]
  refine ⟨fun _ => ⟨fun e => ⟨k1, by rw [k2]; exact vpi (n := 0) (by decide), fun _ => kk, fun c => c ?_⟩, fun _ => kk⟩, fun c => absurd rfl c⟩
  have : gJ g4 r3 (Int32.toNatClampNeg 0) = out.2.1.toInt64 := p3 (by rw [← p1]; exact e)
  rw [this]; exact lg_self _
theorem tl_boo {k : gS → gS → Int32 → Prop} {i4 : Int32} (hp : PZ r1 r3 out x3 g4) (h00 : out.2.2 0 0 = out.1) (hn : out.2.2 0 1 = nI n) (h6 : n ≤ 60) (hm : MT TT r2 μ out.2.2 n T g9) (hk : ∀ gc gm, LI r1 r2 r3 gc gm → k gc gm (i4 + 5)) : gK g9 r2 = 12 ∧ (w_X11_thrown g9 r2 (fun x11 => ((x11 = x3 → ((x3 = 0 → (gK g4 r3 = 23 ∧ (vp_in 0 (gN g4 r3) ∧ ((out.2.1 = 0 → (((lg_cmp (gJ g4 r3 (Int32.toNatClampNeg 0)) 0) = 0 → (k g4 g9 (i4 + 5))) ∧ (¬ (lg_cmp (gJ g4 r3 (Int32.toNatClampNeg 0)) 0) = 0 → (False)))) ∧ (¬ out.2.1 = 0 → (((lg_cmp (gJ g4 r3 (Int32.toNatClampNeg 0)) 1) = 0 → (k g4 g9 (i4 + 5))) ∧ (¬ (lg_cmp (gJ g4 r3 (Int32.toNatClampNeg 0)) 1) = 0 → (False)))))))) ∧ (¬ x3 = 0 → (k g4 g9 (i4 + 5))))) ∧ (¬ x11 = x3 → (False))))) := by
  obtain ⟨p1, p2, p3⟩ := hp
  have kk := hk g4 g9 (li_of p2 hm hn h6)
  obtain ⟨k1, k2⟩ := p2.k73
  unfold w_X11_thrown
  refine ⟨hm.k, hm.k, ?_⟩
  rw [hm.s (by decide) (by decide), h00, ← p1]
  refine ⟨fun _ => ⟨fun e => ⟨k1, by rw [k2]; exact vpi (n := 0) (by decide), fun c0 => ⟨fun _ => kk, fun c => c ?_⟩, fun c0 => ⟨fun _ => kk, fun c => c ?_⟩⟩, fun _ => kk⟩, fun c => absurd rfl c⟩
  · have : gJ g4 r3 (Int32.toNatClampNeg 0) = _ := p3 (by rw [← p1]; exact e)
    rw [this, if_pos c0]; exact lg_self _
  · have : gJ g4 r3 (Int32.toNatClampNeg 0) = _ := p3 (by rw [← p1]; exact e)
    rw [this, if_neg c0]; exact lg_self _
end LAWB
