/-! THE SHELF: its cells by labels; arrays that grow; draws -/
def SKd (ns l : Nat) : Nat :=
  if l = 0 then 12 else if l = 1 then 28 else if l = 2 ∨ l = 3 ∨ l = 5 ∨ l = 8 then 21 else if l = 4 then 22 else if l = 6 ∨ l = 7 then 24 else if 10 ≤ l ∧ l < 50 then 24 else if 60 ≤ l ∧ l < 180 then 21 else if 200 ≤ l ∧ l < 200 + ns then 21 else 0
def SR (A : Nat → Nat) (ns : Nat) (g : gS) : Prop := (∀ l, SKd ns l ≠ 0 → gK g (A l) = SKd ns l) ∧ ∀ l u, SKd ns l ≠ 0 → SKd ns u ≠ 0 → A l = A u → l = u
def SL (A : Nat → Nat) (ns mA b : Nat) (g : gS) : Prop :=
  (gR g (A 0) 0 = some mA ∧ gR g (A 0) 1 = some b ∧ gR g (A 0) 4 = some (A 1) ∧ gR g (A 0) 5 = some (A 2) ∧ gR g (A 0) 6 = some (A 3) ∧ gR g (A 0) 7 = some (A 4) ∧ gR g (A 0) 8 = some (A 5) ∧ gR g (A 0) 12 = some (A 6) ∧ gR g (A 0) 14 = some (A 7)) ∧
  (∀ d, d < 40 → gR g (A 1) d = some (A (10 + d))) ∧ (∀ d f, d < 40 → f < 3 → gR g (A (10 + d)) f = some (A (60 + 3 * d + f))) ∧ ∀ k, k < ns → gR g (A 6) k = some (A (200 + k))
def SN (A : Nat → Nat) (ns : Nat) (g : gS) : Prop :=
  (gN g (A 1) = 40 ∧ gN g (A 2) = 40 ∧ gN g (A 3) = 40 ∧ gN g (A 4) = 40 ∧ gN g (A 5) = 40 ∧ gN g (A 6) = ns ∧ gN g (A 7) = 30) ∧ ∀ d, d < 40 → gN g (A (10 + d)) = 3
/-- a row: a number, and then documents -/
def isL (g : gS) (y : Nat) (t : Int32) (n m : Nat) (P : Nat → Bool) : Prop :=
  gK g y = 21 ∧ gN g y = 1 + m ∧ gI g y 0 = t ∧ ∀ d, d < n → orB (fun i => decide (gI g y (1 + i) = nI d)) m = P d
def SV (A : Nat → Nat) (vm : Nat) (σ : Rows) (n ns nn dr : Nat) (wh : Nat → Int32) (g : gS) : Prop :=
  (gI g (A 0) 2 = nI dr ∧ gI g (A 0) 3 = nI n ∧ gI g (A 0) 13 = nI nn) ∧ (∀ d, d < n → gI g (A 2) d = σ 3 d) ∧ (∀ d, d < 40 → gI g (A 4) d = σ 5 d) ∧ (∀ d, d < 40 → gI g (A 5) d = wh d) ∧
  (∀ d f, vm ≤ d → d < 40 → f < 3 → gN g (A (60 + 3 * d + f)) = 0) ∧ ∀ k, k < ns → isL g (A (200 + k)) (σ 14 k) 40 (sizeF σ n (nI k)) (fun d => decide (σ 15 d = nI k))
def SA (A : Nat → Nat) (mA b vm : Nat) (U : Nat × (Nat → Int32)) (σ : Rows) (n ns nn dr : Nat) (wh : Nat → Int32) (g : gS) : Prop := SR A ns g ∧ SL A ns mA b g ∧ SN A ns g ∧ SV A vm σ n ns nn dr wh g ∧ n ≤ 40 ∧ ns ≤ 60 ∧ dr < 2 ^ 24 ∧ gN g (A 8) = U.1 ∧ gI g (A 8) = U.2
/-- what the shelf remembers of where a document is -/
def whF (σ : Rows) (bf d : Nat) : Int32 := if bf ≤ d then 0 else if σ 6 d = 0 then 2 else 1
/-- all cells but one are as they were -/
def Kp (g g' : gS) (q : Nat) : Prop := ∀ a, a ≠ q → gK g' a = gK g a ∧ gN g' a = gN g a ∧ gI g' a = gI g a ∧ gR g' a = gR g a
section SHELF
variable {A : Nat → Nat} {U : Nat × (Nat → Int32)} {mA b vm : Nat} {σ σ' : Rows} {n bf ns nn dr : Nat} {wh : Nat → Int32} {g g' g2 m0 : gS} {q : Nat}
theorem Kp.rf : Kp g g q := fun _ _ => ⟨rfl, rfl, rfl, rfl⟩
theorem Kp.trans (h1 : Kp g g' q) (h2 : Kp g' g2 q) : Kp g g2 q := fun a ha => ⟨(h2 a ha).1.trans (h1 a ha).1, (h2 a ha).2.1.trans (h1 a ha).2.1, (h2 a ha).2.2.1.trans (h1 a ha).2.2.1, (h2 a ha).2.2.2.trans (h1 a ha).2.2.2⟩
theorem Kp.new {k m : Nat} : Kp g (sNew g q k m) q := fun _ ha => ⟨gK_new_ne ha, gN_new_ne ha, gI_new_ne ha, gR_new_ne ha⟩
theorem Kp.sI {f : Nat → Int32} : Kp g (sI g q f) q := fun _ ha => ⟨rfl, rfl, gI_sI_ne ha, rfl⟩
theorem Kp.sU {k : Nat} {v : Int32} : Kp g (sU g q k v) q := fun _ ha => ⟨rfl, rfl, gI_sI_ne ha, rfl⟩
theorem Kp.sR {f : Nat → Option Nat} : Kp g (sR g q f) q := fun _ ha => ⟨rfl, rfl, rfl, gR_sR_ne ha⟩
theorem Kp.sV {k : Nat} {v : Option Nat} : Kp g (sV g q k v) q := fun _ ha => ⟨rfl, rfl, rfl, gR_sR_ne ha⟩
theorem gI_sU {k i : Nat} {v : Int32} : gI (sU g q k v) q i = if i = k then v else gI g q i := by
  show gI (sI g q (upd (gI g q) k v)) q i = _
  rw [gI_sI_self]; rfl
theorem gR_sVs {k i : Nat} {v : Option Nat} : gR (sV g q k v) q i = if i = k then v else gR g q i := by
  show gR (sR g q (va_up (gR g q) k v)) q i = _
  rw [gR_sR_self]
  by_cases e : i = k
  · subst e; rw [va_up_self, if_pos rfl]
  · rw [va_up_ne _ _ e, if_neg e]
theorem SR.ne (h : SR A ns g) {l u : Nat} (hl : SKd ns l ≠ 0) (hu : SKd ns u ≠ 0) (e : l ≠ u) : A l ≠ A u := fun q => e (h.2 l u hl hu q)
theorem SR.new (h : SR A ns g) (h0 : gK g q = 0) {l : Nat} (hl : SKd ns l ≠ 0) : A l ≠ q := fun e => hl (by rw [← h.1 l hl, e]; exact h0)
theorem k1 {l : Nat} (h : l ≤ 8) : SKd ns l ≠ 0 := by
  rcases (show l = 0 ∨ l = 1 ∨ l = 2 ∨ l = 3 ∨ l = 4 ∨ l = 5 ∨ l = 6 ∨ l = 7 ∨ l = 8 by omega) with e | e | e | e | e | e | e | e | e <;> subst e <;> simp [SKd]
theorem k10 {d : Nat} (h : d < 40) : SKd ns (10 + d) = 24 := by
  unfold SKd
  rw [if_neg (by omega), if_neg (by omega), if_neg (by omega), if_neg (by omega), if_neg (by omega), if_pos (by omega)]
theorem k60 {d f : Nat} (h : d < 40) (hf : f < 3) : SKd ns (60 + 3 * d + f) = 21 := by
  unfold SKd
  rw [if_neg (by omega), if_neg (by omega), if_neg (by omega), if_neg (by omega), if_neg (by omega), if_neg (by omega), if_pos (by omega)]
theorem k200 {k : Nat} (h : k < ns) : SKd ns (200 + k) = 21 := by
  unfold SKd
  rw [if_neg (by omega), if_neg (by omega), if_neg (by omega), if_neg (by omega), if_neg (by omega), if_neg (by omega), if_neg (by omega), if_pos (by omega)]
theorem kn10 {d : Nat} (h : d < 40) : SKd ns (10 + d) ≠ 0 := by rw [k10 h]; decide
theorem kn60 {d f : Nat} (h : d < 40) (hf : f < 3) : SKd ns (60 + 3 * d + f) ≠ 0 := by rw [k60 h hf]; decide
theorem kn200 {k : Nat} (h : k < ns) : SKd ns (200 + k) ≠ 0 := by rw [k200 h]; decide
/-- a cell that is none of the shelf's may be made and written -/
theorem SA.keep (h : SA A mA b vm U σ n ns nn dr wh g) (hk : Kp g g' q) (hq : ∀ l, SKd ns l ≠ 0 → A l ≠ q) : SA A mA b vm U σ n ns nn dr wh g' := by
  obtain ⟨⟨r1, r2⟩, ⟨⟨l0, l1, l4, l5, l6, l7, l8, l12, l14⟩, lf, lr, ls⟩, ⟨⟨n1, n2, n3, n4, n5, n6, n7⟩, nr⟩, ⟨⟨v2, v3, v13⟩, vd, vg, vw, vf, vs⟩, hb1, hb2, hb3, u1, u2⟩ := h
  have K := fun l hl => (hk (A l) (hq l hl)).1
  have N := fun l hl => (hk (A l) (hq l hl)).2.1
  have I := fun l hl => (hk (A l) (hq l hl)).2.2.1
  have R := fun l hl => (hk (A l) (hq l hl)).2.2.2
  have q0 : SKd ns 0 ≠ 0 := k1 (by decide)
  have q1 : SKd ns 1 ≠ 0 := k1 (by decide)
  have q2 : SKd ns 2 ≠ 0 := k1 (by decide)
  have q3 : SKd ns 3 ≠ 0 := k1 (by decide)
  have q4 : SKd ns 4 ≠ 0 := k1 (by decide)
  have q5 : SKd ns 5 ≠ 0 := k1 (by decide)
  have q6 : SKd ns 6 ≠ 0 := k1 (by decide)
  have q7 : SKd ns 7 ≠ 0 := k1 (by decide)
  refine ⟨⟨fun l hl => (K l hl).trans (r1 l hl), r2⟩, ⟨?_, fun d hd => by rw [R 1 q1]; exact lf d hd, fun d f hd hf => by rw [R _ (kn10 hd)]; exact lr d f hd hf, fun k hk => by rw [R 6 q6]; exact ls k hk⟩, ⟨?_, fun d hd => by rw [N _ (kn10 hd)]; exact nr d hd⟩, ⟨?_, fun d hd => by rw [I 2 q2]; exact vd d hd, fun d hd => by rw [I 4 q4]; exact vg d hd, fun d hd => by rw [I 5 q5]; exact vw d hd, fun d f h1 hd hf => by rw [N _ (kn60 hd hf)]; exact vf d f h1 hd hf, fun k hk => ?_⟩, hb1, hb2, hb3, by rw [N 8 (k1 (by decide))]; exact u1, by rw [I 8 (k1 (by decide))]; exact u2⟩
  · rw [R 0 q0]; exact ⟨l0, l1, l4, l5, l6, l7, l8, l12, l14⟩
  · rw [N 1 q1, N 2 q2, N 3 q3, N 4 q4, N 5 q5, N 6 q6, N 7 q7]; exact ⟨n1, n2, n3, n4, n5, n6, n7⟩
  · rw [I 0 q0]; exact ⟨v2, v3, v13⟩
  · have := vs k hk
    unfold isL at this ⊢
    rw [K _ (kn200 hk), N _ (kn200 hk), I _ (kn200 hk)]
    exact this
/-- ints of one's own cells written -/
theorem SA.draws (h : SA A mA b vm U σ n ns nn dr wh g) {dr' : Nat} (hd : dr' < 2 ^ 24) : SA A mA b vm U σ n ns nn dr' wh (sU g (A 0) 2 (nI dr')) := by
  obtain ⟨r, l, nn', ⟨⟨v2, v3, v13⟩, vd, vg, vw, vf, vs⟩, hb1, hb2, hb3, u1, u2⟩ := h
  have q0 : SKd ns 0 ≠ 0 := k1 (by decide)
  have I := fun u (hu : SKd ns u ≠ 0) (e : u ≠ 0) => (Kp.sU (g := g) (q := A 0) (k := 2) (v := nI dr') (A u) (r.ne hu q0 e)).2.2.1
  refine ⟨r, l, nn', ⟨⟨?_, ?_, ?_⟩, fun d hd => by rw [I 2 (k1 (by decide)) (by decide)]; exact vd d hd, fun d hd => by rw [I 4 (k1 (by decide)) (by decide)]; exact vg d hd, fun d hd => by rw [I 5 (k1 (by decide)) (by decide)]; exact vw d hd, vf, fun k hk => ?_⟩, hb1, hb2, hd, u1, by rw [I 8 (k1 (by decide)) (by decide)]; exact u2⟩
  · rw [gI_sU, if_pos rfl]
  · rw [gI_sU, if_neg (by decide)]; exact v3
  · rw [gI_sU, if_neg (by decide)]; exact v13
  · have := vs k hk
    unfold isL at this ⊢
    rw [I _ (kn200 hk) (by omega)]
    exact this
theorem SA.nodes (h : SA A mA b vm U σ n ns nn dr wh g) {nn' : Nat} : SA A mA b vm U σ n ns nn' dr wh (sU g (A 0) 13 (nI nn')) := by
  obtain ⟨r, l, nnl, ⟨⟨v2, v3, v13⟩, vd, vg, vw, vf, vs⟩, hb1, hb2, hb3, u1, u2⟩ := h
  have q0 : SKd ns 0 ≠ 0 := k1 (by decide)
  have I := fun u (hu : SKd ns u ≠ 0) (e : u ≠ 0) => (Kp.sU (g := g) (q := A 0) (k := 13) (v := nI nn') (A u) (r.ne hu q0 e)).2.2.1
  refine ⟨r, l, nnl, ⟨⟨?_, ?_, ?_⟩, fun d hd => by rw [I 2 (k1 (by decide)) (by decide)]; exact vd d hd, fun d hd => by rw [I 4 (k1 (by decide)) (by decide)]; exact vg d hd, fun d hd => by rw [I 5 (k1 (by decide)) (by decide)]; exact vw d hd, vf, fun k hk => ?_⟩, hb1, hb2, hb3, u1, by rw [I 8 (k1 (by decide)) (by decide)]; exact u2⟩
  · rw [gI_sU, if_neg (by decide)]; exact v2
  · rw [gI_sU, if_neg (by decide)]; exact v3
  · rw [gI_sU, if_pos rfl]
  · have := vs k hk
    unfold isL at this ⊢
    rw [I _ (kn200 hk) (by omega)]
    exact this
theorem SA.where' (h : SA A mA b vm U σ n ns nn dr wh g) {d : Nat} {v : Int32} : SA A mA b vm U σ n ns nn dr (fun e => if e = d then v else wh e) (sU g (A 5) d v) := by
  obtain ⟨r, l, nnl, ⟨v0, vd, vg, vw, vf, vs⟩, hb1, hb2, hb3, u1, u2⟩ := h
  have q5 : SKd ns 5 ≠ 0 := k1 (by decide)
  have I := fun u (hu : SKd ns u ≠ 0) (e : u ≠ 5) => (Kp.sU (g := g) (q := A 5) (k := d) (v := v) (A u) (r.ne hu q5 e)).2.2.1
  refine ⟨r, l, nnl, ⟨by rw [I 0 (k1 (by decide)) (by decide)]; exact v0, fun d hd => by rw [I 2 (k1 (by decide)) (by decide)]; exact vd d hd, fun d hd => by rw [I 4 (k1 (by decide)) (by decide)]; exact vg d hd, fun e he => ?_, vf, fun k hk => ?_⟩, hb1, hb2, hb3, u1, by rw [I 8 (k1 (by decide)) (by decide)]; exact u2⟩
  · rw [gI_sU]
    show (if e = d then v else gI g (A 5) e) = if e = d then v else wh e
    by_cases c : e = d
    · rw [if_pos c, if_pos c]
    · rw [if_neg c, if_neg c]; exact vw e he
  · have := vs k hk
    unfold isL at this ⊢
    rw [I _ (kn200 hk) (by omega)]
    exact this
/-- the row that stands by -/
theorem SA.own8 (h : SA A mA b vm U σ n ns nn dr wh g) {d : Nat} {v : Int32} : SA A mA b vm (U.1, fun e => if e = d then v else U.2 e) σ n ns nn dr wh (sU g (A 8) d v) := by
  obtain ⟨r, l, nnl, ⟨v0, vd, vg, vw, vf, vs⟩, hb1, hb2, hb3, u1, u2⟩ := h
  have q8 : SKd ns 8 ≠ 0 := k1 (by decide)
  have I := fun u (hu : SKd ns u ≠ 0) (e : u ≠ 8) => (Kp.sU (g := g) (q := A 8) (k := d) (v := v) (A u) (r.ne hu q8 e)).2.2.1
  refine ⟨r, l, nnl, ⟨by rw [I 0 (k1 (by decide)) (by decide)]; exact v0, fun d hd => by rw [I 2 (k1 (by decide)) (by decide)]; exact vd d hd, fun d hd => by rw [I 4 (k1 (by decide)) (by decide)]; exact vg d hd, fun d hd => by rw [I 5 (k1 (by decide)) (by decide)]; exact vw d hd, vf, fun k hk => ?_⟩, hb1, hb2, hb3, u1, ?_⟩
  · have := vs k hk
    unfold isL at this ⊢
    rw [I _ (kn200 hk) (by omega)]
    exact this
  · funext e
    rw [gI_sU, u2]
theorem SA.re8 (h : SA A mA b vm U σ n ns nn dr wh g) (hq : ∀ l, SKd ns l ≠ 0 → A l ≠ q) (kq : gK g q = 21) : SA (fun l => if l = 8 then q else A l) mA b vm (gN g q, gI g q) σ n ns nn dr wh g := by
  obtain ⟨⟨r1, r2⟩, ⟨l0, lf, lr, ls⟩, ⟨n0, nr⟩, ⟨v0, vd, vg, vw, vf, vs⟩, hb1, hb2, hb3, u1, u2⟩ := h
  have e : ∀ l, l ≠ 8 → (if l = 8 then q else A l) = A l := fun l hl => if_neg hl
  refine ⟨⟨fun l hl => ?_, fun l u hl hu z => ?_⟩, ⟨l0, fun d hd => ?_, fun d f hd hf => ?_, fun k hk => ?_⟩, ⟨n0, fun d hd => ?_⟩, ⟨v0, vd, vg, vw, fun d f h1 hd hf => ?_, fun k hk => ?_⟩, hb1, hb2, hb3, rfl, rfl⟩
  · show gK g (if l = 8 then q else A l) = _
    by_cases c : l = 8
    · subst c; rw [if_pos rfl]; exact kq
    · rw [if_neg c]; exact r1 l hl
  · have z : (if l = 8 then q else A l) = (if u = 8 then q else A u) := z
    by_cases c : l = 8 <;> by_cases c2 : u = 8
    · rw [c, c2]
    · rw [if_pos c, if_neg c2] at z; exact absurd z.symm (hq u hu)
    · rw [if_neg c, if_pos c2] at z; exact absurd z (hq l hl)
    · rw [if_neg c, if_neg c2] at z; exact r2 l u hl hu z
  · show gR g (A 1) d = some (if 10 + d = 8 then q else A (10 + d))
    rw [if_neg (by omega)]; exact lf d hd
  · show gR g (if 10 + d = 8 then q else A (10 + d)) f = some (if 60 + 3 * d + f = 8 then q else A (60 + 3 * d + f))
    rw [if_neg (by omega), if_neg (by omega)]; exact lr d f hd hf
  · show gR g (A 6) k = some (if 200 + k = 8 then q else A (200 + k))
    rw [if_neg (by omega)]; exact ls k hk
  · show gN g (if 10 + d = 8 then q else A (10 + d)) = 3
    rw [if_neg (by omega)]; exact nr d hd
  · show gN g (if 60 + 3 * d + f = 8 then q else A (60 + 3 * d + f)) = 0
    rw [if_neg (by omega)]; exact vf d f h1 hd hf
  · have := vs k hk
    show isL g (if 200 + k = 8 then q else A (200 + k)) _ _ _ _
    rw [if_neg (by omega)]; exact this
theorem nI_p1 {N : Nat} (h : N < 2 ^ 31 - 1) : ¬ nI N + 1 < 0 ∧ Int32.toNatClampNeg (nI N + 1) = N + 1 := by
  rw [nI_1]
  exact ⟨not_lt0 (by omega), cl_nI (by omega)⟩
/-- a row, and one more behind it -/
theorem x_with {y N : Nat} {v : Int32} {Q : Option Nat → gS → gS → Prop} (hk : gK g y = 21) (hN : gN g y = N) (hb : N < 64) (hQ : ∀ q g', gK g q = 0 → Kp g g' q → gK g' q = 21 → gN g' q = N + 1 → (∀ i, i < N → gI g' q i = gI g y i) → gI g' q N = v → Q (some q) g' m0) : w_X11_with g m0 y v 1 64 Q := by
  obtain ⟨p1, p2⟩ := nI_p1 (N := N) (by omega)
  unfold w_X11_with
  rw [hN, p2]
  refine ⟨hk, ⟨p1, by omega⟩, ⟨by decide, by omega⟩, fun q hq g7 e7 => ?_⟩
  have hyq : y ≠ q := fun e => by rw [e, hq] at hk; exact absurd hk (by decide)
  subst e7
  have a1 : gK (sNew g q 21 (N + 1)) y = 21 := (gK_new_ne hyq).trans hk
  have a2 : gN (sNew g q 21 (N + 1)) y = N := (gN_new_ne hyq).trans hN
  have a3 : gI (sNew g q 21 (N + 1)) y = gI g y := gI_new_ne hyq
  refine ⟨a1, gK_new, ?_, fun g12 e12 => ?_⟩
  · rw [a2, gN_new, cl_nI (by omega)]
    exact ⟨not_lt0 (by omega), by show 0 + N ≤ N; omega, by show 0 + N ≤ N + 1; omega⟩
  · rw [a2, cl_nI (by omega), a3, gI_new] at e12
    subst e12
    refine ⟨a1, (show gK (sNew g q 21 (N + 1)) q = 21 from gK_new), ?_, fun g17 e17 => ?_⟩
    · show vp_in (nI (gN (sNew g q 21 (N + 1)) y)) (gN (sNew g q 21 (N + 1)) q)
      rw [a2, gN_new]
      exact vp_in_nI (by omega) (by omega)
    · have e17 : g17 = sU (sI (sNew g q 21 (N + 1)) q (va_cpy (gI g y) (fun _ => 0) (Int32.toNatClampNeg 0) (Int32.toNatClampNeg 0) N)) q (Int32.toNatClampNeg (nI (gN (sNew g q 21 (N + 1)) y))) v := e17
      rw [a2, cl_nI (by omega)] at e17
      subst e17
      refine hQ q _ hq (Kp.new.trans (Kp.sI.trans Kp.sU)) (show gK (sNew g q 21 (N + 1)) q = 21 from gK_new) (show gN (sNew g q 21 (N + 1)) q = N + 1 from gN_new) (fun i hi => ?_) ?_
      · rw [gI_sU, if_neg (by omega), gI_sI_self]
        show (if 0 ≤ i ∧ i < 0 + N then gI g y (0 + (i - 0)) else 0) = _
        rw [if_pos (by omega), show 0 + (i - 0) = i by omega]
      · rw [gI_sU, if_pos rfl]
theorem below_ok {x : Int32} {N : Nat} (h0 : 0 < N) (hN : N < 2 ^ 31) {Q : Int32 → Prop} (hQ : ∀ r, r < N → Q (nI r)) : w_L_below x (nI N) Q := by
  unfold w_L_below
  refine ⟨fun q => ?_, ?_⟩
  · have := (nI_inj (show N < 2 ^ 31 by omega) (show 0 < 2 ^ 31 by decide)).mp q; omega
  · have : ∃ m, m < 2 ^ 31 ∧ x &&& 2147483647 = nI m := by
      have h : ¬ (x &&& 2147483647) < 0 := by
        rw [Int32.lt_iff_toBitVec_slt]
        have : (x &&& 2147483647).toBitVec.msb = false := by
          show (x.toBitVec &&& 2147483647#32).msb = false
          rw [BitVec.msb_and, show (2147483647#32).msb = false from by decide, Bool.and_false]
        rw [show (0 : Int32).toBitVec = 0#32 from rfl, BitVec.slt_zero_eq_msb, this]
        decide
      exact nI_of h
    obtain ⟨m, hm, e⟩ := this
    rw [e, nI_div hm h0 hN, nI_mul, nI_sb (Nat.div_mul_le_self m N)]
    have := Nat.div_add_mod m N
    have h2 := Nat.mod_lt m h0
    rw [Nat.mul_comm] at this
    exact hQ _ (by omega)
theorem cell_ok {L : Nat} {xs : Nat → Int32} {k : Nat} (hk : k < 24) (hL : L ≤ 260) {Q : Int32 → Prop} (hQ : ∀ x, Q x) : w_L_cell (nI k) b L xs Q := by
  unfold w_L_cell b_L_cell_18
  refine ⟨fun _ => hQ _, fun c => ⟨vp_in_nI ?_ (by omega), hQ _⟩⟩
  rcases Nat.lt_or_ge k L with q | q
  · exact q
  · exact absurd ((nI_le_iff (by omega) (by omega)).mpr q) c
/-- a number below another one, and one more draw -/
theorem x_draw (h : SA A mA b vm U σ n ns nn dr wh g) {L N : Nat} {xs : Nat → Int32} (hL : L ≤ 260) (h0 : 0 < N) (hN : N < 2 ^ 31) (hdr : dr + 1 < 2 ^ 24) {Q : Int32 → gS → gS → Prop} (hQ : ∀ r g', r < N → SA A mA b vm U σ n ns nn (dr + 1) wh g' → Kp g g' (A 0) → Q (nI r) g' m0) : w_X11_draw g m0 (A 0) (nI N) b L xs Q := by
  obtain ⟨r, l, -, v, -⟩ := id h
  have k0 : gK g (A 0) = 12 := r.1 0 (k1 (by decide))
  have e2 : gI g (A 0) 2 = nI dr := v.1.1
  unfold w_X11_draw
  rw [e2]
  refine ⟨k0, b, l.1.2.1, rfl, ?_⟩
  have e24 : nI dr - nI dr / 24 * 24 = nI (dr % 24) := by
    rw [show (24 : Int32) = nI 24 from rfl, nI_div (by omega) (by decide) (by decide), nI_mul, nI_sb (Nat.div_mul_le_self dr 24)]
    have := Nat.div_add_mod dr 24
    rw [Nat.mul_comm] at this
    rw [show dr - dr / 24 * 24 = dr % 24 by omega]
  rw [e24]
  refine cell_ok (Nat.mod_lt _ (by decide)) hL (fun x => below_ok h0 hN (fun r hr g11 e11 => ?_))
  rw [nI_1] at e11
  subst e11
  exact hQ r _ hr (h.draws hdr) Kp.sU
end SHELF
