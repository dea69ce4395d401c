/-! THE CLASS BY LABELS: each of its cells has a label; A gives the address -/
def fK : Nat → Nat
  | 0 => 11
  | 1 => 1
  | 2 => 25
  | 3 => 21
  | 4 => 2
  | 5 => 24
  | 6 => 21
  | 7 => 21
  | 8 => 21
  | 9 => 21
  | 10 => 5
  | 11 => 22
  | 12 => 21
  | 13 => 21
  | 14 => 7
  | 15 => 27
  | 16 => 22
  | 17 => 22
  | 18 => 8
  | 19 => 25
  | 20 => 21
  | 21 => 21
  | 22 => 4
  | 23 => 24
  | 24 => 21
  | 25 => 21
  | 26 => 21
  | 27 => 21
  | 28 => 21
  | 29 => 21
  | 30 => 2
  | 31 => 24
  | 32 => 21
  | 33 => 21
  | 34 => 21
  | 35 => 21
  | 36 => 9
  | 37 => 21
  | 38 => 9
  | 39 => 21
  | 40 => 9
  | 41 => 21
  | 42 => 24
  | 43 => 21
  | 44 => 21
  | 45 => 21
  | 46 => 21
  | 47 => 21
  | 48 => 21
  | 49 => 21
  | 50 => 21
  | 51 => 21
  | 52 => 21
  | 53 => 21
  | 54 => 21
  | 55 => 21
  | 56 => 21
  | 57 => 21
  | 58 => 21
  | 59 => 21
  | 60 => 21
  | 61 => 21
  | 62 => 21
  | 63 => 21
  | 64 => 21
  | 65 => 21
  | 66 => 21
  | 67 => 21
  | 68 => 21
  | 69 => 21
  | 70 => 21
  | 71 => 21
  | 72 => 21
  | _ => 0
def fN : Nat → Nat
  | 0 => 0
  | 1 => 0
  | 2 => 60
  | 3 => 60
  | 4 => 0
  | 5 => 3
  | 6 => 200
  | 7 => 200
  | 8 => 200
  | 9 => 3
  | 10 => 0
  | 11 => 200
  | 12 => 200
  | 13 => 3
  | 14 => 0
  | 15 => 30
  | 16 => 30
  | 17 => 12
  | 18 => 0
  | 19 => 60
  | 20 => 60
  | 21 => 60
  | 22 => 0
  | 23 => 3
  | 24 => 200
  | 25 => 200
  | 26 => 200
  | 27 => 200
  | 28 => 200
  | 29 => 200
  | 30 => 0
  | 31 => 3
  | 32 => 200
  | 33 => 200
  | 34 => 200
  | 35 => 3
  | 36 => 0
  | 37 => 30
  | 38 => 0
  | 39 => 30
  | 40 => 0
  | 41 => 30
  | 42 => 30
  | 43 => 60
  | 44 => 60
  | 45 => 60
  | 46 => 60
  | 47 => 60
  | 48 => 60
  | 49 => 60
  | 50 => 60
  | 51 => 60
  | 52 => 60
  | 53 => 60
  | 54 => 60
  | 55 => 60
  | 56 => 60
  | 57 => 60
  | 58 => 60
  | 59 => 60
  | 60 => 60
  | 61 => 60
  | 62 => 60
  | 63 => 60
  | 64 => 60
  | 65 => 60
  | 66 => 60
  | 67 => 60
  | 68 => 60
  | 69 => 60
  | 70 => 60
  | 71 => 60
  | 72 => 60
  | _ => 0
def dK : Nat → Nat
  | 0 => 3
  | 1 => 26
  | 2 => 10
  | 3 => 10
  | 4 => 10
  | 5 => 21
  | 6 => 21
  | 7 => 21
  | 8 => 21
  | 9 => 21
  | 10 => 21
  | 11 => 21
  | 12 => 21
  | 13 => 21
  | _ => 0
def dN : Nat → Nat
  | 0 => 0
  | 1 => 3
  | 2 => 0
  | 3 => 0
  | 4 => 0
  | 5 => 12
  | 6 => 12
  | 7 => 12
  | 8 => 12
  | 9 => 12
  | 10 => 12
  | 11 => 12
  | 12 => 12
  | 13 => 12
  | _ => 0
def fR : Nat → Nat → Option Nat
  | 0, 0 => some 1
  | 0, 1 => some 10
  | 0, 2 => some 14
  | 0, 3 => some 18
  | 0, 4 => some 22
  | 0, 5 => some 30
  | 0, 6 => some 36
  | 0, 7 => some 38
  | 0, 8 => some 40
  | 0, 9 => some 42
  | 1, 0 => some 2
  | 1, 3 => some 3
  | 1, 5 => some 4
  | 4, 0 => some 5
  | 4, 1 => some 9
  | 5, 0 => some 6
  | 5, 1 => some 7
  | 5, 2 => some 8
  | 10, 0 => some 11
  | 10, 1 => some 12
  | 10, 2 => some 13
  | 14, 0 => some 10
  | 14, 1 => some 15
  | 14, 3 => some 16
  | 14, 4 => some 17
  | 18, 0 => some 19
  | 18, 1 => some 20
  | 18, 2 => some 21
  | 22, 0 => some 1
  | 22, 1 => some 10
  | 22, 2 => some 23
  | 22, 3 => some 27
  | 22, 4 => some 28
  | 22, 5 => some 29
  | 23, 0 => some 24
  | 23, 1 => some 25
  | 23, 2 => some 26
  | 30, 0 => some 31
  | 30, 1 => some 35
  | 31, 0 => some 32
  | 31, 1 => some 33
  | 31, 2 => some 34
  | 36, 0 => some 14
  | 36, 1 => some 10
  | 36, 2 => some 4
  | 36, 4 => some 37
  | 38, 0 => some 14
  | 38, 1 => some 10
  | 38, 2 => some 4
  | 38, 4 => some 39
  | 40, 0 => some 14
  | 40, 1 => some 10
  | 40, 2 => some 30
  | 40, 4 => some 41
  | 42, 0 => some 43
  | 42, 1 => some 44
  | 42, 2 => some 45
  | 42, 3 => some 46
  | 42, 4 => some 47
  | 42, 5 => some 48
  | 42, 6 => some 49
  | 42, 7 => some 50
  | 42, 8 => some 51
  | 42, 9 => some 52
  | 42, 10 => some 53
  | 42, 11 => some 54
  | 42, 12 => some 55
  | 42, 13 => some 56
  | 42, 14 => some 57
  | 42, 15 => some 58
  | 42, 16 => some 59
  | 42, 17 => some 60
  | 42, 18 => some 61
  | 42, 19 => some 62
  | 42, 20 => some 63
  | 42, 21 => some 64
  | 42, 22 => some 65
  | 42, 23 => some 66
  | 42, 24 => some 67
  | 42, 25 => some 68
  | 42, 26 => some 69
  | 42, 27 => some 70
  | 42, 28 => some 71
  | 42, 29 => some 72
  | _, _ => none
def dR : Nat → Nat → Option Nat
  | 0, 2 => some 1
  | 1, 0 => some 2
  | 1, 1 => some 3
  | 1, 2 => some 4
  | 2, 0 => some 5
  | 2, 1 => some 8
  | 2, 2 => some 11
  | 3, 0 => some 6
  | 3, 1 => some 9
  | 3, 2 => some 12
  | 4, 0 => some 7
  | 4, 1 => some 10
  | 4, 2 => some 13
  | _, _ => none
/-- label of a part of a document -/
def dl (d r : Nat) : Nat := 100 + 20 * d + r
def jl (j : Nat) : Nat := 2000 + j
def KL (D nn l : Nat) : Nat := if l < 100 then fK l else if l < 2000 then (if (l - 100) / 20 < D then dK ((l - 100) % 20) else 0) else if l - 2000 < nn then 6 else 0
def NL (l : Nat) : Nat := if l < 100 then fN l else if l < 2000 then dN ((l - 100) % 20) else 0
theorem KL_f {D nn l : Nat} (h : l < 100) : KL D nn l = fK l := if_pos h
theorem NL_f {l : Nat} (h : l < 100) : NL l = fN l := if_pos h
theorem dl_div {d r : Nat} (hr : r < 20) : (dl d r - 100) / 20 = d ∧ (dl d r - 100) % 20 = r := by unfold dl; omega
theorem KL_d {D nn d r : Nat} (hd : d < D) (hD : D ≤ 61) (hr : r < 20) : KL D nn (dl d r) = dK r := by
  unfold KL
  rw [if_neg (by unfold dl; omega), if_pos (by unfold dl; omega), (dl_div hr).1, (dl_div hr).2, if_pos hd]
theorem NL_d {d r : Nat} (hd : d < 61) (hr : r < 20) : NL (dl d r) = dN r := by
  unfold NL
  rw [if_neg (by unfold dl; omega), if_pos (by unfold dl; omega), (dl_div hr).2]
theorem KL_j {D nn j : Nat} (hj : j < nn) : KL D nn (jl j) = 6 := by
  unfold KL
  rw [if_neg (by unfold jl; omega), if_neg (by unfold jl; omega), if_pos (by unfold jl; omega)]
/-- shape and values; D: documents with cells, the open one too; V: ints by label -/
def CR (A : Nat → Nat) (D nn : Nat) (V : Rows) (g : gS) : Prop :=
  (∀ l, KL D nn l ≠ 0 → gK g (A l) = KL D nn l ∧ gN g (A l) = (if 21 ≤ KL D nn l then NL l else gN g (A l)) ∧ gI g (A l) = V l) ∧
  (∀ l u, KL D nn l ≠ 0 → KL D nn u ≠ 0 → A l = A u → l = u) ∧
  (∀ l i u, fR l i = some u → gR g (A l) i = some (A u)) ∧
  (∀ d r i u, d < D → dR r i = some u → gR g (A (dl d r)) i = some (A (dl d u))) ∧ D ≤ 60 ∧ nn ≤ 30
section CROWS
variable {A : Nat → Nat} {D nn : Nat} {V : Rows} {g : gS}
theorem CR.K (h : CR A D nn V g) (l k : Nat) (hk : KL D nn l = k) (h0 : k ≠ 0) : gK g (A l) = k := by
  have := (h.1 l (by rw [hk]; exact h0)).1; rw [this, hk]
theorem CR.N (h : CR A D nn V g) (l k : Nat) (hk : KL D nn l = k) (h0 : 21 ≤ k) : gN g (A l) = NL l := by
  have := (h.1 l (by rw [hk]; omega)).2.1; rw [hk, if_pos h0] at this; exact this
theorem CR.I (h : CR A D nn V g) (l k : Nat) (hk : KL D nn l = k) (h0 : k ≠ 0) : gI g (A l) = V l := (h.1 l (by rw [hk]; exact h0)).2.2
theorem CR.R (h : CR A D nn V g) (l i u : Nat) (hr : fR l i = some u) : gR g (A l) i = some (A u) := h.2.2.1 l i u hr
theorem CR.dR (h : CR A D nn V g) {d : Nat} (hd : d < D) (r i u : Nat) (hr : dR r i = some u) : gR g (A (dl d r)) i = some (A (dl d u)) := h.2.2.2.1 d r i u hd hr
theorem CR.D6 (h : CR A D nn V g) : D ≤ 60 := h.2.2.2.2.1
theorem CR.nn3 (h : CR A D nn V g) : nn ≤ 30 := h.2.2.2.2.2
/-- an int written -/
theorem CR.w (h : CR A D nn V g) (l k : Nat) (hk : KL D nn l = k) (h0 : k ≠ 0) (i : Nat) (v : Int32) : CR A D nn (su V l i v) (sU g (A l) i v) := by
  obtain ⟨h1, h2, h3, h4, h5⟩ := h
  refine ⟨fun u hu => ?_, h2, h3, h4, h5⟩
  obtain ⟨a1, a2, a3⟩ := h1 u hu
  refine ⟨a1, a2, ?_⟩
  show gI (sI g (A l) (upd (gI g (A l)) i v)) (A u) = _
  by_cases e : u = l
  · subst e; rw [gI_sI_self, su_self, a3]
  · rw [gI_sI_ne (fun q => e (h2 u l hu (by rw [hk]; exact h0) q)), su_row e, a3]
end CROWS
theorem CR.k0 {A : Nat → Nat} {D nn : Nat} {V : Rows} {g : gS} (h : CR A D nn V g) : gK g (A 0) = 11 := h.K 0 11 (KL_f (by decide)) (by decide)
theorem CR.i0 {A : Nat → Nat} {D nn : Nat} {V : Rows} {g : gS} (h : CR A D nn V g) : gI g (A 0) = V 0 := h.I 0 11 (KL_f (by decide)) (by decide)
theorem CR.k1 {A : Nat → Nat} {D nn : Nat} {V : Rows} {g : gS} (h : CR A D nn V g) : gK g (A 1) = 1 := h.K 1 1 (KL_f (by decide)) (by decide)
theorem CR.i1 {A : Nat → Nat} {D nn : Nat} {V : Rows} {g : gS} (h : CR A D nn V g) : gI g (A 1) = V 1 := h.I 1 1 (KL_f (by decide)) (by decide)
theorem CR.k2 {A : Nat → Nat} {D nn : Nat} {V : Rows} {g : gS} (h : CR A D nn V g) : gK g (A 2) = 25 := h.K 2 25 (KL_f (by decide)) (by decide)
theorem CR.n2 {A : Nat → Nat} {D nn : Nat} {V : Rows} {g : gS} (h : CR A D nn V g) : gN g (A 2) = 60 := (h.N 2 25 (KL_f (by decide)) (by decide)).trans (NL_f (by decide))
theorem CR.k3 {A : Nat → Nat} {D nn : Nat} {V : Rows} {g : gS} (h : CR A D nn V g) : gK g (A 3) = 21 := h.K 3 21 (KL_f (by decide)) (by decide)
theorem CR.n3 {A : Nat → Nat} {D nn : Nat} {V : Rows} {g : gS} (h : CR A D nn V g) : gN g (A 3) = 60 := (h.N 3 21 (KL_f (by decide)) (by decide)).trans (NL_f (by decide))
theorem CR.i3 {A : Nat → Nat} {D nn : Nat} {V : Rows} {g : gS} (h : CR A D nn V g) : gI g (A 3) = V 3 := h.I 3 21 (KL_f (by decide)) (by decide)
theorem CR.k4 {A : Nat → Nat} {D nn : Nat} {V : Rows} {g : gS} (h : CR A D nn V g) : gK g (A 4) = 2 := h.K 4 2 (KL_f (by decide)) (by decide)
theorem CR.i4 {A : Nat → Nat} {D nn : Nat} {V : Rows} {g : gS} (h : CR A D nn V g) : gI g (A 4) = V 4 := h.I 4 2 (KL_f (by decide)) (by decide)
theorem CR.k5 {A : Nat → Nat} {D nn : Nat} {V : Rows} {g : gS} (h : CR A D nn V g) : gK g (A 5) = 24 := h.K 5 24 (KL_f (by decide)) (by decide)
theorem CR.n5 {A : Nat → Nat} {D nn : Nat} {V : Rows} {g : gS} (h : CR A D nn V g) : gN g (A 5) = 3 := (h.N 5 24 (KL_f (by decide)) (by decide)).trans (NL_f (by decide))
theorem CR.k6 {A : Nat → Nat} {D nn : Nat} {V : Rows} {g : gS} (h : CR A D nn V g) : gK g (A 6) = 21 := h.K 6 21 (KL_f (by decide)) (by decide)
theorem CR.n6 {A : Nat → Nat} {D nn : Nat} {V : Rows} {g : gS} (h : CR A D nn V g) : gN g (A 6) = 200 := (h.N 6 21 (KL_f (by decide)) (by decide)).trans (NL_f (by decide))
theorem CR.i6 {A : Nat → Nat} {D nn : Nat} {V : Rows} {g : gS} (h : CR A D nn V g) : gI g (A 6) = V 6 := h.I 6 21 (KL_f (by decide)) (by decide)
theorem CR.k7 {A : Nat → Nat} {D nn : Nat} {V : Rows} {g : gS} (h : CR A D nn V g) : gK g (A 7) = 21 := h.K 7 21 (KL_f (by decide)) (by decide)
theorem CR.n7 {A : Nat → Nat} {D nn : Nat} {V : Rows} {g : gS} (h : CR A D nn V g) : gN g (A 7) = 200 := (h.N 7 21 (KL_f (by decide)) (by decide)).trans (NL_f (by decide))
theorem CR.i7 {A : Nat → Nat} {D nn : Nat} {V : Rows} {g : gS} (h : CR A D nn V g) : gI g (A 7) = V 7 := h.I 7 21 (KL_f (by decide)) (by decide)
theorem CR.k8 {A : Nat → Nat} {D nn : Nat} {V : Rows} {g : gS} (h : CR A D nn V g) : gK g (A 8) = 21 := h.K 8 21 (KL_f (by decide)) (by decide)
theorem CR.n8 {A : Nat → Nat} {D nn : Nat} {V : Rows} {g : gS} (h : CR A D nn V g) : gN g (A 8) = 200 := (h.N 8 21 (KL_f (by decide)) (by decide)).trans (NL_f (by decide))
theorem CR.i8 {A : Nat → Nat} {D nn : Nat} {V : Rows} {g : gS} (h : CR A D nn V g) : gI g (A 8) = V 8 := h.I 8 21 (KL_f (by decide)) (by decide)
theorem CR.k9 {A : Nat → Nat} {D nn : Nat} {V : Rows} {g : gS} (h : CR A D nn V g) : gK g (A 9) = 21 := h.K 9 21 (KL_f (by decide)) (by decide)
theorem CR.n9 {A : Nat → Nat} {D nn : Nat} {V : Rows} {g : gS} (h : CR A D nn V g) : gN g (A 9) = 3 := (h.N 9 21 (KL_f (by decide)) (by decide)).trans (NL_f (by decide))
theorem CR.i9 {A : Nat → Nat} {D nn : Nat} {V : Rows} {g : gS} (h : CR A D nn V g) : gI g (A 9) = V 9 := h.I 9 21 (KL_f (by decide)) (by decide)
theorem CR.k10 {A : Nat → Nat} {D nn : Nat} {V : Rows} {g : gS} (h : CR A D nn V g) : gK g (A 10) = 5 := h.K 10 5 (KL_f (by decide)) (by decide)
theorem CR.i10 {A : Nat → Nat} {D nn : Nat} {V : Rows} {g : gS} (h : CR A D nn V g) : gI g (A 10) = V 10 := h.I 10 5 (KL_f (by decide)) (by decide)
theorem CR.k11 {A : Nat → Nat} {D nn : Nat} {V : Rows} {g : gS} (h : CR A D nn V g) : gK g (A 11) = 22 := h.K 11 22 (KL_f (by decide)) (by decide)
theorem CR.n11 {A : Nat → Nat} {D nn : Nat} {V : Rows} {g : gS} (h : CR A D nn V g) : gN g (A 11) = 200 := (h.N 11 22 (KL_f (by decide)) (by decide)).trans (NL_f (by decide))
theorem CR.i11 {A : Nat → Nat} {D nn : Nat} {V : Rows} {g : gS} (h : CR A D nn V g) : gI g (A 11) = V 11 := h.I 11 22 (KL_f (by decide)) (by decide)
theorem CR.k12 {A : Nat → Nat} {D nn : Nat} {V : Rows} {g : gS} (h : CR A D nn V g) : gK g (A 12) = 21 := h.K 12 21 (KL_f (by decide)) (by decide)
theorem CR.n12 {A : Nat → Nat} {D nn : Nat} {V : Rows} {g : gS} (h : CR A D nn V g) : gN g (A 12) = 200 := (h.N 12 21 (KL_f (by decide)) (by decide)).trans (NL_f (by decide))
theorem CR.i12 {A : Nat → Nat} {D nn : Nat} {V : Rows} {g : gS} (h : CR A D nn V g) : gI g (A 12) = V 12 := h.I 12 21 (KL_f (by decide)) (by decide)
theorem CR.k13 {A : Nat → Nat} {D nn : Nat} {V : Rows} {g : gS} (h : CR A D nn V g) : gK g (A 13) = 21 := h.K 13 21 (KL_f (by decide)) (by decide)
theorem CR.n13 {A : Nat → Nat} {D nn : Nat} {V : Rows} {g : gS} (h : CR A D nn V g) : gN g (A 13) = 3 := (h.N 13 21 (KL_f (by decide)) (by decide)).trans (NL_f (by decide))
theorem CR.i13 {A : Nat → Nat} {D nn : Nat} {V : Rows} {g : gS} (h : CR A D nn V g) : gI g (A 13) = V 13 := h.I 13 21 (KL_f (by decide)) (by decide)
theorem CR.k14 {A : Nat → Nat} {D nn : Nat} {V : Rows} {g : gS} (h : CR A D nn V g) : gK g (A 14) = 7 := h.K 14 7 (KL_f (by decide)) (by decide)
theorem CR.i14 {A : Nat → Nat} {D nn : Nat} {V : Rows} {g : gS} (h : CR A D nn V g) : gI g (A 14) = V 14 := h.I 14 7 (KL_f (by decide)) (by decide)
theorem CR.k15 {A : Nat → Nat} {D nn : Nat} {V : Rows} {g : gS} (h : CR A D nn V g) : gK g (A 15) = 27 := h.K 15 27 (KL_f (by decide)) (by decide)
theorem CR.n15 {A : Nat → Nat} {D nn : Nat} {V : Rows} {g : gS} (h : CR A D nn V g) : gN g (A 15) = 30 := (h.N 15 27 (KL_f (by decide)) (by decide)).trans (NL_f (by decide))
theorem CR.k16 {A : Nat → Nat} {D nn : Nat} {V : Rows} {g : gS} (h : CR A D nn V g) : gK g (A 16) = 22 := h.K 16 22 (KL_f (by decide)) (by decide)
theorem CR.n16 {A : Nat → Nat} {D nn : Nat} {V : Rows} {g : gS} (h : CR A D nn V g) : gN g (A 16) = 30 := (h.N 16 22 (KL_f (by decide)) (by decide)).trans (NL_f (by decide))
theorem CR.i16 {A : Nat → Nat} {D nn : Nat} {V : Rows} {g : gS} (h : CR A D nn V g) : gI g (A 16) = V 16 := h.I 16 22 (KL_f (by decide)) (by decide)
theorem CR.k17 {A : Nat → Nat} {D nn : Nat} {V : Rows} {g : gS} (h : CR A D nn V g) : gK g (A 17) = 22 := h.K 17 22 (KL_f (by decide)) (by decide)
theorem CR.n17 {A : Nat → Nat} {D nn : Nat} {V : Rows} {g : gS} (h : CR A D nn V g) : gN g (A 17) = 12 := (h.N 17 22 (KL_f (by decide)) (by decide)).trans (NL_f (by decide))
theorem CR.i17 {A : Nat → Nat} {D nn : Nat} {V : Rows} {g : gS} (h : CR A D nn V g) : gI g (A 17) = V 17 := h.I 17 22 (KL_f (by decide)) (by decide)
theorem CR.k18 {A : Nat → Nat} {D nn : Nat} {V : Rows} {g : gS} (h : CR A D nn V g) : gK g (A 18) = 8 := h.K 18 8 (KL_f (by decide)) (by decide)
theorem CR.i18 {A : Nat → Nat} {D nn : Nat} {V : Rows} {g : gS} (h : CR A D nn V g) : gI g (A 18) = V 18 := h.I 18 8 (KL_f (by decide)) (by decide)
theorem CR.k19 {A : Nat → Nat} {D nn : Nat} {V : Rows} {g : gS} (h : CR A D nn V g) : gK g (A 19) = 25 := h.K 19 25 (KL_f (by decide)) (by decide)
theorem CR.n19 {A : Nat → Nat} {D nn : Nat} {V : Rows} {g : gS} (h : CR A D nn V g) : gN g (A 19) = 60 := (h.N 19 25 (KL_f (by decide)) (by decide)).trans (NL_f (by decide))
theorem CR.k20 {A : Nat → Nat} {D nn : Nat} {V : Rows} {g : gS} (h : CR A D nn V g) : gK g (A 20) = 21 := h.K 20 21 (KL_f (by decide)) (by decide)
theorem CR.n20 {A : Nat → Nat} {D nn : Nat} {V : Rows} {g : gS} (h : CR A D nn V g) : gN g (A 20) = 60 := (h.N 20 21 (KL_f (by decide)) (by decide)).trans (NL_f (by decide))
theorem CR.i20 {A : Nat → Nat} {D nn : Nat} {V : Rows} {g : gS} (h : CR A D nn V g) : gI g (A 20) = V 20 := h.I 20 21 (KL_f (by decide)) (by decide)
theorem CR.k21 {A : Nat → Nat} {D nn : Nat} {V : Rows} {g : gS} (h : CR A D nn V g) : gK g (A 21) = 21 := h.K 21 21 (KL_f (by decide)) (by decide)
theorem CR.n21 {A : Nat → Nat} {D nn : Nat} {V : Rows} {g : gS} (h : CR A D nn V g) : gN g (A 21) = 60 := (h.N 21 21 (KL_f (by decide)) (by decide)).trans (NL_f (by decide))
theorem CR.i21 {A : Nat → Nat} {D nn : Nat} {V : Rows} {g : gS} (h : CR A D nn V g) : gI g (A 21) = V 21 := h.I 21 21 (KL_f (by decide)) (by decide)
theorem CR.k22 {A : Nat → Nat} {D nn : Nat} {V : Rows} {g : gS} (h : CR A D nn V g) : gK g (A 22) = 4 := h.K 22 4 (KL_f (by decide)) (by decide)
theorem CR.i22 {A : Nat → Nat} {D nn : Nat} {V : Rows} {g : gS} (h : CR A D nn V g) : gI g (A 22) = V 22 := h.I 22 4 (KL_f (by decide)) (by decide)
theorem CR.k23 {A : Nat → Nat} {D nn : Nat} {V : Rows} {g : gS} (h : CR A D nn V g) : gK g (A 23) = 24 := h.K 23 24 (KL_f (by decide)) (by decide)
theorem CR.n23 {A : Nat → Nat} {D nn : Nat} {V : Rows} {g : gS} (h : CR A D nn V g) : gN g (A 23) = 3 := (h.N 23 24 (KL_f (by decide)) (by decide)).trans (NL_f (by decide))
theorem CR.k24 {A : Nat → Nat} {D nn : Nat} {V : Rows} {g : gS} (h : CR A D nn V g) : gK g (A 24) = 21 := h.K 24 21 (KL_f (by decide)) (by decide)
theorem CR.n24 {A : Nat → Nat} {D nn : Nat} {V : Rows} {g : gS} (h : CR A D nn V g) : gN g (A 24) = 200 := (h.N 24 21 (KL_f (by decide)) (by decide)).trans (NL_f (by decide))
theorem CR.i24 {A : Nat → Nat} {D nn : Nat} {V : Rows} {g : gS} (h : CR A D nn V g) : gI g (A 24) = V 24 := h.I 24 21 (KL_f (by decide)) (by decide)
theorem CR.k25 {A : Nat → Nat} {D nn : Nat} {V : Rows} {g : gS} (h : CR A D nn V g) : gK g (A 25) = 21 := h.K 25 21 (KL_f (by decide)) (by decide)
theorem CR.n25 {A : Nat → Nat} {D nn : Nat} {V : Rows} {g : gS} (h : CR A D nn V g) : gN g (A 25) = 200 := (h.N 25 21 (KL_f (by decide)) (by decide)).trans (NL_f (by decide))
theorem CR.i25 {A : Nat → Nat} {D nn : Nat} {V : Rows} {g : gS} (h : CR A D nn V g) : gI g (A 25) = V 25 := h.I 25 21 (KL_f (by decide)) (by decide)
theorem CR.k26 {A : Nat → Nat} {D nn : Nat} {V : Rows} {g : gS} (h : CR A D nn V g) : gK g (A 26) = 21 := h.K 26 21 (KL_f (by decide)) (by decide)
theorem CR.n26 {A : Nat → Nat} {D nn : Nat} {V : Rows} {g : gS} (h : CR A D nn V g) : gN g (A 26) = 200 := (h.N 26 21 (KL_f (by decide)) (by decide)).trans (NL_f (by decide))
theorem CR.i26 {A : Nat → Nat} {D nn : Nat} {V : Rows} {g : gS} (h : CR A D nn V g) : gI g (A 26) = V 26 := h.I 26 21 (KL_f (by decide)) (by decide)
theorem CR.k27 {A : Nat → Nat} {D nn : Nat} {V : Rows} {g : gS} (h : CR A D nn V g) : gK g (A 27) = 21 := h.K 27 21 (KL_f (by decide)) (by decide)
theorem CR.n27 {A : Nat → Nat} {D nn : Nat} {V : Rows} {g : gS} (h : CR A D nn V g) : gN g (A 27) = 200 := (h.N 27 21 (KL_f (by decide)) (by decide)).trans (NL_f (by decide))
theorem CR.i27 {A : Nat → Nat} {D nn : Nat} {V : Rows} {g : gS} (h : CR A D nn V g) : gI g (A 27) = V 27 := h.I 27 21 (KL_f (by decide)) (by decide)
theorem CR.k28 {A : Nat → Nat} {D nn : Nat} {V : Rows} {g : gS} (h : CR A D nn V g) : gK g (A 28) = 21 := h.K 28 21 (KL_f (by decide)) (by decide)
theorem CR.n28 {A : Nat → Nat} {D nn : Nat} {V : Rows} {g : gS} (h : CR A D nn V g) : gN g (A 28) = 200 := (h.N 28 21 (KL_f (by decide)) (by decide)).trans (NL_f (by decide))
theorem CR.i28 {A : Nat → Nat} {D nn : Nat} {V : Rows} {g : gS} (h : CR A D nn V g) : gI g (A 28) = V 28 := h.I 28 21 (KL_f (by decide)) (by decide)
theorem CR.k29 {A : Nat → Nat} {D nn : Nat} {V : Rows} {g : gS} (h : CR A D nn V g) : gK g (A 29) = 21 := h.K 29 21 (KL_f (by decide)) (by decide)
theorem CR.n29 {A : Nat → Nat} {D nn : Nat} {V : Rows} {g : gS} (h : CR A D nn V g) : gN g (A 29) = 200 := (h.N 29 21 (KL_f (by decide)) (by decide)).trans (NL_f (by decide))
theorem CR.i29 {A : Nat → Nat} {D nn : Nat} {V : Rows} {g : gS} (h : CR A D nn V g) : gI g (A 29) = V 29 := h.I 29 21 (KL_f (by decide)) (by decide)
theorem CR.k30 {A : Nat → Nat} {D nn : Nat} {V : Rows} {g : gS} (h : CR A D nn V g) : gK g (A 30) = 2 := h.K 30 2 (KL_f (by decide)) (by decide)
theorem CR.i30 {A : Nat → Nat} {D nn : Nat} {V : Rows} {g : gS} (h : CR A D nn V g) : gI g (A 30) = V 30 := h.I 30 2 (KL_f (by decide)) (by decide)
theorem CR.k31 {A : Nat → Nat} {D nn : Nat} {V : Rows} {g : gS} (h : CR A D nn V g) : gK g (A 31) = 24 := h.K 31 24 (KL_f (by decide)) (by decide)
theorem CR.n31 {A : Nat → Nat} {D nn : Nat} {V : Rows} {g : gS} (h : CR A D nn V g) : gN g (A 31) = 3 := (h.N 31 24 (KL_f (by decide)) (by decide)).trans (NL_f (by decide))
theorem CR.k32 {A : Nat → Nat} {D nn : Nat} {V : Rows} {g : gS} (h : CR A D nn V g) : gK g (A 32) = 21 := h.K 32 21 (KL_f (by decide)) (by decide)
theorem CR.n32 {A : Nat → Nat} {D nn : Nat} {V : Rows} {g : gS} (h : CR A D nn V g) : gN g (A 32) = 200 := (h.N 32 21 (KL_f (by decide)) (by decide)).trans (NL_f (by decide))
theorem CR.i32 {A : Nat → Nat} {D nn : Nat} {V : Rows} {g : gS} (h : CR A D nn V g) : gI g (A 32) = V 32 := h.I 32 21 (KL_f (by decide)) (by decide)
theorem CR.k33 {A : Nat → Nat} {D nn : Nat} {V : Rows} {g : gS} (h : CR A D nn V g) : gK g (A 33) = 21 := h.K 33 21 (KL_f (by decide)) (by decide)
theorem CR.n33 {A : Nat → Nat} {D nn : Nat} {V : Rows} {g : gS} (h : CR A D nn V g) : gN g (A 33) = 200 := (h.N 33 21 (KL_f (by decide)) (by decide)).trans (NL_f (by decide))
theorem CR.i33 {A : Nat → Nat} {D nn : Nat} {V : Rows} {g : gS} (h : CR A D nn V g) : gI g (A 33) = V 33 := h.I 33 21 (KL_f (by decide)) (by decide)
theorem CR.k34 {A : Nat → Nat} {D nn : Nat} {V : Rows} {g : gS} (h : CR A D nn V g) : gK g (A 34) = 21 := h.K 34 21 (KL_f (by decide)) (by decide)
theorem CR.n34 {A : Nat → Nat} {D nn : Nat} {V : Rows} {g : gS} (h : CR A D nn V g) : gN g (A 34) = 200 := (h.N 34 21 (KL_f (by decide)) (by decide)).trans (NL_f (by decide))
theorem CR.i34 {A : Nat → Nat} {D nn : Nat} {V : Rows} {g : gS} (h : CR A D nn V g) : gI g (A 34) = V 34 := h.I 34 21 (KL_f (by decide)) (by decide)
theorem CR.k35 {A : Nat → Nat} {D nn : Nat} {V : Rows} {g : gS} (h : CR A D nn V g) : gK g (A 35) = 21 := h.K 35 21 (KL_f (by decide)) (by decide)
theorem CR.n35 {A : Nat → Nat} {D nn : Nat} {V : Rows} {g : gS} (h : CR A D nn V g) : gN g (A 35) = 3 := (h.N 35 21 (KL_f (by decide)) (by decide)).trans (NL_f (by decide))
theorem CR.i35 {A : Nat → Nat} {D nn : Nat} {V : Rows} {g : gS} (h : CR A D nn V g) : gI g (A 35) = V 35 := h.I 35 21 (KL_f (by decide)) (by decide)
theorem CR.k36 {A : Nat → Nat} {D nn : Nat} {V : Rows} {g : gS} (h : CR A D nn V g) : gK g (A 36) = 9 := h.K 36 9 (KL_f (by decide)) (by decide)
theorem CR.i36 {A : Nat → Nat} {D nn : Nat} {V : Rows} {g : gS} (h : CR A D nn V g) : gI g (A 36) = V 36 := h.I 36 9 (KL_f (by decide)) (by decide)
theorem CR.k37 {A : Nat → Nat} {D nn : Nat} {V : Rows} {g : gS} (h : CR A D nn V g) : gK g (A 37) = 21 := h.K 37 21 (KL_f (by decide)) (by decide)
theorem CR.n37 {A : Nat → Nat} {D nn : Nat} {V : Rows} {g : gS} (h : CR A D nn V g) : gN g (A 37) = 30 := (h.N 37 21 (KL_f (by decide)) (by decide)).trans (NL_f (by decide))
theorem CR.i37 {A : Nat → Nat} {D nn : Nat} {V : Rows} {g : gS} (h : CR A D nn V g) : gI g (A 37) = V 37 := h.I 37 21 (KL_f (by decide)) (by decide)
theorem CR.k38 {A : Nat → Nat} {D nn : Nat} {V : Rows} {g : gS} (h : CR A D nn V g) : gK g (A 38) = 9 := h.K 38 9 (KL_f (by decide)) (by decide)
theorem CR.i38 {A : Nat → Nat} {D nn : Nat} {V : Rows} {g : gS} (h : CR A D nn V g) : gI g (A 38) = V 38 := h.I 38 9 (KL_f (by decide)) (by decide)
theorem CR.k39 {A : Nat → Nat} {D nn : Nat} {V : Rows} {g : gS} (h : CR A D nn V g) : gK g (A 39) = 21 := h.K 39 21 (KL_f (by decide)) (by decide)
theorem CR.n39 {A : Nat → Nat} {D nn : Nat} {V : Rows} {g : gS} (h : CR A D nn V g) : gN g (A 39) = 30 := (h.N 39 21 (KL_f (by decide)) (by decide)).trans (NL_f (by decide))
theorem CR.i39 {A : Nat → Nat} {D nn : Nat} {V : Rows} {g : gS} (h : CR A D nn V g) : gI g (A 39) = V 39 := h.I 39 21 (KL_f (by decide)) (by decide)
theorem CR.k40 {A : Nat → Nat} {D nn : Nat} {V : Rows} {g : gS} (h : CR A D nn V g) : gK g (A 40) = 9 := h.K 40 9 (KL_f (by decide)) (by decide)
theorem CR.i40 {A : Nat → Nat} {D nn : Nat} {V : Rows} {g : gS} (h : CR A D nn V g) : gI g (A 40) = V 40 := h.I 40 9 (KL_f (by decide)) (by decide)
theorem CR.k41 {A : Nat → Nat} {D nn : Nat} {V : Rows} {g : gS} (h : CR A D nn V g) : gK g (A 41) = 21 := h.K 41 21 (KL_f (by decide)) (by decide)
theorem CR.n41 {A : Nat → Nat} {D nn : Nat} {V : Rows} {g : gS} (h : CR A D nn V g) : gN g (A 41) = 30 := (h.N 41 21 (KL_f (by decide)) (by decide)).trans (NL_f (by decide))
theorem CR.i41 {A : Nat → Nat} {D nn : Nat} {V : Rows} {g : gS} (h : CR A D nn V g) : gI g (A 41) = V 41 := h.I 41 21 (KL_f (by decide)) (by decide)
theorem CR.k42 {A : Nat → Nat} {D nn : Nat} {V : Rows} {g : gS} (h : CR A D nn V g) : gK g (A 42) = 24 := h.K 42 24 (KL_f (by decide)) (by decide)
theorem CR.n42 {A : Nat → Nat} {D nn : Nat} {V : Rows} {g : gS} (h : CR A D nn V g) : gN g (A 42) = 30 := (h.N 42 24 (KL_f (by decide)) (by decide)).trans (NL_f (by decide))
theorem CR.k43 {A : Nat → Nat} {D nn : Nat} {V : Rows} {g : gS} (h : CR A D nn V g) : gK g (A 43) = 21 := h.K 43 21 (KL_f (by decide)) (by decide)
theorem CR.n43 {A : Nat → Nat} {D nn : Nat} {V : Rows} {g : gS} (h : CR A D nn V g) : gN g (A 43) = 60 := (h.N 43 21 (KL_f (by decide)) (by decide)).trans (NL_f (by decide))
theorem CR.i43 {A : Nat → Nat} {D nn : Nat} {V : Rows} {g : gS} (h : CR A D nn V g) : gI g (A 43) = V 43 := h.I 43 21 (KL_f (by decide)) (by decide)
theorem CR.r0_0 {A : Nat → Nat} {D nn : Nat} {V : Rows} {g : gS} (h : CR A D nn V g) : gR g (A 0) 0 = some (A 1) := h.R 0 0 1 rfl
theorem CR.r0_1 {A : Nat → Nat} {D nn : Nat} {V : Rows} {g : gS} (h : CR A D nn V g) : gR g (A 0) 1 = some (A 10) := h.R 0 1 10 rfl
theorem CR.r0_2 {A : Nat → Nat} {D nn : Nat} {V : Rows} {g : gS} (h : CR A D nn V g) : gR g (A 0) 2 = some (A 14) := h.R 0 2 14 rfl
theorem CR.r0_3 {A : Nat → Nat} {D nn : Nat} {V : Rows} {g : gS} (h : CR A D nn V g) : gR g (A 0) 3 = some (A 18) := h.R 0 3 18 rfl
theorem CR.r0_4 {A : Nat → Nat} {D nn : Nat} {V : Rows} {g : gS} (h : CR A D nn V g) : gR g (A 0) 4 = some (A 22) := h.R 0 4 22 rfl
theorem CR.r0_5 {A : Nat → Nat} {D nn : Nat} {V : Rows} {g : gS} (h : CR A D nn V g) : gR g (A 0) 5 = some (A 30) := h.R 0 5 30 rfl
theorem CR.r0_6 {A : Nat → Nat} {D nn : Nat} {V : Rows} {g : gS} (h : CR A D nn V g) : gR g (A 0) 6 = some (A 36) := h.R 0 6 36 rfl
theorem CR.r0_7 {A : Nat → Nat} {D nn : Nat} {V : Rows} {g : gS} (h : CR A D nn V g) : gR g (A 0) 7 = some (A 38) := h.R 0 7 38 rfl
theorem CR.r0_8 {A : Nat → Nat} {D nn : Nat} {V : Rows} {g : gS} (h : CR A D nn V g) : gR g (A 0) 8 = some (A 40) := h.R 0 8 40 rfl
theorem CR.r0_9 {A : Nat → Nat} {D nn : Nat} {V : Rows} {g : gS} (h : CR A D nn V g) : gR g (A 0) 9 = some (A 42) := h.R 0 9 42 rfl
theorem CR.r1_0 {A : Nat → Nat} {D nn : Nat} {V : Rows} {g : gS} (h : CR A D nn V g) : gR g (A 1) 0 = some (A 2) := h.R 1 0 2 rfl
theorem CR.r1_3 {A : Nat → Nat} {D nn : Nat} {V : Rows} {g : gS} (h : CR A D nn V g) : gR g (A 1) 3 = some (A 3) := h.R 1 3 3 rfl
theorem CR.r1_5 {A : Nat → Nat} {D nn : Nat} {V : Rows} {g : gS} (h : CR A D nn V g) : gR g (A 1) 5 = some (A 4) := h.R 1 5 4 rfl
theorem CR.r4_0 {A : Nat → Nat} {D nn : Nat} {V : Rows} {g : gS} (h : CR A D nn V g) : gR g (A 4) 0 = some (A 5) := h.R 4 0 5 rfl
theorem CR.r4_1 {A : Nat → Nat} {D nn : Nat} {V : Rows} {g : gS} (h : CR A D nn V g) : gR g (A 4) 1 = some (A 9) := h.R 4 1 9 rfl
theorem CR.r5_0 {A : Nat → Nat} {D nn : Nat} {V : Rows} {g : gS} (h : CR A D nn V g) : gR g (A 5) 0 = some (A 6) := h.R 5 0 6 rfl
theorem CR.r5_1 {A : Nat → Nat} {D nn : Nat} {V : Rows} {g : gS} (h : CR A D nn V g) : gR g (A 5) 1 = some (A 7) := h.R 5 1 7 rfl
theorem CR.r5_2 {A : Nat → Nat} {D nn : Nat} {V : Rows} {g : gS} (h : CR A D nn V g) : gR g (A 5) 2 = some (A 8) := h.R 5 2 8 rfl
theorem CR.r10_0 {A : Nat → Nat} {D nn : Nat} {V : Rows} {g : gS} (h : CR A D nn V g) : gR g (A 10) 0 = some (A 11) := h.R 10 0 11 rfl
theorem CR.r10_1 {A : Nat → Nat} {D nn : Nat} {V : Rows} {g : gS} (h : CR A D nn V g) : gR g (A 10) 1 = some (A 12) := h.R 10 1 12 rfl
theorem CR.r10_2 {A : Nat → Nat} {D nn : Nat} {V : Rows} {g : gS} (h : CR A D nn V g) : gR g (A 10) 2 = some (A 13) := h.R 10 2 13 rfl
theorem CR.r14_0 {A : Nat → Nat} {D nn : Nat} {V : Rows} {g : gS} (h : CR A D nn V g) : gR g (A 14) 0 = some (A 10) := h.R 14 0 10 rfl
theorem CR.r14_1 {A : Nat → Nat} {D nn : Nat} {V : Rows} {g : gS} (h : CR A D nn V g) : gR g (A 14) 1 = some (A 15) := h.R 14 1 15 rfl
theorem CR.r14_3 {A : Nat → Nat} {D nn : Nat} {V : Rows} {g : gS} (h : CR A D nn V g) : gR g (A 14) 3 = some (A 16) := h.R 14 3 16 rfl
theorem CR.r14_4 {A : Nat → Nat} {D nn : Nat} {V : Rows} {g : gS} (h : CR A D nn V g) : gR g (A 14) 4 = some (A 17) := h.R 14 4 17 rfl
theorem CR.r18_0 {A : Nat → Nat} {D nn : Nat} {V : Rows} {g : gS} (h : CR A D nn V g) : gR g (A 18) 0 = some (A 19) := h.R 18 0 19 rfl
theorem CR.r18_1 {A : Nat → Nat} {D nn : Nat} {V : Rows} {g : gS} (h : CR A D nn V g) : gR g (A 18) 1 = some (A 20) := h.R 18 1 20 rfl
theorem CR.r18_2 {A : Nat → Nat} {D nn : Nat} {V : Rows} {g : gS} (h : CR A D nn V g) : gR g (A 18) 2 = some (A 21) := h.R 18 2 21 rfl
theorem CR.r22_0 {A : Nat → Nat} {D nn : Nat} {V : Rows} {g : gS} (h : CR A D nn V g) : gR g (A 22) 0 = some (A 1) := h.R 22 0 1 rfl
theorem CR.r22_1 {A : Nat → Nat} {D nn : Nat} {V : Rows} {g : gS} (h : CR A D nn V g) : gR g (A 22) 1 = some (A 10) := h.R 22 1 10 rfl
theorem CR.r22_2 {A : Nat → Nat} {D nn : Nat} {V : Rows} {g : gS} (h : CR A D nn V g) : gR g (A 22) 2 = some (A 23) := h.R 22 2 23 rfl
theorem CR.r22_3 {A : Nat → Nat} {D nn : Nat} {V : Rows} {g : gS} (h : CR A D nn V g) : gR g (A 22) 3 = some (A 27) := h.R 22 3 27 rfl
theorem CR.r22_4 {A : Nat → Nat} {D nn : Nat} {V : Rows} {g : gS} (h : CR A D nn V g) : gR g (A 22) 4 = some (A 28) := h.R 22 4 28 rfl
theorem CR.r22_5 {A : Nat → Nat} {D nn : Nat} {V : Rows} {g : gS} (h : CR A D nn V g) : gR g (A 22) 5 = some (A 29) := h.R 22 5 29 rfl
theorem CR.r23_0 {A : Nat → Nat} {D nn : Nat} {V : Rows} {g : gS} (h : CR A D nn V g) : gR g (A 23) 0 = some (A 24) := h.R 23 0 24 rfl
theorem CR.r23_1 {A : Nat → Nat} {D nn : Nat} {V : Rows} {g : gS} (h : CR A D nn V g) : gR g (A 23) 1 = some (A 25) := h.R 23 1 25 rfl
theorem CR.r23_2 {A : Nat → Nat} {D nn : Nat} {V : Rows} {g : gS} (h : CR A D nn V g) : gR g (A 23) 2 = some (A 26) := h.R 23 2 26 rfl
theorem CR.r30_0 {A : Nat → Nat} {D nn : Nat} {V : Rows} {g : gS} (h : CR A D nn V g) : gR g (A 30) 0 = some (A 31) := h.R 30 0 31 rfl
theorem CR.r30_1 {A : Nat → Nat} {D nn : Nat} {V : Rows} {g : gS} (h : CR A D nn V g) : gR g (A 30) 1 = some (A 35) := h.R 30 1 35 rfl
theorem CR.r31_0 {A : Nat → Nat} {D nn : Nat} {V : Rows} {g : gS} (h : CR A D nn V g) : gR g (A 31) 0 = some (A 32) := h.R 31 0 32 rfl
theorem CR.r31_1 {A : Nat → Nat} {D nn : Nat} {V : Rows} {g : gS} (h : CR A D nn V g) : gR g (A 31) 1 = some (A 33) := h.R 31 1 33 rfl
theorem CR.r31_2 {A : Nat → Nat} {D nn : Nat} {V : Rows} {g : gS} (h : CR A D nn V g) : gR g (A 31) 2 = some (A 34) := h.R 31 2 34 rfl
theorem CR.r36_0 {A : Nat → Nat} {D nn : Nat} {V : Rows} {g : gS} (h : CR A D nn V g) : gR g (A 36) 0 = some (A 14) := h.R 36 0 14 rfl
theorem CR.r36_1 {A : Nat → Nat} {D nn : Nat} {V : Rows} {g : gS} (h : CR A D nn V g) : gR g (A 36) 1 = some (A 10) := h.R 36 1 10 rfl
theorem CR.r36_2 {A : Nat → Nat} {D nn : Nat} {V : Rows} {g : gS} (h : CR A D nn V g) : gR g (A 36) 2 = some (A 4) := h.R 36 2 4 rfl
theorem CR.r36_4 {A : Nat → Nat} {D nn : Nat} {V : Rows} {g : gS} (h : CR A D nn V g) : gR g (A 36) 4 = some (A 37) := h.R 36 4 37 rfl
theorem CR.r38_0 {A : Nat → Nat} {D nn : Nat} {V : Rows} {g : gS} (h : CR A D nn V g) : gR g (A 38) 0 = some (A 14) := h.R 38 0 14 rfl
theorem CR.r38_1 {A : Nat → Nat} {D nn : Nat} {V : Rows} {g : gS} (h : CR A D nn V g) : gR g (A 38) 1 = some (A 10) := h.R 38 1 10 rfl
theorem CR.r38_2 {A : Nat → Nat} {D nn : Nat} {V : Rows} {g : gS} (h : CR A D nn V g) : gR g (A 38) 2 = some (A 4) := h.R 38 2 4 rfl
theorem CR.r38_4 {A : Nat → Nat} {D nn : Nat} {V : Rows} {g : gS} (h : CR A D nn V g) : gR g (A 38) 4 = some (A 39) := h.R 38 4 39 rfl
theorem CR.r40_0 {A : Nat → Nat} {D nn : Nat} {V : Rows} {g : gS} (h : CR A D nn V g) : gR g (A 40) 0 = some (A 14) := h.R 40 0 14 rfl
theorem CR.r40_1 {A : Nat → Nat} {D nn : Nat} {V : Rows} {g : gS} (h : CR A D nn V g) : gR g (A 40) 1 = some (A 10) := h.R 40 1 10 rfl
theorem CR.r40_2 {A : Nat → Nat} {D nn : Nat} {V : Rows} {g : gS} (h : CR A D nn V g) : gR g (A 40) 2 = some (A 30) := h.R 40 2 30 rfl
theorem CR.r40_4 {A : Nat → Nat} {D nn : Nat} {V : Rows} {g : gS} (h : CR A D nn V g) : gR g (A 40) 4 = some (A 41) := h.R 40 4 41 rfl
section CDOC
variable {A : Nat → Nat} {D nn : Nat} {V : Rows} {g : gS}
theorem CR.kd (h : CR A D nn V g) {d : Nat} (hd : d < D) (r k : Nat) (hr : dK r = k) (h0 : k ≠ 0) (h2 : r < 20) : gK g (A (dl d r)) = k := h.K _ k (by rw [KL_d hd (by have := h.D6; omega) h2]; exact hr) h0
theorem CR.nd (h : CR A D nn V g) {d : Nat} (hd : d < D) (r k n : Nat) (hr : dK r = k) (hn : dN r = n) (h0 : 21 ≤ k) (h2 : r < 20) : gN g (A (dl d r)) = n := by
  have := h.D6
  rw [h.N _ k (by rw [KL_d hd (by omega) h2]; exact hr) h0, NL_d (by omega) h2, hn]
theorem CR.id (h : CR A D nn V g) {d : Nat} (hd : d < D) (r k : Nat) (hr : dK r = k) (h0 : k ≠ 0) (h2 : r < 20) : gI g (A (dl d r)) = V (dl d r) := h.I _ k (by rw [KL_d hd (by have := h.D6; omega) h2]; exact hr) h0
theorem CR.d0k (h : CR A D nn V g) {d : Nat} (hd : d < D) : gK g (A (dl d 0)) = 3 := h.kd hd 0 3 rfl (by decide) (by decide)
theorem CR.d0i (h : CR A D nn V g) {d : Nat} (hd : d < D) : gI g (A (dl d 0)) = V (dl d 0) := h.id hd 0 3 rfl (by decide) (by decide)
theorem CR.d1k (h : CR A D nn V g) {d : Nat} (hd : d < D) : gK g (A (dl d 1)) = 26 := h.kd hd 1 26 rfl (by decide) (by decide)
theorem CR.d1n (h : CR A D nn V g) {d : Nat} (hd : d < D) : gN g (A (dl d 1)) = 3 := h.nd hd 1 26 3 rfl rfl (by decide) (by decide)
theorem CR.d0r (h : CR A D nn V g) {d : Nat} (hd : d < D) : gR g (A (dl d 0)) 2 = some (A (dl d 1)) := h.dR hd 0 2 1 rfl
theorem CR.d1r (h : CR A D nn V g) {d f : Nat} (hd : d < D) (hf : f < 3) : gR g (A (dl d 1)) f = some (A (dl d (2 + f))) := h.dR hd 1 f (2 + f) (by rcases f with _ | _ | _ | f <;> first | rfl | omega)
theorem dK_t {f : Nat} (hf : f < 3) : dK (2 + f) = 10 := by rcases f with _ | _ | _ | f <;> first | rfl | omega
theorem CR.tk (h : CR A D nn V g) {d f : Nat} (hd : d < D) (hf : f < 3) : gK g (A (dl d (2 + f))) = 10 := h.kd hd _ 10 (dK_t hf) (by decide) (by omega)
theorem CR.ti (h : CR A D nn V g) {d f : Nat} (hd : d < D) (hf : f < 3) : gI g (A (dl d (2 + f))) = V (dl d (2 + f)) := h.id hd _ 10 (dK_t hf) (by decide) (by omega)
theorem dK_p {f : Nat} (hf : f < 3) : dK (5 + f) = 21 := by rcases f with _ | _ | _ | f <;> first | rfl | omega
theorem CR.pk (h : CR A D nn V g) {d f : Nat} (hd : d < D) (hf : f < 3) : gK g (A (dl d (5 + f))) = 21 := h.kd hd _ 21 (dK_p hf) (by decide) (by omega)
theorem CR.pi (h : CR A D nn V g) {d f : Nat} (hd : d < D) (hf : f < 3) : gI g (A (dl d (5 + f))) = V (dl d (5 + f)) := h.id hd _ 21 (dK_p hf) (by decide) (by omega)
theorem CR.pn (h : CR A D nn V g) {d f : Nat} (hd : d < D) (hf : f < 3) : gN g (A (dl d (5 + f))) = 12 := h.nd hd _ 21 12 (dK_p hf) (by rcases f with _ | _ | _ | f <;> first | rfl | omega) (by decide) (by omega)
theorem dK_q {f : Nat} (hf : f < 3) : dK (8 + f) = 21 := by rcases f with _ | _ | _ | f <;> first | rfl | omega
theorem CR.qk (h : CR A D nn V g) {d f : Nat} (hd : d < D) (hf : f < 3) : gK g (A (dl d (8 + f))) = 21 := h.kd hd _ 21 (dK_q hf) (by decide) (by omega)
theorem CR.qi (h : CR A D nn V g) {d f : Nat} (hd : d < D) (hf : f < 3) : gI g (A (dl d (8 + f))) = V (dl d (8 + f)) := h.id hd _ 21 (dK_q hf) (by decide) (by omega)
theorem CR.qn (h : CR A D nn V g) {d f : Nat} (hd : d < D) (hf : f < 3) : gN g (A (dl d (8 + f))) = 12 := h.nd hd _ 21 12 (dK_q hf) (by rcases f with _ | _ | _ | f <;> first | rfl | omega) (by decide) (by omega)
theorem dK_c {f : Nat} (hf : f < 3) : dK (11 + f) = 21 := by rcases f with _ | _ | _ | f <;> first | rfl | omega
theorem CR.ck (h : CR A D nn V g) {d f : Nat} (hd : d < D) (hf : f < 3) : gK g (A (dl d (11 + f))) = 21 := h.kd hd _ 21 (dK_c hf) (by decide) (by omega)
theorem CR.ci (h : CR A D nn V g) {d f : Nat} (hd : d < D) (hf : f < 3) : gI g (A (dl d (11 + f))) = V (dl d (11 + f)) := h.id hd _ 21 (dK_c hf) (by decide) (by omega)
theorem CR.cn (h : CR A D nn V g) {d f : Nat} (hd : d < D) (hf : f < 3) : gN g (A (dl d (11 + f))) = 12 := h.nd hd _ 21 12 (dK_c hf) (by rcases f with _ | _ | _ | f <;> first | rfl | omega) (by decide) (by omega)
theorem CR.tpr (h : CR A D nn V g) {d f : Nat} (hd : d < D) (hf : f < 3) : gR g (A (dl d (2 + f))) 0 = some (A (dl d (5 + f))) := h.dR hd (2 + f) 0 (5 + f) (by rcases f with _ | _ | _ | f <;> first | rfl | omega)
theorem CR.tqr (h : CR A D nn V g) {d f : Nat} (hd : d < D) (hf : f < 3) : gR g (A (dl d (2 + f))) 1 = some (A (dl d (8 + f))) := h.dR hd (2 + f) 1 (8 + f) (by rcases f with _ | _ | _ | f <;> first | rfl | omega)
theorem CR.tcr (h : CR A D nn V g) {d f : Nat} (hd : d < D) (hf : f < 3) : gR g (A (dl d (2 + f))) 2 = some (A (dl d (11 + f))) := h.dR hd (2 + f) 2 (11 + f) (by rcases f with _ | _ | _ | f <;> first | rfl | omega)
theorem CR.jk (h : CR A D nn V g) {j : Nat} (hj : j < nn) : gK g (A (jl j)) = 6 := h.K _ 6 (KL_j hj) (by decide)
theorem CR.ji (h : CR A D nn V g) {j : Nat} (hj : j < nn) : gI g (A (jl j)) = V (jl j) := h.I _ 6 (KL_j hj) (by decide)
end CDOC
