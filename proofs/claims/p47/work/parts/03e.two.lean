/-! TWO GHOSTS SIDE BY SIDE (one's own cells, the engine's), AND THE SCRIPT, WHICH NOBODY WRITES -/
theorem pl_nodup {f : Nat → va_E} : ∀ {P : List Nat}, va_D (fun _ => True) (va_pl P f) → P.Nodup := by
  intro P h
  unfold List.Nodup
  rw [List.pairwise_iff_getElem]
  intro i j hi hj hij e
  have h1 : (va_pl P f)[i]? = some (P[i], f P[i]) := by simp [va_pl, hi]
  have h2 : (va_pl P f)[j]? = some (P[j], f P[j]) := by simp [va_pl, hj]
  have := h.1 i j _ _ h1 h2 e
  omega
theorem nodup_pl {f : Nat → va_E} {P : List Nat} (h : P.Nodup) : va_D (fun _ => True) (va_pl P f) := by
  refine ⟨fun i j x y hi hj hxy => ?_, fun _ _ _ => trivial⟩
  simp only [va_pl, List.getElem?_map, Option.map_eq_some_iff] at hi hj
  obtain ⟨a, ha, rfl⟩ := hi
  obtain ⟨b, hb, rfl⟩ := hj
  obtain ⟨hi1, hi2⟩ := List.getElem?_eq_some_iff.mp ha
  obtain ⟨hj1, hj2⟩ := List.getElem?_eq_some_iff.mp hb
  have : P[i] = P[j] := by rw [hi2, hj2]; exact hxy
  have hp := List.pairwise_iff_getElem.mp h
  rcases Nat.lt_trichotomy i j with q | q | q
  · exact absurd this (hp i j hi1 hj1 q)
  · exact q
  · exact absurd this.symm (hp j i hj1 hi1 q)
theorem gH_of {D : va_G} {cA : Nat → ClassId} {g : gS} {H : Heap} {P : List Nat} (hn : P.Nodup) (hm : ∀ a, a ∈ P ↔ gK g a ≠ 0) (ha : ∀ a, gK g a ≠ 0 → va_at D vwCl (a, gE cA g a) H) : gH D cA g H := by
  refine ⟨P, hm, fun k q hk => ?_, nodup_pl hn⟩
  obtain ⟨a, hp, e⟩ := List.mem_map.mp (List.mem_of_getElem? hk)
  rw [← e]
  exact ha a ((hm a).mp hp)
def gE0 : gS := (fun _ => 0, fun _ => 0, fun _ _ => 0, fun _ _ => none, fun _ _ => 0)
theorem gH_empty {D : va_G} {cA : Nat → ClassId} {H : Heap} : gH D cA gE0 H := gH_of (P := []) List.nodup_nil (fun a => by simp [gE0, gK]) (fun a h => absurd rfl h)
/-- both parts side by side -/
def gJoin (g h : gS) : gS := (fun a => if gK h a = 0 then gK g a else gK h a, fun a => if gK h a = 0 then gN g a else gN h a, fun a => if gK h a = 0 then gI g a else gI h a, fun a => if gK h a = 0 then gR g a else gR h a, fun a => if gK h a = 0 then gJ g a else gJ h a)
theorem gJoin_l {cA : Nat → ClassId} {g h : gS} {a : Nat} (h0 : gK h a = 0) : gE cA (gJoin g h) a = gE cA g a := gE_congr (if_pos h0) (if_pos h0) (if_pos h0) (if_pos h0) (if_pos h0)
theorem gJoin_r {cA : Nat → ClassId} {g h : gS} {a : Nat} (h0 : gK h a ≠ 0) : gE cA (gJoin g h) a = gE cA h a := gE_congr (if_neg h0) (if_neg h0) (if_neg h0) (if_neg h0) (if_neg h0)
theorem gK_join {g h : gS} {a : Nat} : gK (gJoin g h) a = if gK h a = 0 then gK g a else gK h a := rfl
theorem gK_jl {g h : gS} {a : Nat} (h0 : gK h a = 0) : gK (gJoin g h) a = gK g a := if_pos h0
theorem gN_jl {g h : gS} {a : Nat} (h0 : gK h a = 0) : gN (gJoin g h) a = gN g a := if_pos h0
theorem gI_jl {g h : gS} {a : Nat} (h0 : gK h a = 0) : gI (gJoin g h) a = gI g a := if_pos h0
theorem gR_jl {g h : gS} {a : Nat} (h0 : gK h a = 0) : gR (gJoin g h) a = gR g a := if_pos h0
theorem gH_join {D : va_G} {cA : Nat → ClassId} {g h : gS} {H : Heap} (h1 : gH D cA g H) (h2 : gH D cA h H) (hd : ∀ a, gK g a ≠ 0 → gK h a = 0) : gH D cA (gJoin g h) H := by
  obtain ⟨P1, m1, p1, d1⟩ := id h1
  obtain ⟨P2, m2, p2, d2⟩ := id h2
  refine gH_of (P := P1 ++ P2) ?_ (fun a => ?_) (fun a ha => ?_)
  · refine List.nodup_append.mpr ⟨pl_nodup d1, pl_nodup d2, ?_⟩
    intro a ha b hb e
    subst e
    exact (m2 a).mp hb (hd a ((m1 a).mp ha))
  · rw [List.mem_append, m1, m2, gK_join]
    by_cases h0 : gK h a = 0
    · rw [if_pos h0]; simp [h0]
    · rw [if_neg h0]; simp [h0]
  · by_cases h0 : gK h a = 0
    · rw [gJoin_l h0]
      rw [gK_join, if_pos h0] at ha
      exact h1.at' ha
    · rw [gJoin_r h0]; exact h2.at' h0
theorem gH_sub {D : va_G} {cA : Nat → ClassId} {g G : gS} {H : Heap} (h1 : gH D cA G H) (hs : ∀ a, gK g a ≠ 0 → gK G a ≠ 0 ∧ gE cA G a = gE cA g a) : gH D cA g H := by
  obtain ⟨P, m1, p1, d1⟩ := id h1
  refine gH_of (P := P.filter (fun a => decide (gK g a ≠ 0))) ((pl_nodup d1).filter _) (fun a => ?_) (fun a ha => ?_)
  · rw [List.mem_filter, m1, decide_eq_true_eq]
    exact ⟨fun h => h.2, fun h => ⟨(hs a h).1, h⟩⟩
  · rw [← (hs a ha).2]; exact h1.at' (hs a ha).1
/-- the script at b: L ints xs -/
def hX (b L : Nat) (xs : Nat → Int32) (A : Nat → Prop) (s : State) : Prop := va_X b L xs s s.heap ∧ b < s.heap.size ∧ ¬ A b
/-- a frame's view -/
def hC (D : va_G) (cA : Nat → ClassId) (A : Nat → Prop) (s : State) (b L : Nat) (xs : Nat → Int32) (g gm : gS) (H : Heap) (locs : List Loc) : Prop :=
  gC D cA A s g H locs ∧ gH D cA gm H ∧ (∀ q, gK gm q ≠ 0 → A q) ∧ (∀ q, gK g q ≠ 0 → gK gm q = 0) ∧ hX b L xs A s
def hA (g gm : gS) (sz : Nat) : Nat → Prop := fun q => gK g q ≠ 0 ∨ gK gm q ≠ 0 ∨ sz ≤ q
def hPre (D : va_G) (cA : Nat → ClassId) (b L : Nat) (xs : Nat → Int32) (g gm : gS) (sz : Nat) (U : State) : Prop :=
  gKs D cA U ∧ gZ (hA g gm sz) U ∧ U.heap.size = sz ∧ gH D cA g U.heap ∧ gH D cA gm U.heap ∧ (∀ q, gK g q ≠ 0 → gK gm q = 0) ∧ hX b L xs (hA g gm sz) U
def hPost (D : va_G) (cA : Nat → ClassId) (g gm : gS) (sz : Nat) (u : gS × gS) (t : State) : Prop :=
  gH D cA u.1 t.heap ∧ gH D cA u.2 t.heap ∧ (∀ q, gK u.1 q ≠ 0 → hA g gm sz q) ∧ (∀ q, gK u.2 q ≠ 0 → hA g gm sz q) ∧ ∀ q, gK u.1 q ≠ 0 → gK u.2 q = 0
def hQi (D : va_G) (cA : Nat → ClassId) (g gm : gS) (sz : Nat) (Q : Int32 → gS → gS → Prop) : Array Value → State → Outcome → State → Prop := va_Qi (fun r (u : gS × gS) => Q r u.1 u.2) (hPost D cA g gm sz) (hA g gm sz)
def hQv (D : va_G) (cA : Nat → ClassId) (g gm : gS) (sz : Nat) (Q : gS → gS → Prop) : Array Value → State → Outcome → State → Prop := va_Qv (fun (u : gS × gS) => Q u.1 u.2) (hPost D cA g gm sz) (hA g gm sz)
def hQq (D : va_G) (cA : Nat → ClassId) (g gm : gS) (sz : Nat) (Q : Option Nat → gS → gS → Prop) : Array Value → State → Outcome → State → Prop := va_Qq (fun r (u : gS × gS) => Q r u.1 u.2) (hPost D cA g gm sz) (hA g gm sz)
section HONE
variable {D : va_G} {cA : Nat → ClassId} {A : Nat → Prop} {s t U : State} {b L sz : Nat} {xs : Nat → Int32} {g gm g' g0 m0 : gS} {H H1 : Heap} {locs locs1 : List Loc} {av : List Value} {u : gS × gS}
theorem hC.swap (h : hC D cA A s b L xs g gm H locs) : hC D cA A s b L xs gm g H locs := by
  obtain ⟨⟨c1, c2, c3, c4, c5, c6⟩, h2, h3, h4, h5⟩ := h
  refine ⟨⟨c1, c2, c3, h2, h3, c6⟩, c4, c5, fun q hq => ?_, h5⟩
  by_cases h0 : gK g q = 0
  · exact h0
  · exact absurd (h4 q h0) hq
theorem hC.ap (h : hC D cA A s b L xs g gm H locs) {a : Nat} (hk : gK g a ≠ 0) : gK gm a = 0 := h.2.2.2.1 a hk
theorem hC.free2 (h : hC D cA A s b L xs g gm H locs) : ∀ q, hA g gm H.size q → A q := fun q hq => hq.elim (h.1.2.2.2.2.1 q) (fun z => z.elim (h.2.2.1 q) (fun z => h.1.2.1 q (Nat.le_trans h.1.2.2.2.2.2.1 z)))
theorem hC.pre (hc : hC D cA A s b L xs g gm H locs) (hU : U.heap = H) (hW : s.WarmedH U.vm) : hPre D cA b L xs g gm H.size U := by
  have hn := hc.free2
  obtain ⟨⟨hK, hAA, hZ, hH, hgA, hS⟩, h2, h3, h4, h5, h6, h7⟩ := hc
  refine ⟨gKs_warm hW hK, ⟨?_, ?_⟩, by rw [hU], by rw [hU]; exact hH, by rw [hU]; exact h2, h4, ?_, ?_, fun q => h7 (hn b q)⟩
  · rw [hU]; exact vx_Zq.narrow (vx_Zq.moved hW.alike (hZ.1.kept hS.2.1)) hn
  · rw [hU]; exact vx_Zq.narrow (vx_Zq.moved hW.alike (hZ.2.kept hS.2.1)) hn
  · rw [hU]; exact va_X.moved hW.alike (h5.kept (hS.2.1 b h6 h7))
  · rw [hU]; exact Nat.lt_of_lt_of_le h6 hS.1
theorem hBlind : FrameBlind (va_Pc av (hPre D cA b L xs g gm sz)) := fun _ U f mk q => ⟨q.1, gKs_calling q.2.1, gZ_calling q.2.2.1, q.2.2.2.1, q.2.2.2.2.1, q.2.2.2.2.2.1, q.2.2.2.2.2.2.1, va_X.moved (u := U) (U := U.calling _ _ _) (Vm.Alike.refl U.vm) q.2.2.2.2.2.2.2.1, q.2.2.2.2.2.2.2.2⟩
theorem hPre.start (h : hPre D cA b L xs g gm sz s) : hC D cA (hA g gm sz) s b L xs g gm s.heap [] :=
  ⟨⟨h.1, fun q hq => Or.inr (Or.inr (by rw [← h.2.2.1]; exact hq)), h.2.1, h.2.2.2.1, fun q hq => Or.inl hq, va_S.rf⟩, h.2.2.2.2.1, fun q hq => Or.inr (Or.inl hq), h.2.2.2.2.2.1, h.2.2.2.2.2.2⟩
theorem hC.preV {a ci : Nat} {q : vw_C} {As : List Value} (hc : hC D cA A s b L xs g gm H locs) (hk : gK g a = ci + 1) (hq : vwCl[ci]? = some q) (hl : ci < 19) : PreV s H q.1 a (va_Pc (.ref a :: As) (hPre D cA b L xs g gm H.size)) As := by
  refine ⟨hBlind, ?_, fun U hU hW => ⟨rfl, hc.pre hU hW⟩⟩
  obtain ⟨P, h1, h2, -⟩ := hc.1.2.2.2.1
  obtain ⟨k, hkk⟩ := va_pl_get (X := []) (f := gE cA g) ((h1 a).mpr (by rw [hk]; omega))
  rw [gE_obj hk hl] at hkk
  exact va_recv (ws := va_pl P (gE cA g)) hc.1.1.1 h2 hq hkk
theorem hC.preS {As : List Value} (hc : hC D cA A s b L xs g gm H locs) : PreS s H (va_Pc As (hPre D cA b L xs g gm H.size)) As := ⟨hBlind, fun U hU hW => ⟨rfl, hc.pre hU hW⟩⟩
theorem hC.post2 (hc : hC D cA A s b L xs g gm H locs) (ht : t.heap = H1) (hp : hPost D cA g gm H.size u t) (hS : va_S A s.heap H1 locs1) : hC D cA A s b L xs u.1 u.2 H1 locs1 := by
  have hn := hc.free2
  obtain ⟨⟨hK, hAA, hZ, hH, hgA, hS0⟩, h2, h3, h4, h5⟩ := hc
  obtain ⟨p1, p2, p3, p4, p5⟩ := hp
  rw [ht] at p1 p2
  exact ⟨⟨hK, hAA, hZ, p1, fun q hq => hn q (p3 q hq), hS⟩, p2, fun q hq => hn q (p4 q hq), p5, h5⟩
/-- behind a call on the one, the other is as it was -/
theorem hC.post (h : hC D cA A s b L xs g gm H locs) (ht : t.heap = H1) (hp : gPost D cA g H.size g' t) (hk : ∀ q : Nat, q < H.size → ¬ gA g H.size q → H1[q]? = H[q]?) (hS : va_S A s.heap H1 locs1) : hC D cA A s b L xs g' gm H1 locs1 := by
  obtain ⟨hc, h2, h3, h4, h5⟩ := h
  have hlt : ∀ q, gK gm q ≠ 0 → q < H.size := fun q hq => h2.lt hq
  have h0 : ∀ q, gK gm q ≠ 0 → gK g q = 0 := fun q hq => by
    by_cases h0 : gK g q = 0
    · exact h0
    · exact absurd (h4 q h0) hq
  refine ⟨hc.post ht hp hS, h2.kept (fun a ha => hk a (hlt a ha) (fun z => z.elim (fun y => y (h0 a ha)) (fun y => Nat.not_le.mpr (hlt a ha) y))), h3, fun q hq => ?_, h5⟩
  by_cases hm : gK gm q = 0
  · exact hm
  · exact ((hp.2 q hq).elim (fun y => y (h0 q hm)) (fun y => Nat.not_le.mpr (hlt q hm) y)).elim
theorem hC.done (hc : hC D cA (hA g0 m0 sz) s b L xs g gm H locs) (ht : t.heap = H) : hPost D cA g0 m0 sz (g, gm) t :=
  ⟨by rw [ht]; exact hc.1.2.2.2.1, by rw [ht]; exact hc.2.1, hc.1.2.2.2.2.1, hc.2.2.1, hc.2.2.2.1⟩
theorem hC.join (hc : hC D cA A s b L xs g gm H locs) : gC D cA A s (gJoin g gm) H locs := by
  obtain ⟨⟨c1, c2, c3, c4, c5, c6⟩, h2, h3, h4, h5⟩ := hc
  refine ⟨c1, c2, c3, gH_join c4 h2 h4, fun q hq => ?_, c6⟩
  by_cases h : gK gm q = 0
  · rw [gK_join, if_pos h] at hq; exact c5 q hq
  · exact h3 q h
theorem hC.jk (hc : hC D cA A s b L xs g gm H locs) {a k : Nat} (hk : gK g a = k) (h0 : k ≠ 0) : gK (gJoin g gm) a = k := by rw [gK_jl (hc.ap (by rw [hk]; exact h0))]; exact hk
theorem hC.jn (hc : hC D cA A s b L xs g gm H locs) {a : Nat} (hk : gK g a ≠ 0) : gN (gJoin g gm) a = gN g a := gN_jl (hc.ap hk)
/-- ints written -/
theorem hC.putI {a : Nat} {f : Nat → Int32} (hc : hC D cA A s b L xs g gm H locs) (hk : gK g a ≠ 0) (h1 : gC D cA A s (sI (gJoin g gm) a f) H1 locs1) : hC D cA A s b L xs (sI g a f) gm H1 locs1 := by
  have hm := hc.ap hk
  obtain ⟨hc1, h2, h3, h4, h5⟩ := hc
  obtain ⟨c1, c2, c3, c4, c5, c6⟩ := h1
  refine ⟨⟨c1, c2, c3, gH_sub c4 (fun q hq => ?_), fun q hq => hc1.2.2.2.2.1 q hq, c6⟩, gH_sub c4 (fun q hq => ?_), h3, h4, h5⟩
  · have hq' : gK g q ≠ 0 := hq
    have m0 := h4 q hq'
    refine ⟨by show gK (gJoin g gm) q ≠ 0; rw [gK_jl m0]; exact hq', ?_⟩
    by_cases e : q = a
    · subst e
      exact gE_congr (if_pos m0) (if_pos m0) (by rw [gI_sI_self, gI_sI_self]) (if_pos m0) (if_pos m0)
    · rw [gE_sI_ne e, gE_sI_ne e, gJoin_l m0]
  · have e : q ≠ a := fun e => hq (e ▸ hm)
    refine ⟨by show gK (gJoin g gm) q ≠ 0; rw [gK_join, if_neg hq]; exact hq, ?_⟩
    rw [gE_sI_ne e, gJoin_r hq]
theorem hC.putU {a k : Nat} {v : Int32} (hc : hC D cA A s b L xs g gm H locs) (hk : gK g a ≠ 0) (h1 : gC D cA A s (sI (gJoin g gm) a (upd (gI (gJoin g gm) a) k v)) H1 locs1) : hC D cA A s b L xs (sU g a k v) gm H1 locs1 := by
  rw [gI_jl (hc.ap hk)] at h1
  exact hc.putI hk h1
/-- references written -/
theorem hC.putR {a : Nat} {f : Nat → Option Nat} (hc : hC D cA A s b L xs g gm H locs) (hk : gK g a ≠ 0) (h1 : gC D cA A s (sR (gJoin g gm) a f) H1 locs1) : hC D cA A s b L xs (sR g a f) gm H1 locs1 := by
  have hm := hc.ap hk
  obtain ⟨hc1, h2, h3, h4, h5⟩ := hc
  obtain ⟨c1, c2, c3, c4, c5, c6⟩ := h1
  refine ⟨⟨c1, c2, c3, gH_sub c4 (fun q hq => ?_), fun q hq => hc1.2.2.2.2.1 q hq, c6⟩, gH_sub c4 (fun q hq => ?_), h3, h4, h5⟩
  · have hq' : gK g q ≠ 0 := hq
    have m0 := h4 q hq'
    refine ⟨by show gK (gJoin g gm) q ≠ 0; rw [gK_jl m0]; exact hq', ?_⟩
    by_cases e : q = a
    · subst e
      exact gE_congr (if_pos m0) (if_pos m0) (if_pos m0) (by rw [gR_sR_self, gR_sR_self]) (if_pos m0)
    · rw [gE_sR_ne e, gE_sR_ne e, gJoin_l m0]
  · have e : q ≠ a := fun e => hq (e ▸ hm)
    refine ⟨by show gK (gJoin g gm) q ≠ 0; rw [gK_join, if_neg hq]; exact hq, ?_⟩
    rw [gE_sR_ne e, gJoin_r hq]
theorem hC.putV {a k : Nat} {v : Option Nat} (hc : hC D cA A s b L xs g gm H locs) (hk : gK g a ≠ 0) (h1 : gC D cA A s (sR (gJoin g gm) a (va_up (gR (gJoin g gm) a) k v)) H1 locs1) : hC D cA A s b L xs (sV g a k v) gm H1 locs1 := by
  rw [gR_jl (hc.ap hk)] at h1
  exact hc.putR hk h1
/-- a cell made -/
theorem hC.made {q k n : Nat} (hc : hC D cA A s b L xs g gm H locs) (h0 : gK (gJoin g gm) q = 0) (hk : k ≠ 0) (h1 : gC D cA A s (sNew (gJoin g gm) q k n) H1 locs1) : gK g q = 0 ∧ gK gm q = 0 ∧ hC D cA A s b L xs (sNew g q k n) gm H1 locs1 := by
  have hm : gK gm q = 0 := by
    by_cases h : gK gm q = 0
    · exact h
    · rw [gK_join, if_neg h] at h0; exact h0
  have hg : gK g q = 0 := by rw [gK_join, if_pos hm] at h0; exact h0
  obtain ⟨c1, c2, c3, c4, c5, c6⟩ := h1
  obtain ⟨hc1, h2, h3, h4, h5⟩ := hc
  refine ⟨hg, hm, ⟨c1, c2, c3, gH_sub c4 (fun a ha => ?_), fun z hz => ?_, c6⟩, gH_sub c4 (fun a ha => ?_), h3, fun z hz => ?_, h5⟩
  · by_cases haq : a = q
    · subst haq
      exact ⟨by rw [gK_new]; exact hk, gE_congr (by rw [gK_new, gK_new]) (by rw [gN_new, gN_new]) (by rw [gI_new, gI_new]) (by rw [gR_new, gR_new]) (by rw [gJ_new, gJ_new])⟩
    · rw [gK_new_ne haq] at ha ⊢
      have := h4 a ha
      exact ⟨by rw [gK_join, if_pos this]; exact ha, by rw [gE_new_ne haq, gE_new_ne haq, gJoin_l this]⟩
  · by_cases hbq : z = q
    · subst hbq; exact c5 z (by rw [gK_new]; exact hk)
    · rw [gK_new_ne hbq] at hz; exact hc1.2.2.2.2.1 z hz
  · have haq : a ≠ q := fun e => ha (e ▸ hm)
    exact ⟨by rw [gK_new_ne haq, gK_join, if_neg ha]; exact ha, by rw [gE_new_ne haq, gJoin_r ha]⟩
  · by_cases hbq : z = q
    · subst hbq; exact hm
    · rw [gK_new_ne hbq] at hz; exact h4 z hz
end HONE
/-- a body's start -/
theorem h_met {l : Launch} {y : MethodName} {ws ws' : List Cond} {rm : Room} {Qc : Array Value → State → Outcome → State → Prop} {mc ms maxL sz b L : Nat} {xs : Nat → Int32} {cc : ByteArray} {ret : Option FieldType} {D : va_G} {cA : Nat → ClassId} {g gm : gS} {av : List Value} {own : String}
    (hy : plainName y.cls = true) (hw : ws = Cond.code y cc maxL ret :: ws') (hown : y.cls = own) (hlen : (lg_sl av).length ≤ maxL)
    (body : ∀ p e s m args below meth c ls, CallFix p m c cc maxL s args ws own → meth.sig.returnType = ret → meth.locks = false → meth.name = y.name → hC D cA (hA g gm sz) s b L xs g gm s.heap [] → lv_has ls maxL (lv_args 0 av) → W p l e (headSpec ws rm).room s m args below meth c s.heap [] 0 0 (MQ below Qc args s mc ms (hA g gm sz)) (F0 m 0 ls [])) :
    Met l y ws rm (va_Pc av (hPre D cA b L xs g gm sz)) Qc mc ms (hA g gm sz) := by
  refine Met.ofW (cc := cc) (maxL := maxL) (ret := ret) hy hw ?_
  intro p e s m args below meth c s₁ B hml hv
  obtain ⟨rfl, hpre⟩ := hv
  have hown2 : s.vm.findClass own = some m.cls := by rw [← hown]; exact findClass_of_methodNamed B.named
  have hl := lv_entry av (n := maxL) hlen
  rw [lg_entry_eq]
  exact body p e s m _ below meth c _ ⟨B.exec, B.bytes, hml, hown2, atoms_spec (ws := ws) B.pre⟩ B.returns B.notSynchronized (name_of_methodNamed B.named B.method).1 hpre.start hl
section HROWS
variable {p : Program} {l : Launch} {e : Env} {R : Room} {s : State} {m : MethodId} {args : Array Value} {below : List Frame} {meth : Method} {c : Code} {H : Heap} {locs : List Loc} {cells slots : Nat} {Q : State → Prop}
variable {cc : ByteArray} {pc nL : Nat} {ls : Array Slot} {rest st0 : List Value} {D : va_G} {cA : Nat → ClassId} {A : Nat → Prop} {a b L : Nat} {xs : Nat → Int32} {g gm g0 m0 : gS} {Ts : List Cond} {own : String} {arr : Array Value} {mc ms sz : Nat}
-- calls on the engine
theorem h_calli {Q' : Int32 → gS → Prop} (hr : va_Run p l e R s m args below meth c H locs cells slots mc ms (F0 m pc ls st0) rest (gQi D cA gm H.size Q' arr) (gA gm H.size)) (hc : hC D cA A s b L xs g gm H locs)
    (kk : ∀ (r : Int32) (g' : gS) (H1 : Heap) (locs1 : List Loc), Q' r g' → hC D cA A s b L xs g g' H1 locs1 → W p l e R s m args below meth c H1 locs1 (cells + mc) (slots + ms) Q (F0 m (pc + 3) ls (.int r :: rest))) : W p l e R s m args below meth c H locs cells slots Q (F0 m pc ls st0) :=
  va_calli hr hc.1.2.2.2.2.2 (fun q _ h => hc.swap.1.free q h) hc.swap.1.free (fun r u t H1 locs1 ht _ hp hb _ hk hS => kk r u H1 locs1 hp (hc.swap.post ht hb hk hS).swap)
theorem h_calll {Q' : Int64 → gS → Prop} (hr : va_Run p l e R s m args below meth c H locs cells slots mc ms (F0 m pc ls st0) rest (gQl D cA gm H.size Q' arr) (gA gm H.size)) (hc : hC D cA A s b L xs g gm H locs)
    (kk : ∀ (r : Int64) (g' : gS) (H1 : Heap) (locs1 : List Loc), Q' r g' → hC D cA A s b L xs g g' H1 locs1 → W p l e R s m args below meth c H1 locs1 (cells + mc) (slots + ms) Q (F0 m (pc + 3) ls (.long r :: rest))) : W p l e R s m args below meth c H locs cells slots Q (F0 m pc ls st0) :=
  va_calll hr hc.1.2.2.2.2.2 (fun q _ h => hc.swap.1.free q h) hc.swap.1.free (fun r u t H1 locs1 ht _ hp hb _ hk hS => kk r u H1 locs1 hp (hc.swap.post ht hb hk hS).swap)
theorem h_calld {Q' : UInt64 → gS → Prop} (hr : va_Run p l e R s m args below meth c H locs cells slots mc ms (F0 m pc ls st0) rest (gQd D cA gm H.size Q' arr) (gA gm H.size)) (hc : hC D cA A s b L xs g gm H locs)
    (kk : ∀ (r : UInt64) (g' : gS) (H1 : Heap) (locs1 : List Loc), Q' r g' → hC D cA A s b L xs g g' H1 locs1 → W p l e R s m args below meth c H1 locs1 (cells + mc) (slots + ms) Q (F0 m (pc + 3) ls (.double r :: rest))) : W p l e R s m args below meth c H locs cells slots Q (F0 m pc ls st0) :=
  va_calld hr hc.1.2.2.2.2.2 (fun q _ h => hc.swap.1.free q h) hc.swap.1.free (fun r u t H1 locs1 ht _ hp hb _ hk hS => kk r u H1 locs1 hp (hc.swap.post ht hb hk hS).swap)
theorem h_callv {Q' : gS → Prop} (hr : va_Run p l e R s m args below meth c H locs cells slots mc ms (F0 m pc ls st0) rest (gQv D cA gm H.size Q' arr) (gA gm H.size)) (hc : hC D cA A s b L xs g gm H locs)
    (kk : ∀ (g' : gS) (H1 : Heap) (locs1 : List Loc), Q' g' → hC D cA A s b L xs g g' H1 locs1 → W p l e R s m args below meth c H1 locs1 (cells + mc) (slots + ms) Q (F0 m (pc + 3) ls rest)) : W p l e R s m args below meth c H locs cells slots Q (F0 m pc ls st0) :=
  va_callv hr hc.1.2.2.2.2.2 (fun q _ h => hc.swap.1.free q h) hc.swap.1.free (fun u t H1 locs1 ht _ hp hb _ hk hS => kk u H1 locs1 hp (hc.swap.post ht hb hk hS).swap)
/-- a call that could throw, but does not -/
theorem h_xcalli {Q' : Int32 → gS → Prop} {X' : String → gS → Prop} (hr : vx_Run p l e R s m args below meth c H locs cells slots mc ms (F0 m pc ls st0) rest (gQi D cA gm H.size Q' arr) (gQx D cA gm H.size X') (gA gm H.size)) (hX' : ∀ E g', X' E g' → False) (hc : hC D cA A s b L xs g gm H locs)
    (kk : ∀ (r : Int32) (g' : gS) (H1 : Heap) (locs1 : List Loc), Q' r g' → hC D cA A s b L xs g g' H1 locs1 → W p l e R s m args below meth c H1 locs1 (cells + mc) (slots + ms) Q (F0 m (pc + 3) ls (.int r :: rest))) : W p l e R s m args below meth c H locs cells slots Q (F0 m pc ls st0) :=
  vx_calli hr hc.1.2.2.2.2.2 (fun q _ h => hc.swap.1.free q h) hc.swap.1.free (fun q _ h => hc.swap.1.free q h) (fun E ce q9 u t H1 locs1 ht _ _ hb _ _ hS h1 h2 h3 => (hX' E u hb.1).elim) (fun r u t H1 locs1 ht _ hp hb _ hk hS => kk r u H1 locs1 hp (hc.swap.post ht hb hk hS).swap)
-- calls of one's own
theorem hh_calli {Q' : Int32 → gS → gS → Prop} (hr : va_Run p l e R s m args below meth c H locs cells slots mc ms (F0 m pc ls st0) rest (hQi D cA g gm H.size Q' arr) (hA g gm H.size)) (hc : hC D cA A s b L xs g gm H locs)
    (kk : ∀ (r : Int32) (g' m' : gS) (H1 : Heap) (locs1 : List Loc), Q' r g' m' → hC D cA A s b L xs g' m' H1 locs1 → W p l e R s m args below meth c H1 locs1 (cells + mc) (slots + ms) Q (F0 m (pc + 3) ls (.int r :: rest))) : W p l e R s m args below meth c H locs cells slots Q (F0 m pc ls st0) :=
  va_calli hr hc.1.2.2.2.2.2 (fun q _ h => hc.free2 q h) hc.free2 (fun r u t H1 locs1 ht _ hp hb _ _ hS => kk r u.1 u.2 H1 locs1 hp (hc.post2 ht hb hS))
theorem hh_callv {Q' : gS → gS → Prop} (hr : va_Run p l e R s m args below meth c H locs cells slots mc ms (F0 m pc ls st0) rest (hQv D cA g gm H.size Q' arr) (hA g gm H.size)) (hc : hC D cA A s b L xs g gm H locs)
    (kk : ∀ (g' m' : gS) (H1 : Heap) (locs1 : List Loc), Q' g' m' → hC D cA A s b L xs g' m' H1 locs1 → W p l e R s m args below meth c H1 locs1 (cells + mc) (slots + ms) Q (F0 m (pc + 3) ls rest)) : W p l e R s m args below meth c H locs cells slots Q (F0 m pc ls st0) :=
  va_callv hr hc.1.2.2.2.2.2 (fun q _ h => hc.free2 q h) hc.free2 (fun u t H1 locs1 ht _ hp hb _ _ hS => kk u.1 u.2 H1 locs1 hp (hc.post2 ht hb hS))
theorem hh_callq {Q' : Option Nat → gS → gS → Prop} (hr : va_Run p l e R s m args below meth c H locs cells slots mc ms (F0 m pc ls st0) rest (hQq D cA g gm H.size Q' arr) (hA g gm H.size)) (hc : hC D cA A s b L xs g gm H locs)
    (kk : ∀ (r : Option Nat) (g' m' : gS) (H1 : Heap) (locs1 : List Loc), Q' r g' m' → hC D cA A s b L xs g' m' H1 locs1 → W p l e R s m args below meth c H1 locs1 (cells + mc) (slots + ms) Q (F0 m (pc + 3) ls (va_rf r :: rest))) : W p l e R s m args below meth c H locs cells slots Q (F0 m pc ls st0) :=
  va_callq hr hc.1.2.2.2.2.2 (fun q _ h => hc.free2 q h) hc.free2 (fun r u t H1 locs1 ht _ hp hb _ _ hS => kk r u.1 u.2 H1 locs1 hp (hc.post2 ht hb hS))
-- ends
theorem h_reti {Q' : Int32 → gS → gS → Prop} {r : Int32} {ty : FieldType} (CF : CallFix p m c cc nL s args Ts own) (hr : meth.sig.returnType = some ty) (hlocks : meth.locks = false) (hc : hC D cA (hA g0 m0 sz) s b L xs g gm H locs) (hn : narrow ty (.int r) = .int r) (hQ : Q' r g gm) (hdg : decode cc pc = .ok (.ireturn, 1)) : W p l e R s m args below meth c H locs cells slots (MQ below (hQi D cA g0 m0 sz Q') args s cells slots (hA g0 m0 sz)) (F0 m pc ls [.int r]) :=
  W.zret CF.1 CF.2.1 hr hn (fun t ht hW => ⟨⟨r, (g, gm), rfl, hQ, hc.done ht⟩, hc.1.2.2.2.2.2.F ht⟩) hc.1.2.2.2.2.2.2.2 hdg hlocks
theorem h_retv {Q' : gS → gS → Prop} (CF : CallFix p m c cc nL s args Ts own) (hr : meth.sig.returnType = none) (hlocks : meth.locks = false) (hc : hC D cA (hA g0 m0 sz) s b L xs g gm H locs) (hQ : Q' g gm) (hdg : decode cc pc = .ok (.return_, 1)) : W p l e R s m args below meth c H locs cells slots (MQ below (hQv D cA g0 m0 sz Q') args s cells slots (hA g0 m0 sz)) (F0 m pc ls []) :=
  W.vret CF.1 CF.2.1 hr (fun t ht hW => ⟨⟨(g, gm), rfl, hQ, hc.done ht⟩, hc.1.2.2.2.2.2.F ht⟩) hc.1.2.2.2.2.2.2.2 hdg hlocks
theorem h_retq {Q' : Option Nat → gS → gS → Prop} {r : Option Nat} {t0 : FieldType} (CF : CallFix p m c cc nL s args Ts own) (hr : meth.sig.returnType = some (.array t0)) (hlocks : meth.locks = false) (hc : hC D cA (hA g0 m0 sz) s b L xs g gm H locs) (hQ : Q' r g gm) (hdg : decode cc pc = .ok (.areturn, 1)) : W p l e R s m args below meth c H locs cells slots (MQ below (hQq D cA g0 m0 sz Q') args s cells slots (hA g0 m0 sz)) (F0 m pc ls [va_rf r]) :=
  W.aret CF.1 CF.2.1 hr (Or.inr ⟨_, rfl⟩) (va_rf_or r) (fun t ht hW => ⟨⟨r, (g, gm), rfl, hQ, hc.done ht⟩, hc.1.2.2.2.2.2.F ht⟩) hc.1.2.2.2.2.2.2.2 hdg hlocks
-- rows of arrays
theorem h_aald (CF : CallFix p m c cc nL s args Ts own) (hc : hC D cA A s b L xs g gm H locs) {k : Nat} (hk : gK g a = k) (hk2 : k = 24 ∨ k = 28) {i : Int32} (hin : vp_in i (gN g a)) {x : Nat} (hx : gR g a i.toNatClampNeg = some x) (hdg : decode cc pc = .ok (.aaload, 1))
    (kk : W p l e R s m args below meth c H locs cells slots Q (F0 m (pc + 1) ls (.ref x :: rest))) : W p l e R s m args below meth c H locs cells slots Q (F0 m pc ls (.int i :: .ref a :: rest)) := by
  rcases hk2 with rfl | rfl
  · exact g_aaldr CF hc.1 hk hin hx hdg kk
  · refine g_aald CF hc.1 (j := 4) hk (by omega) hin hdg ?_
    rw [hx]; exact kk
theorem gE_24 (h : gK g a = 24) : gE cA g a = .inl (cA 3, gN g a, .inr (.inr (.inr (.inr (gR g a))))) := gE_q (j := 0) h (by omega)
theorem h_self (vm : Vm) (c : ClassId) : vm.assignable c c = true := by
  show vm.assignableAux _ c c = true
  unfold Vm.assignableAux
  simp
/-- a row of rows: a row of ints written -/
theorem g_aastr (CF : CallFix p m c cc nL s args Ts own) (hc : gC D cA A s g H locs) {v : Nat} (hk : gK g a = 24) (hkv : gK g v = 21) {i : Int32} (hin : vp_in i (gN g a)) (hdg : decode cc pc = .ok (.aastore, 1))
    (kk : ∀ (H1 : Heap) (locs1 : List Loc), gC D cA A s (sR g a (va_up (gR g a) i.toNatClampNeg (some v))) H1 locs1 → W p l e R s m args below meth c H1 locs1 cells slots Q (F0 m (pc + 1) ls rest)) : W p l e R s m args below meth c H locs cells slots Q (F0 m pc ls (.ref v :: .int i :: .ref a :: rest)) := by
  obtain ⟨hx, hb, hml, hown, hts⟩ := CF
  have hlt : i.toNatClampNeg < gN g a := Nat.not_le.mp fun q => hin (Or.inr q)
  have h0 : ¬ i < 0 := fun q => hin (Or.inl q)
  obtain ⟨P, j, hPm, hP, hD, hDA, hj, hset⟩ := hc.pool (a := a) (by rw [hk]; omega)
  rw [gE_q (j := 0) hk (by omega)] at hj
  have hs := hset (sR g a (va_up (gR g a) i.toNatClampNeg (some v))) (.inl (cA (3 + 0), gN g a, .inr (.inr (.inr (.inr (va_up (gR g a) i.toNatClampNeg (some v))))))) (by rw [gE_q (g := sR g a (va_up (gR g a) i.toNatClampNeg (some v))) (j := 0) hk (by omega), gR_sR_self, gN_sR]) (fun b hb => gE_sR_ne hb)
  have hv : H[v]? = some (vp_cell (cA 0) (gN g v, .inl (gI g v))) := by
    have := hc.2.2.2.1.at' (a := v) (by rw [hkv]; omega)
    rw [gE_i hkv] at this
    exact this
  obtain ⟨comp, c9, k9, h1, -, h3, h4, h5⟩ := arrayOverA_spec (va_AOA.use (A := #[]) hc.1.2.2.2.2.2.2.1)
  have e3 : c9 = cA 3 := Option.some.inj (h5.symm.trans (hc.1.1.2 3 (cA 3, .array .int) rfl).2)
  have e0 : comp = cA 0 := Option.some.inj (h1.symm.trans (hc.1.1.2 0 (cA 0, .int) rfl).2)
  subst e3
  subst e0
  obtain ⟨-, kC, hkC, -, -⟩ := (hc.1.1.2 0 (cA 0, .int) rfl).1 0 (fun _ => .null)
  refine W.aast hx hb (hP j _ hj) (fun q h => by cases h) (fun h => by cases h) h3 h4 rfl hkC ⟨h0, by show _ < (arrV _ _ _).slots.size; rw [arrV_size]; exact hlt⟩ hv (fun q h => by cases h) hkC (h_self _ _) rfl rfl hdg fun H1 e z oq => ?_
  have he : va_at D vwCl (a, .inl (cA (3 + 0), gN g a, .inr (.inr (.inr (.inr (va_up (gR g a) i.toNatClampNeg (some v))))))) H1 := by
    show H1[a]? = some (vp_cell _ _)
    refine e.trans ?_
    show some (Cell.setSlot (vp_cell (cA (3 + 0)) (gN g a, .inr (.inr (.inr (.inr (gR g a)))))) i.toNatClampNeg (.ref v)) = _
    rw [vp_cell_q, vp_cell_q, arrV_store]
    congr 2
    funext q
    by_cases hq : q = i.toNatClampNeg
    · subst hq
      simp [updV, va_up, va_rf]
    · simp [updV, va_up, hq]
  exact kk H1 _ (gC.put hc hPm (by rw [← hs]; exact hP.set hDA hj he oq) (by rw [← hs]; exact hDA.set hj) (hc.2.2.2.2.2.put z oq (hDA.2 j _ hj)) (fun _ => rfl))
/-- rows of ints copied -/
theorem g_copyi (CF : CallFix p m c cc nL s args Ts own) (hc : gC D cA A s g H locs) (hsz : ls.size = nL) {index a0 : Nat} (w1 : Cond.methodLink own index arraycopyName ∈ Ts) (w2 : Cond.native arraycopyName ∈ Ts) (w3 : Cond.static arraycopyName ∈ Ts) (w4 : Cond.initialized "java/lang/System" ∈ Ts) (hk0 : gK g a0 = 21) (hk : gK g a = 21) {sp dp n : Int32} (h1 : ¬ sp < 0) (h2 : ¬ dp < 0) (h3 : ¬ n < 0) (h4 : sp.toNatClampNeg + n.toNatClampNeg ≤ gN g a0) (h5 : dp.toNatClampNeg + n.toNatClampNeg ≤ gN g a)
    (hframes : 1 ≤ R.frames) (hlocals : (rest.map fun v => v.category).sum + (nativeFrameWords "java/lang/System" "arraycopy" 5 + 11) ≤ R.locals) (hdg : decode cc pc = .ok (.invokestatic index, 3))
    (kk : ∀ (H1 : Heap) (locs1 : List Loc), gC D cA A s (sI g a (va_cpy (gI g a0) (gI g a) sp.toNatClampNeg dp.toNatClampNeg n.toNatClampNeg)) H1 locs1 → W p l e R s m args below meth c H1 locs1 cells slots Q (F0 m (pc + 3) ls rest)) : W p l e R s m args below meth c H locs cells slots Q (F0 m pc ls (.int n :: .int dp :: .ref a :: .int sp :: .ref a0 :: rest)) := by
  obtain ⟨hx, hb, hml, hown, hts⟩ := CF
  obtain ⟨P, j, hPm, hP, hD, hDA, hj, hset⟩ := hc.pool (a := a) (by rw [hk]; omega)
  obtain ⟨j0, hj0⟩ := va_pl_get (X := []) (f := gE cA g) ((hPm a0).mpr (by rw [hk0]; omega))
  rw [gE_i hk] at hj
  rw [gE_i hk0] at hj0
  have hs := hset (sI g a (va_cpy (gI g a0) (gI g a) sp.toNatClampNeg dp.toNatClampNeg n.toNatClampNeg)) (.inl (cA 0, gN g a, .inl (va_cpy (gI g a0) (gI g a) sp.toNatClampNeg dp.toNatClampNeg n.toNatClampNeg))) (by rw [gE_i (g := sI g a _) hk, gI_sI_self, gN_sI]) (fun b hb => gE_sI_ne hb)
  exact va_copyi (H0 := s.heap) hx hb (hml.trans hsz.symm) hown (hts _ w1) (hts _ w2) (hts _ w3) (hts _ w4) hc.1.1 hP hDA hc.2.2.2.2.2 j0 j 0 0 hj0 hj rfl rfl rfl h1 h2 h3 h4 h5 (fun _ _ => rfl) hframes hlocals hdg (fun H1 locs1 hP1 hD1 hS1 => kk H1 locs1 (gC.put hc hPm (by rw [← hs]; exact hP1) (by rw [← hs]; exact hD1) hS1 (fun _ => rfl)))
/-- rows of rows copied -/
theorem g_copyr (CF : CallFix p m c cc nL s args Ts own) (hc : gC D cA A s g H locs) (hsz : ls.size = nL) {index a0 : Nat} (w1 : Cond.methodLink own index arraycopyName ∈ Ts) (w2 : Cond.native arraycopyName ∈ Ts) (w3 : Cond.static arraycopyName ∈ Ts) (w4 : Cond.initialized "java/lang/System" ∈ Ts) (hk0 : gK g a0 = 24) (hk : gK g a = 24) {sp dp n : Int32} (h1 : ¬ sp < 0) (h2 : ¬ dp < 0) (h3 : ¬ n < 0) (h4 : sp.toNatClampNeg + n.toNatClampNeg ≤ gN g a0) (h5 : dp.toNatClampNeg + n.toNatClampNeg ≤ gN g a)
    (hel : ∀ i : Nat, i < n.toNatClampNeg → ∀ y : Nat, gR g a0 (sp.toNatClampNeg + i) = some y → gK g y = 21)
    (hframes : 1 ≤ R.frames) (hlocals : (rest.map fun v => v.category).sum + (nativeFrameWords "java/lang/System" "arraycopy" 5 + 11) ≤ R.locals) (hdg : decode cc pc = .ok (.invokestatic index, 3))
    (kk : ∀ (H1 : Heap) (locs1 : List Loc), gC D cA A s (sR g a (va_cpy (gR g a0) (gR g a) sp.toNatClampNeg dp.toNatClampNeg n.toNatClampNeg)) H1 locs1 → W p l e R s m args below meth c H1 locs1 cells slots Q (F0 m (pc + 3) ls rest)) : W p l e R s m args below meth c H locs cells slots Q (F0 m pc ls (.int n :: .int dp :: .ref a :: .int sp :: .ref a0 :: rest)) := by
  obtain ⟨hexec, hb, hml, hown, hts⟩ := CF
  obtain ⟨P, j, hPm, hP, hD, hDA, hj, hset⟩ := hc.pool (a := a) (by rw [hk]; omega)
  obtain ⟨j0, hj0⟩ := va_pl_get (X := []) (f := gE cA g) ((hPm a0).mpr (by rw [hk0]; omega))
  rw [gE_24 hk] at hj
  rw [gE_24 hk0] at hj0
  have hs := hset (sR g a (va_cpy (gR g a0) (gR g a) sp.toNatClampNeg dp.toNatClampNeg n.toNatClampNeg)) (.inl (cA 3, gN g a, .inr (.inr (.inr (.inr (va_cpy (gR g a0) (gR g a) sp.toNatClampNeg dp.toNatClampNeg n.toNatClampNeg)))))) (by rw [gE_24 (g := sR g a _) hk, gR_sR_self, gN_sR]) (fun b hb => gE_sR_ne hb)
  obtain ⟨comp, c9, k9, r1, -, r3, r4, r5⟩ := arrayOverA_spec (va_AOA.use (A := #[]) hc.1.2.2.2.2.2.2.1)
  have e3 : c9 = cA 3 := Option.some.inj (r5.symm.trans (hc.1.1.2 3 (cA 3, .array .int) rfl).2)
  have e0 : comp = cA 0 := Option.some.inj (r1.symm.trans (hc.1.1.2 0 (cA 0, .int) rfl).2)
  subst e3
  subst e0
  obtain ⟨-, kC, hkC, -, -⟩ := (hc.1.1.2 0 (cA 0, .int) rfl).1 0 (fun _ => .null)
  have nn : ∀ z : Int32, ¬ z < 0 → z.toInt = (z.toNatClampNeg : Int) := by
    intro z hz
    have hz0 : (0 : Int) ≤ z.toInt := by
      have := Int32.not_lt.mp hz
      simpa using Int32.le_iff_toInt_le.mp this
    show z.toInt = ((z.toInt.toNat : Nat) : Int)
    omega
  intro T hT X
  have hc0 : H[a0]? = some (vp_cell (cA 3) (gN g a0, .inr (.inr (.inr (.inr (gR g a0)))))) := hP j0 _ hj0
  have hc1 : H[a]? = some (vp_cell (cA 3) (gN g a, .inr (.inr (.inr (.inr (gR g a)))))) := hP j _ hj
  obtain ⟨vm', X', step⟩ := X.arraycopy hexec hown (hts _ w1) (hts _ w2) (hts _ w3) (hts _ w4) (src := a0) (dst := a) (cs := vp_cell (cA 3) (gN g a0, .inr (.inr (.inr (.inr (gR g a0)))))) (cd := vp_cell (cA 3) (gN g a, .inr (.inr (.inr (.inr (gR g a)))))) (srcPos := sp) (destPos := dp) (n := n) (by rw [hT]; exact hc0) (by rw [hT]; exact hc1)
    (fun _ h => by cases h) (fun _ h => by cases h) (fun h => by cases h) (fun h => by cases h) r3 r3 r4 r4 rfl h1 h2 h3
    (by rw [nn sp h1, nn n h3]; show ¬ _ > ((arrV (cA 3) (gN g a0) (fun j => va_rf (gR g a0 j))).slots.size : Int); rw [arrV_size]; omega)
    (by rw [nn dp h2, nn n h3]; show ¬ _ > ((arrV (cA 3) (gN g a) (fun j => va_rf (gR g a j))).slots.size : Int); rw [arrV_size]; omega)
    (fun vm₁ hal i hi => by
      have e : (vp_cell (cA 3) (gN g a0, .inr (.inr (.inr (.inr (gR g a0)))))).slots.getD (sp.toNatClampNeg + i) .null = va_rf (gR g a0 (sp.toNatClampNeg + i)) := by
        show (arrV (cA 3) (gN g a0) (fun j => va_rf (gR g a0 j))).slots.getD _ _ = _
        rw [Array.getD_eq_getD_getElem?, arrV_read _ _ (by omega)]
        rfl
      rw [e]
      cases hy : gR g a0 (sp.toNatClampNeg + i) with
      | none => exact ⟨rfl, trivial⟩
      | some y =>
        have hky := hel i hi y hy
        have hv : H[y]? = some (vp_cell (cA 0) (gN g y, .inl (gI g y))) := by
          have := hc.2.2.2.1.at' (a := y) (by rw [hky]; omega)
          rw [gE_i hky] at this
          exact this
        obtain ⟨kC', hkC', -⟩ := hal.2.2 _ _ hkC
        refine ⟨rfl, vp_cell (cA 0) (gN g y, .inl (gI g y)), (show T.heap[y]? = some _ by rw [hT]; exact hv), (fun q h => by cases h), ⟨kC', hkC'⟩, ?_, ?_⟩
        · exact ⟨kC', hkC'⟩
        · show vm₁.assignable _ _ = true
          exact h_self _ _)
    (g := F0 m pc ls (.int n :: .int dp :: .ref a :: .int sp :: .ref a0 :: rest)) rfl (by rw [hml]; exact hsz) (rest := rest) rfl (by rw [hb]; exact hdg) hframes (by show 2 * 0 + _ + _ ≤ _; omega)
  have e1 : copied (vp_cell (cA 3) (gN g a0, .inr (.inr (.inr (.inr (gR g a0)))))) (vp_cell (cA 3) (gN g a, .inr (.inr (.inr (.inr (gR g a)))))) sp dp n = vp_cell (cA 3) (gN g a, .inr (.inr (.inr (.inr (va_cpy (gR g a0) (gR g a) sp.toNatClampNeg dp.toNatClampNeg n.toNatClampNeg))))) := by
    rw [vp_cell_q, vp_cell_q, vp_cell_q]
    exact va_copied (fun z => va_rf z) (cA 3) (cA 3) (gR g a0) (gR g a) h4
  rw [e1] at X' step
  have hl : a < H.size := (Array.getElem?_eq_some_iff.mp hc1).1
  generalize hnew : vp_cell (cA 3) (gN g a, .inr (.inr (.inr (.inr (va_cpy (gR g a0) (gR g a) sp.toNatClampNeg dp.toNatClampNeg n.toNatClampNeg))))) = NC at X' step
  have hheap : ((T.setVm vm').setCell a NC).heap = H.setIfInBounds a NC := by rw [← hT]; rfl
  have oq : ∀ q : Nat, q ≠ a → (H.setIfInBounds a NC)[q]? = H[q]? := fun q hq => by simp [Array.getElem?_setIfInBounds, Ne.symm hq]
  have hS := hc.2.2.2.2.2
  have he : va_at D vwCl (a, .inl (cA 3, gN g a, .inr (.inr (.inr (.inr (va_cpy (gR g a0) (gR g a) sp.toNatClampNeg dp.toNatClampNeg n.toNatClampNeg)))))) (H.setIfInBounds a NC) := by
    show (H.setIfInBounds a NC)[a]? = some (vp_cell (cA 3) (gN g a, .inr (.inr (.inr (.inr (va_cpy (gR g a0) (gR g a) sp.toNatClampNeg dp.toNatClampNeg n.toNatClampNeg))))))
    rw [hnew]; simp [Array.getElem?_setIfInBounds, hl]
  have hP1 := hP.set hDA hj he oq
  have hD1 := hDA.set (e := .inl (cA 3, gN g a, .inr (.inr (.inr (.inr (va_cpy (gR g a0) (gR g a) sp.toNatClampNeg dp.toNatClampNeg n.toNatClampNeg)))))) hj
  obtain ⟨t, a1, b1⟩ := kk (H.setIfInBounds a NC) (locs ++ ((vp_cell (cA 3) (gN g a0, .inr (.inr (.inr (.inr (gR g a0)))))).stretch sp.toNatClampNeg n.toNatClampNeg).zipIdx.map fun q => ⟨a, dp.toNatClampNeg + q.2⟩) (gC.put hc hPm (by rw [← hs]; exact hP1) (by rw [← hs]; exact hD1) ⟨by simp; exact hS.1, fun q g1 g2 => by
      rw [oq q (fun e => g2 (by rw [e]; exact hDA.2 j _ hj))]
      exact hS.2.1 q g1 g2, fun q hq => by
      rcases List.mem_append.mp hq with h | h
      · exact hS.2.2 q h
      · obtain ⟨z, -, hz⟩ := List.mem_map.mp h
        rw [← hz]
        exact hDA.2 j _ hj⟩ (fun _ => rfl)) _ hheap X'
  exact ⟨t, step t a1, b1⟩
/-- a row of rows made, all of them null -/
theorem g_newr (CF : CallFix p m c cc nL s args Ts own) (hc : gC D cA A s g H locs) {index : Nat} (hcl : Cond.classLink own index "[I" ∈ Ts) {n : Int32} {N : Nat} (hn : ¬ n < 0) (hN : n.toNatClampNeg = N) (hb1 : N * 4 ≤ 536870912) (hcells : cells + 1 ≤ R.cells) (hslots : slots + N ≤ R.slots) (hdg : decode cc pc = .ok (.anewarray index, 3))
    (kk : ∀ (q : Nat) (H1 : Heap) (locs1 : List Loc), gK g q = 0 → gC D cA A s (sNew g q 24 N) H1 locs1 → W p l e R s m args below meth c H1 locs1 (cells + 1) (slots + N) Q (F0 m (pc + 3) ls (.ref q :: rest))) : W p l e R s m args below meth c H locs cells slots Q (F0 m pc ls (.int n :: rest)) := by
  obtain ⟨hx, hb, hml, hown, hts⟩ := CF
  obtain ⟨P, hPm, hP, hD⟩ := hc.2.2.2.1
  have hDA : va_D A (va_pl P (gE cA g)) := va_D_of hD (fun k q hk => hc.2.2.2.2.1 _ ((hPm _).mp (va_pl_mem hk)))
  subst hN
  refine W.anewA (t := .int) hx hb hown (hts _ hcl) (va_AOA.use hc.1.2.2.2.2.2.2.1) rfl hdg rfl hn hb1 hcells hslots fun c9 kA comp f1 f2 f3 f4 => ?_
  have e3 : c9 = cA 3 := Option.some.inj (f1.symm.trans (hc.1.1.2 3 (cA 3, .array .int) rfl).2)
  subst e3
  generalize hH1 : H.push ({ cls := cA 3, slots := Array.replicate n.toNatClampNeg .null, vm := .none } : Cell) = H1
  have z1 : H1.size = H.size + 1 := by rw [← hH1, Array.size_push]
  have e1 : H1[H.size]? = some (arrV (cA 3) n.toNatClampNeg (fun _ => .null)) := by rw [← hH1, Array.getElem?_push_size, ← arrV_new]
  have o1 : ∀ q : Nat, q < H.size → H1[q]? = H[q]? := fun q hq => by rw [← hH1, Array.getElem?_push, if_neg (Nat.ne_of_lt hq)]
  have hkp : ∀ (k : Nat) (x : Nat × va_E), (va_pl P (gE cA g))[k]? = some x → H1[x.1]? = H[x.1]? := fun k x hx => o1 x.1 ((hP k x hx).lt)
  have hS := hc.2.2.2.2.2
  have hP1 : va_P D vwCl (va_pl P (gE cA g) ++ [(H.size, .inl (cA 3, n.toNatClampNeg, .inr (.inr (.inr (.inr (fun _ => none))))))]) H1 := (hP.kept hkp).app (fun k x hx => by
    have hz : k < 1 := (List.getElem?_eq_some_iff.mp hx).1
    rw [show k = 0 by omega] at hx
    cases hx
    show H1[H.size]? = some (vp_cell _ _)
    rw [vp_cell_q]
    exact e1)
  have hS1 : va_S A s.heap H1 locs := ⟨Nat.le_trans hS.1 (by omega), fun x h1 h2 => (o1 x (Nat.lt_of_lt_of_le h1 hS.1)).trans (hS.2.1 x h1 h2), hS.2.2⟩
  obtain ⟨h0, h1⟩ := hc.made hPm (k := 24) (n := n.toNatClampNeg) hP1 (hDA.push hP rfl (hc.2.1 _ hS.1)) hS1 (by omega) (by rw [gE_24 gK_new, gN_new, gR_new])
  exact kk H.size H1 _ h0 h1
end HROWS
