/-! two views of one heap: the law's rows -/
theorem pl_nodup {f : Nat → va_E} : ∀ {P : List Nat}, va_D (fun _ => True) (va_pl P f) → P.Nodup := by
  intro P h
  unfold List.Nodup
  rw [List.pairwise_iff_getElem]
  intro i j hi hj hij e
  have h1 : (va_pl P f)[i]? = some (P[i], f P[i]) := by simp [va_pl, hi]
  have h2 : (va_pl P f)[j]? = some (P[j], f P[j]) := by simp [va_pl, hj]
  have := h.1 i j _ _ h1 h2 e
  omega
theorem nodup_pl {f : Nat → va_E} {P : List Nat} (h : P.Nodup) : va_D (fun _ => True) (va_pl P f) := by
  refine ⟨fun i j x y hi hj hxy => ?_, fun _ _ _ => trivial⟩
  simp only [va_pl, List.getElem?_map, Option.map_eq_some_iff] at hi hj
  obtain ⟨a, ha, rfl⟩ := hi
  obtain ⟨b, hb, rfl⟩ := hj
  obtain ⟨hi1, hi2⟩ := List.getElem?_eq_some_iff.mp ha
  obtain ⟨hj1, hj2⟩ := List.getElem?_eq_some_iff.mp hb
  have : P[i] = P[j] := by rw [hi2, hj2]; exact hxy
  have hp := List.pairwise_iff_getElem.mp h
  rcases Nat.lt_trichotomy i j with q | q | q
  · exact absurd this (hp i j hi1 hj1 q)
  · exact q
  · exact absurd this.symm (hp j i hj1 hi1 q)
theorem gH_of {D : va_G} {cA : Nat → ClassId} {g : gS} {H : Heap} {P : List Nat} (hn : P.Nodup) (hm : ∀ a, a ∈ P ↔ gK g a ≠ 0) (ha : ∀ a, gK g a ≠ 0 → va_at D vwCl (a, gE cA g a) H) : gH D cA g H := by
  refine ⟨P, hm, fun k q hk => ?_, nodup_pl hn⟩
  obtain ⟨a, hp, e⟩ := List.mem_map.mp (List.mem_of_getElem? hk)
  rw [← e]
  exact ha a ((hm a).mp hp)
def gE0 : gS := (fun _ => 0, fun _ => 0, fun _ _ => 0, fun _ _ => none, fun _ _ => 0)
theorem gH_empty {D : va_G} {cA : Nat → ClassId} {H : Heap} : gH D cA gE0 H := gH_of (P := []) List.nodup_nil (fun a => by simp [gE0, gK]) (fun a h => absurd rfl h)
/-- both parts side by side -/
def gJoin (g h : gS) : gS := (fun a => if gK h a = 0 then gK g a else gK h a, fun a => if gK h a = 0 then gN g a else gN h a, fun a => if gK h a = 0 then gI g a else gI h a, fun a => if gK h a = 0 then gR g a else gR h a, fun a => if gK h a = 0 then gJ g a else gJ h a)
theorem gJoin_l {cA : Nat → ClassId} {g h : gS} {a : Nat} (h0 : gK h a = 0) : gE cA (gJoin g h) a = gE cA g a := gE_congr (if_pos h0) (if_pos h0) (if_pos h0) (if_pos h0) (if_pos h0)
theorem gJoin_r {cA : Nat → ClassId} {g h : gS} {a : Nat} (h0 : gK h a ≠ 0) : gE cA (gJoin g h) a = gE cA h a := gE_congr (if_neg h0) (if_neg h0) (if_neg h0) (if_neg h0) (if_neg h0)
theorem gK_join {g h : gS} {a : Nat} : gK (gJoin g h) a = if gK h a = 0 then gK g a else gK h a := rfl
theorem gH_join {D : va_G} {cA : Nat → ClassId} {g h : gS} {H : Heap} (h1 : gH D cA g H) (h2 : gH D cA h H) (hd : ∀ a, gK g a ≠ 0 → gK h a = 0) : gH D cA (gJoin g h) H := by
  obtain ⟨P1, m1, p1, d1⟩ := id h1
  obtain ⟨P2, m2, p2, d2⟩ := id h2
  refine gH_of (P := P1 ++ P2) ?_ (fun a => ?_) (fun a ha => ?_)
  · refine List.nodup_append.mpr ⟨pl_nodup d1, pl_nodup d2, ?_⟩
    intro a ha b hb e
    subst e
    exact (m2 a).mp hb (hd a ((m1 a).mp ha))
  · rw [List.mem_append, m1, m2, gK_join]
    by_cases h0 : gK h a = 0
    · rw [if_pos h0]; simp [h0]
    · rw [if_neg h0]; simp [h0]
  · by_cases h0 : gK h a = 0
    · rw [gJoin_l h0]
      rw [gK_join, if_pos h0] at ha
      exact h1.at' ha
    · rw [gJoin_r h0]; exact h2.at' h0
theorem gH_sub {D : va_G} {cA : Nat → ClassId} {g G : gS} {H : Heap} (h1 : gH D cA G H) (hs : ∀ a, gK g a ≠ 0 → gK G a ≠ 0 ∧ gE cA G a = gE cA g a) : gH D cA g H := by
  obtain ⟨P, m1, p1, d1⟩ := id h1
  refine gH_of (P := P.filter (fun a => decide (gK g a ≠ 0))) ((pl_nodup d1).filter _) (fun a => ?_) (fun a ha => ?_)
  · rw [List.mem_filter, m1, decide_eq_true_eq]
    exact ⟨fun h => h.2, fun h => ⟨(hs a h).1, h⟩⟩
  · rw [← (hs a ha).2]; exact h1.at' (hs a ha).1
def gL (D : va_G) (cA : Nat → ClassId) (s : State) (g gm : gS) (H : Heap) (locs : List Loc) : Prop :=
  gC D cA (fun q => s.heap.size ≤ q) s g H locs ∧ gH D cA gm H ∧ (∀ q, gK gm q ≠ 0 → s.heap.size ≤ q) ∧ ∀ q, gK g q ≠ 0 → gK gm q = 0
theorem gL.swap {D : va_G} {cA : Nat → ClassId} {s : State} {g gm : gS} {H : Heap} {locs : List Loc} (h : gL D cA s g gm H locs) : gL D cA s gm g H locs := by
  obtain ⟨⟨c1, c2, c3, c4, c5, c6⟩, h2, h3, h4⟩ := h
  refine ⟨⟨c1, c2, c3, h2, h3, c6⟩, c4, c5, fun q hq => ?_⟩
  by_cases h0 : gK g q = 0
  · exact h0
  · exact absurd (h4 q h0) hq
/-- behind a call on the one, the other is as it was -/
theorem gL.post {D : va_G} {cA : Nat → ClassId} {s t : State} {g g' gm : gS} {H H1 : Heap} {locs locs1 : List Loc} (h : gL D cA s g gm H locs) (ht : t.heap = H1) (hp : gPost D cA g H.size g' t) (hk : ∀ q : Nat, q < H.size → ¬ gA g H.size q → H1[q]? = H[q]?) (hS : va_S (fun q => s.heap.size ≤ q) s.heap H1 locs1) : gL D cA s g' gm H1 locs1 := by
  obtain ⟨hc, h2, h3, h4⟩ := h
  have hlt : ∀ q, gK gm q ≠ 0 → q < H.size := fun q hq => h2.lt hq
  have h0 : ∀ q, gK gm q ≠ 0 → gK g q = 0 := fun q hq => by
    by_cases h0 : gK g q = 0
    · exact h0
    · exact absurd (h4 q h0) hq
  refine ⟨hc.post ht hp hS, h2.kept (fun a ha => hk a (hlt a ha) (fun z => z.elim (fun y => y (h0 a ha)) (fun y => Nat.not_le.mpr (hlt a ha) y))), h3, fun q hq => ?_⟩
  by_cases hm : gK gm q = 0
  · exact hm
  · exact ((hp.2 q hq).elim (fun y => y (h0 q hm)) (fun y => Nat.not_le.mpr (hlt q hm) y)).elim
section LROWS
variable {p : Program} {l : Launch} {e : Env} {R : Room} {s : State} {m : MethodId} {args : Array Value} {below : List Frame} {meth : Method} {c : Code} {H : Heap} {locs : List Loc} {cells slots : Nat} {Q : State → Prop}
variable {cc : ByteArray} {pc nL : Nat} {ls : Array Slot} {rest st0 : List Value} {D : va_G} {cA : Nat → ClassId} {a : Nat} {g gm : gS} {Ts : List Cond} {own : String} {arr : Array Value} {mc ms sz : Nat}
theorem l_calli {Q' : Int32 → gS → Prop} (hr : va_Run p l e R s m args below meth c H locs cells slots mc ms (F0 m pc ls st0) rest (gQi D cA g H.size Q' arr) (gA g H.size)) (hc : gL D cA s g gm H locs)
    (kk : ∀ (r : Int32) (g' : gS) (H1 : Heap) (locs1 : List Loc), Q' r g' → gL D cA s g' gm H1 locs1 → W p l e R s m args below meth c H1 locs1 (cells + mc) (slots + ms) Q (F0 m (pc + 3) ls (.int r :: rest))) : W p l e R s m args below meth c H locs cells slots Q (F0 m pc ls st0) :=
  va_calli hr hc.1.2.2.2.2.2 (fun q _ h => hc.1.free q h) hc.1.free (fun r u t H1 locs1 ht _ hp hb _ hk hS => kk r u H1 locs1 hp (hc.post ht hb hk hS))
theorem l_calll {Q' : Int64 → gS → Prop} (hr : va_Run p l e R s m args below meth c H locs cells slots mc ms (F0 m pc ls st0) rest (gQl D cA g H.size Q' arr) (gA g H.size)) (hc : gL D cA s g gm H locs)
    (kk : ∀ (r : Int64) (g' : gS) (H1 : Heap) (locs1 : List Loc), Q' r g' → gL D cA s g' gm H1 locs1 → W p l e R s m args below meth c H1 locs1 (cells + mc) (slots + ms) Q (F0 m (pc + 3) ls (.long r :: rest))) : W p l e R s m args below meth c H locs cells slots Q (F0 m pc ls st0) :=
  va_calll hr hc.1.2.2.2.2.2 (fun q _ h => hc.1.free q h) hc.1.free (fun r u t H1 locs1 ht _ hp hb _ hk hS => kk r u H1 locs1 hp (hc.post ht hb hk hS))
theorem l_calld {Q' : UInt64 → gS → Prop} (hr : va_Run p l e R s m args below meth c H locs cells slots mc ms (F0 m pc ls st0) rest (gQd D cA g H.size Q' arr) (gA g H.size)) (hc : gL D cA s g gm H locs)
    (kk : ∀ (r : UInt64) (g' : gS) (H1 : Heap) (locs1 : List Loc), Q' r g' → gL D cA s g' gm H1 locs1 → W p l e R s m args below meth c H1 locs1 (cells + mc) (slots + ms) Q (F0 m (pc + 3) ls (.double r :: rest))) : W p l e R s m args below meth c H locs cells slots Q (F0 m pc ls st0) :=
  va_calld hr hc.1.2.2.2.2.2 (fun q _ h => hc.1.free q h) hc.1.free (fun r u t H1 locs1 ht _ hp hb _ hk hS => kk r u H1 locs1 hp (hc.post ht hb hk hS))
theorem l_callv {Q' : gS → Prop} (hr : va_Run p l e R s m args below meth c H locs cells slots mc ms (F0 m pc ls st0) rest (gQv D cA g H.size Q' arr) (gA g H.size)) (hc : gL D cA s g gm H locs)
    (kk : ∀ (g' : gS) (H1 : Heap) (locs1 : List Loc), Q' g' → gL D cA s g' gm H1 locs1 → W p l e R s m args below meth c H1 locs1 (cells + mc) (slots + ms) Q (F0 m (pc + 3) ls rest)) : W p l e R s m args below meth c H locs cells slots Q (F0 m pc ls st0) :=
  va_callv hr hc.1.2.2.2.2.2 (fun q _ h => hc.1.free q h) hc.1.free (fun u t H1 locs1 ht _ hp hb _ hk hS => kk u H1 locs1 hp (hc.post ht hb hk hS))
/-- a cell that is made belongs to the one -/
theorem gL.made {g1 gm1 : gS} {H1 : Heap} {locs1 : List Loc} {q k n : Nat} (hc : gL D cA s g gm H locs) (h0 : gK (gJoin g gm) q = 0) (hk : k ≠ 0) (h1 : gC D cA (fun q => s.heap.size ≤ q) s (sNew (gJoin g gm) q k n) H1 locs1) : gK g q = 0 ∧ gL D cA s (sNew g q k n) gm H1 locs1 := by
  have hm : gK gm q = 0 := by
    by_cases h : gK gm q = 0
    · exact h
    · rw [gK_join, if_neg h] at h0; exact h0
  have hg : gK g q = 0 := by rw [gK_join, if_pos hm] at h0; exact h0
  obtain ⟨c1, c2, c3, c4, c5, c6⟩ := h1
  obtain ⟨hc1, h2, h3, h4⟩ := hc
  refine ⟨hg, ⟨c1, c2, c3, gH_sub c4 (fun a ha => ?_), fun b hb => ?_, c6⟩, gH_sub c4 (fun a ha => ?_), h3, fun b hb => ?_⟩
  · by_cases haq : a = q
    · subst haq
      exact ⟨by rw [gK_new]; exact hk, gE_congr (by rw [gK_new, gK_new]) (by rw [gN_new, gN_new]) (by rw [gI_new, gI_new]) (by rw [gR_new, gR_new]) (by rw [gJ_new, gJ_new])⟩
    · rw [gK_new_ne haq] at ha ⊢
      have := h4 a ha
      exact ⟨by rw [gK_join, if_pos this]; exact ha, by rw [gE_new_ne haq, gE_new_ne haq, gJoin_l this]⟩
  · by_cases hbq : b = q
    · subst hbq; exact c5 b (by rw [gK_new]; exact hk)
    · rw [gK_new_ne hbq] at hb; exact hc1.2.2.2.2.1 b hb
  · have haq : a ≠ q := fun e => ha (e ▸ hm)
    exact ⟨by rw [gK_new_ne haq, gK_join, if_neg ha]; exact ha, by rw [gE_new_ne haq, gJoin_r ha]⟩
  · by_cases hbq : b = q
    · subst hbq; exact hm
    · rw [gK_new_ne hbq] at hb; exact h4 b hb
theorem gL.join (hc : gL D cA s g gm H locs) : gC D cA (fun q => s.heap.size ≤ q) s (gJoin g gm) H locs := by
  obtain ⟨⟨c1, c2, c3, c4, c5, c6⟩, h2, h3, h4⟩ := hc
  refine ⟨c1, c2, c3, gH_join c4 h2 h4, fun q hq => ?_, c6⟩
  by_cases h : gK gm q = 0
  · rw [gK_join, if_pos h] at hq; exact c5 q hq
  · exact h3 q h
/-- a long written in the one -/
theorem gL.of (hc : gL D cA s g gm H locs) {g1 : gS} {H1 : Heap} {locs1 : List Loc} (h1 : gC D cA (fun q => s.heap.size ≤ q) s g1 H1 locs1) (hK : ∀ q, gK g1 q = gK g q) (hkeep : ∀ q, gK gm q ≠ 0 → H1[q]? = H[q]?) : gL D cA s g1 gm H1 locs1 :=
  ⟨h1, hc.2.1.kept hkeep, hc.2.2.1, fun q hq => hc.2.2.2 q (by rw [← hK]; exact hq)⟩
end LROWS
