/-! THE GHOST HEAP: what the cells of one part of the heap hold, by address: kind (0: not known), length, ints, references, longs -/
theorem getElem?_pre_nil {α : Type} (l : List α) (k : Nat) : ([] ++ l)[k]? = l[k]? := rfl
abbrev gS : Type := (Nat → Nat) × (Nat → Nat) × (Nat → Nat → Int32) × (Nat → Nat → Option Nat) × (Nat → Nat → Int64)
def gK (g : gS) (a : Nat) : Nat := g.1 a
def gN (g : gS) (a : Nat) : Nat := g.2.1 a
def gI (g : gS) (a : Nat) : Nat → Int32 := g.2.2.1 a
def gR (g : gS) (a : Nat) : Nat → Option Nat := g.2.2.2.1 a
def gJ (g : gS) (a : Nat) : Nat → Int64 := g.2.2.2.2 a
def sI (g : gS) (a : Nat) (f : Nat → Int32) : gS := (g.1, g.2.1, va_up g.2.2.1 a f, g.2.2.2.1, g.2.2.2.2)
def sR (g : gS) (a : Nat) (f : Nat → Option Nat) : gS := (g.1, g.2.1, g.2.2.1, va_up g.2.2.2.1 a f, g.2.2.2.2)
def sJ (g : gS) (a : Nat) (f : Nat → Int64) : gS := (g.1, g.2.1, g.2.2.1, g.2.2.2.1, va_up g.2.2.2.2 a f)
def sNew (g : gS) (a k n : Nat) : gS := (va_up g.1 a k, va_up g.2.1 a n, va_up g.2.2.1 a (fun _ => 0), va_up g.2.2.2.1 a (fun _ => none), va_up g.2.2.2.2 a (fun _ => 0))
/-- new T[n][m] of ints: the outer row at q, the inner ones at r 0 .. r (n - 1) -/
def sGrid (g : gS) (q : Nat) (r : Nat → Nat) (n m : Nat) : gS :=
  (fun a => if a = q then 24 else if a ∈ (List.range n).map r then 21 else g.1 a, fun a => if a = q then n else if a ∈ (List.range n).map r then m else g.2.1 a,
   fun a => if a = q ∨ a ∈ (List.range n).map r then (fun _ => 0) else g.2.2.1 a, fun a => if a = q then (fun i => if i < n then some (r i) else none) else if a ∈ (List.range n).map r then (fun _ => none) else g.2.2.2.1 a,
   fun a => if a = q ∨ a ∈ (List.range n).map r then (fun _ => 0) else g.2.2.2.2 a)
/-- a class's fields: which are references -/
def gFt : Nat → List Bool
  | 0 => [true, false, true, true, false, true]
  | 1 => [true, true, false]
  | 2 => [false, false, true, false, false]
  | 3 => [true, true, true, true, true, true]
  | 4 => [true, true, true]
  | 5 => [false, false, false, false, false, false, false, false, false, false, false, false, false]
  | 6 => [true, true, false, true, true]
  | 7 => [true, true, true, false]
  | 8 => [true, true, true, false, true]
  | 9 => [true, true, true, false, false]
  | 10 => [true, true, true, true, true, true, true, true, true, true]
  | _ => [true, true, false, false, true, true, true, true, true, true, true, true, true, false, true]
def gFl (g : gS) (a : Nat) : List Bool → Nat → List Value
  | [], _ => []
  | true :: bs, k => va_rf (gR g a k) :: gFl g a bs (k + 1)
  | false :: bs, k => .int (gI g a k) :: gFl g a bs (k + 1)
def gEk (cA : Nat → ClassId) (k : Nat) (g : gS) (a : Nat) : va_E :=
  if k < 20 then .inr (k - 1, gFl g a (gFt (k - 1)) 0)
  else if k = 21 then .inl (cA 0, gN g a, .inl (gI g a))
  else if k = 22 then .inl (cA 1, gN g a, .inl (gI g a))
  else if k = 23 then .inl (cA 2, gN g a, .inr (.inl (gJ g a)))
  else if k = 24 then .inl (cA 3, gN g a, .inr (.inr (.inr (.inr (gR g a)))))
  else if k = 25 then .inl (cA 4, gN g a, .inr (.inr (.inr (.inr (gR g a)))))
  else if k = 26 then .inl (cA 5, gN g a, .inr (.inr (.inr (.inr (gR g a)))))
  else if k = 27 then .inl (cA 6, gN g a, .inr (.inr (.inr (.inr (gR g a)))))
  else .inl (cA 7, gN g a, .inr (.inr (.inr (.inr (gR g a)))))
def gE (cA : Nat → ClassId) (g : gS) (a : Nat) : va_E := gEk cA (gK g a) g a
def gTys (cA : Nat → ClassId) : List (ClassId × FieldType) := [(cA 0, .int), (cA 1, .boolean), (cA 2, .byte), (cA 3, .array .int), (cA 4, .object RX2), (cA 5, .object RX9), (cA 6, .object RX5), (cA 7, .array (.array .int))]
theorem gE_obj {cA : Nat → ClassId} {g : gS} {a ci : Nat} (h : gK g a = ci + 1) (hl : ci < 19) : gE cA g a = .inr (ci, gFl g a (gFt ci) 0) := by
  unfold gE gEk; rw [h, if_pos (by omega)]; rfl
theorem gE_i {cA : Nat → ClassId} {g : gS} {a : Nat} (h : gK g a = 21) : gE cA g a = .inl (cA 0, gN g a, .inl (gI g a)) := by
  unfold gE; rw [h]; rfl
theorem gE_z {cA : Nat → ClassId} {g : gS} {a : Nat} (h : gK g a = 22) : gE cA g a = .inl (cA 1, gN g a, .inl (gI g a)) := by
  unfold gE; rw [h]; rfl
theorem gE_l {cA : Nat → ClassId} {g : gS} {a : Nat} (h : gK g a = 23) : gE cA g a = .inl (cA 2, gN g a, .inr (.inl (gJ g a))) := by
  unfold gE; rw [h]; rfl
theorem gE_q {cA : Nat → ClassId} {g : gS} {a j : Nat} (h : gK g a = 24 + j) (hj : j < 5) : gE cA g a = .inl (cA (3 + j), gN g a, .inr (.inr (.inr (.inr (gR g a))))) := by
  unfold gE; rw [h]
  rcases (show j = 0 ∨ j = 1 ∨ j = 2 ∨ j = 3 ∨ j = 4 by omega) with rfl | rfl | rfl | rfl | rfl <;> rfl
def gH (D : va_G) (cA : Nat → ClassId) (g : gS) (H : Heap) : Prop := ∃ P : List Nat, (∀ a, a ∈ P ↔ gK g a ≠ 0) ∧ va_P D vwCl (va_pl P (gE cA g)) H ∧ va_D (fun _ => True) (va_pl P (gE cA g))
theorem gH.at' {D : va_G} {cA : Nat → ClassId} {g : gS} {H : Heap} (h : gH D cA g H) {a : Nat} (ha : gK g a ≠ 0) : va_at D vwCl (a, gE cA g a) H := by
  obtain ⟨P, h1, h2, h3⟩ := h
  obtain ⟨k, hk⟩ := va_pl_get (X := []) (f := gE cA g) ((h1 a).mpr ha)
  exact h2 k _ hk
theorem gH.lt {D : va_G} {cA : Nat → ClassId} {g : gS} {H : Heap} (h : gH D cA g H) {a : Nat} (ha : gK g a ≠ 0) : a < H.size := (h.at' ha).lt
theorem gH.kept {D : va_G} {cA : Nat → ClassId} {g : gS} {H H1 : Heap} (h : gH D cA g H) (hq : ∀ a, gK g a ≠ 0 → H1[a]? = H[a]?) : gH D cA g H1 := by
  obtain ⟨P, h1, h2, h3⟩ := h
  refine ⟨P, h1, h2.kept (fun k q hk => hq q.1 ?_), h3⟩
  obtain ⟨a, ha, e⟩ := List.mem_map.mp (List.mem_of_getElem? hk)
  rw [← e]
  exact (h1 a).mp ha
/-- words of the tables that aren't good ones: they go with the state -/
def gWs : List Cond := [.methodLinkNest RX10 34 yX7_init "QuarryIndex", .methodLinkNest RX10 50 yX1_init "QuarryIndex", .methodLinkNest RX10 9 yX0_init "QuarryIndex", .methodLinkNest RX0 23 yX1_init "QuarryIndex", .methodLinkNest RX2 27 yX9_init "QuarryIndex", .methodLinkNest RX11 59 yL_cell "QuarryIndexLaw", .methodLinkNest RX11 65 yL_below "QuarryIndexLaw", .castable "java/lang/IllegalArgumentException" "java/lang/IllegalArgumentException", .castable "java/lang/IllegalStateException" "java/lang/IllegalStateException", .castable "java/lang/IndexOutOfBoundsException" "java/lang/IndexOutOfBoundsException", .declares ⟨"java/lang/RuntimeException", "<init>", "(Ljava/lang/String;)V"⟩, .declares ⟨"java/lang/Exception", "<init>", "(Ljava/lang/String;)V"⟩, .declares ⟨"java/lang/Throwable", "<init>", "(Ljava/lang/String;)V"⟩]
/-- texts -/
def gTx : List (String × Nat × String) := [("QuarryIndex", 87, "there is no such date or kind"), ("QuarryIndex", 102, "a document is open, or 60 have a number"), ("QuarryIndex", 120, "there is no such field or term"), ("QuarryIndex", 122, "no document is open"), ("QuarryIndex", 131, "the field is full"), ("QuarryIndex", 153, "there is no such document"), ("QuarryIndex", 206, "there is no such segment"), ("QuarryIndex", 227, "there is no such term or set of fields"), ("QuarryIndex", 230, "there are 30 nodes"), ("QuarryIndex", 252, "there is no such node"), ("QuarryIndex", 267, "not two term nodes, or there is no such distance"), ("QuarryIndex", 275, "there is no such date"), ("QuarryIndex", 283, "there is no such set of kinds"), ("QuarryIndex", 288, "there are no such parts"), ("QuarryIndex", 294, "there is no such number of nodes"), ("QuarryIndex", 305, "there is no such node or document"), ("QuarryIndex", 327, "there is no such place"), ("QuarryIndex", 335, "there is no such kind"), ("QuarryIndex", 340, "there is no such date or width")]
/-- pairs of classes that aren't castable -/
def gNc : List (String × String) := []
def gKs (D : va_G) (cA : Nat → ClassId) (U : State) : Prop := va_K D vwCl (gTys cA) U ∧ (∀ w ∈ gWs, va_Nw w U) ∧ (∀ q ∈ gTx, ∃ a, vk_R q.1 q.2.1 q.2.2 a U) ∧ va_AO RX2 U ∧ va_AO RX9 U ∧ va_AO RX5 U ∧ va_AOA .int U ∧ va_AOA (.array .int) U ∧ ∀ q ∈ gNc, va_Nc q.1 q.2 U
def gZ (A : Nat → Prop) (U : State) : Prop := vx_Zq Bundle.tN "UNASSIGNED_STACK" Bundle.steD A U U.heap ∧ vx_Zq Bundle.tN "SUPPRESSED_SENTINEL" Bundle.listD A U U.heap
/-- a frame's view: s at its start, H now -/
def gC (D : va_G) (cA : Nat → ClassId) (A : Nat → Prop) (s : State) (g : gS) (H : Heap) (locs : List Loc) : Prop :=
  gKs D cA s ∧ (∀ q, s.heap.size ≤ q → A q) ∧ gZ A s ∧ gH D cA g H ∧ (∀ q, gK g q ≠ 0 → A q) ∧ va_S A s.heap H locs
def gA (g : gS) (sz : Nat) : Nat → Prop := fun q => gK g q ≠ 0 ∨ sz ≤ q
def gPre (D : va_G) (cA : Nat → ClassId) (g : gS) (sz : Nat) (U : State) : Prop := gKs D cA U ∧ gZ (gA g sz) U ∧ U.heap.size = sz ∧ gH D cA g U.heap
def gPost (D : va_G) (cA : Nat → ClassId) (g : gS) (sz : Nat) (g' : gS) (t : State) : Prop := gH D cA g' t.heap ∧ ∀ q, gK g' q ≠ 0 → gA g sz q
theorem gWs_warm {s U : State} (hW : s.WarmedH U.vm) (h : ∀ w ∈ gWs, va_Nw w s) : ∀ w ∈ gWs, va_Nw w U := by
  intro w hw
  have h2 := h w hw
  simp only [gWs, List.mem_cons, List.not_mem_nil, or_false] at hw
  rcases hw with rfl | rfl | rfl | rfl | rfl | rfl | rfl | rfl | rfl | rfl | rfl | rfl | rfl <;> first | exact va_Nw.warmM hW h2 | exact va_Nw.warmC hW h2 | exact va_Nw.warmD hW h2
theorem gKs_warm {D : va_G} {cA : Nat → ClassId} {s U : State} (hW : s.WarmedH U.vm) (h : gKs D cA s) : gKs D cA U :=
  ⟨va_K.moved hW.alike h.1, gWs_warm hW h.2.1, fun q hq => (h.2.2.1 q hq).elim fun a ha => ⟨a, vk_R.warm hW ha⟩, va_AO.moved hW.alike h.2.2.2.1, va_AO.moved hW.alike h.2.2.2.2.1, va_AO.moved hW.alike h.2.2.2.2.2.1, va_AOA.moved hW.alike h.2.2.2.2.2.2.1, va_AOA.moved hW.alike h.2.2.2.2.2.2.2.1, fun q hq => va_Nc.moved hW.alike (h.2.2.2.2.2.2.2.2 q hq)⟩
theorem gKs_calling {D : va_G} {cA : Nat → ClassId} {U : State} {g : JFrame} {mk : MethodId} {a : Array Value} (h : gKs D cA U) : gKs D cA (U.calling g mk a) :=
  ⟨va_K.moved (u := U) (U := U.calling g mk a) (Vm.Alike.refl U.vm) h.1, fun w hw => va_Nw.same (by revert w; decide) (rfl : U.vm = (U.calling g mk a).vm) (h.2.1 w hw), fun q hq => (h.2.2.1 q hq).elim fun b hb => ⟨b, vk_R.same (rfl : (U.calling g mk a).vm = U.vm) hb⟩, va_AO.moved (u := U) (U := U.calling g mk a) (Vm.Alike.refl U.vm) h.2.2.2.1, va_AO.moved (u := U) (U := U.calling g mk a) (Vm.Alike.refl U.vm) h.2.2.2.2.1, va_AO.moved (u := U) (U := U.calling g mk a) (Vm.Alike.refl U.vm) h.2.2.2.2.2.1, va_AOA.moved (u := U) (U := U.calling g mk a) (Vm.Alike.refl U.vm) h.2.2.2.2.2.2.1, va_AOA.moved (u := U) (U := U.calling g mk a) (Vm.Alike.refl U.vm) h.2.2.2.2.2.2.2.1, fun q hq => va_Nc.moved (u := U) (U := U.calling g mk a) (Vm.Alike.refl U.vm) (h.2.2.2.2.2.2.2.2 q hq)⟩
theorem gZ_calling {A : Nat → Prop} {U : State} {g : JFrame} {mk : MethodId} {a : Array Value} (h : gZ A U) : gZ A (U.calling g mk a) :=
  ⟨vx_Zq.moved (u := U) (U := U.calling g mk a) (Vm.Alike.refl U.vm) h.1, vx_Zq.moved (u := U) (U := U.calling g mk a) (Vm.Alike.refl U.vm) h.2⟩
theorem gBlind {D : va_G} {cA : Nat → ClassId} {av : List Value} {g : gS} {sz : Nat} : FrameBlind (va_Pc av (gPre D cA g sz)) := fun _ _ _ _ q => ⟨q.1, gKs_calling q.2.1, gZ_calling q.2.2.1, q.2.2.2.1, q.2.2.2.2⟩
/-- the callee's start, in the caller's words -/
theorem gC.pre {D : va_G} {cA : Nat → ClassId} {A : Nat → Prop} {s U : State} {g : gS} {H : Heap} {locs : List Loc} (hc : gC D cA A s g H locs) (hU : U.heap = H) (hW : s.WarmedH U.vm) : gPre D cA g H.size U := by
  obtain ⟨hK, hA, hZ, hH, hgA, hS⟩ := hc
  have hn : ∀ q, gA g H.size q → A q := fun q hq => hq.elim (hgA q) (fun h => hA q (Nat.le_trans hS.1 h))
  refine ⟨gKs_warm hW hK, ⟨?_, ?_⟩, by rw [hU], by rw [hU]; exact hH⟩
  · rw [hU]; exact vx_Zq.narrow (vx_Zq.moved hW.alike (hZ.1.kept hS.2.1)) hn
  · rw [hU]; exact vx_Zq.narrow (vx_Zq.moved hW.alike (hZ.2.kept hS.2.1)) hn
/-- a method's own start -/
theorem gPre.start {D : va_G} {cA : Nat → ClassId} {g : gS} {sz : Nat} {s : State} (h : gPre D cA g sz s) : gC D cA (gA g sz) s g s.heap [] :=
  ⟨h.1, fun q hq => Or.inr (by rw [← h.2.2.1]; exact hq), h.2.1, h.2.2.2, fun q hq => Or.inl hq, va_S.rf⟩
theorem gC.preV {D : va_G} {cA : Nat → ClassId} {A : Nat → Prop} {s : State} {g : gS} {H : Heap} {locs : List Loc} {b ci : Nat} {q : vw_C} {As : List Value} (hc : gC D cA A s g H locs) (hk : gK g b = ci + 1) (hq : vwCl[ci]? = some q) (hl : ci < 19) : PreV s H q.1 b (va_Pc (.ref b :: As) (gPre D cA g H.size)) As := by
  refine ⟨gBlind, ?_, fun U hU hW => ⟨rfl, hc.pre hU hW⟩⟩
  obtain ⟨P, h1, h2, -⟩ := hc.2.2.2.1
  obtain ⟨k, hkk⟩ := va_pl_get (X := []) (f := gE cA g) ((h1 b).mpr (by rw [hk]; omega))
  rw [gE_obj hk hl] at hkk
  exact va_recv (ws := va_pl P (gE cA g)) hc.1.1 h2 hq hkk
theorem gC.preS {D : va_G} {cA : Nat → ClassId} {A : Nat → Prop} {s : State} {g : gS} {H : Heap} {locs : List Loc} {As : List Value} (hc : gC D cA A s g H locs) : PreS s H (va_Pc As (gPre D cA g H.size)) As :=
  ⟨gBlind, fun U hU hW => ⟨rfl, hc.pre hU hW⟩⟩
/-- behind a call -/
theorem gC.post {D : va_G} {cA : Nat → ClassId} {A : Nat → Prop} {s t : State} {g g' : gS} {H H1 : Heap} {locs locs1 : List Loc} (hc : gC D cA A s g H locs) (ht : t.heap = H1) (hp : gPost D cA g H.size g' t) (hS : va_S A s.heap H1 locs1) : gC D cA A s g' H1 locs1 := by
  obtain ⟨hK, hA, hZ, hH, hgA, hS0⟩ := hc
  refine ⟨hK, hA, hZ, by rw [← ht]; exact hp.1, fun q hq => (hp.2 q hq).elim (hgA q) (fun h => hA q (Nat.le_trans hS0.1 h)), hS⟩
theorem gC.free {D : va_G} {cA : Nat → ClassId} {A : Nat → Prop} {s : State} {g : gS} {H : Heap} {locs : List Loc} (hc : gC D cA A s g H locs) : ∀ q, gA g H.size q → A q := fun q hq => hq.elim (hc.2.2.2.2.1 q) (fun h => hc.2.1 q (Nat.le_trans hc.2.2.2.2.2.1 h))
/-- at a method's end -/
theorem gC.done {D : va_G} {cA : Nat → ClassId} {s t : State} {g0 g : gS} {sz : Nat} {H : Heap} {locs : List Loc} (hc : gC D cA (gA g0 sz) s g H locs) (ht : t.heap = H) : gPost D cA g0 sz g t := ⟨by rw [ht]; exact hc.2.2.2.1, hc.2.2.2.2.1⟩
def gQi (D : va_G) (cA : Nat → ClassId) (g : gS) (sz : Nat) (Q : Int32 → gS → Prop) : Array Value → State → Outcome → State → Prop := va_Qi Q (gPost D cA g sz) (gA g sz)
def gQl (D : va_G) (cA : Nat → ClassId) (g : gS) (sz : Nat) (Q : Int64 → gS → Prop) : Array Value → State → Outcome → State → Prop := va_Ql Q (gPost D cA g sz) (gA g sz)
def gQd (D : va_G) (cA : Nat → ClassId) (g : gS) (sz : Nat) (Q : UInt64 → gS → Prop) : Array Value → State → Outcome → State → Prop := va_Qd Q (gPost D cA g sz) (gA g sz)
def gQv (D : va_G) (cA : Nat → ClassId) (g : gS) (sz : Nat) (Q : gS → Prop) : Array Value → State → Outcome → State → Prop := va_Qv Q (gPost D cA g sz) (gA g sz)
def gQq (D : va_G) (cA : Nat → ClassId) (g : gS) (sz : Nat) (Q : Option Nat → gS → Prop) : Array Value → State → Outcome → State → Prop := va_Qq Q (gPost D cA g sz) (gA g sz)
def gQx (D : va_G) (cA : Nat → ClassId) (g : gS) (sz : Nat) (X : String → gS → Prop) : String → State → State → Prop := vx_X (fun _ : gS => True) (fun E g' t => X E g' ∧ gPost D cA g sz g' t) (gA g sz)
theorem gK_sI {g : gS} {a b : Nat} {f : Nat → Int32} : gK (sI g a f) b = gK g b := rfl
theorem gN_sI {g : gS} {a b : Nat} {f : Nat → Int32} : gN (sI g a f) b = gN g b := rfl
theorem gR_sI {g : gS} {a b : Nat} {f : Nat → Int32} : gR (sI g a f) b = gR g b := rfl
theorem gJ_sI {g : gS} {a b : Nat} {f : Nat → Int32} : gJ (sI g a f) b = gJ g b := rfl
theorem gI_sI_self {g : gS} {a : Nat} {f : Nat → Int32} : gI (sI g a f) a = f := va_up_self _ _ _
theorem gI_sI_ne {g : gS} {a b : Nat} {f : Nat → Int32} (h : b ≠ a) : gI (sI g a f) b = gI g b := va_up_ne _ _ h
theorem gK_sR {g : gS} {a b : Nat} {f : Nat → Option Nat} : gK (sR g a f) b = gK g b := rfl
theorem gN_sR {g : gS} {a b : Nat} {f : Nat → Option Nat} : gN (sR g a f) b = gN g b := rfl
theorem gI_sR {g : gS} {a b : Nat} {f : Nat → Option Nat} : gI (sR g a f) b = gI g b := rfl
theorem gJ_sR {g : gS} {a b : Nat} {f : Nat → Option Nat} : gJ (sR g a f) b = gJ g b := rfl
theorem gR_sR_self {g : gS} {a : Nat} {f : Nat → Option Nat} : gR (sR g a f) a = f := va_up_self _ _ _
theorem gR_sR_ne {g : gS} {a b : Nat} {f : Nat → Option Nat} (h : b ≠ a) : gR (sR g a f) b = gR g b := va_up_ne _ _ h
theorem gK_sJ {g : gS} {a b : Nat} {f : Nat → Int64} : gK (sJ g a f) b = gK g b := rfl
theorem gN_sJ {g : gS} {a b : Nat} {f : Nat → Int64} : gN (sJ g a f) b = gN g b := rfl
theorem gI_sJ {g : gS} {a b : Nat} {f : Nat → Int64} : gI (sJ g a f) b = gI g b := rfl
theorem gR_sJ {g : gS} {a b : Nat} {f : Nat → Int64} : gR (sJ g a f) b = gR g b := rfl
theorem gJ_sJ_self {g : gS} {a : Nat} {f : Nat → Int64} : gJ (sJ g a f) a = f := va_up_self _ _ _
theorem gJ_sJ_ne {g : gS} {a b : Nat} {f : Nat → Int64} (h : b ≠ a) : gJ (sJ g a f) b = gJ g b := va_up_ne _ _ h
theorem gFl_congr {g g' : gS} {a : Nat} : ∀ (fl : List Bool) (o : Nat), (∀ i, o ≤ i → gI g a i = gI g' a i ∧ gR g a i = gR g' a i) → gFl g a fl o = gFl g' a fl o
  | [], _, _ => rfl
  | true :: bs, o, h => by
    show va_rf (gR g a o) :: gFl g a bs (o + 1) = va_rf (gR g' a o) :: gFl g' a bs (o + 1)
    rw [(h o (Nat.le_refl _)).2, gFl_congr bs (o + 1) (fun i hi => h i (by omega))]
  | false :: bs, o, h => by
    show Value.int (gI g a o) :: gFl g a bs (o + 1) = Value.int (gI g' a o) :: gFl g' a bs (o + 1)
    rw [(h o (Nat.le_refl _)).1, gFl_congr bs (o + 1) (fun i hi => h i (by omega))]
theorem gE_congr {cA : Nat → ClassId} {g g' : gS} {a : Nat} (h1 : gK g a = gK g' a) (h2 : gN g a = gN g' a) (h3 : gI g a = gI g' a) (h4 : gR g a = gR g' a) (h5 : gJ g a = gJ g' a) : gE cA g a = gE cA g' a := by
  unfold gE gEk
  rw [h1, h2, h3, h4, h5, gFl_congr (g := g) (g' := g') _ _ (fun i _ => ⟨by rw [h3], by rw [h4]⟩)]
theorem gE_sI_ne {cA : Nat → ClassId} {g : gS} {a b : Nat} {f : Nat → Int32} (h : b ≠ a) : gE cA (sI g a f) b = gE cA g b := gE_congr rfl rfl (gI_sI_ne h) rfl rfl
theorem gE_sR_ne {cA : Nat → ClassId} {g : gS} {a b : Nat} {f : Nat → Option Nat} (h : b ≠ a) : gE cA (sR g a f) b = gE cA g b := gE_congr rfl rfl rfl (gR_sR_ne h) rfl
theorem gE_sJ_ne {cA : Nat → ClassId} {g : gS} {a b : Nat} {f : Nat → Int64} (h : b ≠ a) : gE cA (sJ g a f) b = gE cA g b := gE_congr rfl rfl rfl rfl (gJ_sJ_ne h)
theorem gFl_I {g : gS} {a k : Nat} {v : Int32} : ∀ (fl : List Bool) (o j : Nat), fl[j]? = some false → o + j = k → (gFl g a fl o).set j (.int v) = gFl (sI g a (upd (gI g a) k v)) a fl o
  | [], _, _, h, _ => by simp at h
  | b :: bs, o, 0, h, e => by
    have hb : b = false := by simpa using h
    subst hb
    have ho : o = k := e
    subst ho
    show Value.int v :: gFl g a bs (o + 1) = Value.int (gI (sI g a (upd (gI g a) o v)) a o) :: gFl (sI g a (upd (gI g a) o v)) a bs (o + 1)
    rw [gI_sI_self, pk_us, gFl_congr (g := g) (g' := sI g a (upd (gI g a) o v)) bs (o + 1) (fun i hi => ⟨by rw [gI_sI_self, pk_un (by omega)], rfl⟩)]
  | true :: bs, o, j + 1, h, e => by
    show va_rf (gR g a o) :: (gFl g a bs (o + 1)).set j (.int v) = va_rf (gR g a o) :: gFl (sI g a (upd (gI g a) k v)) a bs (o + 1)
    rw [gFl_I (k := k) bs (o + 1) j (by simpa using h) (by omega)]
  | false :: bs, o, j + 1, h, e => by
    show Value.int (gI g a o) :: (gFl g a bs (o + 1)).set j (.int v) = Value.int (gI (sI g a (upd (gI g a) k v)) a o) :: gFl (sI g a (upd (gI g a) k v)) a bs (o + 1)
    rw [gFl_I (k := k) bs (o + 1) j (by simpa using h) (by omega), gI_sI_self, pk_un (by omega)]
theorem gFl_R {g : gS} {a k : Nat} {v : Option Nat} : ∀ (fl : List Bool) (o j : Nat), fl[j]? = some true → o + j = k → (gFl g a fl o).set j (va_rf v) = gFl (sR g a (va_up (gR g a) k v)) a fl o
  | [], _, _, h, _ => by simp at h
  | b :: bs, o, 0, h, e => by
    have hb : b = true := by simpa using h
    subst hb
    have ho : o = k := e
    subst ho
    show va_rf v :: gFl g a bs (o + 1) = va_rf (gR (sR g a (va_up (gR g a) o v)) a o) :: gFl (sR g a (va_up (gR g a) o v)) a bs (o + 1)
    rw [gR_sR_self, va_up_self, gFl_congr (g := g) (g' := sR g a (va_up (gR g a) o v)) bs (o + 1) (fun i hi => ⟨rfl, by rw [gR_sR_self, va_up_ne _ _ (by omega)]⟩)]
  | true :: bs, o, j + 1, h, e => by
    show va_rf (gR g a o) :: (gFl g a bs (o + 1)).set j (va_rf v) = va_rf (gR (sR g a (va_up (gR g a) k v)) a o) :: gFl (sR g a (va_up (gR g a) k v)) a bs (o + 1)
    rw [gFl_R (k := k) bs (o + 1) j (by simpa using h) (by omega), gR_sR_self, va_up_ne _ _ (by omega)]
  | false :: bs, o, j + 1, h, e => by
    show Value.int (gI g a o) :: (gFl g a bs (o + 1)).set j (va_rf v) = Value.int (gI g a o) :: gFl (sR g a (va_up (gR g a) k v)) a bs (o + 1)
    rw [gFl_R (k := k) bs (o + 1) j (by simpa using h) (by omega)]
theorem gFl_len {g : gS} {a : Nat} : ∀ (fl : List Bool) (o : Nat), (gFl g a fl o).length = fl.length
  | [], _ => rfl
  | true :: bs, o => congrArg (· + 1) (gFl_len bs (o + 1))
  | false :: bs, o => congrArg (· + 1) (gFl_len bs (o + 1))
theorem gH.one {D : va_G} {cA : Nat → ClassId} {g : gS} {H : Heap} (h : gH D cA g H) {a : Nat} (ha : gK g a ≠ 0) : va_P D vwCl [(a, gE cA g a)] H := by
  intro k q hk
  match k, hk with
  | 0, hk => cases hk; exact h.at' ha
theorem va_D_of {A B : Nat → Prop} {ws : va_W} (h : va_D A ws) (h2 : ∀ (k : Nat) (q : Nat × va_E), ws[k]? = some q → B q.1) : va_D B ws := ⟨h.1, h2⟩
theorem va_pl_mem {L : List Nat} {f : Nat → va_E} {k : Nat} {q : Nat × va_E} (h : (va_pl L f)[k]? = some q) : q.1 ∈ L := by
  obtain ⟨a, ha, e⟩ := List.mem_map.mp (List.mem_of_getElem? h)
  rw [← e]
  exact ha
/-- the pool behind a view, with a's place in it, and what a store makes of it -/
theorem gC.pool {D : va_G} {cA : Nat → ClassId} {A : Nat → Prop} {s : State} {g : gS} {H : Heap} {locs : List Loc} (hc : gC D cA A s g H locs) {a : Nat} (ha : gK g a ≠ 0) :
    ∃ (P : List Nat) (j : Nat), (∀ b, b ∈ P ↔ gK g b ≠ 0) ∧ va_P D vwCl (va_pl P (gE cA g)) H ∧ va_D (fun _ => True) (va_pl P (gE cA g)) ∧ va_D A (va_pl P (gE cA g)) ∧ (va_pl P (gE cA g))[j]? = some (a, gE cA g a) ∧
      ∀ (g' : gS) (e' : va_E), gE cA g' a = e' → (∀ b, b ≠ a → gE cA g' b = gE cA g b) → (va_pl P (gE cA g)).set j (a, e') = va_pl P (gE cA g') := by
  obtain ⟨P, h1, h2, h3⟩ := hc.2.2.2.1
  obtain ⟨j, hj⟩ := va_pl_get (X := []) (f := gE cA g) ((h1 a).mpr ha)
  refine ⟨P, j, h1, h2, h3, va_D_of h3 (fun k q hk => hc.2.2.2.2.1 _ ((h1 _).mp (va_pl_mem hk))), hj, fun g' e' he hne => ?_⟩
  have hs := va_pl_set (X := []) (e := e') h3 ((h1 a).mpr ha) hj
  refine hs.trans (va_pl_congr fun b => ?_)
  by_cases hb : b = a
  · subst hb; rw [va_up_self, he]
  · rw [va_up_ne _ _ hb, hne b hb]
theorem gC.put {D : va_G} {cA : Nat → ClassId} {A : Nat → Prop} {s : State} {g g' : gS} {H H1 : Heap} {locs locs1 : List Loc} (hc : gC D cA A s g H locs) {P : List Nat} (hPm : ∀ b, b ∈ P ↔ gK g b ≠ 0) (hP : va_P D vwCl (va_pl P (gE cA g')) H1) (hD : va_D A (va_pl P (gE cA g'))) (hS : va_S A s.heap H1 locs1) (hK : ∀ b, gK g' b = gK g b) : gC D cA A s g' H1 locs1 := by
  obtain ⟨c1, c2, c3, c4, c5, c6⟩ := hc
  exact ⟨c1, c2, c3, ⟨P, fun b => by rw [hK]; exact hPm b, hP, va_D_of hD (fun _ _ _ => trivial)⟩, fun q hq => c5 q (by rw [← hK]; exact hq), hS⟩
section GROWS
variable {p : Program} {l : Launch} {e : Env} {R : Room} {s : State} {m : MethodId} {args : Array Value} {below : List Frame} {meth : Method} {c : Code} {H : Heap} {locs : List Loc} {cells slots : Nat} {Q : State → Prop}
variable {cc : ByteArray} {pc nL : Nat} {ls : Array Slot} {rest st0 : List Value} {D : va_G} {cA : Nat → ClassId} {A : Nat → Prop} {a : Nat} {g : gS} {Ts : List Cond} {own : String} {arr : Array Value} {mc ms sz : Nat}
theorem g_get (CF : CallFix p m c cc nL s args Ts own) (hc : gC D cA A s g H locs) {C : String} {T : u_T} {N ci k index : Nat} (hk : gK g a = ci + 1) (hq : vwCl[ci]? = some (C, T, N)) (hl : ci < 19) (hin : ∀ w ∈ u_ws C T N, w ∈ Ts) (hkN : k < N) (hlink : Cond.fieldLink own index (T k).1 (T k).2.1 (T k).2.2.1 ∈ Ts) {v : Value} (hv : (gFl g a (gFt ci) 0)[k]? = some v) (hdg : decode cc pc = .ok (.getfield index, 3))
    (kk : W p l e R s m args below meth c H locs cells slots Q (F0 m (pc + 3) ls (v :: rest))) : W p l e R s m args below meth c H locs cells slots Q (F0 m pc ls (.ref a :: rest)) := by
  obtain ⟨hx, hb, hml, hown, hts⟩ := CF
  obtain ⟨P, h1, h2, -⟩ := hc.2.2.2.1
  obtain ⟨j, hj⟩ := va_pl_get (X := []) (f := gE cA g) ((h1 a).mpr (by rw [hk]; omega))
  rw [gE_obj hk hl] at hj
  exact va_get (ws := va_pl P (gE cA g)) hx hb hts hin hown hc.1.1 h2 j hj hq k hkN (hts _ hlink) (fun _ h9 => h9) hv hdg kk
theorem g_getr (CF : CallFix p m c cc nL s args Ts own) (hc : gC D cA A s g H locs) {C : String} {T : u_T} {N ci k index : Nat} (hk : gK g a = ci + 1) (hq : vwCl[ci]? = some (C, T, N)) (hl : ci < 19) (hin : ∀ w ∈ u_ws C T N, w ∈ Ts) (hkN : k < N) (hlink : Cond.fieldLink own index (T k).1 (T k).2.1 (T k).2.2.1 ∈ Ts) {x : Nat} (hr : gR g a k = some x) (hv : (gFl g a (gFt ci) 0)[k]? = some (va_rf (gR g a k))) (hdg : decode cc pc = .ok (.getfield index, 3))
    (kk : W p l e R s m args below meth c H locs cells slots Q (F0 m (pc + 3) ls (.ref x :: rest))) : W p l e R s m args below meth c H locs cells slots Q (F0 m pc ls (.ref a :: rest)) := by
  rw [hr] at hv
  exact g_get CF hc hk hq hl hin hkN hlink hv hdg kk
theorem g_alen (CF : CallFix p m c cc nL s args Ts own) (hc : gC D cA A s g H locs) {j : Nat} (hk : gK g a = 21 + j) (hj : j < 8) (hdg : decode cc pc = .ok (.arraylength, 1))
    (kk : W p l e R s m args below meth c H locs cells slots Q (F0 m (pc + 1) ls (.int (nI (gN g a)) :: rest))) : W p l e R s m args below meth c H locs cells slots Q (F0 m pc ls (.ref a :: rest)) := by
  obtain ⟨hx, hb, hml, hown, hts⟩ := CF
  have h0 := hc.2.2.2.1.one (a := a) (by rw [hk]; omega)
  rcases (show j = 0 ∨ j = 1 ∨ j = 2 ∨ j = 3 ∨ j = 4 ∨ j = 5 ∨ j = 6 ∨ j = 7 by omega) with rfl | rfl | rfl | rfl | rfl | rfl | rfl | rfl
  · rw [gE_i hk] at h0; exact va_alen hx hb hc.1.1 h0 0 0 rfl rfl rfl hdg kk
  · rw [gE_z hk] at h0; exact va_alen hx hb hc.1.1 h0 0 1 rfl rfl rfl hdg kk
  · rw [gE_l hk] at h0; exact va_alen hx hb hc.1.1 h0 0 2 rfl rfl rfl hdg kk
  · rw [gE_q (j := 0) hk (by omega)] at h0; exact va_alen hx hb hc.1.1 h0 0 3 rfl rfl rfl hdg kk
  · rw [gE_q (j := 1) hk (by omega)] at h0; exact va_alen hx hb hc.1.1 h0 0 4 rfl rfl rfl hdg kk
  · rw [gE_q (j := 2) hk (by omega)] at h0; exact va_alen hx hb hc.1.1 h0 0 5 rfl rfl rfl hdg kk
  · rw [gE_q (j := 3) hk (by omega)] at h0; exact va_alen hx hb hc.1.1 h0 0 6 rfl rfl rfl hdg kk
  · rw [gE_q (j := 4) hk (by omega)] at h0; exact va_alen hx hb hc.1.1 h0 0 7 rfl rfl rfl hdg kk
theorem g_iald (CF : CallFix p m c cc nL s args Ts own) (hc : gC D cA A s g H locs) (hk : gK g a = 21) {i : Int32} (hin : vp_in i (gN g a)) (hdg : decode cc pc = .ok (.iaload, 1))
    (kk : W p l e R s m args below meth c H locs cells slots Q (F0 m (pc + 1) ls (.int (gI g a i.toNatClampNeg) :: rest))) : W p l e R s m args below meth c H locs cells slots Q (F0 m pc ls (.int i :: .ref a :: rest)) := by
  obtain ⟨hx, hb, hml, hown, hts⟩ := CF
  have h0 := hc.2.2.2.1.one (a := a) (by rw [hk]; omega)
  rw [gE_i hk] at h0
  exact va_iald hx hb hc.1.1 h0 0 0 rfl rfl hin hdg kk
theorem g_zald (CF : CallFix p m c cc nL s args Ts own) (hc : gC D cA A s g H locs) (hk : gK g a = 22) {i : Int32} (hin : vp_in i (gN g a)) (hdg : decode cc pc = .ok (.baload, 1))
    (kk : W p l e R s m args below meth c H locs cells slots Q (F0 m (pc + 1) ls (.int (gI g a i.toNatClampNeg) :: rest))) : W p l e R s m args below meth c H locs cells slots Q (F0 m pc ls (.int i :: .ref a :: rest)) := by
  obtain ⟨hx, hb, hml, hown, hts⟩ := CF
  have h0 := hc.2.2.2.1.one (a := a) (by rw [hk]; omega)
  rw [gE_z hk] at h0
  exact va_zald hx hb hc.1.1 h0 0 1 rfl rfl hin hdg kk
theorem g_aald (CF : CallFix p m c cc nL s args Ts own) (hc : gC D cA A s g H locs) {j : Nat} (hk : gK g a = 24 + j) (hj : j < 5) {i : Int32} (hin : vp_in i (gN g a)) (hdg : decode cc pc = .ok (.aaload, 1))
    (kk : W p l e R s m args below meth c H locs cells slots Q (F0 m (pc + 1) ls (va_rf (gR g a i.toNatClampNeg) :: rest))) : W p l e R s m args below meth c H locs cells slots Q (F0 m pc ls (.int i :: .ref a :: rest)) := by
  obtain ⟨hx, hb, hml, hown, hts⟩ := CF
  have h0 := hc.2.2.2.1.one (a := a) (by rw [hk]; omega)
  rw [gE_q hk hj] at h0
  rcases (show j = 0 ∨ j = 1 ∨ j = 2 ∨ j = 3 ∨ j = 4 by omega) with rfl | rfl | rfl | rfl | rfl
  · have hlt : i.toNatClampNeg < gN g a := Nat.not_le.mp fun q => hin (Or.inr q)
    exact W.aald (v := va_rf (gR g a i.toNatClampNeg)) (ty := .array .int) hx hb (h0 0 _ rfl) ((hc.1.1.2 3 _ rfl).1 (gN g a) (fun j => va_rf (gR g a j))) rfl (fun q => by cases q) (by show ¬ (i < 0 ∨ (arrV _ _ _).slots.size ≤ _); rw [arrV_size]; exact hin) (by show (arrV _ _ _).slots[_]? = _; rw [arrV_read _ _ hlt]) rfl rfl hdg kk
  · exact va_aldq hx hb hc.1.1 h0 0 4 rfl rfl hin hdg kk
  · exact va_aldq hx hb hc.1.1 h0 0 5 rfl rfl hin hdg kk
  · exact va_aldq hx hb hc.1.1 h0 0 6 rfl rfl hin hdg kk
  · have hlt : i.toNatClampNeg < gN g a := Nat.not_le.mp fun q => hin (Or.inr q)
    exact W.aald (v := va_rf (gR g a i.toNatClampNeg)) (ty := .array (.array .int)) hx hb (h0 0 _ rfl) ((hc.1.1.2 7 _ rfl).1 (gN g a) (fun j => va_rf (gR g a j))) rfl (fun q => by cases q) (by show ¬ (i < 0 ∨ (arrV _ _ _).slots.size ≤ _); rw [arrV_size]; exact hin) (by show (arrV _ _ _).slots[_]? = _; rw [arrV_read _ _ hlt]) rfl rfl hdg kk
theorem g_iast (CF : CallFix p m c cc nL s args Ts own) (hc : gC D cA A s g H locs) (hk : gK g a = 21) {i x : Int32} (hin : vp_in i (gN g a)) (hdg : decode cc pc = .ok (.iastore, 1))
    (kk : ∀ (H1 : Heap) (locs1 : List Loc), gC D cA A s (sI g a (upd (gI g a) i.toNatClampNeg x)) H1 locs1 → W p l e R s m args below meth c H1 locs1 cells slots Q (F0 m (pc + 1) ls rest)) : W p l e R s m args below meth c H locs cells slots Q (F0 m pc ls (.int x :: .int i :: .ref a :: rest)) := by
  obtain ⟨hx, hb, hml, hown, hts⟩ := CF
  obtain ⟨P, j, hPm, hP, hD, hDA, hj, hset⟩ := hc.pool (a := a) (by rw [hk]; omega)
  rw [gE_i hk] at hj
  have hs := hset (sI g a (upd (gI g a) i.toNatClampNeg x)) (.inl (cA 0, gN g a, .inl (upd (gI g a) i.toNatClampNeg x))) (by rw [gE_i (g := sI g a (upd (gI g a) i.toNatClampNeg x)) hk, gI_sI_self, gN_sI]) (fun b hb => gE_sI_ne hb)
  exact va_iast hx hb hc.1.1 hP hDA hc.2.2.2.2.2 j 0 hj rfl hin hdg (fun H1 locs1 hP1 hD1 hS1 => kk H1 locs1 (gC.put hc hPm (by rw [← hs]; exact hP1) (by rw [← hs]; exact hD1) hS1 (fun _ => rfl)))
theorem g_zast (CF : CallFix p m c cc nL s args Ts own) (hc : gC D cA A s g H locs) (hk : gK g a = 22) {i x : Int32} (hx01 : x = 0 ∨ x = 1) (hin : vp_in i (gN g a)) (hdg : decode cc pc = .ok (.bastore, 1))
    (kk : ∀ (H1 : Heap) (locs1 : List Loc), gC D cA A s (sI g a (upd (gI g a) i.toNatClampNeg x)) H1 locs1 → W p l e R s m args below meth c H1 locs1 cells slots Q (F0 m (pc + 1) ls rest)) : W p l e R s m args below meth c H locs cells slots Q (F0 m pc ls (.int x :: .int i :: .ref a :: rest)) := by
  obtain ⟨hx, hb, hml, hown, hts⟩ := CF
  obtain ⟨P, j, hPm, hP, hD, hDA, hj, hset⟩ := hc.pool (a := a) (by rw [hk]; omega)
  rw [gE_z hk] at hj
  have hz : vp_nar .boolean x = x := by rcases hx01 with rfl | rfl <;> rfl
  have hs := hset (sI g a (upd (gI g a) i.toNatClampNeg x)) (.inl (cA 1, gN g a, .inl (upd (gI g a) i.toNatClampNeg x))) (by rw [gE_z (g := sI g a (upd (gI g a) i.toNatClampNeg x)) hk, gI_sI_self, gN_sI]) (fun b hb => gE_sI_ne hb)
  refine va_zast hx hb hc.1.1 hP hDA hc.2.2.2.2.2 j 1 hj rfl hin hdg (fun H1 locs1 hP1 hD1 hS1 => ?_)
  rw [hz] at hP1 hD1
  exact kk H1 locs1 (gC.put hc hPm (by rw [← hs]; exact hP1) (by rw [← hs]; exact hD1) hS1 (fun _ => rfl))
theorem g_aast (CF : CallFix p m c cc nL s args Ts own) (hc : gC D cA A s g H locs) {j2 ci v : Nat} {r : vw_C} (hk : gK g a = 25 + j2) (hj2 : j2 < 3) (hq : vwCl[ci]? = some r) (hl : ci < 19) (ht : (gTys cA)[4 + j2]? = some (cA (4 + j2), .object r.1)) (hkv : gK g v = ci + 1) {i : Int32} (hin : vp_in i (gN g a)) (hdg : decode cc pc = .ok (.aastore, 1))
    (kk : ∀ (H1 : Heap) (locs1 : List Loc), gC D cA A s (sR g a (va_up (gR g a) i.toNatClampNeg (some v))) H1 locs1 → W p l e R s m args below meth c H1 locs1 cells slots Q (F0 m (pc + 1) ls rest)) : W p l e R s m args below meth c H locs cells slots Q (F0 m pc ls (.ref v :: .int i :: .ref a :: rest)) := by
  obtain ⟨hx, hb, hml, hown, hts⟩ := CF
  obtain ⟨P, j, hPm, hP, hD, hDA, hj, hset⟩ := hc.pool (a := a) (by rw [hk]; omega)
  obtain ⟨jv, hjv⟩ := va_pl_get (X := []) (f := gE cA g) ((hPm v).mpr (by rw [hkv]; omega))
  have hk' : gK g a = 24 + (1 + j2) := by omega
  rw [gE_q hk' (by omega)] at hj
  rw [gE_obj hkv hl] at hjv
  have ht' : (gTys cA)[4 + j2]? = some (cA (3 + (1 + j2)), .object r.1) := by rw [ht, show 4 + j2 = 3 + (1 + j2) by omega]
  have hs := hset (sR g a (va_up (gR g a) i.toNatClampNeg (some v))) (.inl (cA (3 + (1 + j2)), gN g a, .inr (.inr (.inr (.inr (va_up (gR g a) i.toNatClampNeg (some v))))))) (by rw [gE_q (g := sR g a (va_up (gR g a) i.toNatClampNeg (some v))) hk' (by omega), gR_sR_self, gN_sR]) (fun b hb => gE_sR_ne hb)
  exact va_astq hx hb hc.1.1 hP hDA hc.2.2.2.2.2 j (4 + j2) jv ci hj ht' hjv hq hin hdg (fun H1 locs1 hP1 hD1 hS1 => kk H1 locs1 (gC.put hc hPm (by rw [← hs]; exact hP1) (by rw [← hs]; exact hD1) hS1 (fun _ => rfl)))
end GROWS
