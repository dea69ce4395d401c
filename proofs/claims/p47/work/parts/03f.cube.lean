/-! new T[n][m][k] -/
section CUBE
def cubeO (c : ClassId) (N h0 w : Nat) : Nat → Cell
  | 0 => { cls := c, slots := Array.replicate N .null, vm := .none }
  | i + 1 => (cubeO c N h0 w i).setSlot i (.ref (h0 + 1 + i * w))
def cubeF (s : State) (c cB cC : ClassId) (N M K : Nat) (dv : Value) : Nat → State
  | 0 => s.pushCell (cubeO c N s.heap.size (1 + M) 0)
  | i + 1 => (Jvm.Free.Multi.fill (cubeF s c cB cC N M K dv i) cB cC M K dv M).setCell s.heap.size (cubeO c N s.heap.size (1 + M) (i + 1))
theorem cubeO_facts (c : ClassId) (N h0 w : Nat) : ∀ i, (cubeO c N h0 w i).cls = c ∧ (cubeO c N h0 w i).vm = .none ∧ (cubeO c N h0 w i).slots.size = N
  | 0 => ⟨rfl, rfl, by simp [cubeO]⟩
  | i + 1 => by
    obtain ⟨a, b, d⟩ := cubeO_facts c N h0 w i
    exact ⟨by simp [cubeO, Cell.setSlot, a], by simp [cubeO, Cell.setSlot, b], by simp [cubeO, Cell.setSlot, d]⟩
theorem cubeO_arr (c : ClassId) (N h0 w : Nat) : ∀ i : Nat, cubeO c N h0 w i = arrV c N (fun j => va_rf (if j < i then some (h0 + 1 + j * w) else none))
  | 0 => by
    show ({ cls := c, slots := Array.replicate N .null, vm := .none } : Cell) = _
    rw [arrV_new]
    refine congrArg (arrV c N) (funext fun j => ?_)
    simp [va_rf]
  | i + 1 => by
    show (cubeO c N h0 w i).setSlot i (.ref (h0 + 1 + i * w)) = _
    rw [cubeO_arr c N h0 w i, arrV_store]
    refine congrArg (arrV c N) (funext fun j => ?_)
    by_cases e : j = i
    · subst e
      simp [updV, va_rf]
    · by_cases h : j < i
      · simp [updV, e, h, Nat.lt_succ_of_lt h]
      · simp [updV, e, h, show ¬ j < i + 1 by omega]
theorem cubeF_facts (s : State) (c cB cC : ClassId) (N M K : Nat) (dv : Value) : ∀ i, (cubeF s c cB cC N M K dv i).heap.size = s.heap.size + 1 + i * (1 + M) ∧ (cubeF s c cB cC N M K dv i).heap[s.heap.size]? = some (cubeO c N s.heap.size (1 + M) i) ∧
    (cubeF s c cB cC N M K dv i).vm = s.vm ∧ (cubeF s c cB cC N M K dv i).slotsUsed = s.slotsUsed + N + i * (M + M * K)
  | 0 => ⟨by simp [cubeF], by simp [cubeF], rfl, by simp [cubeF, cubeO]⟩
  | i + 1 => by
    obtain ⟨a, b, d, u⟩ := cubeF_facts s c cB cC N M K dv i
    obtain ⟨f1, f2, f3, f4⟩ := Jvm.Free.Multi.fill_facts (cubeF s c cB cC N M K dv i) cB cC M K dv M
    have hlt : s.heap.size < (cubeF s c cB cC N M K dv i).heap.size := by omega
    have hb' : (Jvm.Free.Multi.fill (cubeF s c cB cC N M K dv i) cB cC M K dv M).heap[s.heap.size]? = some (cubeO c N s.heap.size (1 + M) i) := (Jvm.Free.Multi.fill_old _ cB cC M K dv hlt M).trans b
    refine ⟨?_, State.heap_setCell_self hb', ?_, ?_⟩
    · have : (cubeF s c cB cC N M K dv (i + 1)).heap.size = (Jvm.Free.Multi.fill (cubeF s c cB cC N M K dv i) cB cC M K dv M).heap.size := by simp [cubeF, State.setCell]
      rw [this, f1, a, Nat.succ_mul]; omega
    · have : (cubeF s c cB cC N M K dv (i + 1)).vm = (Jvm.Free.Multi.fill (cubeF s c cB cC N M K dv i) cB cC M K dv M).vm := by simp [cubeF]
      rw [this, f3, d]
    · have : (cubeF s c cB cC N M K dv (i + 1)).slotsUsed = (Jvm.Free.Multi.fill (cubeF s c cB cC N M K dv i) cB cC M K dv M).slotsUsed := by simp [cubeF]
      rw [this, f4, u, Nat.succ_mul]; omega
theorem cubeF_setTop (s : State) (f : JFrame) (c cB cC : ClassId) (N M K : Nat) (dv : Value) : ∀ i, cubeF (s.setTop f) c cB cC N M K dv i = (cubeF s c cB cC N M K dv i).setTop f
  | 0 => rfl
  | i + 1 => by simp only [cubeF, cubeF_setTop s f c cB cC N M K dv i, Jvm.Free.Multi.fill_setTop, State.heap_setTop, State.setCell_setTop]
theorem cubeF_old (s : State) (c cB cC : ClassId) (N M K : Nat) (dv : Value) {a : Addr} (ha : a < s.heap.size) : ∀ i, (cubeF s c cB cC N M K dv i).heap[a]? = s.heap[a]?
  | 0 => State.heap_pushCell_of_lt _ _ ha
  | i + 1 => by
    have f1 := (cubeF_facts s c cB cC N M K dv i).1
    have hlt : a < (cubeF s c cB cC N M K dv i).heap.size := Nat.lt_of_lt_of_le ha (by rw [f1]; omega)
    show ((Jvm.Free.Multi.fill (cubeF s c cB cC N M K dv i) cB cC M K dv M).setCell s.heap.size _).heap[a]? = _
    rw [State.heap_setCell_other (Nat.ne_of_gt ha), Jvm.Free.Multi.fill_old _ cB cC M K dv hlt M]
    exact cubeF_old s c cB cC N M K dv ha i
theorem cubeF_mid (s : State) (c cB cC : ClassId) (N M K : Nat) (dv : Value) : ∀ i j, j < i → (cubeF s c cB cC N M K dv i).heap[s.heap.size + 1 + j * (1 + M)]? = some (Jvm.Free.Multi.outerC cB M (s.heap.size + 1 + j * (1 + M)) M) ∧ ∀ t, t < M → (cubeF s c cB cC N M K dv i).heap[s.heap.size + 1 + j * (1 + M) + 1 + t]? = some (Jvm.Free.Multi.innerC cC K dv)
  | 0, _, h => absurd h (Nat.not_lt_zero _)
  | i + 1, j, h => by
    have f1 := (cubeF_facts s c cB cC N M K dv i).1
    obtain ⟨g1, g2, -, -⟩ := Jvm.Free.Multi.fill_facts (cubeF s c cB cC N M K dv i) cB cC M K dv M
    rcases Nat.lt_or_ge j i with hj | hj
    · obtain ⟨i1, i2⟩ := cubeF_mid s c cB cC N M K dv i j hj
      have hle : j * (1 + M) + (1 + M) ≤ i * (1 + M) := by
        have := Nat.mul_le_mul_right (1 + M) (show j + 1 ≤ i from hj)
        rw [Nat.succ_mul] at this; exact this
      refine ⟨?_, fun t ht => ?_⟩
      · show ((Jvm.Free.Multi.fill (cubeF s c cB cC N M K dv i) cB cC M K dv M).setCell s.heap.size _).heap[_]? = _
        rw [State.heap_setCell_other (show s.heap.size ≠ s.heap.size + 1 + j * (1 + M) by omega), Jvm.Free.Multi.fill_old _ cB cC M K dv (show s.heap.size + 1 + j * (1 + M) < (cubeF s c cB cC N M K dv i).heap.size by rw [f1]; omega) M]
        exact i1
      · show ((Jvm.Free.Multi.fill (cubeF s c cB cC N M K dv i) cB cC M K dv M).setCell s.heap.size _).heap[_]? = _
        rw [State.heap_setCell_other (show s.heap.size ≠ s.heap.size + 1 + j * (1 + M) + 1 + t by omega), Jvm.Free.Multi.fill_old _ cB cC M K dv (show s.heap.size + 1 + j * (1 + M) + 1 + t < (cubeF s c cB cC N M K dv i).heap.size by rw [f1]; omega) M]
        exact i2 t ht
    · have e : j = i := by omega
      subst e
      refine ⟨?_, fun t ht => ?_⟩
      · show ((Jvm.Free.Multi.fill (cubeF s c cB cC N M K dv j) cB cC M K dv M).setCell s.heap.size _).heap[_]? = _
        rw [State.heap_setCell_other (show s.heap.size ≠ s.heap.size + 1 + j * (1 + M) by omega), ← f1]
        exact g2
      · show ((Jvm.Free.Multi.fill (cubeF s c cB cC N M K dv j) cB cC M K dv M).setCell s.heap.size _).heap[_]? = _
        rw [State.heap_setCell_other (show s.heap.size ≠ s.heap.size + 1 + j * (1 + M) + 1 + t by omega), ← f1]
        exact Jvm.Free.Multi.fill_inner _ cB cC M K dv M t ht
section
variable {E : CtlPost} {e : Env} {d : Bool} {acts : List Action} {s : State}
theorem cube_make {c cB cC cc : ClassId} {k kB kC : Class} {t0 t1 type : FieldType} {n m q : Int32} (hk : s.vm.classes[c]? = some k) (hkind : k.kind = .array cB t0) (href : t0.isReference = true)
    (hkB : s.vm.classes[cB]? = some kB) (hkindB : kB.kind = .array cC t1) (hrefB : t1.isReference = true) (hkC : s.vm.classes[cC]? = some kC) (hkindC : kC.kind = .array cc type) (hn : ¬ n < 0) (hm : ¬ m < 0) (hq0 : ¬ q < 0)
    (hl1 : ¬ n.toNatClampNeg > e.platform.arrayLengthLimit) (hh1 : ¬ n.toNatClampNeg * componentBytes t0 > e.platform.maxHeapBytes)
    (hl2 : ¬ m.toNatClampNeg > e.platform.arrayLengthLimit) (hh2 : ¬ m.toNatClampNeg * componentBytes t1 > e.platform.maxHeapBytes)
    (hl3 : ¬ q.toNatClampNeg > e.platform.arrayLengthLimit) (hh3 : ¬ q.toNatClampNeg * componentBytes type > e.platform.maxHeapBytes)
    (hdf : fits type (defaultValue type) = true) (hdd : (defaultValue type).isDefault = true)
    (hc : s.heap.size + 1 + n.toNatClampNeg * (1 + m.toNatClampNeg) ≤ e.platform.maxCells) (hs : s.slotsUsed + n.toNatClampNeg + n.toNatClampNeg * (m.toNatClampNeg + m.toNatClampNeg * q.toNatClampNeg) ≤ e.platform.maxSlots)
    {Q : Addr → Pre} (hq : ∀ d' acts', Q s.heap.size d' acts' (cubeF s c cB cC n.toNatClampNeg m.toNatClampNeg q.toNatClampNeg (defaultValue type) n.toNatClampNeg)) :
    wp (multianewarray.make c [n, m, q]) Q E e d acts s := by
  have hfind : ([m, q].find? (· < 0)) = none := by simp [hm, hq0]
  rw [multianewarray.make]
  simp only [wp_bind', W.ite, hn, if_false, wp_pure', W.theClass, hk, hkind, Option.some.injEq, exists_eq_left']
  refine Jvm.Free.Multi.wp_newArray hk hkind hl1 hh1 (Jvm.Free.Multi.refFits href _ (Or.inl rfl)) rfl (by omega) (by have := Nat.zero_le (n.toNatClampNeg * (m.toNatClampNeg + m.toNatClampNeg * q.toNatClampNeg)); omega) ?_
  simp only [hfind]
  rw [ite_self, wp_bind', Std.Legacy.Range.forIn_eq_forIn_range']
  have hsz : ([:n.toNatClampNeg] : Std.Legacy.Range).size = n.toNatClampNeg := by simp [Std.Legacy.Range.size]
  rw [hsz]
  show wp (forIn (List.range' 0 n.toNatClampNeg 1) PUnit.unit _) _ E e d acts _
  refine wp_forIn_inv (fun rest s' => ∃ i, i ≤ n.toNatClampNeg ∧ rest = List.range' i (n.toNatClampNeg - i) ∧ s' = cubeF s c cB cC n.toNatClampNeg m.toNatClampNeg q.toNatClampNeg (defaultValue type) i) _ _ ⟨0, Nat.zero_le _, rfl, rfl⟩ ?_ ?_
  · rintro x rest s' d' acts' Q' ⟨i, hi, hl, rfl⟩ hnext
    have hlt : i < n.toNatClampNeg := by
      rcases Nat.lt_or_ge i n.toNatClampNeg with h | h
      · exact h
      · rw [show n.toNatClampNeg - i = 0 from by omega] at hl; simp at hl
    obtain ⟨rfl, hrest⟩ : x = i ∧ rest = List.range' (i + 1) (n.toNatClampNeg - (i + 1)) := by
      rw [show n.toNatClampNeg - i = (n.toNatClampNeg - (i + 1)) + 1 from by omega, List.range'_succ] at hl
      exact ⟨(List.cons.inj hl).1, (List.cons.inj hl).2⟩
    obtain ⟨f1, f2, f3, f4⟩ := cubeF_facts s c cB cC n.toNatClampNeg m.toNatClampNeg q.toNatClampNeg (defaultValue type) x
    obtain ⟨o1, o2, o3⟩ := cubeO_facts c n.toNatClampNeg s.heap.size (1 + m.toNatClampNeg) x
    have hmul : x * (1 + m.toNatClampNeg) + (1 + m.toNatClampNeg) ≤ n.toNatClampNeg * (1 + m.toNatClampNeg) := by
      have := Nat.mul_le_mul_right (1 + m.toNatClampNeg) (show x + 1 ≤ n.toNatClampNeg from hlt)
      rw [Nat.succ_mul] at this; exact this
    have hmul2 : x * (m.toNatClampNeg + m.toNatClampNeg * q.toNatClampNeg) + (m.toNatClampNeg + m.toNatClampNeg * q.toNatClampNeg) ≤ n.toNatClampNeg * (m.toNatClampNeg + m.toNatClampNeg * q.toNatClampNeg) := by
      have := Nat.mul_le_mul_right (m.toNatClampNeg + m.toNatClampNeg * q.toNatClampNeg) (show x + 1 ≤ n.toNatClampNeg from hlt)
      rw [Nat.succ_mul] at this; exact this
    simp only [wp_bind']
    refine Jvm.Free.Multi.wp_make2 (by rw [f3]; exact hkB) hkindB hrefB (by rw [f3]; exact hkC) hkindC hm hq0 hl2 hh2 hl3 hh3 hdf hdd (by rw [f1]; omega) (by rw [f4]; omega) (fun d2 acts2 => ?_)
    have hlt0 : s.heap.size < (cubeF s c cB cC n.toNatClampNeg m.toNatClampNeg q.toNatClampNeg (defaultValue type) x).heap.size := by rw [f1]; omega
    have g3 := (Jvm.Free.Multi.fill_facts (cubeF s c cB cC n.toNatClampNeg m.toNatClampNeg q.toNatClampNeg (defaultValue type) x) cB cC m.toNatClampNeg q.toNatClampNeg (defaultValue type) m.toNatClampNeg).2.2.1
    simp only [wp_bind', W.writeLoc, wp_pure']
    refine ⟨cubeO c n.toNatClampNeg s.heap.size (1 + m.toNatClampNeg) x, by rw [Jvm.Free.Multi.fill_old _ cB cC _ _ _ hlt0 _]; exact f2, by rw [o2]; simp, by rw [o3]; exact hlt, ?_, hnext _ _ _ ⟨x + 1, hlt, hrest, ?_⟩⟩
    · rw [o1, o2]
      simp [State.fitsSlot, State.slotType?, g3, f3, hk, hkind, Jvm.Free.Multi.refFits href _ (Or.inr ⟨_, rfl⟩)]
    · rw [f1]; rfl
  · rintro s' d' acts' ⟨i, hi, hl, rfl⟩
    have hiN : i = n.toNatClampNeg := by
      rcases Nat.lt_or_ge i n.toNatClampNeg with h | h
      · rw [show n.toNatClampNeg - i = (n.toNatClampNeg - (i + 1)) + 1 from by omega, List.range'_succ] at hl; cases hl
      · omega
    subst hiN
    simp only [wp_pure']
    exact hq _ _
end
section
variable {p : Program} {l : Launch} {e : Env} {R : Room} {s : State} {m : MethodId} {args : Array Value} {below : List Frame} {meth : Method} {c : Code} {T : State} {locs : List Loc} {cells slots : Nat}
theorem cube_stand (X : Stand p l e R s m args below meth c T locs cells slots) (cA cB cC : ClassId) (N M K : Nat) (dv : Value) :
    ∀ i, Stand p l e R s m args below meth c (cubeF T cA cB cC N M K dv i) locs (cells + 1 + i * (1 + M)) (slots + N + i * (M + M * K))
  | 0 => by
    have h := X.pushed (cubeO cA N T.heap.size (1 + M) 0)
    rw [(cubeO_facts cA N T.heap.size (1 + M) 0).2.2] at h
    simpa [cubeF] using h
  | i + 1 => by
    have Xi := cube_stand X cA cB cC N M K dv i
    obtain ⟨f1, f2, f3, f4⟩ := cubeF_facts T cA cB cC N M K dv i
    have hlt0 : T.heap.size < (cubeF T cA cB cC N M K dv i).heap.size := by rw [f1]; omega
    have hg := X.heapGrown
    have X2 := (Xi.filled cB cC M K dv M).dropFresh (fun x hx => by
      obtain ⟨j, -, rfl⟩ := List.mem_map.mp hx
      exact Nat.le_trans hg (Nat.le_of_lt hlt0))
    have hcell : (Jvm.Free.Multi.fill (cubeF T cA cB cC N M K dv i) cB cC M K dv M).heap[T.heap.size]? = some (cubeO cA N T.heap.size (1 + M) i) := by rw [Jvm.Free.Multi.fill_old _ cB cC _ _ _ hlt0 _]; exact f2
    have h := (X2.stored hcell i (.ref (T.heap.size + 1 + i * (1 + M)))).dropFresh (fun x hx => by
      rw [List.mem_singleton.mp hx]
      exact hg)
    have e2 : cells + 1 + (i + 1) * (1 + M) = cells + 1 + i * (1 + M) + 1 + M := by rw [Nat.succ_mul]; omega
    have e3 : slots + N + (i + 1) * (M + M * K) = slots + N + i * (M + M * K) + M + M * K := by rw [Nat.succ_mul]; omega
    rw [e2, e3]
    exact h
theorem cube_step (X : Stand p l e R s m args below meth c T locs cells slots) (hexec : p.tables.exec = Jvm.exec) {own : String} {index : Nat} {ty : FieldType}
    (hown : s.vm.findClass own = some m.cls) (hclink : (Cond.classLink own index ("[" ++ (FieldType.array (.array ty)).toString)).before args s = true)
    (hover2 : (Cond.arrayOver (.array (.array ty))).before args s = true) (hover : (Cond.arrayOver (.array ty)).before args s = true) (harr : (Cond.arrayClass ty).before args s = true)
    {g : JFrame} (hg : g.method = m) (hdg : decode c.code g.pc = .ok (.multianewarray index 3, 4)) {n m1 k : Int32} {rest : List Value} (hstack : g.stack = .int k :: .int m1 :: .int n :: rest)
    (hn : ¬ n < 0) (hm : ¬ m1 < 0) (hk : ¬ k < 0) (hb1 : n.toNatClampNeg * 4 ≤ 536870912) (hbm : m1.toNatClampNeg * 4 ≤ 536870912) (hb2 : k.toNatClampNeg * componentBytes ty ≤ 536870912) (hb3 : k.toNatClampNeg ≤ 536870912)
    (hdf : fits ty (defaultValue ty) = true) (hdd : (defaultValue ty).isDefault = true)
    (hcells : cells + (1 + n.toNatClampNeg * (1 + m1.toNatClampNeg)) ≤ R.cells) (hslots : slots + (n.toNatClampNeg + n.toNatClampNeg * (m1.toNatClampNeg + m1.toNatClampNeg * k.toNatClampNeg)) ≤ R.slots) :
    ∃ (vm₁ : Vm) (cA cB cC : ClassId), s.WarmedH vm₁ ∧ s.vm.findClass ("[" ++ (FieldType.array (.array ty)).toString) = some cA ∧ s.vm.findClass ("[" ++ (FieldType.array ty).toString) = some cB ∧ s.vm.findClass (FieldType.array ty).toString = some cC ∧
      Stand p l e R s m args below meth c (cubeF (T.setVm vm₁) cA cB cC n.toNatClampNeg m1.toNatClampNeg k.toNatClampNeg (defaultValue ty) n.toNatClampNeg) locs (cells + 1 + n.toNatClampNeg * (1 + m1.toNatClampNeg)) (slots + n.toNatClampNeg + n.toNatClampNeg * (m1.toNatClampNeg + m1.toNatClampNeg * k.toNatClampNeg)) ∧
      ∀ target, Steps p.tables e below ((cubeF (T.setVm vm₁) cA cB cC n.toNatClampNeg m1.toNatClampNeg k.toNatClampNeg (defaultValue ty) n.toNatClampNeg).setTop { g with pc := g.pc + 4, stack := .ref T.heap.size :: rest }) target →
        Steps p.tables e below (T.setTop g) target := by
  subst hg
  have hpl : e.platform.magicAccessors = ({} : Platform).magicAccessors := by rw [X.admits.platform]
  obtain ⟨cB, cA, kA, hcB, -, hkA, hkindA, hnameA⟩ := arrayOverA_spec hover2
  obtain ⟨cC, cB', kB, hcC, -, hkB, hkindB, hnameB⟩ := arrayOverA_spec hover
  have eB : cB' = cB := Option.some.inj (hnameB.symm.trans hcB)
  subst eB
  obtain ⟨cC', kC, cc, hcC', hkC, hkindC⟩ := Cond.arrayClass_spec harr
  have eC : cC' = cC := Option.some.inj (hcC'.symm.trans hcC)
  subst eC
  obtain ⟨c0, hfc0, hcl⟩ := Cond.classLink_spec hown hclink e.platform hpl
  cases hnameA.symm.trans hfc0
  obtain ⟨hg₁, hwarm₁, hready₁⟩ := State.classEntry (e := e) X.warmed hcl
  generalize T.vm.noted g.method.cls index (.cls cA) = vm₁ at hg₁ hwarm₁ hready₁
  have hal : s.vm.Alike vm₁ := hwarm₁.alike
  obtain ⟨kA₁, hkA₁, heA⟩ := hal.2.2 _ _ hkA
  obtain ⟨kB₁, hkB₁, heB⟩ := hal.2.2 _ _ hkB
  obtain ⟨kC₁, hkC₁, heC⟩ := hal.2.2 _ _ hkC
  have hkindA₁ : kA₁.kind = .array cB' (.array (.array ty)) := by rw [heA]; exact hkindA
  have hkindB₁ : kB₁.kind = .array cC' (.array ty) := by rw [heB]; exact hkindB
  have hkindC₁ : kC₁.kind = .array cc ty := by rw [heC]; exact hkindC
  have X₁ := X.noted hwarm₁
  obtain ⟨hr1, hr2⟩ := X.roomAbove hcells hslots
  refine ⟨vm₁, cA, cB', cC', hwarm₁, hnameA, hnameB, hcC, cube_stand X₁ cA cB' cC' _ _ _ _ _, fun target hrest => ?_⟩
  have hl1 : ¬ n.toNatClampNeg > e.platform.arrayLengthLimit := by rw [Launch.admits_arrayLengthLimit X.admits]; omega
  have hh1 : ¬ n.toNatClampNeg * componentBytes (.array (.array ty)) > e.platform.maxHeapBytes := by
    rw [Launch.admits_maxHeapBytes X.admits]; show ¬ n.toNatClampNeg * 4 > 536870912; omega
  have hl2 : ¬ m1.toNatClampNeg > e.platform.arrayLengthLimit := by rw [Launch.admits_arrayLengthLimit X.admits]; omega
  have hh2 : ¬ m1.toNatClampNeg * componentBytes (.array ty) > e.platform.maxHeapBytes := by
    rw [Launch.admits_maxHeapBytes X.admits]; show ¬ m1.toNatClampNeg * 4 > 536870912; omega
  have hl3 : ¬ k.toNatClampNeg > e.platform.arrayLengthLimit := by rw [Launch.admits_arrayLengthLimit X.admits]; omega
  have hh3 : ¬ k.toNatClampNeg * componentBytes ty > e.platform.maxHeapBytes := by rw [Launch.admits_maxHeapBytes X.admits]; omega
  jvm_step X.here [hexec, hdg]
  simp only [multianewarray.sem, wp_bind', W.resolveClassAt_links (State.method?_setTop g X.here.top) hg₁]
  rw [W.popN, if_neg (by decide)]
  refine ⟨g, State.topJava?_setTop' (s := T.setVm vm₁) g X.here.top, [.int n, .int m1, .int k], rest, rfl, hstack, ?_⟩
  simp only [List.mapM_cons, List.mapM_nil, wp_bind', wp_pure']
  refine cube_make (k := kA₁) (kB := kB₁) (kC := kC₁) (cB := cB') (cC := cC') (cc := cc) (t0 := .array (.array ty)) (t1 := .array ty) (type := ty) hkA₁ hkindA₁ rfl hkB₁ hkindB₁ rfl hkC₁ hkindC₁ hn hm hk hl1 hh1 hl2 hh2 hl3 hh3 hdf hdd (by show T.heap.size + 1 + _ ≤ _; omega) (by show T.slotsUsed + _ + _ ≤ _; omega) (fun d' acts' => ?_)
  have XF := cube_stand X₁ cA cB' cC' n.toNatClampNeg m1.toNatClampNeg k.toNatClampNeg (defaultValue ty) n.toNatClampNeg
  have eS : ((T.setTop g).setVm vm₁).setTop { g with stack := rest } = (T.setVm vm₁).setTop { g with stack := rest } := by
    show ((T.setVm vm₁).setTop g).setTop _ = _
    rw [State.setTop_setTop]
  rw [eS, cubeF_setTop]
  simp only [wp_bind', W.mark, W.pushRef, State.topJava?_setTop' _ XF.here.top, Option.some.injEq, exists_eq_left', State.setTop_setTop, State.heap_setTop]
  intro acts
  simp [jvm, XF.here.top]
  exact hrest
end
end CUBE
/-- the cells of new int[N][M][K] at q -/
def sCube (g : gS) (q N M K : Nat) : gS :=
  (fun a => if a < q ∨ q + 1 + N * (1 + M) ≤ a then g.1 a else if a = q then 28 else if (a - q - 1) % (1 + M) = 0 then 24 else 21,
   fun a => if a < q ∨ q + 1 + N * (1 + M) ≤ a then g.2.1 a else if a = q then N else if (a - q - 1) % (1 + M) = 0 then M else K,
   fun a => if a < q ∨ q + 1 + N * (1 + M) ≤ a then g.2.2.1 a else fun _ => 0,
   fun a => if a < q ∨ q + 1 + N * (1 + M) ≤ a then g.2.2.2.1 a else if a = q then (fun i => if i < N then some (q + 1 + i * (1 + M)) else none) else if (a - q - 1) % (1 + M) = 0 then (fun t => if t < M then some (a + 1 + t) else none) else fun _ => none,
   fun a => if a < q ∨ q + 1 + N * (1 + M) ≤ a then g.2.2.2.2 a else fun _ => 0)
section CUBER
variable {p : Program} {l : Launch} {e : Env} {R : Room} {s : State} {m : MethodId} {args : Array Value} {below : List Frame} {meth : Method} {c : Code} {H : Heap} {locs : List Loc} {cells slots : Nat} {Q : State → Prop}
variable {cc : ByteArray} {pc nL : Nat} {ls : Array Slot} {rest st0 : List Value} {D : va_G} {cA : Nat → ClassId} {A : Nat → Prop} {a b L : Nat} {xs : Nat → Int32} {g gm g0 m0 : gS} {Ts : List Cond} {own : String} {arr : Array Value} {mc ms sz : Nat}
theorem cube_old {g : gS} {q N M K a : Nat} (h : a < q ∨ q + 1 + N * (1 + M) ≤ a) : gK (sCube g q N M K) a = gK g a ∧ gE cA (sCube g q N M K) a = gE cA g a :=
  ⟨if_pos h, gE_congr (if_pos h) (if_pos h) (if_pos h) (if_pos h) (if_pos h)⟩
theorem h_mna3 (CF : CallFix p m c cc nL s args Ts own) (hc : hC D cA A s b L xs g gm H locs) {index : Nat} (hcl : Cond.classLink own index "[[[I" ∈ Ts) (harr : Cond.arrayClass .int ∈ Ts) {n m1 k : Int32} {N M K : Nat} (hn : ¬ n < 0) (hm : ¬ m1 < 0) (hk : ¬ k < 0) (hN : n.toNatClampNeg = N) (hM : m1.toNatClampNeg = M) (hK : k.toNatClampNeg = K) (hb1 : N ≤ 134217728) (hbm : M ≤ 134217728) (hb2 : K ≤ 134217728)
    (hcells : cells + (1 + N * (1 + M)) ≤ R.cells) (hslots : slots + (N + N * (M + M * K)) ≤ R.slots) (hdg : decode cc pc = .ok (.multianewarray index 3, 4))
    (kk : ∀ (q : Nat) (H1 : Heap), (∀ a, q ≤ a → gK g a = 0 ∧ gK gm a = 0) → hC D cA A s b L xs (sCube g q N M K) gm H1 locs → W p l e R s m args below meth c H1 locs (cells + 1 + N * (1 + M)) (slots + N + N * (M + M * K)) Q (F0 m (pc + 4) ls (.ref q :: rest))) : W p l e R s m args below meth c H locs cells slots Q (F0 m pc ls (.int k :: .int m1 :: .int n :: rest)) := by
  obtain ⟨hx, hb, hml, hown, hts⟩ := CF
  subst hN; subst hM; subst hK
  intro T hT X
  obtain ⟨vm₁, cA', cB', cC', -, fA, fB, fC, X', step⟩ := cube_step X hx (ty := .int) hown (hts _ hcl) (va_AOA.use hc.1.1.2.2.2.2.2.2.2.1) (va_AOA.use hc.1.1.2.2.2.2.2.2.1) (hts _ harr) (g := F0 m pc ls (.int k :: .int m1 :: .int n :: rest)) rfl (by rw [hb]; exact hdg) rfl hn hm hk (by omega) (by omega) (by show k.toNatClampNeg * 4 ≤ _; omega) (by omega) rfl rfl hcells hslots
  have eA : cA' = cA 7 := Option.some.inj (fA.symm.trans (hc.1.1.1.2 7 (cA 7, .array (.array .int)) rfl).2)
  have eB : cB' = cA 3 := Option.some.inj (fB.symm.trans (hc.1.1.1.2 3 (cA 3, .array .int) rfl).2)
  have eC : cC' = cA 0 := Option.some.inj (fC.symm.trans (hc.1.1.1.2 0 (cA 0, .int) rfl).2)
  subst eA; subst eB; subst eC
  have hTh : (T.setVm vm₁).heap = H := hT
  obtain ⟨f1, f2, -, -⟩ := cubeF_facts (T.setVm vm₁) (cA 7) (cA 3) (cA 0) n.toNatClampNeg m1.toNatClampNeg k.toNatClampNeg (defaultValue .int) n.toNatClampNeg
  have hold : ∀ x : Nat, x < H.size → (cubeF (T.setVm vm₁) (cA 7) (cA 3) (cA 0) n.toNatClampNeg m1.toNatClampNeg k.toNatClampNeg (defaultValue .int) n.toNatClampNeg).heap[x]? = H[x]? := fun x hx => by
    have := cubeF_old (T.setVm vm₁) (cA 7) (cA 3) (cA 0) n.toNatClampNeg m1.toNatClampNeg k.toNatClampNeg (defaultValue .int) (a := x) (by rw [hTh]; exact hx) n.toNatClampNeg
    rw [hTh] at this
    exact this
  have hmid := cubeF_mid (T.setVm vm₁) (cA 7) (cA 3) (cA 0) n.toNatClampNeg m1.toNatClampNeg k.toNatClampNeg (defaultValue .int) n.toNatClampNeg
  generalize n.toNatClampNeg = N at *
  generalize m1.toNatClampNeg = M at *
  generalize k.toNatClampNeg = K at *
  rw [hTh] at f1 f2 hmid
  generalize hF : cubeF (T.setVm vm₁) (cA 7) (cA 3) (cA 0) N M K (defaultValue .int) N = F at X' step f1 f2 hold hmid
  have z0 : ∀ a, H.size ≤ a → gK g a = 0 ∧ gK gm a = 0 := fun a ha => by
    constructor
    · by_cases h : gK g a = 0
      · exact h
      · exact absurd (hc.1.2.2.2.1.lt h) (Nat.not_lt.mpr ha)
    · by_cases h : gK gm a = 0
      · exact h
      · exact absurd (hc.2.1.lt h) (Nat.not_lt.mpr ha)
  have hS := hc.1.2.2.2.2.2
  have hgH : gH D cA (sCube g H.size N M K) F.heap := by
    obtain ⟨P, m1', p1, d1⟩ := id hc.1.2.2.2.1
    refine gH_of (P := P ++ (List.range (1 + N * (1 + M))).map (fun i => H.size + i)) ?_ (fun a => ?_) (fun a ha => ?_)
    · refine List.nodup_append.mpr ⟨pl_nodup d1, ?_, fun a ha b hb e => ?_⟩
      · exact List.Pairwise.map _ (fun x y hxy e => hxy (by omega)) List.nodup_range
      · obtain ⟨i, -, rfl⟩ := List.mem_map.mp hb
        have := hc.1.2.2.2.1.lt ((m1' a).mp ha)
        omega
    · rw [List.mem_append, m1']
      by_cases ho : a < H.size ∨ H.size + 1 + N * (1 + M) ≤ a
      · rw [(cube_old (cA := cA) ho).1]
        refine ⟨fun h => h.elim (fun q => q) (fun q => ?_), fun h => Or.inl h⟩
        obtain ⟨i, hi, rfl⟩ := List.mem_map.mp q
        have := List.mem_range.mp hi
        omega
      · have hne : gK (sCube g H.size N M K) a ≠ 0 := by
          show (if a < H.size ∨ _ then _ else if a = H.size then 28 else if _ then 24 else 21) ≠ 0
          rw [if_neg ho]
          split
          · decide
          · split <;> decide
        exact ⟨fun _ => hne, fun _ => Or.inr (List.mem_map.mpr ⟨a - H.size, List.mem_range.mpr (by omega), by omega⟩)⟩
    · by_cases ho : a < H.size ∨ H.size + 1 + N * (1 + M) ≤ a
      · obtain ⟨o1, o2⟩ := cube_old (cA := cA) (g := g) (K := K) ho
        rw [o2]
        rw [o1] at ha
        have hlt := hc.1.2.2.2.1.lt ha
        have := hc.1.2.2.2.1.at' ha
        refine (va_P.kept (ws := [(a, gE cA g a)]) (H := H) (fun k q hq => ?_) (fun k q hq => ?_)) 0 _ rfl
        · cases k with
          | zero => cases hq; exact this
          | succ k => cases hq
        · cases k with
          | zero => cases hq; exact hold a hlt
          | succ k => cases hq
      · by_cases e1 : a = H.size
        · subst e1
          have kq : gK (sCube g H.size N M K) H.size = 24 + 4 := by
            show (if _ then _ else if _ then _ else _) = _
            rw [if_neg ho, if_pos rfl]
          rw [gE_q kq (by omega)]
          show F.heap[H.size]? = some (vp_cell (cA 7) _)
          rw [vp_cell_q, f2, cubeO_arr]
          refine congrArg some ?_
          have e9 : gN (sCube g H.size N M K) H.size = N := by
            show (if _ then _ else if _ then _ else _) = _
            rw [if_neg ho, if_pos rfl]
          have e8 : gR (sCube g H.size N M K) H.size = (fun i => if i < N then some (H.size + 1 + i * (1 + M)) else none) := by
            show (if _ then _ else if _ then _ else _) = _
            rw [if_neg ho, if_pos rfl]
          rw [e9, e8]
        · have hlo : H.size + 1 ≤ a := by omega
          have hM0 : 0 < 1 + M := by omega
          generalize hj : (a - H.size - 1) / (1 + M) = j
          have hdm := Nat.div_add_mod (a - H.size - 1) (1 + M)
          have hml' := Nat.mod_lt (a - H.size - 1) hM0
          rw [hj, Nat.mul_comm] at hdm
          have hjN : j < N := by
            rw [← hj]
            exact (Nat.div_lt_iff_lt_mul hM0).mpr (by omega)
          obtain ⟨i1, i2⟩ := hmid j hjN
          by_cases e2 : (a - H.size - 1) % (1 + M) = 0
          · have ea : a = H.size + 1 + j * (1 + M) := by omega
            have kq : gK (sCube g H.size N M K) a = 24 := by
              show (if _ then _ else if _ then _ else if _ then _ else _) = _
              rw [if_neg ho, if_neg e1, if_pos e2]
            have e9 : gN (sCube g H.size N M K) a = M := by
              show (if _ then _ else if _ then _ else if _ then _ else _) = _
              rw [if_neg ho, if_neg e1, if_pos e2]
            have e8 : gR (sCube g H.size N M K) a = (fun t => if t < M then some (a + 1 + t) else none) := by
              show (if _ then _ else if _ then _ else if _ then _ else _) = _
              rw [if_neg ho, if_neg e1, if_pos e2]
            rw [gE_24 kq, e9, e8]
            show F.heap[a]? = some (vp_cell (cA 3) _)
            rw [vp_cell_q, ea, i1, vr_outer]
          · have ea : a = H.size + 1 + j * (1 + M) + 1 + ((a - H.size - 1) % (1 + M) - 1) := by omega
            have kq : gK (sCube g H.size N M K) a = 21 := by
              show (if _ then _ else if _ then _ else if _ then _ else _) = _
              rw [if_neg ho, if_neg e1, if_neg e2]
            have e9 : gN (sCube g H.size N M K) a = K := by
              show (if _ then _ else if _ then _ else if _ then _ else _) = _
              rw [if_neg ho, if_neg e1, if_neg e2]
            have e8 : gI (sCube g H.size N M K) a = (fun _ => 0) := by
              show (if _ then _ else _) = _
              rw [if_neg ho]
            rw [gE_i kq, e9, e8]
            show F.heap[a]? = some (vp_cell (cA 0) (K, .inl (fun _ => 0)))
            rw [ea, i2 _ (by omega)]
            refine congrArg some ?_
            show ({ cls := cA 0, slots := Array.replicate K (.int 0), vm := .none } : Cell) = vp_cell (cA 0) (K, .inl (fun _ => 0))
            rw [arrV_new]; rfl
  have hs1 : va_S A s.heap F.heap locs := ⟨by rw [f1]; have := hS.1; omega, fun x h1 h2 => (hold x (Nat.lt_of_lt_of_le h1 hS.1)).trans (hS.2.1 x h1 h2), hS.2.2⟩
  have hcF : hC D cA A s b L xs (sCube g H.size N M K) gm F.heap locs := by
    refine ⟨⟨hc.1.1, hc.1.2.1, hc.1.2.2.1, hgH, fun q hq => ?_, hs1⟩, hc.2.1.kept (fun a ha => hold a (hc.2.1.lt ha)), hc.2.2.1, fun q hq => ?_, hc.2.2.2.2⟩
    · by_cases ho : q < H.size
      · rw [(cube_old (cA := cA) (Or.inl ho)).1] at hq
        exact hc.1.2.2.2.2.1 q hq
      · exact hc.1.2.1 q (Nat.le_trans hS.1 (Nat.not_lt.mp ho))
    · by_cases ho : q < H.size
      · rw [(cube_old (cA := cA) (Or.inl ho)).1] at hq
        exact hc.2.2.2.1 q hq
      · exact (z0 q (Nat.not_lt.mp ho)).2
  obtain ⟨t, a1, b1⟩ := kk H.size F.heap z0 hcF F rfl X'
  refine ⟨t, step t ?_, b1⟩
  have e : T.heap.size = H.size := by rw [hT]
  rw [e]
  exact a1
end CUBER
