/-! more rows over the ghost heap -/
def sU (g : gS) (a k : Nat) (v : Int32) : gS := sI g a (upd (gI g a) k v)
def sV (g : gS) (a k : Nat) (v : Option Nat) : gS := sR g a (va_up (gR g a) k v)
def sW (g : gS) (a k : Nat) (v : Int64) : gS := sJ g a (vp_updL (gJ g a) k v)
theorem cat_rf {r : Option Nat} : (va_rf r).category = 1 := by cases r <;> rfl
theorem rf_room {l : List Value} {r : Option Nat} (h : (l.map fun v => v.category).sum ≤ 7) : ((va_rf r :: l).map fun v => v.category).sum ≤ 8 := by
  rw [List.map_cons, List.sum_cons, cat_rf]; omega
section GROWS3
variable {p : Program} {l : Launch} {e : Env} {R : Room} {s : State} {m : MethodId} {args : Array Value} {below : List Frame} {meth : Method} {c : Code} {H : Heap} {locs : List Loc} {cells slots : Nat} {Q : State → Prop}
variable {cc : ByteArray} {pc nL : Nat} {ls : Array Slot} {rest st0 : List Value} {D : va_G} {cA : Nat → ClassId} {A : Nat → Prop} {a : Nat} {g g0 : gS} {Ts : List Cond} {own : String} {arr : Array Value} {mc ms sz : Nat}
theorem g_aload_nq (CF : CallFix p m c cc nL s args Ts own) {k : Fin 4} {i : Nat} {r : Option Nat} (hdg : decode cc pc = .ok (.aload_n k, 1)) (hi : (k : Nat) = i) (hl : ls[i]? = some (.val (va_rf r))) (kk : W p l e R s m args below meth c H locs cells slots Q (F0 m (pc + 1) ls (va_rf r :: rest))) : W p l e R s m args below meth c H locs cells slots Q (F0 m pc ls rest) := by
  cases r with
  | none => exact lv_aload_nN CF.1 CF.2.1 hdg hi hl kk
  | some y => exact lv_aload_n CF.1 CF.2.1 hdg hi hl kk
theorem g_aloadq (CF : CallFix p m c cc nL s args Ts own) {i : Nat} {r : Option Nat} (hdg : decode cc pc = .ok (.aload i, 2)) (hl : ls[i]? = some (.val (va_rf r))) (kk : W p l e R s m args below meth c H locs cells slots Q (F0 m (pc + 2) ls (va_rf r :: rest))) : W p l e R s m args below meth c H locs cells slots Q (F0 m pc ls rest) := by
  cases r with
  | none => exact lv_aloadN CF.1 CF.2.1 hdg hl kk
  | some y => exact lv_aload CF.1 CF.2.1 hdg hl kk
theorem g_astore_nq (CF : CallFix p m c cc nL s args Ts own) {k : Fin 4} {i : Nat} {r : Option Nat} {lv lv' : List (Nat × Value)} (hdg : decode cc pc = .ok (.astore_n k, 1)) (hi : (k : Nat) = i) (h : lv_has ls nL lv) (hn : i < nL) (hl : (i, va_rf r) :: lv.filter (fun q => !(q.1 == i) && !(q.1 + 1 == i && q.2.category == 2)) = lv') (kk : ∀ ls' : Array Slot, lv_has ls' nL lv' → W p l e R s m args below meth c H locs cells slots Q (F0 m (pc + 1) ls' rest)) : W p l e R s m args below meth c H locs cells slots Q (F0 m pc ls (va_rf r :: rest)) := by
  cases r with
  | none => exact lv_astore_nN CF.1 CF.2.1 hdg hi h hn hl kk
  | some y => exact lv_astore_n CF.1 CF.2.1 hdg hi h hn hl kk
theorem g_astoreq (CF : CallFix p m c cc nL s args Ts own) {i : Nat} {r : Option Nat} {lv lv' : List (Nat × Value)} (hdg : decode cc pc = .ok (.astore i, 2)) (h : lv_has ls nL lv) (hn : i < nL) (hl : (i, va_rf r) :: lv.filter (fun q => !(q.1 == i) && !(q.1 + 1 == i && q.2.category == 2)) = lv') (kk : ∀ ls' : Array Slot, lv_has ls' nL lv' → W p l e R s m args below meth c H locs cells slots Q (F0 m (pc + 2) ls' rest)) : W p l e R s m args below meth c H locs cells slots Q (F0 m pc ls (va_rf r :: rest)) := by
  cases r with
  | none => exact lv_astoreN CF.1 CF.2.1 hdg h hn hl kk
  | some y => exact lv_astore CF.1 CF.2.1 hdg h hn hl kk
theorem g_aaldr (CF : CallFix p m c cc nL s args Ts own) (hc : gC D cA A s g H locs) (hk : gK g a = 24) {i : Int32} (hin : vp_in i (gN g a)) {x : Nat} (hx : gR g a i.toNatClampNeg = some x) (hdg : decode cc pc = .ok (.aaload, 1))
    (kk : W p l e R s m args below meth c H locs cells slots Q (F0 m (pc + 1) ls (.ref x :: rest))) : W p l e R s m args below meth c H locs cells slots Q (F0 m pc ls (.int i :: .ref a :: rest)) := by
  refine g_aald CF hc (j := 0) hk (by omega) hin hdg ?_
  rw [hx]; exact kk
theorem g_throwS {XC : String → gS → Prop} {Qc : Array Value → State → Outcome → State → Prop} (CF : CallFix p m c cc nL s args Ts own) (hl : l.stackTraces = false) (hc : gC D cA (gA g0 sz) s g H locs) {cls text : String} {names : List String} {ik is ic : Nat}
    (hcls : Bundle.fit cls = true) (hnames : ∀ n ∈ names, Bundle.fit n = true) (hk : Cond.classLink own ik cls ∈ Ts) (hini : Cond.initialized cls ∈ Ts) (htx : (own, is, text) ∈ gTx) (hat1 : ∀ w ∈ (vx_atS own ic cls names).filter goodWord, w ∈ Ts) (hat2 : ∀ w ∈ (vx_atS own ic cls names).filter (fun w => !goodWord w), w ∈ gWs) (hot : ∀ w ∈ gWs, w.onTables = true)
    (hgood : ∀ w ∈ Cond.classLink own ik cls :: Cond.initialized cls :: vx_atS own ic cls names, vx_ot w = true) (hsize : ls.size = nL)
    (d0 : decode cc pc = .ok (.new ik, 3)) (d3 : decode cc (pc + 3) = .ok (.dup, 1)) (d4 : decode cc (pc + 4) = .ok (.ldc is, 2)) (d6 : decode cc (pc + 6) = .ok (.invokespecial ic, 3)) (d9 : decode cc (pc + 9) = .ok (.athrow, 1))
    (hout : ∀ x ∈ c.exceptionTable.toList, False) (hRframes : names.length + 3 < R.frames) (hRlocals : (rest.map fun v => v.category).sum + (13 * (names.length + 1) + 43) ≤ R.locals) (hRcells : cells + 1 ≤ R.cells) (hRslots : slots + 6 ≤ R.slots) (hlocks : meth.locks = false)
    (hX : XC cls g) (hcm : cells + 1 ≤ mc) (hsm : slots + 6 ≤ ms) :
    W p l e R s m args below meth c H locs cells slots (vx_MQ below Qc (gQx D cA g0 sz XC) args s mc ms (gA g0 sz)) (F0 m pc ls rest) := by
  obtain ⟨hx, hb, hml, hown, hts⟩ := CF
  obtain ⟨sa, hsa⟩ := hc.1.2.2.1 _ htx
  refine vx_throwS (sa := sa) hx hb hl hown hcls hnames (hts _ hk) (hts _ hini) hsa ?_ hgood hc.2.2.1.1 hc.2.2.1.2 hc.2.2.2.2.2 (hsize.trans hml.symm) d0 d3 d4 d6 d9 (fun x hx => (hout x hx).elim) hRframes hRlocals hRcells hRslots hlocks ?_ hc.2.2.2.2.2.2.2 hcm hsm
  · refine vx_hat (B := gWs) (fun w hw => hts _ (hat1 w hw)) hat2 (fun w hw => va_Nw.use (hot w hw) (hc.1.2.1 w hw))
  · intro t ht hz hq
    refine ⟨g, trivial, ⟨hX, hc.2.2.2.1.kept (fun a ha => hq a (hc.2.2.2.1.lt ha)), hc.2.2.2.2.1⟩, ?_, ?_⟩
    · exact Nat.le_trans hc.2.2.2.2.2.1 hz
    · intro q h1 h2
      rw [hq q (Nat.lt_of_lt_of_le h1 hc.2.2.2.2.2.1)]
      exact hc.2.2.2.2.2.2.1 q h1 h2
theorem g_throwSW {XC : String → gS → Prop} {Qc : Array Value → State → Outcome → State → Prop} (CF : CallFix p m c cc nL s args Ts own) (hl : l.stackTraces = false) (hc : gC D cA (gA g0 sz) s g H locs) {cls text : String} {names : List String} {ik is ic : Nat}
    (hcls : Bundle.fit cls = true) (hnames : ∀ n ∈ names, Bundle.fit n = true) (hk : Cond.classLink own ik cls ∈ Ts) (hini : Cond.initialized cls ∈ Ts) (htx : (own, is, text) ∈ gTx) (hat1 : ∀ w ∈ (vx_atS own ic cls names).filter goodWord, w ∈ Ts) (hat2 : ∀ w ∈ (vx_atS own ic cls names).filter (fun w => !goodWord w), w ∈ gWs) (hot : ∀ w ∈ gWs, w.onTables = true)
    (hgood : ∀ w ∈ Cond.classLink own ik cls :: Cond.initialized cls :: vx_atS own ic cls names, vx_ot w = true) (hsize : ls.size = nL)
    (d0 : decode cc pc = .ok (.new ik, 3)) (d3 : decode cc (pc + 3) = .ok (.dup, 1)) (d4 : decode cc (pc + 4) = .ok (.ldc_w is, 3)) (d7 : decode cc (pc + 7) = .ok (.invokespecial ic, 3)) (d10 : decode cc (pc + 10) = .ok (.athrow, 1))
    (hout : ∀ x ∈ c.exceptionTable.toList, False) (hRframes : names.length + 3 < R.frames) (hRlocals : (rest.map fun v => v.category).sum + (13 * (names.length + 1) + 43) ≤ R.locals) (hRcells : cells + 1 ≤ R.cells) (hRslots : slots + 6 ≤ R.slots) (hlocks : meth.locks = false)
    (hX : XC cls g) (hcm : cells + 1 ≤ mc) (hsm : slots + 6 ≤ ms) :
    W p l e R s m args below meth c H locs cells slots (vx_MQ below Qc (gQx D cA g0 sz XC) args s mc ms (gA g0 sz)) (F0 m pc ls rest) := by
  obtain ⟨hx, hb, hml, hown, hts⟩ := CF
  obtain ⟨sa, hsa⟩ := hc.1.2.2.1 _ htx
  refine vx_throwSW (sa := sa) hx hb hl hown hcls hnames (hts _ hk) (hts _ hini) hsa ?_ hgood hc.2.2.1.1 hc.2.2.1.2 hc.2.2.2.2.2 (hsize.trans hml.symm) d0 d3 d4 d7 d10 (fun x hx => (hout x hx).elim) hRframes hRlocals hRcells hRslots hlocks ?_ hc.2.2.2.2.2.2.2 hcm hsm
  · refine vx_hat (B := gWs) (fun w hw => hts _ (hat1 w hw)) hat2 (fun w hw => va_Nw.use (hot w hw) (hc.1.2.1 w hw))
  · intro t ht hz hq
    refine ⟨g, trivial, ⟨hX, hc.2.2.2.1.kept (fun a ha => hq a (hc.2.2.2.1.lt ha)), hc.2.2.2.2.1⟩, ?_, ?_⟩
    · exact Nat.le_trans hc.2.2.2.2.2.1 hz
    · intro q h1 h2
      rw [hq q (Nat.lt_of_lt_of_le h1 hc.2.2.2.2.2.1)]
      exact hc.2.2.2.2.2.2.1 q h1 h2
theorem g_xcalli {Q' : Int32 → gS → Prop} {X' : String → gS → Prop} (hr : vx_Run p l e R s m args below meth c H locs cells slots mc ms (F0 m pc ls st0) rest (gQi D cA g H.size Q' arr) (gQx D cA g H.size X') (gA g H.size)) (hc : gC D cA A s g H locs)
    (kx : ∀ (E : String) (ce : Cell) (q9 : Addr) (g' : gS) (H1 : Heap) (locs1 : List Loc), X' E g' → gC D cA A s g' H1 locs1 → H1[q9]? = some ce → ce.vm = .none → s.vm.findClass E = some ce.cls → vx_W p l e R s m args below meth c H1 locs1 (cells + mc) (slots + ms) Q (F0 m pc ls rest) q9)
    (kk : ∀ (r : Int32) (g' : gS) (H1 : Heap) (locs1 : List Loc), Q' r g' → gC D cA A s g' H1 locs1 → W p l e R s m args below meth c H1 locs1 (cells + mc) (slots + ms) Q (F0 m (pc + 3) ls (.int r :: rest))) : W p l e R s m args below meth c H locs cells slots Q (F0 m pc ls st0) :=
  vx_calli hr hc.2.2.2.2.2 (fun q _ h => hc.free q h) hc.free (fun q _ h => hc.free q h) (fun E ce q9 u t H1 locs1 ht _ _ hb _ _ hS h1 h2 h3 => kx E ce q9 u H1 locs1 hb.1 (hc.post ht hb.2 hS) h1 h2 h3) (fun r u t H1 locs1 ht _ hp hb _ _ hS => kk r u H1 locs1 hp (hc.post ht hb hS))
/-- not caught: it goes on to the caller -/
theorem g_xout {XC : String → gS → Prop} {Qc : Array Value → State → Outcome → State → Prop} (hlocks : meth.locks = false) (hout : ∀ x ∈ c.exceptionTable.toList, False) (hc : gC D cA (gA g0 sz) s g H locs) {E : String} {ce : Cell} {q9 : Addr} (hcell : H[q9]? = some ce) (hv : ce.vm = .none) (hcl : s.vm.findClass E = some ce.cls) (hX : XC E g) (hcm : cells ≤ mc) (hsm : slots ≤ ms) :
    vx_W p l e R s m args below meth c H locs cells slots (vx_MQ below Qc (gQx D cA g0 sz XC) args s mc ms (gA g0 sz)) (F0 m pc ls rest) q9 :=
  vx_out (fun x hx => (hout x hx).elim) hlocks hcell hv hcl (fun t ht _ => ⟨g, trivial, ⟨hX, hc.done ht⟩, hc.2.2.2.2.2.F ht⟩) hc.2.2.2.2.2.2.2 hcm hsm
end GROWS3
def lpn1 {A1 : Type} (body : A1 → (A1 → Prop) → Prop) : Nat → A1 → Prop
  | 0 => fun _ => False
  | n + 1 => fun a1 => body a1 (lpn1 body n)
def lpx1 {A1 : Type} (body : A1 → (A1 → Prop) → Prop) : A1 → Prop := fun a1 => ∃ n, lpn1 body n a1
theorem lpx1_run {A1 : Type} {body : A1 → (A1 → Prop) → Prop} {P : A1 → Prop} (h : ∀ k : A1 → Prop, (∀ (a1 : A1), k a1 → P a1) → ∀ (a1 : A1), body a1 k → P a1) : ∀ (a1 : A1), lpx1 body a1 → P a1 := by
  intro a1 ⟨n, hn⟩
  induction n generalizing a1 with
  | zero => exact hn.elim
  | succ n ih => exact h (lpn1 body n) (fun a1 hk => ih a1 hk) a1 hn
theorem lpx1_m {A1 : Type} {body : A1 → (A1 → Prop) → Prop} (Inv : A1 → Prop) (μ : A1 → Nat) (hs : ∀ (a1 : A1), Inv a1 → ∀ k : A1 → Prop, (∀ (b1 : A1), Inv b1 → μ b1 < μ a1 → k b1) → body a1 k) : ∀ (a1 : A1), Inv a1 → lpx1 body a1 := by
  have key : ∀ n, ∀ (a1 : A1), Inv a1 → μ a1 < n → lpn1 body n a1 := by
    intro n
    induction n with
    | zero => intro a1 _ h; exact absurd h (Nat.not_lt_zero _)
    | succ n ih => intro a1 hI hm; exact hs a1 hI _ (fun b1 h1 h2 => ih b1 h1 (by omega))
  intro a1 h
  exact ⟨μ a1 + 1, key _ a1 h (Nat.lt_succ_self _)⟩
def lpn2 {A1 : Type} {A2 : Type} (body : A1 → A2 → (A1 → A2 → Prop) → Prop) : Nat → A1 → A2 → Prop
  | 0 => fun _ _ => False
  | n + 1 => fun a1 a2 => body a1 a2 (lpn2 body n)
def lpx2 {A1 : Type} {A2 : Type} (body : A1 → A2 → (A1 → A2 → Prop) → Prop) : A1 → A2 → Prop := fun a1 a2 => ∃ n, lpn2 body n a1 a2
theorem lpx2_run {A1 : Type} {A2 : Type} {body : A1 → A2 → (A1 → A2 → Prop) → Prop} {P : A1 → A2 → Prop} (h : ∀ k : A1 → A2 → Prop, (∀ (a1 : A1) (a2 : A2), k a1 a2 → P a1 a2) → ∀ (a1 : A1) (a2 : A2), body a1 a2 k → P a1 a2) : ∀ (a1 : A1) (a2 : A2), lpx2 body a1 a2 → P a1 a2 := by
  intro a1 a2 ⟨n, hn⟩
  induction n generalizing a1 a2 with
  | zero => exact hn.elim
  | succ n ih => exact h (lpn2 body n) (fun a1 a2 hk => ih a1 a2 hk) a1 a2 hn
theorem lpx2_m {A1 : Type} {A2 : Type} {body : A1 → A2 → (A1 → A2 → Prop) → Prop} (Inv : A1 → A2 → Prop) (μ : A1 → A2 → Nat) (hs : ∀ (a1 : A1) (a2 : A2), Inv a1 a2 → ∀ k : A1 → A2 → Prop, (∀ (b1 : A1) (b2 : A2), Inv b1 b2 → μ b1 b2 < μ a1 a2 → k b1 b2) → body a1 a2 k) : ∀ (a1 : A1) (a2 : A2), Inv a1 a2 → lpx2 body a1 a2 := by
  have key : ∀ n, ∀ (a1 : A1) (a2 : A2), Inv a1 a2 → μ a1 a2 < n → lpn2 body n a1 a2 := by
    intro n
    induction n with
    | zero => intro a1 a2 _ h; exact absurd h (Nat.not_lt_zero _)
    | succ n ih => intro a1 a2 hI hm; exact hs a1 a2 hI _ (fun b1 b2 h1 h2 => ih b1 b2 h1 (by omega))
  intro a1 a2 h
  exact ⟨μ a1 a2 + 1, key _ a1 a2 h (Nat.lt_succ_self _)⟩
def lpn3 {A1 : Type} {A2 : Type} {A3 : Type} (body : A1 → A2 → A3 → (A1 → A2 → A3 → Prop) → Prop) : Nat → A1 → A2 → A3 → Prop
  | 0 => fun _ _ _ => False
  | n + 1 => fun a1 a2 a3 => body a1 a2 a3 (lpn3 body n)
def lpx3 {A1 : Type} {A2 : Type} {A3 : Type} (body : A1 → A2 → A3 → (A1 → A2 → A3 → Prop) → Prop) : A1 → A2 → A3 → Prop := fun a1 a2 a3 => ∃ n, lpn3 body n a1 a2 a3
theorem lpx3_run {A1 : Type} {A2 : Type} {A3 : Type} {body : A1 → A2 → A3 → (A1 → A2 → A3 → Prop) → Prop} {P : A1 → A2 → A3 → Prop} (h : ∀ k : A1 → A2 → A3 → Prop, (∀ (a1 : A1) (a2 : A2) (a3 : A3), k a1 a2 a3 → P a1 a2 a3) → ∀ (a1 : A1) (a2 : A2) (a3 : A3), body a1 a2 a3 k → P a1 a2 a3) : ∀ (a1 : A1) (a2 : A2) (a3 : A3), lpx3 body a1 a2 a3 → P a1 a2 a3 := by
  intro a1 a2 a3 ⟨n, hn⟩
  induction n generalizing a1 a2 a3 with
  | zero => exact hn.elim
  | succ n ih => exact h (lpn3 body n) (fun a1 a2 a3 hk => ih a1 a2 a3 hk) a1 a2 a3 hn
theorem lpx3_m {A1 : Type} {A2 : Type} {A3 : Type} {body : A1 → A2 → A3 → (A1 → A2 → A3 → Prop) → Prop} (Inv : A1 → A2 → A3 → Prop) (μ : A1 → A2 → A3 → Nat) (hs : ∀ (a1 : A1) (a2 : A2) (a3 : A3), Inv a1 a2 a3 → ∀ k : A1 → A2 → A3 → Prop, (∀ (b1 : A1) (b2 : A2) (b3 : A3), Inv b1 b2 b3 → μ b1 b2 b3 < μ a1 a2 a3 → k b1 b2 b3) → body a1 a2 a3 k) : ∀ (a1 : A1) (a2 : A2) (a3 : A3), Inv a1 a2 a3 → lpx3 body a1 a2 a3 := by
  have key : ∀ n, ∀ (a1 : A1) (a2 : A2) (a3 : A3), Inv a1 a2 a3 → μ a1 a2 a3 < n → lpn3 body n a1 a2 a3 := by
    intro n
    induction n with
    | zero => intro a1 a2 a3 _ h; exact absurd h (Nat.not_lt_zero _)
    | succ n ih => intro a1 a2 a3 hI hm; exact hs a1 a2 a3 hI _ (fun b1 b2 b3 h1 h2 => ih b1 b2 b3 h1 (by omega))
  intro a1 a2 a3 h
  exact ⟨μ a1 a2 a3 + 1, key _ a1 a2 a3 h (Nat.lt_succ_self _)⟩
def lpn4 {A1 : Type} {A2 : Type} {A3 : Type} {A4 : Type} (body : A1 → A2 → A3 → A4 → (A1 → A2 → A3 → A4 → Prop) → Prop) : Nat → A1 → A2 → A3 → A4 → Prop
  | 0 => fun _ _ _ _ => False
  | n + 1 => fun a1 a2 a3 a4 => body a1 a2 a3 a4 (lpn4 body n)
def lpx4 {A1 : Type} {A2 : Type} {A3 : Type} {A4 : Type} (body : A1 → A2 → A3 → A4 → (A1 → A2 → A3 → A4 → Prop) → Prop) : A1 → A2 → A3 → A4 → Prop := fun a1 a2 a3 a4 => ∃ n, lpn4 body n a1 a2 a3 a4
theorem lpx4_run {A1 : Type} {A2 : Type} {A3 : Type} {A4 : Type} {body : A1 → A2 → A3 → A4 → (A1 → A2 → A3 → A4 → Prop) → Prop} {P : A1 → A2 → A3 → A4 → Prop} (h : ∀ k : A1 → A2 → A3 → A4 → Prop, (∀ (a1 : A1) (a2 : A2) (a3 : A3) (a4 : A4), k a1 a2 a3 a4 → P a1 a2 a3 a4) → ∀ (a1 : A1) (a2 : A2) (a3 : A3) (a4 : A4), body a1 a2 a3 a4 k → P a1 a2 a3 a4) : ∀ (a1 : A1) (a2 : A2) (a3 : A3) (a4 : A4), lpx4 body a1 a2 a3 a4 → P a1 a2 a3 a4 := by
  intro a1 a2 a3 a4 ⟨n, hn⟩
  induction n generalizing a1 a2 a3 a4 with
  | zero => exact hn.elim
  | succ n ih => exact h (lpn4 body n) (fun a1 a2 a3 a4 hk => ih a1 a2 a3 a4 hk) a1 a2 a3 a4 hn
theorem lpx4_m {A1 : Type} {A2 : Type} {A3 : Type} {A4 : Type} {body : A1 → A2 → A3 → A4 → (A1 → A2 → A3 → A4 → Prop) → Prop} (Inv : A1 → A2 → A3 → A4 → Prop) (μ : A1 → A2 → A3 → A4 → Nat) (hs : ∀ (a1 : A1) (a2 : A2) (a3 : A3) (a4 : A4), Inv a1 a2 a3 a4 → ∀ k : A1 → A2 → A3 → A4 → Prop, (∀ (b1 : A1) (b2 : A2) (b3 : A3) (b4 : A4), Inv b1 b2 b3 b4 → μ b1 b2 b3 b4 < μ a1 a2 a3 a4 → k b1 b2 b3 b4) → body a1 a2 a3 a4 k) : ∀ (a1 : A1) (a2 : A2) (a3 : A3) (a4 : A4), Inv a1 a2 a3 a4 → lpx4 body a1 a2 a3 a4 := by
  have key : ∀ n, ∀ (a1 : A1) (a2 : A2) (a3 : A3) (a4 : A4), Inv a1 a2 a3 a4 → μ a1 a2 a3 a4 < n → lpn4 body n a1 a2 a3 a4 := by
    intro n
    induction n with
    | zero => intro a1 a2 a3 a4 _ h; exact absurd h (Nat.not_lt_zero _)
    | succ n ih => intro a1 a2 a3 a4 hI hm; exact hs a1 a2 a3 a4 hI _ (fun b1 b2 b3 b4 h1 h2 => ih b1 b2 b3 b4 h1 (by omega))
  intro a1 a2 a3 a4 h
  exact ⟨μ a1 a2 a3 a4 + 1, key _ a1 a2 a3 a4 h (Nat.lt_succ_self _)⟩
def lpn5 {A1 : Type} {A2 : Type} {A3 : Type} {A4 : Type} {A5 : Type} (body : A1 → A2 → A3 → A4 → A5 → (A1 → A2 → A3 → A4 → A5 → Prop) → Prop) : Nat → A1 → A2 → A3 → A4 → A5 → Prop
  | 0 => fun _ _ _ _ _ => False
  | n + 1 => fun a1 a2 a3 a4 a5 => body a1 a2 a3 a4 a5 (lpn5 body n)
def lpx5 {A1 : Type} {A2 : Type} {A3 : Type} {A4 : Type} {A5 : Type} (body : A1 → A2 → A3 → A4 → A5 → (A1 → A2 → A3 → A4 → A5 → Prop) → Prop) : A1 → A2 → A3 → A4 → A5 → Prop := fun a1 a2 a3 a4 a5 => ∃ n, lpn5 body n a1 a2 a3 a4 a5
theorem lpx5_run {A1 : Type} {A2 : Type} {A3 : Type} {A4 : Type} {A5 : Type} {body : A1 → A2 → A3 → A4 → A5 → (A1 → A2 → A3 → A4 → A5 → Prop) → Prop} {P : A1 → A2 → A3 → A4 → A5 → Prop} (h : ∀ k : A1 → A2 → A3 → A4 → A5 → Prop, (∀ (a1 : A1) (a2 : A2) (a3 : A3) (a4 : A4) (a5 : A5), k a1 a2 a3 a4 a5 → P a1 a2 a3 a4 a5) → ∀ (a1 : A1) (a2 : A2) (a3 : A3) (a4 : A4) (a5 : A5), body a1 a2 a3 a4 a5 k → P a1 a2 a3 a4 a5) : ∀ (a1 : A1) (a2 : A2) (a3 : A3) (a4 : A4) (a5 : A5), lpx5 body a1 a2 a3 a4 a5 → P a1 a2 a3 a4 a5 := by
  intro a1 a2 a3 a4 a5 ⟨n, hn⟩
  induction n generalizing a1 a2 a3 a4 a5 with
  | zero => exact hn.elim
  | succ n ih => exact h (lpn5 body n) (fun a1 a2 a3 a4 a5 hk => ih a1 a2 a3 a4 a5 hk) a1 a2 a3 a4 a5 hn
theorem lpx5_m {A1 : Type} {A2 : Type} {A3 : Type} {A4 : Type} {A5 : Type} {body : A1 → A2 → A3 → A4 → A5 → (A1 → A2 → A3 → A4 → A5 → Prop) → Prop} (Inv : A1 → A2 → A3 → A4 → A5 → Prop) (μ : A1 → A2 → A3 → A4 → A5 → Nat) (hs : ∀ (a1 : A1) (a2 : A2) (a3 : A3) (a4 : A4) (a5 : A5), Inv a1 a2 a3 a4 a5 → ∀ k : A1 → A2 → A3 → A4 → A5 → Prop, (∀ (b1 : A1) (b2 : A2) (b3 : A3) (b4 : A4) (b5 : A5), Inv b1 b2 b3 b4 b5 → μ b1 b2 b3 b4 b5 < μ a1 a2 a3 a4 a5 → k b1 b2 b3 b4 b5) → body a1 a2 a3 a4 a5 k) : ∀ (a1 : A1) (a2 : A2) (a3 : A3) (a4 : A4) (a5 : A5), Inv a1 a2 a3 a4 a5 → lpx5 body a1 a2 a3 a4 a5 := by
  have key : ∀ n, ∀ (a1 : A1) (a2 : A2) (a3 : A3) (a4 : A4) (a5 : A5), Inv a1 a2 a3 a4 a5 → μ a1 a2 a3 a4 a5 < n → lpn5 body n a1 a2 a3 a4 a5 := by
    intro n
    induction n with
    | zero => intro a1 a2 a3 a4 a5 _ h; exact absurd h (Nat.not_lt_zero _)
    | succ n ih => intro a1 a2 a3 a4 a5 hI hm; exact hs a1 a2 a3 a4 a5 hI _ (fun b1 b2 b3 b4 b5 h1 h2 => ih b1 b2 b3 b4 b5 h1 (by omega))
  intro a1 a2 a3 a4 a5 h
  exact ⟨μ a1 a2 a3 a4 a5 + 1, key _ a1 a2 a3 a4 a5 h (Nat.lt_succ_self _)⟩
def lpn6 {A1 : Type} {A2 : Type} {A3 : Type} {A4 : Type} {A5 : Type} {A6 : Type} (body : A1 → A2 → A3 → A4 → A5 → A6 → (A1 → A2 → A3 → A4 → A5 → A6 → Prop) → Prop) : Nat → A1 → A2 → A3 → A4 → A5 → A6 → Prop
  | 0 => fun _ _ _ _ _ _ => False
  | n + 1 => fun a1 a2 a3 a4 a5 a6 => body a1 a2 a3 a4 a5 a6 (lpn6 body n)
def lpx6 {A1 : Type} {A2 : Type} {A3 : Type} {A4 : Type} {A5 : Type} {A6 : Type} (body : A1 → A2 → A3 → A4 → A5 → A6 → (A1 → A2 → A3 → A4 → A5 → A6 → Prop) → Prop) : A1 → A2 → A3 → A4 → A5 → A6 → Prop := fun a1 a2 a3 a4 a5 a6 => ∃ n, lpn6 body n a1 a2 a3 a4 a5 a6
theorem lpx6_run {A1 : Type} {A2 : Type} {A3 : Type} {A4 : Type} {A5 : Type} {A6 : Type} {body : A1 → A2 → A3 → A4 → A5 → A6 → (A1 → A2 → A3 → A4 → A5 → A6 → Prop) → Prop} {P : A1 → A2 → A3 → A4 → A5 → A6 → Prop} (h : ∀ k : A1 → A2 → A3 → A4 → A5 → A6 → Prop, (∀ (a1 : A1) (a2 : A2) (a3 : A3) (a4 : A4) (a5 : A5) (a6 : A6), k a1 a2 a3 a4 a5 a6 → P a1 a2 a3 a4 a5 a6) → ∀ (a1 : A1) (a2 : A2) (a3 : A3) (a4 : A4) (a5 : A5) (a6 : A6), body a1 a2 a3 a4 a5 a6 k → P a1 a2 a3 a4 a5 a6) : ∀ (a1 : A1) (a2 : A2) (a3 : A3) (a4 : A4) (a5 : A5) (a6 : A6), lpx6 body a1 a2 a3 a4 a5 a6 → P a1 a2 a3 a4 a5 a6 := by
  intro a1 a2 a3 a4 a5 a6 ⟨n, hn⟩
  induction n generalizing a1 a2 a3 a4 a5 a6 with
  | zero => exact hn.elim
  | succ n ih => exact h (lpn6 body n) (fun a1 a2 a3 a4 a5 a6 hk => ih a1 a2 a3 a4 a5 a6 hk) a1 a2 a3 a4 a5 a6 hn
theorem lpx6_m {A1 : Type} {A2 : Type} {A3 : Type} {A4 : Type} {A5 : Type} {A6 : Type} {body : A1 → A2 → A3 → A4 → A5 → A6 → (A1 → A2 → A3 → A4 → A5 → A6 → Prop) → Prop} (Inv : A1 → A2 → A3 → A4 → A5 → A6 → Prop) (μ : A1 → A2 → A3 → A4 → A5 → A6 → Nat) (hs : ∀ (a1 : A1) (a2 : A2) (a3 : A3) (a4 : A4) (a5 : A5) (a6 : A6), Inv a1 a2 a3 a4 a5 a6 → ∀ k : A1 → A2 → A3 → A4 → A5 → A6 → Prop, (∀ (b1 : A1) (b2 : A2) (b3 : A3) (b4 : A4) (b5 : A5) (b6 : A6), Inv b1 b2 b3 b4 b5 b6 → μ b1 b2 b3 b4 b5 b6 < μ a1 a2 a3 a4 a5 a6 → k b1 b2 b3 b4 b5 b6) → body a1 a2 a3 a4 a5 a6 k) : ∀ (a1 : A1) (a2 : A2) (a3 : A3) (a4 : A4) (a5 : A5) (a6 : A6), Inv a1 a2 a3 a4 a5 a6 → lpx6 body a1 a2 a3 a4 a5 a6 := by
  have key : ∀ n, ∀ (a1 : A1) (a2 : A2) (a3 : A3) (a4 : A4) (a5 : A5) (a6 : A6), Inv a1 a2 a3 a4 a5 a6 → μ a1 a2 a3 a4 a5 a6 < n → lpn6 body n a1 a2 a3 a4 a5 a6 := by
    intro n
    induction n with
    | zero => intro a1 a2 a3 a4 a5 a6 _ h; exact absurd h (Nat.not_lt_zero _)
    | succ n ih => intro a1 a2 a3 a4 a5 a6 hI hm; exact hs a1 a2 a3 a4 a5 a6 hI _ (fun b1 b2 b3 b4 b5 b6 h1 h2 => ih b1 b2 b3 b4 b5 b6 h1 (by omega))
  intro a1 a2 a3 a4 a5 a6 h
  exact ⟨μ a1 a2 a3 a4 a5 a6 + 1, key _ a1 a2 a3 a4 a5 a6 h (Nat.lt_succ_self _)⟩
def lpn7 {A1 : Type} {A2 : Type} {A3 : Type} {A4 : Type} {A5 : Type} {A6 : Type} {A7 : Type} (body : A1 → A2 → A3 → A4 → A5 → A6 → A7 → (A1 → A2 → A3 → A4 → A5 → A6 → A7 → Prop) → Prop) : Nat → A1 → A2 → A3 → A4 → A5 → A6 → A7 → Prop
  | 0 => fun _ _ _ _ _ _ _ => False
  | n + 1 => fun a1 a2 a3 a4 a5 a6 a7 => body a1 a2 a3 a4 a5 a6 a7 (lpn7 body n)
def lpx7 {A1 : Type} {A2 : Type} {A3 : Type} {A4 : Type} {A5 : Type} {A6 : Type} {A7 : Type} (body : A1 → A2 → A3 → A4 → A5 → A6 → A7 → (A1 → A2 → A3 → A4 → A5 → A6 → A7 → Prop) → Prop) : A1 → A2 → A3 → A4 → A5 → A6 → A7 → Prop := fun a1 a2 a3 a4 a5 a6 a7 => ∃ n, lpn7 body n a1 a2 a3 a4 a5 a6 a7
theorem lpx7_run {A1 : Type} {A2 : Type} {A3 : Type} {A4 : Type} {A5 : Type} {A6 : Type} {A7 : Type} {body : A1 → A2 → A3 → A4 → A5 → A6 → A7 → (A1 → A2 → A3 → A4 → A5 → A6 → A7 → Prop) → Prop} {P : A1 → A2 → A3 → A4 → A5 → A6 → A7 → Prop} (h : ∀ k : A1 → A2 → A3 → A4 → A5 → A6 → A7 → Prop, (∀ (a1 : A1) (a2 : A2) (a3 : A3) (a4 : A4) (a5 : A5) (a6 : A6) (a7 : A7), k a1 a2 a3 a4 a5 a6 a7 → P a1 a2 a3 a4 a5 a6 a7) → ∀ (a1 : A1) (a2 : A2) (a3 : A3) (a4 : A4) (a5 : A5) (a6 : A6) (a7 : A7), body a1 a2 a3 a4 a5 a6 a7 k → P a1 a2 a3 a4 a5 a6 a7) : ∀ (a1 : A1) (a2 : A2) (a3 : A3) (a4 : A4) (a5 : A5) (a6 : A6) (a7 : A7), lpx7 body a1 a2 a3 a4 a5 a6 a7 → P a1 a2 a3 a4 a5 a6 a7 := by
  intro a1 a2 a3 a4 a5 a6 a7 ⟨n, hn⟩
  induction n generalizing a1 a2 a3 a4 a5 a6 a7 with
  | zero => exact hn.elim
  | succ n ih => exact h (lpn7 body n) (fun a1 a2 a3 a4 a5 a6 a7 hk => ih a1 a2 a3 a4 a5 a6 a7 hk) a1 a2 a3 a4 a5 a6 a7 hn
theorem lpx7_m {A1 : Type} {A2 : Type} {A3 : Type} {A4 : Type} {A5 : Type} {A6 : Type} {A7 : Type} {body : A1 → A2 → A3 → A4 → A5 → A6 → A7 → (A1 → A2 → A3 → A4 → A5 → A6 → A7 → Prop) → Prop} (Inv : A1 → A2 → A3 → A4 → A5 → A6 → A7 → Prop) (μ : A1 → A2 → A3 → A4 → A5 → A6 → A7 → Nat) (hs : ∀ (a1 : A1) (a2 : A2) (a3 : A3) (a4 : A4) (a5 : A5) (a6 : A6) (a7 : A7), Inv a1 a2 a3 a4 a5 a6 a7 → ∀ k : A1 → A2 → A3 → A4 → A5 → A6 → A7 → Prop, (∀ (b1 : A1) (b2 : A2) (b3 : A3) (b4 : A4) (b5 : A5) (b6 : A6) (b7 : A7), Inv b1 b2 b3 b4 b5 b6 b7 → μ b1 b2 b3 b4 b5 b6 b7 < μ a1 a2 a3 a4 a5 a6 a7 → k b1 b2 b3 b4 b5 b6 b7) → body a1 a2 a3 a4 a5 a6 a7 k) : ∀ (a1 : A1) (a2 : A2) (a3 : A3) (a4 : A4) (a5 : A5) (a6 : A6) (a7 : A7), Inv a1 a2 a3 a4 a5 a6 a7 → lpx7 body a1 a2 a3 a4 a5 a6 a7 := by
  have key : ∀ n, ∀ (a1 : A1) (a2 : A2) (a3 : A3) (a4 : A4) (a5 : A5) (a6 : A6) (a7 : A7), Inv a1 a2 a3 a4 a5 a6 a7 → μ a1 a2 a3 a4 a5 a6 a7 < n → lpn7 body n a1 a2 a3 a4 a5 a6 a7 := by
    intro n
    induction n with
    | zero => intro a1 a2 a3 a4 a5 a6 a7 _ h; exact absurd h (Nat.not_lt_zero _)
    | succ n ih => intro a1 a2 a3 a4 a5 a6 a7 hI hm; exact hs a1 a2 a3 a4 a5 a6 a7 hI _ (fun b1 b2 b3 b4 b5 b6 b7 h1 h2 => ih b1 b2 b3 b4 b5 b6 b7 h1 (by omega))
  intro a1 a2 a3 a4 a5 a6 a7 h
  exact ⟨μ a1 a2 a3 a4 a5 a6 a7 + 1, key _ a1 a2 a3 a4 a5 a6 a7 h (Nat.lt_succ_self _)⟩
def lpn8 {A1 : Type} {A2 : Type} {A3 : Type} {A4 : Type} {A5 : Type} {A6 : Type} {A7 : Type} {A8 : Type} (body : A1 → A2 → A3 → A4 → A5 → A6 → A7 → A8 → (A1 → A2 → A3 → A4 → A5 → A6 → A7 → A8 → Prop) → Prop) : Nat → A1 → A2 → A3 → A4 → A5 → A6 → A7 → A8 → Prop
  | 0 => fun _ _ _ _ _ _ _ _ => False
  | n + 1 => fun a1 a2 a3 a4 a5 a6 a7 a8 => body a1 a2 a3 a4 a5 a6 a7 a8 (lpn8 body n)
def lpx8 {A1 : Type} {A2 : Type} {A3 : Type} {A4 : Type} {A5 : Type} {A6 : Type} {A7 : Type} {A8 : Type} (body : A1 → A2 → A3 → A4 → A5 → A6 → A7 → A8 → (A1 → A2 → A3 → A4 → A5 → A6 → A7 → A8 → Prop) → Prop) : A1 → A2 → A3 → A4 → A5 → A6 → A7 → A8 → Prop := fun a1 a2 a3 a4 a5 a6 a7 a8 => ∃ n, lpn8 body n a1 a2 a3 a4 a5 a6 a7 a8
theorem lpx8_run {A1 : Type} {A2 : Type} {A3 : Type} {A4 : Type} {A5 : Type} {A6 : Type} {A7 : Type} {A8 : Type} {body : A1 → A2 → A3 → A4 → A5 → A6 → A7 → A8 → (A1 → A2 → A3 → A4 → A5 → A6 → A7 → A8 → Prop) → Prop} {P : A1 → A2 → A3 → A4 → A5 → A6 → A7 → A8 → Prop} (h : ∀ k : A1 → A2 → A3 → A4 → A5 → A6 → A7 → A8 → Prop, (∀ (a1 : A1) (a2 : A2) (a3 : A3) (a4 : A4) (a5 : A5) (a6 : A6) (a7 : A7) (a8 : A8), k a1 a2 a3 a4 a5 a6 a7 a8 → P a1 a2 a3 a4 a5 a6 a7 a8) → ∀ (a1 : A1) (a2 : A2) (a3 : A3) (a4 : A4) (a5 : A5) (a6 : A6) (a7 : A7) (a8 : A8), body a1 a2 a3 a4 a5 a6 a7 a8 k → P a1 a2 a3 a4 a5 a6 a7 a8) : ∀ (a1 : A1) (a2 : A2) (a3 : A3) (a4 : A4) (a5 : A5) (a6 : A6) (a7 : A7) (a8 : A8), lpx8 body a1 a2 a3 a4 a5 a6 a7 a8 → P a1 a2 a3 a4 a5 a6 a7 a8 := by
  intro a1 a2 a3 a4 a5 a6 a7 a8 ⟨n, hn⟩
  induction n generalizing a1 a2 a3 a4 a5 a6 a7 a8 with
  | zero => exact hn.elim
  | succ n ih => exact h (lpn8 body n) (fun a1 a2 a3 a4 a5 a6 a7 a8 hk => ih a1 a2 a3 a4 a5 a6 a7 a8 hk) a1 a2 a3 a4 a5 a6 a7 a8 hn
theorem lpx8_m {A1 : Type} {A2 : Type} {A3 : Type} {A4 : Type} {A5 : Type} {A6 : Type} {A7 : Type} {A8 : Type} {body : A1 → A2 → A3 → A4 → A5 → A6 → A7 → A8 → (A1 → A2 → A3 → A4 → A5 → A6 → A7 → A8 → Prop) → Prop} (Inv : A1 → A2 → A3 → A4 → A5 → A6 → A7 → A8 → Prop) (μ : A1 → A2 → A3 → A4 → A5 → A6 → A7 → A8 → Nat) (hs : ∀ (a1 : A1) (a2 : A2) (a3 : A3) (a4 : A4) (a5 : A5) (a6 : A6) (a7 : A7) (a8 : A8), Inv a1 a2 a3 a4 a5 a6 a7 a8 → ∀ k : A1 → A2 → A3 → A4 → A5 → A6 → A7 → A8 → Prop, (∀ (b1 : A1) (b2 : A2) (b3 : A3) (b4 : A4) (b5 : A5) (b6 : A6) (b7 : A7) (b8 : A8), Inv b1 b2 b3 b4 b5 b6 b7 b8 → μ b1 b2 b3 b4 b5 b6 b7 b8 < μ a1 a2 a3 a4 a5 a6 a7 a8 → k b1 b2 b3 b4 b5 b6 b7 b8) → body a1 a2 a3 a4 a5 a6 a7 a8 k) : ∀ (a1 : A1) (a2 : A2) (a3 : A3) (a4 : A4) (a5 : A5) (a6 : A6) (a7 : A7) (a8 : A8), Inv a1 a2 a3 a4 a5 a6 a7 a8 → lpx8 body a1 a2 a3 a4 a5 a6 a7 a8 := by
  have key : ∀ n, ∀ (a1 : A1) (a2 : A2) (a3 : A3) (a4 : A4) (a5 : A5) (a6 : A6) (a7 : A7) (a8 : A8), Inv a1 a2 a3 a4 a5 a6 a7 a8 → μ a1 a2 a3 a4 a5 a6 a7 a8 < n → lpn8 body n a1 a2 a3 a4 a5 a6 a7 a8 := by
    intro n
    induction n with
    | zero => intro a1 a2 a3 a4 a5 a6 a7 a8 _ h; exact absurd h (Nat.not_lt_zero _)
    | succ n ih => intro a1 a2 a3 a4 a5 a6 a7 a8 hI hm; exact hs a1 a2 a3 a4 a5 a6 a7 a8 hI _ (fun b1 b2 b3 b4 b5 b6 b7 b8 h1 h2 => ih b1 b2 b3 b4 b5 b6 b7 b8 h1 (by omega))
  intro a1 a2 a3 a4 a5 a6 a7 a8 h
  exact ⟨μ a1 a2 a3 a4 a5 a6 a7 a8 + 1, key _ a1 a2 a3 a4 a5 a6 a7 a8 h (Nat.lt_succ_self _)⟩
def lpn9 {A1 : Type} {A2 : Type} {A3 : Type} {A4 : Type} {A5 : Type} {A6 : Type} {A7 : Type} {A8 : Type} {A9 : Type} (body : A1 → A2 → A3 → A4 → A5 → A6 → A7 → A8 → A9 → (A1 → A2 → A3 → A4 → A5 → A6 → A7 → A8 → A9 → Prop) → Prop) : Nat → A1 → A2 → A3 → A4 → A5 → A6 → A7 → A8 → A9 → Prop
  | 0 => fun _ _ _ _ _ _ _ _ _ => False
  | n + 1 => fun a1 a2 a3 a4 a5 a6 a7 a8 a9 => body a1 a2 a3 a4 a5 a6 a7 a8 a9 (lpn9 body n)
def lpx9 {A1 : Type} {A2 : Type} {A3 : Type} {A4 : Type} {A5 : Type} {A6 : Type} {A7 : Type} {A8 : Type} {A9 : Type} (body : A1 → A2 → A3 → A4 → A5 → A6 → A7 → A8 → A9 → (A1 → A2 → A3 → A4 → A5 → A6 → A7 → A8 → A9 → Prop) → Prop) : A1 → A2 → A3 → A4 → A5 → A6 → A7 → A8 → A9 → Prop := fun a1 a2 a3 a4 a5 a6 a7 a8 a9 => ∃ n, lpn9 body n a1 a2 a3 a4 a5 a6 a7 a8 a9
theorem lpx9_run {A1 : Type} {A2 : Type} {A3 : Type} {A4 : Type} {A5 : Type} {A6 : Type} {A7 : Type} {A8 : Type} {A9 : Type} {body : A1 → A2 → A3 → A4 → A5 → A6 → A7 → A8 → A9 → (A1 → A2 → A3 → A4 → A5 → A6 → A7 → A8 → A9 → Prop) → Prop} {P : A1 → A2 → A3 → A4 → A5 → A6 → A7 → A8 → A9 → Prop} (h : ∀ k : A1 → A2 → A3 → A4 → A5 → A6 → A7 → A8 → A9 → Prop, (∀ (a1 : A1) (a2 : A2) (a3 : A3) (a4 : A4) (a5 : A5) (a6 : A6) (a7 : A7) (a8 : A8) (a9 : A9), k a1 a2 a3 a4 a5 a6 a7 a8 a9 → P a1 a2 a3 a4 a5 a6 a7 a8 a9) → ∀ (a1 : A1) (a2 : A2) (a3 : A3) (a4 : A4) (a5 : A5) (a6 : A6) (a7 : A7) (a8 : A8) (a9 : A9), body a1 a2 a3 a4 a5 a6 a7 a8 a9 k → P a1 a2 a3 a4 a5 a6 a7 a8 a9) : ∀ (a1 : A1) (a2 : A2) (a3 : A3) (a4 : A4) (a5 : A5) (a6 : A6) (a7 : A7) (a8 : A8) (a9 : A9), lpx9 body a1 a2 a3 a4 a5 a6 a7 a8 a9 → P a1 a2 a3 a4 a5 a6 a7 a8 a9 := by
  intro a1 a2 a3 a4 a5 a6 a7 a8 a9 ⟨n, hn⟩
  induction n generalizing a1 a2 a3 a4 a5 a6 a7 a8 a9 with
  | zero => exact hn.elim
  | succ n ih => exact h (lpn9 body n) (fun a1 a2 a3 a4 a5 a6 a7 a8 a9 hk => ih a1 a2 a3 a4 a5 a6 a7 a8 a9 hk) a1 a2 a3 a4 a5 a6 a7 a8 a9 hn
theorem lpx9_m {A1 : Type} {A2 : Type} {A3 : Type} {A4 : Type} {A5 : Type} {A6 : Type} {A7 : Type} {A8 : Type} {A9 : Type} {body : A1 → A2 → A3 → A4 → A5 → A6 → A7 → A8 → A9 → (A1 → A2 → A3 → A4 → A5 → A6 → A7 → A8 → A9 → Prop) → Prop} (Inv : A1 → A2 → A3 → A4 → A5 → A6 → A7 → A8 → A9 → Prop) (μ : A1 → A2 → A3 → A4 → A5 → A6 → A7 → A8 → A9 → Nat) (hs : ∀ (a1 : A1) (a2 : A2) (a3 : A3) (a4 : A4) (a5 : A5) (a6 : A6) (a7 : A7) (a8 : A8) (a9 : A9), Inv a1 a2 a3 a4 a5 a6 a7 a8 a9 → ∀ k : A1 → A2 → A3 → A4 → A5 → A6 → A7 → A8 → A9 → Prop, (∀ (b1 : A1) (b2 : A2) (b3 : A3) (b4 : A4) (b5 : A5) (b6 : A6) (b7 : A7) (b8 : A8) (b9 : A9), Inv b1 b2 b3 b4 b5 b6 b7 b8 b9 → μ b1 b2 b3 b4 b5 b6 b7 b8 b9 < μ a1 a2 a3 a4 a5 a6 a7 a8 a9 → k b1 b2 b3 b4 b5 b6 b7 b8 b9) → body a1 a2 a3 a4 a5 a6 a7 a8 a9 k) : ∀ (a1 : A1) (a2 : A2) (a3 : A3) (a4 : A4) (a5 : A5) (a6 : A6) (a7 : A7) (a8 : A8) (a9 : A9), Inv a1 a2 a3 a4 a5 a6 a7 a8 a9 → lpx9 body a1 a2 a3 a4 a5 a6 a7 a8 a9 := by
  have key : ∀ n, ∀ (a1 : A1) (a2 : A2) (a3 : A3) (a4 : A4) (a5 : A5) (a6 : A6) (a7 : A7) (a8 : A8) (a9 : A9), Inv a1 a2 a3 a4 a5 a6 a7 a8 a9 → μ a1 a2 a3 a4 a5 a6 a7 a8 a9 < n → lpn9 body n a1 a2 a3 a4 a5 a6 a7 a8 a9 := by
    intro n
    induction n with
    | zero => intro a1 a2 a3 a4 a5 a6 a7 a8 a9 _ h; exact absurd h (Nat.not_lt_zero _)
    | succ n ih => intro a1 a2 a3 a4 a5 a6 a7 a8 a9 hI hm; exact hs a1 a2 a3 a4 a5 a6 a7 a8 a9 hI _ (fun b1 b2 b3 b4 b5 b6 b7 b8 b9 h1 h2 => ih b1 b2 b3 b4 b5 b6 b7 b8 b9 h1 (by omega))
  intro a1 a2 a3 a4 a5 a6 a7 a8 a9 h
  exact ⟨μ a1 a2 a3 a4 a5 a6 a7 a8 a9 + 1, key _ a1 a2 a3 a4 a5 a6 a7 a8 a9 h (Nat.lt_succ_self _)⟩
def lpn10 {A1 : Type} {A2 : Type} {A3 : Type} {A4 : Type} {A5 : Type} {A6 : Type} {A7 : Type} {A8 : Type} {A9 : Type} {A10 : Type} (body : A1 → A2 → A3 → A4 → A5 → A6 → A7 → A8 → A9 → A10 → (A1 → A2 → A3 → A4 → A5 → A6 → A7 → A8 → A9 → A10 → Prop) → Prop) : Nat → A1 → A2 → A3 → A4 → A5 → A6 → A7 → A8 → A9 → A10 → Prop
  | 0 => fun _ _ _ _ _ _ _ _ _ _ => False
  | n + 1 => fun a1 a2 a3 a4 a5 a6 a7 a8 a9 a10 => body a1 a2 a3 a4 a5 a6 a7 a8 a9 a10 (lpn10 body n)
def lpx10 {A1 : Type} {A2 : Type} {A3 : Type} {A4 : Type} {A5 : Type} {A6 : Type} {A7 : Type} {A8 : Type} {A9 : Type} {A10 : Type} (body : A1 → A2 → A3 → A4 → A5 → A6 → A7 → A8 → A9 → A10 → (A1 → A2 → A3 → A4 → A5 → A6 → A7 → A8 → A9 → A10 → Prop) → Prop) : A1 → A2 → A3 → A4 → A5 → A6 → A7 → A8 → A9 → A10 → Prop := fun a1 a2 a3 a4 a5 a6 a7 a8 a9 a10 => ∃ n, lpn10 body n a1 a2 a3 a4 a5 a6 a7 a8 a9 a10
theorem lpx10_run {A1 : Type} {A2 : Type} {A3 : Type} {A4 : Type} {A5 : Type} {A6 : Type} {A7 : Type} {A8 : Type} {A9 : Type} {A10 : Type} {body : A1 → A2 → A3 → A4 → A5 → A6 → A7 → A8 → A9 → A10 → (A1 → A2 → A3 → A4 → A5 → A6 → A7 → A8 → A9 → A10 → Prop) → Prop} {P : A1 → A2 → A3 → A4 → A5 → A6 → A7 → A8 → A9 → A10 → Prop} (h : ∀ k : A1 → A2 → A3 → A4 → A5 → A6 → A7 → A8 → A9 → A10 → Prop, (∀ (a1 : A1) (a2 : A2) (a3 : A3) (a4 : A4) (a5 : A5) (a6 : A6) (a7 : A7) (a8 : A8) (a9 : A9) (a10 : A10), k a1 a2 a3 a4 a5 a6 a7 a8 a9 a10 → P a1 a2 a3 a4 a5 a6 a7 a8 a9 a10) → ∀ (a1 : A1) (a2 : A2) (a3 : A3) (a4 : A4) (a5 : A5) (a6 : A6) (a7 : A7) (a8 : A8) (a9 : A9) (a10 : A10), body a1 a2 a3 a4 a5 a6 a7 a8 a9 a10 k → P a1 a2 a3 a4 a5 a6 a7 a8 a9 a10) : ∀ (a1 : A1) (a2 : A2) (a3 : A3) (a4 : A4) (a5 : A5) (a6 : A6) (a7 : A7) (a8 : A8) (a9 : A9) (a10 : A10), lpx10 body a1 a2 a3 a4 a5 a6 a7 a8 a9 a10 → P a1 a2 a3 a4 a5 a6 a7 a8 a9 a10 := by
  intro a1 a2 a3 a4 a5 a6 a7 a8 a9 a10 ⟨n, hn⟩
  induction n generalizing a1 a2 a3 a4 a5 a6 a7 a8 a9 a10 with
  | zero => exact hn.elim
  | succ n ih => exact h (lpn10 body n) (fun a1 a2 a3 a4 a5 a6 a7 a8 a9 a10 hk => ih a1 a2 a3 a4 a5 a6 a7 a8 a9 a10 hk) a1 a2 a3 a4 a5 a6 a7 a8 a9 a10 hn
theorem lpx10_m {A1 : Type} {A2 : Type} {A3 : Type} {A4 : Type} {A5 : Type} {A6 : Type} {A7 : Type} {A8 : Type} {A9 : Type} {A10 : Type} {body : A1 → A2 → A3 → A4 → A5 → A6 → A7 → A8 → A9 → A10 → (A1 → A2 → A3 → A4 → A5 → A6 → A7 → A8 → A9 → A10 → Prop) → Prop} (Inv : A1 → A2 → A3 → A4 → A5 → A6 → A7 → A8 → A9 → A10 → Prop) (μ : A1 → A2 → A3 → A4 → A5 → A6 → A7 → A8 → A9 → A10 → Nat) (hs : ∀ (a1 : A1) (a2 : A2) (a3 : A3) (a4 : A4) (a5 : A5) (a6 : A6) (a7 : A7) (a8 : A8) (a9 : A9) (a10 : A10), Inv a1 a2 a3 a4 a5 a6 a7 a8 a9 a10 → ∀ k : A1 → A2 → A3 → A4 → A5 → A6 → A7 → A8 → A9 → A10 → Prop, (∀ (b1 : A1) (b2 : A2) (b3 : A3) (b4 : A4) (b5 : A5) (b6 : A6) (b7 : A7) (b8 : A8) (b9 : A9) (b10 : A10), Inv b1 b2 b3 b4 b5 b6 b7 b8 b9 b10 → μ b1 b2 b3 b4 b5 b6 b7 b8 b9 b10 < μ a1 a2 a3 a4 a5 a6 a7 a8 a9 a10 → k b1 b2 b3 b4 b5 b6 b7 b8 b9 b10) → body a1 a2 a3 a4 a5 a6 a7 a8 a9 a10 k) : ∀ (a1 : A1) (a2 : A2) (a3 : A3) (a4 : A4) (a5 : A5) (a6 : A6) (a7 : A7) (a8 : A8) (a9 : A9) (a10 : A10), Inv a1 a2 a3 a4 a5 a6 a7 a8 a9 a10 → lpx10 body a1 a2 a3 a4 a5 a6 a7 a8 a9 a10 := by
  have key : ∀ n, ∀ (a1 : A1) (a2 : A2) (a3 : A3) (a4 : A4) (a5 : A5) (a6 : A6) (a7 : A7) (a8 : A8) (a9 : A9) (a10 : A10), Inv a1 a2 a3 a4 a5 a6 a7 a8 a9 a10 → μ a1 a2 a3 a4 a5 a6 a7 a8 a9 a10 < n → lpn10 body n a1 a2 a3 a4 a5 a6 a7 a8 a9 a10 := by
    intro n
    induction n with
    | zero => intro a1 a2 a3 a4 a5 a6 a7 a8 a9 a10 _ h; exact absurd h (Nat.not_lt_zero _)
    | succ n ih => intro a1 a2 a3 a4 a5 a6 a7 a8 a9 a10 hI hm; exact hs a1 a2 a3 a4 a5 a6 a7 a8 a9 a10 hI _ (fun b1 b2 b3 b4 b5 b6 b7 b8 b9 b10 h1 h2 => ih b1 b2 b3 b4 b5 b6 b7 b8 b9 b10 h1 (by omega))
  intro a1 a2 a3 a4 a5 a6 a7 a8 a9 a10 h
  exact ⟨μ a1 a2 a3 a4 a5 a6 a7 a8 a9 a10 + 1, key _ a1 a2 a3 a4 a5 a6 a7 a8 a9 a10 h (Nat.lt_succ_self _)⟩

/-- a method with a table of its own, that returns -/
theorem g_metH {l : Launch} {y : MethodName} {ws ws' : List Cond} {rm : Room} {Qc : Array Value → State → Outcome → State → Prop} {mc ms maxL sz : Nat} {cc : ByteArray} {ret : Option FieldType} {hh : List (Nat × Nat × Nat × Nat)} {D : va_G} {cA : Nat → ClassId} {g : gS} {av : List Value} {own : String}
    (hy : plainName y.cls = true) (hw : ws = Cond.codeWith y cc maxL ret hh :: ws') (hown : y.cls = own) (hlen : (lg_sl av).length ≤ maxL)
    (body : ∀ p e s m args below meth c ls, CallFix p m c cc maxL s args ws own → meth.sig.returnType = ret → meth.locks = false → meth.name = y.name → c.exceptionTable.toList = tableOf hh → gC D cA (gA g sz) s g s.heap [] → lv_has ls maxL (lv_args 0 av) → W p l e (headSpec ws rm).room s m args below meth c s.heap [] 0 0 (MQ below Qc args s mc ms (gA g sz)) (F0 m 0 ls [])) :
    Met l y ws rm (va_Pc av (gPre D cA g sz)) Qc mc ms (gA g sz) := by
  have hm : Cond.codeWith y cc maxL ret hh ∈ ws := by rw [hw]; exact List.mem_cons_self
  refine MetFree.of_bodyS (code := cc) (maxLocals := maxL) (ret := ret) hy ?_ ?_
  · intro args s m h hn
    obtain ⟨m9, meth, c, hn9, h1, h2, h3, h4, -, h5, h6, -⟩ := Cond.codeWith_spec (atoms_spec (ws := ws) h _ hm)
    cases hn.symm.trans hn9
    exact ⟨meth, c, h1, h2, h3, h4, h5, h6⟩
  · intro p e s m args below meth c s₁ B hml hv _
    have hh0 : s₁.heap = s.heap := by rw [B.state]; rfl
    obtain ⟨rfl, hpre⟩ := hv
    have hown2 : s.vm.findClass own = some m.cls := by rw [← hown]; exact findClass_of_methodNamed B.named
    have hts := atoms_spec (ws := ws) B.pre
    have hl := lv_entry av (n := maxL) hlen
    have hxt := vx_table (x := y) B (hts _ hm)
    have K : W p l e (headSpec ws rm).room s m av.toArray below meth c s.heap [] 0 0 (MQ below Qc av.toArray s mc ms (gA g sz)) (entryFrame m av.toArray maxL) := by
      rw [lg_entry_eq]
      exact body p e s m _ below meth c _ ⟨B.exec, B.bytes, hml, hown2, hts⟩ B.returns B.notSynchronized (name_of_methodNamed B.named B.method).1 hxt hpre.start hl
    obtain ⟨t, a1, o, b1, b2, b3⟩ := K s₁ hh0 (Stand.of_body B)
    exact ⟨t, o, a1, b1, b2, ⟨b3.1, b3.2⟩⟩
