/-! rows over the ghost heap: fields written, cells made, calls, ends -/
theorem va_RA_inj {U : State} {a b : ClassId} {ty : FieldType} (h1 : va_RA U a ty) (h2 : va_RA U b ty) : a = b := by
  cases ty with
  | object C =>
    obtain ⟨_, _, _, _, _, e1⟩ := h1
    obtain ⟨_, _, _, _, _, e2⟩ := h2
    exact Option.some.inj (e1.symm.trans e2)
  | _ => exact Option.some.inj (h1.symm.trans h2)
theorem gK_new {g : gS} {q k n : Nat} : gK (sNew g q k n) q = k := va_up_self _ _ _
theorem gK_new_ne {g : gS} {q k n b : Nat} (h : b ≠ q) : gK (sNew g q k n) b = gK g b := va_up_ne _ _ h
theorem gN_new {g : gS} {q k n : Nat} : gN (sNew g q k n) q = n := va_up_self _ _ _
theorem gN_new_ne {g : gS} {q k n b : Nat} (h : b ≠ q) : gN (sNew g q k n) b = gN g b := va_up_ne _ _ h
theorem gI_new {g : gS} {q k n : Nat} : gI (sNew g q k n) q = fun _ => 0 := va_up_self _ _ _
theorem gI_new_ne {g : gS} {q k n b : Nat} (h : b ≠ q) : gI (sNew g q k n) b = gI g b := va_up_ne _ _ h
theorem gR_new {g : gS} {q k n : Nat} : gR (sNew g q k n) q = fun _ => none := va_up_self _ _ _
theorem gR_new_ne {g : gS} {q k n b : Nat} (h : b ≠ q) : gR (sNew g q k n) b = gR g b := va_up_ne _ _ h
theorem gJ_new {g : gS} {q k n : Nat} : gJ (sNew g q k n) q = fun _ => 0 := va_up_self _ _ _
theorem gJ_new_ne {g : gS} {q k n b : Nat} (h : b ≠ q) : gJ (sNew g q k n) b = gJ g b := va_up_ne _ _ h
theorem gE_new_ne {cA : Nat → ClassId} {g : gS} {q k n b : Nat} (h : b ≠ q) : gE cA (sNew g q k n) b = gE cA g b := gE_congr (gK_new_ne h) (gN_new_ne h) (gI_new_ne h) (gR_new_ne h) (gJ_new_ne h)
theorem gC.made {D : va_G} {cA : Nat → ClassId} {A : Nat → Prop} {s : State} {g : gS} {H H1 : Heap} {locs locs1 : List Loc} (hc : gC D cA A s g H locs) {P : List Nat} (hPm : ∀ b, b ∈ P ↔ gK g b ≠ 0) {q k n : Nat} {e : va_E} (hP : va_P D vwCl (va_pl P (gE cA g) ++ [(q, e)]) H1) (hD : va_D A (va_pl P (gE cA g) ++ [(q, e)])) (hS : va_S A s.heap H1 locs1) (hk : k ≠ 0) (he : gE cA (sNew g q k n) q = e) :
    gK g q = 0 ∧ gC D cA A s (sNew g q k n) H1 locs1 := by
  have hq : q ∉ P := va_pl_fresh2 (X := []) hD
  have h0 : gK g q = 0 := by
    by_cases h : gK g q = 0
    · exact h
    · exact absurd ((hPm q).mpr h) hq
  have hl : va_pl P (gE cA g) ++ [(q, e)] = va_pl (P ++ [q]) (gE cA (sNew g q k n)) := by
    rw [va_pl_push hq]
    refine va_pl_congr fun b => ?_
    by_cases hb : b = q
    · subst hb; rw [va_up_self, he]
    · rw [va_up_ne _ _ hb, gE_new_ne hb]
  rw [hl] at hP hD
  obtain ⟨c1, c2, c3, c4, c5, c6⟩ := hc
  refine ⟨h0, c1, c2, c3, ⟨P ++ [q], fun b => ?_, hP, va_D_of hD (fun _ _ _ => trivial)⟩, fun b hb => ?_, hS⟩
  · by_cases hbq : b = q
    · subst hbq; simp [gK_new, hk]
    · rw [gK_new_ne hbq, List.mem_append, hPm b]; simp [hbq]
  · by_cases hbq : b = q
    · obtain ⟨j, hj⟩ := va_pl_get (X := []) (L := P ++ [q]) (f := gE cA (sNew g q k n)) (a := b) (by simp [hbq])
      exact hD.2 j _ hj
    · rw [gK_new_ne hbq] at hb; exact c5 b hb
def gF0 : List Bool → List Value
  | [] => []
  | true :: bs => .null :: gF0 bs
  | false :: bs => .int 0 :: gF0 bs
theorem gFl_new {g : gS} {q k n : Nat} : ∀ (fl : List Bool) (o : Nat), gFl (sNew g q k n) q fl o = gF0 fl
  | [], _ => rfl
  | true :: bs, o => by
    show va_rf (gR (sNew g q k n) q o) :: gFl (sNew g q k n) q bs (o + 1) = .null :: gF0 bs
    rw [gR_new, gFl_new bs (o + 1)]; rfl
  | false :: bs, o => by
    show Value.int (gI (sNew g q k n) q o) :: gFl (sNew g q k n) q bs (o + 1) = .int 0 :: gF0 bs
    rw [gI_new, gFl_new bs (o + 1)]
theorem narrow_01 {v : Int32} (h : v = 0 ∨ v = 1) : narrow .boolean (.int v) = .int v := by rcases h with rfl | rfl <;> rfl
theorem fits_01 {v : Int32} (h : v = 0 ∨ v = 1) : fits .boolean (.int v) = true := by rcases h with rfl | rfl <;> rfl
theorem narrow_rf {C : String} {o : Option Nat} : narrow (.object C) (va_rf o) = va_rf o := by cases o <;> rfl
theorem fits_rf {C : String} {o : Option Nat} : fits (.object C) (va_rf o) = true := by cases o <;> rfl
theorem narrow_ra {t : FieldType} {o : Option Nat} : narrow (.array t) (va_rf o) = va_rf o := by cases o <;> rfl
theorem fits_ra {t : FieldType} {o : Option Nat} : fits (.array t) (va_rf o) = true := by cases o <;> rfl
theorem goodWord_cell : True := trivial
section GROWS2
variable {p : Program} {l : Launch} {e : Env} {R : Room} {s : State} {m : MethodId} {args : Array Value} {below : List Frame} {meth : Method} {c : Code} {H : Heap} {locs : List Loc} {cells slots : Nat} {Q : State → Prop}
variable {cc : ByteArray} {pc nL : Nat} {ls : Array Slot} {rest st0 : List Value} {D : va_G} {cA : Nat → ClassId} {A : Nat → Prop} {a : Nat} {g g0 : gS} {Ts : List Cond} {own : String} {arr : Array Value} {mc ms sz : Nat}
theorem g_puti (CF : CallFix p m c cc nL s args Ts own) (hc : gC D cA A s g H locs) {C : String} {T : u_T} {N ci k index : Nat} (hk : gK g a = ci + 1) (hq : vwCl[ci]? = some (C, T, N)) (hl : ci < 19) (hin : ∀ w ∈ u_ws C T N, w ∈ Ts) (ty0 : Nat → FieldType) (hty : ∀ k, k < N → parseFieldDescriptor (T k).2.2.1 = some (ty0 k)) (hnm : ∀ a, a < N → ∀ b, b < N → a ≠ b → (T a).2.1 ≠ (T b).2.1) (hkN : k < N) (hlink : Cond.fieldLink own index (T k).1 (T k).2.1 (T k).2.2.1 ∈ Ts) (hfin : (T k).2.2.2 = false) {v : Int32} (hn : narrow (ty0 k) (.int v) = .int v) (hfit : fits (ty0 k) (.int v) = true) (hfl : (gFt ci)[k]? = some false) (hdg : decode cc pc = .ok (.putfield index, 3))
    (kk : ∀ (H1 : Heap) (locs1 : List Loc), gC D cA A s (sI g a (upd (gI g a) k v)) H1 locs1 → W p l e R s m args below meth c H1 locs1 cells slots Q (F0 m (pc + 3) ls rest)) : W p l e R s m args below meth c H locs cells slots Q (F0 m pc ls (.int v :: .ref a :: rest)) := by
  obtain ⟨hx, hb, hml, hown, hts⟩ := CF
  obtain ⟨P, j, hPm, hP, hD, hDA, hj, hset⟩ := hc.pool (a := a) (by rw [hk]; omega)
  have hs := hset (sI g a (upd (gI g a) k v)) (.inr (ci, (gFl g a (gFt ci) 0).set k (.int v))) (by rw [gFl_I (k := k) (gFt ci) 0 k hfl (by omega)]; exact gE_obj hk hl) (fun b hb => gE_sI_ne hb)
  rw [gE_obj hk hl] at hj
  exact va_put hx hb hts hin ty0 hty hnm hown hc.1.1 hP hDA hc.2.2.2.2.2 j hj hq k hkN (hts _ hlink) (fun _ h => h) hfin (hty k hkN) hn hfit (by rw [gFl_len]; exact (List.getElem?_eq_some_iff.mp hfl).1) hdg (fun H1 locs1 hP1 hD1 hS1 => kk H1 locs1 (gC.put hc hPm (by rw [← hs]; exact hP1) (by rw [← hs]; exact hD1) hS1 (fun _ => rfl)))
theorem g_putr (CF : CallFix p m c cc nL s args Ts own) (hc : gC D cA A s g H locs) {C : String} {T : u_T} {N ci k index : Nat} (hk : gK g a = ci + 1) (hq : vwCl[ci]? = some (C, T, N)) (hl : ci < 19) (hin : ∀ w ∈ u_ws C T N, w ∈ Ts) (ty0 : Nat → FieldType) (hty : ∀ k, k < N → parseFieldDescriptor (T k).2.2.1 = some (ty0 k)) (hnm : ∀ a, a < N → ∀ b, b < N → a ≠ b → (T a).2.1 ≠ (T b).2.1) (hkN : k < N) (hlink : Cond.fieldLink own index (T k).1 (T k).2.1 (T k).2.2.1 ∈ Ts) (hfin : (T k).2.2.2 = false) (v : Option Nat) (hn : narrow (ty0 k) (va_rf v) = va_rf v) (hfit : fits (ty0 k) (va_rf v) = true) (hfl : (gFt ci)[k]? = some true) (hdg : decode cc pc = .ok (.putfield index, 3))
    (kk : ∀ (H1 : Heap) (locs1 : List Loc), gC D cA A s (sR g a (va_up (gR g a) k v)) H1 locs1 → W p l e R s m args below meth c H1 locs1 cells slots Q (F0 m (pc + 3) ls rest)) : W p l e R s m args below meth c H locs cells slots Q (F0 m pc ls (va_rf v :: .ref a :: rest)) := by
  obtain ⟨hx, hb, hml, hown, hts⟩ := CF
  obtain ⟨P, j, hPm, hP, hD, hDA, hj, hset⟩ := hc.pool (a := a) (by rw [hk]; omega)
  have hs := hset (sR g a (va_up (gR g a) k v)) (.inr (ci, (gFl g a (gFt ci) 0).set k (va_rf v))) (by rw [gFl_R (k := k) (gFt ci) 0 k hfl (by omega)]; exact gE_obj hk hl) (fun b hb => gE_sR_ne hb)
  rw [gE_obj hk hl] at hj
  exact va_put hx hb hts hin ty0 hty hnm hown hc.1.1 hP hDA hc.2.2.2.2.2 j hj hq k hkN (hts _ hlink) (fun _ h => h) hfin (hty k hkN) hn hfit (by rw [gFl_len]; exact (List.getElem?_eq_some_iff.mp hfl).1) hdg (fun H1 locs1 hP1 hD1 hS1 => kk H1 locs1 (gC.put hc hPm (by rw [← hs]; exact hP1) (by rw [← hs]; exact hD1) hS1 (fun _ => rfl)))
theorem g_putiF (CF : CallFix p m c cc nL s args Ts own) (hc : gC D cA A s g H locs) {C : String} {T : u_T} {N ci k index : Nat} (hk : gK g a = ci + 1) (hq : vwCl[ci]? = some (C, T, N)) (hl : ci < 19) (hin : ∀ w ∈ u_ws C T N, w ∈ Ts) (ty0 : Nat → FieldType) (hty : ∀ k, k < N → parseFieldDescriptor (T k).2.2.1 = some (ty0 k)) (hnm : ∀ a, a < N → ∀ b, b < N → a ≠ b → (T a).2.1 ≠ (T b).2.1) (hkN : k < N) (hlink : Cond.fieldLink own index (T k).1 (T k).2.1 (T k).2.2.1 ∈ Ts) (hfin : (T k).2.2.2 = true) (hin2 : meth.name = "<init>") (hdecl : (T k).1 = own) {v : Int32} (hn : narrow (ty0 k) (.int v) = .int v) (hfit : fits (ty0 k) (.int v) = true) (hfl : (gFt ci)[k]? = some false) (hdg : decode cc pc = .ok (.putfield index, 3))
    (kk : ∀ (H1 : Heap) (locs1 : List Loc), gC D cA A s (sI g a (upd (gI g a) k v)) H1 locs1 → W p l e R s m args below meth c H1 locs1 cells slots Q (F0 m (pc + 3) ls rest)) : W p l e R s m args below meth c H locs cells slots Q (F0 m pc ls (.int v :: .ref a :: rest)) := by
  obtain ⟨hx, hb, hml, hown, hts⟩ := CF
  obtain ⟨P, j, hPm, hP, hD, hDA, hj, hset⟩ := hc.pool (a := a) (by rw [hk]; omega)
  have hs := hset (sI g a (upd (gI g a) k v)) (.inr (ci, (gFl g a (gFt ci) 0).set k (.int v))) (by rw [gFl_I (k := k) (gFt ci) 0 k hfl (by omega)]; exact gE_obj hk hl) (fun b hb => gE_sI_ne hb)
  rw [gE_obj hk hl] at hj
  exact va_putF hx hb hts hin ty0 hty hnm hown hc.1.1 hP hDA hc.2.2.2.2.2 j hj hq k hkN (hts _ hlink) (fun _ h => h) hfin hin2 hdecl (hty k hkN) hn hfit (by rw [gFl_len]; exact (List.getElem?_eq_some_iff.mp hfl).1) hdg (fun H1 locs1 hP1 hD1 hS1 => kk H1 locs1 (gC.put hc hPm (by rw [← hs]; exact hP1) (by rw [← hs]; exact hD1) hS1 (fun _ => rfl)))
theorem g_putrF (CF : CallFix p m c cc nL s args Ts own) (hc : gC D cA A s g H locs) {C : String} {T : u_T} {N ci k index : Nat} (hk : gK g a = ci + 1) (hq : vwCl[ci]? = some (C, T, N)) (hl : ci < 19) (hin : ∀ w ∈ u_ws C T N, w ∈ Ts) (ty0 : Nat → FieldType) (hty : ∀ k, k < N → parseFieldDescriptor (T k).2.2.1 = some (ty0 k)) (hnm : ∀ a, a < N → ∀ b, b < N → a ≠ b → (T a).2.1 ≠ (T b).2.1) (hkN : k < N) (hlink : Cond.fieldLink own index (T k).1 (T k).2.1 (T k).2.2.1 ∈ Ts) (hfin : (T k).2.2.2 = true) (hin2 : meth.name = "<init>") (hdecl : (T k).1 = own) (v : Option Nat) (hn : narrow (ty0 k) (va_rf v) = va_rf v) (hfit : fits (ty0 k) (va_rf v) = true) (hfl : (gFt ci)[k]? = some true) (hdg : decode cc pc = .ok (.putfield index, 3))
    (kk : ∀ (H1 : Heap) (locs1 : List Loc), gC D cA A s (sR g a (va_up (gR g a) k v)) H1 locs1 → W p l e R s m args below meth c H1 locs1 cells slots Q (F0 m (pc + 3) ls rest)) : W p l e R s m args below meth c H locs cells slots Q (F0 m pc ls (va_rf v :: .ref a :: rest)) := by
  obtain ⟨hx, hb, hml, hown, hts⟩ := CF
  obtain ⟨P, j, hPm, hP, hD, hDA, hj, hset⟩ := hc.pool (a := a) (by rw [hk]; omega)
  have hs := hset (sR g a (va_up (gR g a) k v)) (.inr (ci, (gFl g a (gFt ci) 0).set k (va_rf v))) (by rw [gFl_R (k := k) (gFt ci) 0 k hfl (by omega)]; exact gE_obj hk hl) (fun b hb => gE_sR_ne hb)
  rw [gE_obj hk hl] at hj
  exact va_putF hx hb hts hin ty0 hty hnm hown hc.1.1 hP hDA hc.2.2.2.2.2 j hj hq k hkN (hts _ hlink) (fun _ h => h) hfin hin2 hdecl (hty k hkN) hn hfit (by rw [gFl_len]; exact (List.getElem?_eq_some_iff.mp hfl).1) hdg (fun H1 locs1 hP1 hD1 hS1 => kk H1 locs1 (gC.put hc hPm (by rw [← hs]; exact hP1) (by rw [← hs]; exact hD1) hS1 (fun _ => rfl)))
theorem g_new (CF : CallFix p m c cc nL s args Ts own) (hc : gC D cA A s g H locs) {C : String} {T : u_T} {N ci index : Nat} (hq : vwCl[ci]? = some (C, T, N)) (hl : ci < 19) (hin : ∀ w ∈ u_ws C T N, w ∈ Ts) (ty0 : Nat → FieldType) (hty : ∀ k, k < N → parseFieldDescriptor (T k).2.2.1 = some (ty0 k)) (hdf : ∀ j, j < N → defaultValue (ty0 j) = vp_V (gF0 (gFt ci)) j) (hcl : Cond.classLink own index C ∈ Ts) (hinst : Cond.instantiable C N ∈ Ts) (hini : Cond.initialized C ∈ Ts) (hcells : cells + 1 ≤ R.cells) (hslots : slots + N ≤ R.slots) (hdg : decode cc pc = .ok (.new index, 3))
    (kk : ∀ (q : Nat) (H1 : Heap) (locs1 : List Loc), gK g q = 0 → gC D cA A s (sNew g q (ci + 1) 0) H1 locs1 → W p l e R s m args below meth c H1 locs1 (cells + 1) (slots + N) Q (F0 m (pc + 3) ls (.ref q :: rest))) : W p l e R s m args below meth c H locs cells slots Q (F0 m pc ls rest) := by
  obtain ⟨hx, hb, hml, hown, hts⟩ := CF
  obtain ⟨P, hPm, hP, hD⟩ := hc.2.2.2.1
  have hDA : va_D A (va_pl P (gE cA g)) := va_D_of hD (fun k q hk => hc.2.2.2.2.1 _ ((hPm _).mp (va_pl_mem hk)))
  refine va_new (fs := gF0 (gFt ci)) hx hb hts hin ty0 hty hown (hts _ hcl) (hts _ hinst) (hts _ hini) hc.1.1 hP hDA hc.2.2.2.2.2 hc.2.1 hq hdf hcells hslots hdg (fun q H1 hP1 hD1 hS1 => ?_)
  obtain ⟨h0, h1⟩ := hc.made hPm (k := ci + 1) (n := 0) hP1 hD1 hS1 (by omega) (by rw [gE_obj gK_new hl, gFl_new])
  exact kk q H1 _ h0 h1
theorem g_newi (CF : CallFix p m c cc nL s args Ts own) (hc : gC D cA A s g H locs) (harr : Cond.arrayClass .int ∈ Ts) {n : Int32} {N : Nat} (hn : ¬ n < 0) (hN : n.toNatClampNeg = N) (hb1 : N * 4 ≤ 536870912) (hcells : cells + 1 ≤ R.cells) (hslots : slots + N ≤ R.slots) (hdg : decode cc pc = .ok (.newarray .int, 2))
    (kk : ∀ (q : Nat) (H1 : Heap) (locs1 : List Loc), gK g q = 0 → gC D cA A s (sNew g q 21 N) H1 locs1 → W p l e R s m args below meth c H1 locs1 (cells + 1) (slots + N) Q (F0 m (pc + 2) ls (.ref q :: rest))) : W p l e R s m args below meth c H locs cells slots Q (F0 m pc ls (.int n :: rest)) := by
  obtain ⟨hx, hb, hml, hown, hts⟩ := CF
  obtain ⟨P, hPm, hP, hD⟩ := hc.2.2.2.1
  have hDA : va_D A (va_pl P (gE cA g)) := va_D_of hD (fun k q hk => hc.2.2.2.2.1 _ ((hPm _).mp (va_pl_mem hk)))
  refine va_newa (atype := .int) (ty := .int) (a0 := (N, .inl (fun _ => 0))) hx hb (hts _ harr) rfl hc.1.1 hP hDA hc.2.2.2.2.2 hc.2.1 (fun _ => rfl) hn hN hb1 hcells hslots hdg (fun q cA' H1 hK1 hP1 hD1 hS1 => ?_)
  have e : cA' = cA 0 := va_RA_inj (hK1.2 8 (cA', .int) rfl).2 (hc.1.1.2 0 (cA 0, .int) rfl).2
  subst e
  obtain ⟨h0, h1⟩ := hc.made hPm (k := 21) (n := N) hP1 hD1 hS1 (by omega) (by rw [gE_i gK_new, gN_new, gI_new])
  exact kk q H1 _ h0 h1
theorem g_newz (CF : CallFix p m c cc nL s args Ts own) (hc : gC D cA A s g H locs) (harr : Cond.arrayClass .boolean ∈ Ts) {n : Int32} {N : Nat} (hn : ¬ n < 0) (hN : n.toNatClampNeg = N) (hb1 : N * 1 ≤ 536870912) (hcells : cells + 1 ≤ R.cells) (hslots : slots + N ≤ R.slots) (hdg : decode cc pc = .ok (.newarray .boolean, 2))
    (kk : ∀ (q : Nat) (H1 : Heap) (locs1 : List Loc), gK g q = 0 → gC D cA A s (sNew g q 22 N) H1 locs1 → W p l e R s m args below meth c H1 locs1 (cells + 1) (slots + N) Q (F0 m (pc + 2) ls (.ref q :: rest))) : W p l e R s m args below meth c H locs cells slots Q (F0 m pc ls (.int n :: rest)) := by
  obtain ⟨hx, hb, hml, hown, hts⟩ := CF
  obtain ⟨P, hPm, hP, hD⟩ := hc.2.2.2.1
  have hDA : va_D A (va_pl P (gE cA g)) := va_D_of hD (fun k q hk => hc.2.2.2.2.1 _ ((hPm _).mp (va_pl_mem hk)))
  refine va_newa (atype := .boolean) (ty := .boolean) (a0 := (N, .inl (fun _ => 0))) hx hb (hts _ harr) rfl hc.1.1 hP hDA hc.2.2.2.2.2 hc.2.1 (fun _ => rfl) hn hN hb1 hcells hslots hdg (fun q cA' H1 hK1 hP1 hD1 hS1 => ?_)
  have e : cA' = cA 1 := va_RA_inj (hK1.2 8 (cA', .boolean) rfl).2 (hc.1.1.2 1 (cA 1, .boolean) rfl).2
  subst e
  obtain ⟨h0, h1⟩ := hc.made hPm (k := 22) (n := N) hP1 hD1 hS1 (by omega) (by rw [gE_z gK_new, gN_new, gI_new])
  exact kk q H1 _ h0 h1
theorem g_newq (CF : CallFix p m c cc nL s args Ts own) (hc : gC D cA A s g H locs) {C : String} {j2 index : Nat} (hj2 : j2 < 3) (hover : va_AO C s) (ht : (gTys cA)[4 + j2]? = some (cA (4 + j2), .object C)) (hcl : Cond.classLink own index C ∈ Ts) {n : Int32} {N : Nat} (hn : ¬ n < 0) (hN : n.toNatClampNeg = N) (hb1 : N * 4 ≤ 536870912) (hcells : cells + 1 ≤ R.cells) (hslots : slots + N ≤ R.slots) (hdg : decode cc pc = .ok (.anewarray index, 3))
    (kk : ∀ (q : Nat) (H1 : Heap) (locs1 : List Loc), gK g q = 0 → gC D cA A s (sNew g q (25 + j2) N) H1 locs1 → W p l e R s m args below meth c H1 locs1 (cells + 1) (slots + N) Q (F0 m (pc + 3) ls (.ref q :: rest))) : W p l e R s m args below meth c H locs cells slots Q (F0 m pc ls (.int n :: rest)) := by
  obtain ⟨hx, hb, hml, hown, hts⟩ := CF
  obtain ⟨P, hPm, hP, hD⟩ := hc.2.2.2.1
  have hDA : va_D A (va_pl P (gE cA g)) := va_D_of hD (fun k q hk => hc.2.2.2.2.1 _ ((hPm _).mp (va_pl_mem hk)))
  refine va_newq hx hb hown (hts _ hcl) hover hc.1.1 hP hDA hc.2.2.2.2.2 hc.2.1 hn hN hb1 hcells hslots hdg (fun q cA' H1 hK1 hP1 hD1 hS1 => ?_)
  have e : cA' = cA (4 + j2) := va_RA_inj (hK1.2 8 (cA', .object C) rfl).2 (hc.1.1.2 (4 + j2) _ ht).2
  subst e
  obtain ⟨h0, h1⟩ := hc.made hPm (k := 25 + j2) (n := N) hP1 hD1 hS1 (by omega) (by rw [gE_q (j := 1 + j2) (gK_new.trans (by omega)) (by omega), gN_new, gR_new, show 3 + (1 + j2) = 4 + j2 by omega])
  exact kk q H1 _ h0 h1
theorem g_calli {Q' : Int32 → gS → Prop} (hr : va_Run p l e R s m args below meth c H locs cells slots mc ms (F0 m pc ls st0) rest (gQi D cA g H.size Q' arr) (gA g H.size)) (hc : gC D cA A s g H locs)
    (kk : ∀ (r : Int32) (g' : gS) (H1 : Heap) (locs1 : List Loc), Q' r g' → gC D cA A s g' H1 locs1 → W p l e R s m args below meth c H1 locs1 (cells + mc) (slots + ms) Q (F0 m (pc + 3) ls (.int r :: rest))) : W p l e R s m args below meth c H locs cells slots Q (F0 m pc ls st0) :=
  va_calli hr hc.2.2.2.2.2 (fun q _ h => hc.free q h) hc.free (fun r u t H1 locs1 ht _ hp hb _ _ hS => kk r u H1 locs1 hp (hc.post ht hb hS))
theorem g_calll {Q' : Int64 → gS → Prop} (hr : va_Run p l e R s m args below meth c H locs cells slots mc ms (F0 m pc ls st0) rest (gQl D cA g H.size Q' arr) (gA g H.size)) (hc : gC D cA A s g H locs)
    (kk : ∀ (r : Int64) (g' : gS) (H1 : Heap) (locs1 : List Loc), Q' r g' → gC D cA A s g' H1 locs1 → W p l e R s m args below meth c H1 locs1 (cells + mc) (slots + ms) Q (F0 m (pc + 3) ls (.long r :: rest))) : W p l e R s m args below meth c H locs cells slots Q (F0 m pc ls st0) :=
  va_calll hr hc.2.2.2.2.2 (fun q _ h => hc.free q h) hc.free (fun r u t H1 locs1 ht _ hp hb _ _ hS => kk r u H1 locs1 hp (hc.post ht hb hS))
theorem g_calld {Q' : UInt64 → gS → Prop} (hr : va_Run p l e R s m args below meth c H locs cells slots mc ms (F0 m pc ls st0) rest (gQd D cA g H.size Q' arr) (gA g H.size)) (hc : gC D cA A s g H locs)
    (kk : ∀ (r : UInt64) (g' : gS) (H1 : Heap) (locs1 : List Loc), Q' r g' → gC D cA A s g' H1 locs1 → W p l e R s m args below meth c H1 locs1 (cells + mc) (slots + ms) Q (F0 m (pc + 3) ls (.double r :: rest))) : W p l e R s m args below meth c H locs cells slots Q (F0 m pc ls st0) :=
  va_calld hr hc.2.2.2.2.2 (fun q _ h => hc.free q h) hc.free (fun r u t H1 locs1 ht _ hp hb _ _ hS => kk r u H1 locs1 hp (hc.post ht hb hS))
theorem g_callv {Q' : gS → Prop} (hr : va_Run p l e R s m args below meth c H locs cells slots mc ms (F0 m pc ls st0) rest (gQv D cA g H.size Q' arr) (gA g H.size)) (hc : gC D cA A s g H locs)
    (kk : ∀ (g' : gS) (H1 : Heap) (locs1 : List Loc), Q' g' → gC D cA A s g' H1 locs1 → W p l e R s m args below meth c H1 locs1 (cells + mc) (slots + ms) Q (F0 m (pc + 3) ls rest)) : W p l e R s m args below meth c H locs cells slots Q (F0 m pc ls st0) :=
  va_callv hr hc.2.2.2.2.2 (fun q _ h => hc.free q h) hc.free (fun u t H1 locs1 ht _ hp hb _ _ hS => kk u H1 locs1 hp (hc.post ht hb hS))
theorem g_callq {Q' : Option Nat → gS → Prop} (hr : va_Run p l e R s m args below meth c H locs cells slots mc ms (F0 m pc ls st0) rest (gQq D cA g H.size Q' arr) (gA g H.size)) (hc : gC D cA A s g H locs)
    (kk : ∀ (r : Option Nat) (g' : gS) (H1 : Heap) (locs1 : List Loc), Q' r g' → gC D cA A s g' H1 locs1 → W p l e R s m args below meth c H1 locs1 (cells + mc) (slots + ms) Q (F0 m (pc + 3) ls (va_rf r :: rest))) : W p l e R s m args below meth c H locs cells slots Q (F0 m pc ls st0) :=
  va_callq hr hc.2.2.2.2.2 (fun q _ h => hc.free q h) hc.free (fun r u t H1 locs1 ht _ hp hb _ _ hS => kk r u H1 locs1 hp (hc.post ht hb hS))
theorem g_ifnull (CF : CallFix p m c cc nL s args Ts own) {r : Option Nat} {off : Int} {tgt : Nat} (hdg : decode cc pc = .ok (.ifnull off, 3)) (ht : (pc : Int) + off = (tgt : Int)) (kn : r = none → W p l e R s m args below meth c H locs cells slots Q (F0 m tgt ls rest)) (ks : ∀ y, r = some y → W p l e R s m args below meth c H locs cells slots Q (F0 m (pc + 3) ls rest)) : W p l e R s m args below meth c H locs cells slots Q (F0 m pc ls (va_rf r :: rest)) := by
  cases r with
  | none => exact lv_ifnullN CF.1 CF.2.1 hdg ht (kn rfl)
  | some y => exact lv_ifnull CF.1 CF.2.1 hdg (ks y rfl)
theorem g_ifnonnull (CF : CallFix p m c cc nL s args Ts own) {r : Option Nat} {off : Int} {tgt : Nat} (hdg : decode cc pc = .ok (.ifnonnull off, 3)) (ht : (pc : Int) + off = (tgt : Int)) (ks : ∀ y, r = some y → W p l e R s m args below meth c H locs cells slots Q (F0 m tgt ls rest)) (kn : r = none → W p l e R s m args below meth c H locs cells slots Q (F0 m (pc + 3) ls rest)) : W p l e R s m args below meth c H locs cells slots Q (F0 m pc ls (va_rf r :: rest)) := by
  cases r with
  | none => exact lv_ifnonnullN CF.1 CF.2.1 hdg (kn rfl)
  | some y => exact lv_ifnonnull CF.1 CF.2.1 hdg ht (ks y rfl)
theorem g_reti {Q' : Int32 → gS → Prop} {r : Int32} {ty : FieldType} (CF : CallFix p m c cc nL s args Ts own) (hr : meth.sig.returnType = some ty) (hlocks : meth.locks = false) (hc : gC D cA (gA g0 sz) s g H locs) (hn : narrow ty (.int r) = .int r) (hQ : Q' r g) (hdg : decode cc pc = .ok (.ireturn, 1)) : W p l e R s m args below meth c H locs cells slots (MQ below (gQi D cA g0 sz Q') args s cells slots (gA g0 sz)) (F0 m pc ls [.int r]) :=
  W.zret CF.1 CF.2.1 hr hn (fun t ht hW => ⟨⟨r, g, rfl, hQ, hc.done ht⟩, hc.2.2.2.2.2.F ht⟩) hc.2.2.2.2.2.2.2 hdg hlocks
theorem g_retl {Q' : Int64 → gS → Prop} {r : Int64} (CF : CallFix p m c cc nL s args Ts own) (hr : meth.sig.returnType = some .long) (hlocks : meth.locks = false) (hc : gC D cA (gA g0 sz) s g H locs) (hQ : Q' r g) (hdg : decode cc pc = .ok (.lreturn, 1)) : W p l e R s m args below meth c H locs cells slots (MQ below (gQl D cA g0 sz Q') args s cells slots (gA g0 sz)) (F0 m pc ls [.long r]) :=
  W.lret CF.1 CF.2.1 hr (fun t ht hW => ⟨⟨r, g, rfl, hQ, hc.done ht⟩, hc.2.2.2.2.2.F ht⟩) hc.2.2.2.2.2.2.2 hdg hlocks
theorem g_retd {Q' : UInt64 → gS → Prop} {r : UInt64} (CF : CallFix p m c cc nL s args Ts own) (hr : meth.sig.returnType = some .double) (hlocks : meth.locks = false) (hc : gC D cA (gA g0 sz) s g H locs) (hQ : Q' r g) (hdg : decode cc pc = .ok (.dreturn, 1)) : W p l e R s m args below meth c H locs cells slots (MQ below (gQd D cA g0 sz Q') args s cells slots (gA g0 sz)) (F0 m pc ls [.double r]) :=
  W.dret CF.1 CF.2.1 hr (fun t ht hW => ⟨⟨r, g, rfl, hQ, hc.done ht⟩, hc.2.2.2.2.2.F ht⟩) hc.2.2.2.2.2.2.2 hdg hlocks
theorem g_retv {Q' : gS → Prop} (CF : CallFix p m c cc nL s args Ts own) (hr : meth.sig.returnType = none) (hlocks : meth.locks = false) (hc : gC D cA (gA g0 sz) s g H locs) (hQ : Q' g) (hdg : decode cc pc = .ok (.return_, 1)) : W p l e R s m args below meth c H locs cells slots (MQ below (gQv D cA g0 sz Q') args s cells slots (gA g0 sz)) (F0 m pc ls []) :=
  W.vret CF.1 CF.2.1 hr (fun t ht hW => ⟨⟨g, rfl, hQ, hc.done ht⟩, hc.2.2.2.2.2.F ht⟩) hc.2.2.2.2.2.2.2 hdg hlocks
theorem g_retq {Q' : Option Nat → gS → Prop} {r : Option Nat} {C : String} (CF : CallFix p m c cc nL s args Ts own) (hr : meth.sig.returnType = some (.object C)) (hlocks : meth.locks = false) (hc : gC D cA (gA g0 sz) s g H locs) (hQ : Q' r g) (hdg : decode cc pc = .ok (.areturn, 1)) : W p l e R s m args below meth c H locs cells slots (MQ below (gQq D cA g0 sz Q') args s cells slots (gA g0 sz)) (F0 m pc ls [va_rf r]) :=
  W.aret CF.1 CF.2.1 hr (Or.inl ⟨_, rfl⟩) (va_rf_or r) (fun t ht hW => ⟨⟨r, g, rfl, hQ, hc.done ht⟩, hc.2.2.2.2.2.F ht⟩) hc.2.2.2.2.2.2.2 hdg hlocks
end GROWS2
/-- a method's contract, from its entry -/
theorem g_met {l : Launch} {y : MethodName} {ws ws' : List Cond} {rm : Room} {Qc : Array Value → State → Outcome → State → Prop} {mc ms maxL sz : Nat} {cc : ByteArray} {ret : Option FieldType} {D : va_G} {cA : Nat → ClassId} {g : gS} {av : List Value} {own : String}
    (hy : plainName y.cls = true) (hw : ws = Cond.code y cc maxL ret :: ws') (hown : y.cls = own) (hlen : (lg_sl av).length ≤ maxL)
    (body : ∀ p e s m args below meth c ls, CallFix p m c cc maxL s args ws own → meth.sig.returnType = ret → meth.locks = false → meth.name = y.name → gC D cA (gA g sz) s g s.heap [] → lv_has ls maxL (lv_args 0 av) → W p l e (headSpec ws rm).room s m args below meth c s.heap [] 0 0 (MQ below Qc args s mc ms (gA g sz)) (F0 m 0 ls [])) :
    Met l y ws rm (va_Pc av (gPre D cA g sz)) Qc mc ms (gA g sz) := by
  refine Met.ofW (cc := cc) (maxL := maxL) (ret := ret) hy hw ?_
  intro p e s m args below meth c s₁ B hml hv
  obtain ⟨rfl, hpre⟩ := hv
  have hown2 : s.vm.findClass own = some m.cls := by rw [← hown]; exact findClass_of_methodNamed B.named
  have hl := lv_entry av (n := maxL) hlen
  rw [lg_entry_eq]
  exact body p e s m _ below meth c _ ⟨B.exec, B.bytes, hml, hown2, atoms_spec (ws := ws) B.pre⟩ B.returns B.notSynchronized (name_of_methodNamed B.named B.method).1 hpre.start hl
/-- .. of a method that may throw -/
theorem g_xmet {l : Launch} {y : MethodName} {ws ws' : List Cond} {rm : Room} {Qc : Array Value → State → Outcome → State → Prop} {XC : String → State → State → Prop} {mc ms maxL sz : Nat} {cc : ByteArray} {ret : Option FieldType} {D : va_G} {cA : Nat → ClassId} {g : gS} {av : List Value} {own : String}
    (hy : plainName y.cls = true) (hw : ws = Cond.code y cc maxL ret :: ws') (hown : y.cls = own) (hlen : (lg_sl av).length ≤ maxL)
    (body : ∀ p e s m args below meth c ls, CallFix p m c cc maxL s args ws own → meth.sig.returnType = ret → meth.locks = false → meth.name = y.name → (∀ x ∈ c.exceptionTable.toList, False) → gC D cA (gA g sz) s g s.heap [] → lv_has ls maxL (lv_args 0 av) → W p l e (headSpec ws rm).room s m args below meth c s.heap [] 0 0 (vx_MQ below Qc XC args s mc ms (gA g sz)) (F0 m 0 ls [])) :
    vx_Met l y ws rm (va_Pc av (gPre D cA g sz)) Qc XC mc ms (gA g sz) := by
  refine vx_ofW (cc := cc) (maxL := maxL) (ret := ret) hy hw ?_
  intro p e s m args below meth c s₁ B hml hxt hv
  obtain ⟨rfl, hpre⟩ := hv
  have hown2 : s.vm.findClass own = some m.cls := by rw [← hown]; exact findClass_of_methodNamed B.named
  have hl := lv_entry av (n := maxL) hlen
  rw [lg_entry_eq]
  exact body p e s m _ below meth c _ ⟨B.exec, B.bytes, hml, hown2, atoms_spec (ws := ws) B.pre⟩ B.returns B.notSynchronized (name_of_methodNamed B.named B.method).1 hxt hpre.start hl
