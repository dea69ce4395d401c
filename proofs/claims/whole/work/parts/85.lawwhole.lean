/-! THE LAW, from its entry -/
theorem pb_one {K N : Nat → Nat} {k q : Nat} (hk : K 0 = k) (hN : N 0 = 0) (h0 : k ≠ 0) : PB K N (fun _ => q) (fun x => decide (x = 0)) (fun _ _ => none) (fun _ _ => 0) (sNew gE0 q k 0) := by
  refine ⟨fun l hl => ?_, fun l u hl hu _ => ?_, fun l i u h => (by cases h), fun l i hl _ => ?_⟩
  · have e : l = 0 := of_decide_eq_true hl
    subst e
    rw [gK_new, gN_new, gI_new, hk, hN]
    exact ⟨rfl, rfl, rfl, h0⟩
  · have e1 : l = 0 := of_decide_eq_true hl
    have e2 : u = 0 := of_decide_eq_true hu
    rw [e1, e2]
  · rw [gR_new]
theorem li_start {A : Nat → Nat} {S : Nat → Bool} {T : Nat → Nat → Option Nat} {g gm g2 : gS} {q0 q1 q2 : Nat} {μ : Nat → Nat} (c : PB fK fN A S T V0c g) (a0 : A 0 = q0) (hS : ∀ l, l < 73 → S l = true) (hS7 : S 73 = false) (hT : ∀ l i u, fR l i = some u → T l i = some u) (h12 : T 1 2 = none) (hT7 : ∀ i, T 73 i = none) (hq : gK g q2 = 0) (e2 : g2 = sNew g q2 23 1) (hm : MU TT q1 μ V0m (fun _ => 0) gm) : LI q0 q1 q2 g2 gm := by
  have c2 := c.new 73 e2 hq rfl rfl (by decide) hS7 hT7 rfl
  have hx := x_start c2 (fun l hl => by
    show (S l || decide (l = 73)) = true
    by_cases e : l = 73
    · rw [decide_eq_true e, Bool.or_true]
    · rw [hS l (by omega)]; rfl) hT h12
  exact ⟨_, 0, V0c, V0m, 0, 0, 0, 0, 0, μ, _, by rw [va_up_ne _ _ (by decide)]; exact a0, va_up_self _ _ _, hx, hm.mt 0⟩
set_option maxHeartbeats 4000000 in
set_option maxRecDepth 100000 in
theorem whole_start {p : Program} {e : Env} {s : State} {m : MethodId} {below : List Frame} {meth : Method} {c : Code} (l : Launch) (hflags : l.flags = flags0) {b L : Nat} {xs : Nat → Int32} (hL : L ≤ 2560) (C0 : lw_At p s m meth c b L xs) : W p l e room_1 s m #[Value.ref b] below meth c s.heap [] 0 0 (lw_Z below #[Value.ref b] s) (entryFrame m ([Value.ref b] : List Value).toArray 9) := by
  obtain ⟨hx, hb, hr, hml, hown, hts0, hX, hbl, hlk, hgv⟩ := id C0
  have hfl : l.stackTraces = false := by unfold Launch.stackTraces; rw [hflags]; decide
  have hts : ∀ w ∈ wsL_law, w.before #[Value.ref b] s = true := fun w h => hts0 w (wsL_law_in w h)
  have CF : CallFix p m c cL_law 9 s #[Value.ref b] wsL_law RL := ⟨hx, hb, hml, hown, hts⟩
  obtain ⟨D, cA, hK⟩ := st_gKs hts0 hgv
  have hZ := st_gZ hts0 hgv
  have hc : gL D cA s gE0 gE0 s.heap [] := ⟨⟨hK, fun q h => h, hZ, gH_empty, fun q h => absurd rfl h, va_S.rf⟩, gH_empty, fun q h => absurd rfl h, fun q h => absurd rfl h⟩
  have hl := lv_entry ([.ref b]) (n := 9) (Nat.le_of_ble_eq_true rfl)
  rw [lg_entry_eq]
  generalize (lg_sl ([.ref b]) ++ List.replicate (9 - (lg_sl ([.ref b])).length) Slot.unset).toArray = ls at hl ⊢
  have hl : lv_has ls 9 [(0, .ref b)] := hl
  -- the class
  refine g_new CF hc.join (ci := 10) rfl (by decide) (by decide +kernel) tyX10 tyX10_ok (by decide +kernel) (by decide +kernel) (by decide +kernel) (by decide +kernel) (Nat.le_of_ble_eq_true rfl) (Nat.le_of_ble_eq_true rfl) dL_law_0 (fun q0 H locs hq hc1 => ?_)
  obtain ⟨hq0, hc⟩ := hc.made (g1 := gE0) (gm1 := gE0) hq (by decide) hc1
  clear hc1 hq
  refine lv_dup hx hb dL_law_3 rfl ?_
  have h10 : w_X10_init (sNew gE0 q0 11 0) q0 (fun g' => ∃ A S T, PB fK fN A S T V0c g' ∧ A 0 = q0 ∧ (∀ l, l < 73 → S l = true) ∧ S 73 = false ∧ (∀ l i u, fR l i = some u → T l i = some u) ∧ T 1 2 = none ∧ ∀ i, T 73 i = none) :=
    x_init (pb_one rfl rfl (by decide)) (fun A S T g' a1 a2 a3 a4 a5 a6 a7 => ⟨A, S, T, a1, a2, a3, a4, a5, a6, a7⟩)
  refine l_callv (va_runI (b := q0) (As := []) (rest := [.ref q0]) CF (c_X10_init h10) (cwI 0 hts gL_law_X10_init rfl rfl rfl (hts (.initialized RX10) (by decide +kernel)) (hts (.methodLink RL 128 yX10_init) (by decide +kernel)) (hts (.instanceMethod yX10_init) (by decide +kernel)) rfl (by decide +kernel) ⟨Nat.le_of_ble_eq_true rfl, Nat.le_of_ble_eq_true rfl⟩) (hc.1.preS (As := .ref q0 :: [])) rfl rfl hl.1 rfl (lv_room (Nat.le_of_ble_eq_true rfl)) dL_law_4 ⟨Nat.le_of_ble_eq_true rfl, Nat.le_of_ble_eq_true rfl⟩) hc (fun g1 H locs hq1 hc => ?_)
  obtain ⟨A, S, T, p1, p2, p3, p4, p5, p6, p7⟩ := hq1
  refine lv_astore_n (lv' := [(1, .ref q0), (0, .ref b)]) hx hb dL_law_7 rfl hl (by decide) rfl (fun ls hl => ?_)
  -- the reference
  have hs := hc.swap
  refine g_new CF hs.join (ci := 11) rfl (by decide) (by decide +kernel) tyX11 tyX11_ok (by decide +kernel) (by decide +kernel) (by decide +kernel) (by decide +kernel) (Nat.le_of_ble_eq_true rfl) (Nat.le_of_ble_eq_true rfl) dL_law_8 (fun q1 H locs hq hc1 => ?_)
  obtain ⟨hq1', hs⟩ := hs.made (g1 := gE0) (gm1 := gE0) hq (by decide) hc1
  clear hc1 hq hc
  refine lv_dup hx hb dL_law_11 rfl ?_
  have h11 : w_X11_init (sNew gE0 q1 12 0) q1 (fun g' => ∃ μ, MU TT q1 μ V0m (fun _ => 0) g') :=
    x_minit (pb_one rfl rfl (by decide)) (fun μ g' h => ⟨μ, h⟩)
  refine l_callv (va_runI (b := q1) (As := []) (rest := [.ref q1]) CF (c_X11_init h11) (cwI 0 hts gL_law_X11_init rfl rfl rfl (hts (.initialized RX11) (by decide +kernel)) (hts (.methodLink RL 131 yX11_init) (by decide +kernel)) (hts (.instanceMethod yX11_init) (by decide +kernel)) rfl (by decide +kernel) ⟨Nat.le_of_ble_eq_true rfl, Nat.le_of_ble_eq_true rfl⟩) (hs.1.preS (As := .ref q1 :: [])) rfl rfl hl.1 rfl (lv_room (Nat.le_of_ble_eq_true rfl)) dL_law_12 ⟨Nat.le_of_ble_eq_true rfl, Nat.le_of_ble_eq_true rfl⟩) hs (fun gm H locs hqm hs => ?_)
  obtain ⟨μ, hm⟩ := hqm
  have hc := hs.swap
  refine lv_astore_n (lv' := [(2, .ref q1), (1, .ref q0), (0, .ref b)]) hx hb dL_law_15 rfl hl (by decide) rfl (fun ls hl => ?_)
  -- the row of longs
  refine lv_iconst (v := 1) hx hb dL_law_16 (by decide) ?_
  refine g_newl CF hc.join (by decide +kernel) (N := 1) (by decide) rfl (by decide) (Nat.le_of_ble_eq_true rfl) (Nat.le_of_ble_eq_true rfl) dL_law_17 (fun q2 H locs hq hc1 => ?_)
  obtain ⟨hq2, hc⟩ := hc.made (g1 := gE0) (gm1 := gE0) hq (by decide) hc1
  clear hc1 hq
  have hli : LI q0 q1 q2 (sNew g1 q2 23 1) gm := li_start p1 p2 p3 p4 p5 p6 p7 hq2 rfl hm
  refine lv_astore_n (lv' := [(3, .ref q2), (2, .ref q1), (1, .ref q0), (0, .ref b)]) hx hb dL_law_19 rfl hl (by decide) rfl (fun ls hl => ?_)
  refine lv_iconst (v := 0) hx hb dL_law_20 (by decide) ?_
  refine lv_istore (lv' := [(4, .int 0), (3, .ref q2), (2, .ref q1), (1, .ref q0), (0, .ref b)]) hx hb dL_law_21 hl (by decide) rfl (fun ls hl => ?_)
  refine W.widen (k := 96) (n := 9300) (Nat.le_of_ble_eq_true rfl) (Nat.le_of_ble_eq_true rfl) ?_
  exact law_loop hfl C0 hL 512 0 96 9300 (by omega) (by omega) (by omega) (by omega) _ gm hli H locs ls hc (lv_sub hl [4, 3, 2, 1, 0] rfl)
