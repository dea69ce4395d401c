/-! THE LAW'S LOOP -/
theorem k_law {xs : Nat → Int32} {L r1 r2 r3 i : Nat} {gc gm : gS} {k : gS → gS → Int32 → Prop} (hL : L ≤ 2560) (hi : i < 2 ^ 30) (h : LI r1 r2 r3 gc gm) (hk : i + 5 ≤ L → ∀ gc gm, LI r1 r2 r3 gc gm → k gc gm (nI (i + 5))) : l_L_law xs L r1 r2 r3 gc gm (nI i) k := by
  unfold l_L_law
  refine ⟨fun _ => trivial, fun c => ?_⟩
  have h5 : i + 5 ≤ L := by
    rcases Nat.lt_or_ge L (i + 5) with q | q
    · exfalso; apply c
      rw [i32_lt, nI_toInt (show i < 2 ^ 31 by omega)]
      have e : (nI L - 5).toInt = (L : Int) - 5 := by
        rw [Int32.toInt_sub, nI_toInt (show L < 2 ^ 31 by omega)]
        have e5 : (5 : Int32).toInt = 5 := rfl
        rw [e5]
        rw [Int.bmod_eq_of_le (by omega) (by omega)]
      rw [e]; omega
    · exact q
  have e5 : nI i + 5 = nI (i + 5) := by rw [show (5 : Int32) = nI 5 from rfl, nI_add]
  replace hk : ∀ gc gm, LI r1 r2 r3 gc gm → k gc gm (nI i + 5) := fun gc gm hl => by rw [e5]; exact hk h5 gc gm hl
  have v0 : vp_in (nI i) L := vpi (by omega) (by omega)
  have v1 : vp_in (nI i + 1) L := by rw [nI_1]; exact vpi (by omega) (by omega)
  have v2 : vp_in (nI i + 2) L := by rw [show (2 : Int32) = nI 2 from rfl, nI_add]; exact vpi (by omega) (by omega)
  have v3 : vp_in (nI i + 3) L := by rw [show (3 : Int32) = nI 3 from rfl, nI_add]; exact vpi (by omega) (by omega)
  have v4 : vp_in (nI i + 4) L := by rw [show (4 : Int32) = nI 4 from rfl, nI_add]; exact vpi (by omega) (by omega)
  exact ⟨v0, fun _ => hk gc gm h, fun _ => k_open h hk v1 v2 v3 v4, fun _ => k_write h hk v1 v2 v3 v4, fun _ => k_close h hk v1 v2 v3 v4, fun _ => k_remove h hk v1 v2 v3 v4, fun _ => k_setMute h hk v1 v2 v3 v4, fun _ => k_setAlias h hk v1 v2 v3 v4, fun _ => k_setWeight h hk v1 v2 v3 v4, fun _ => k_documents h hk v1 v2 v3 v4, fun _ => k_stateOf h hk v1 v2 v3 v4, fun _ => k_termAt h hk v1 v2 v3 v4, fun _ => k_flush h hk v1 v2 v3 v4, fun _ => k_compact h hk v1 v2 v3 v4, fun _ => k_segments h hk v1 v2 v3 v4, fun _ => k_tierOf h hk v1 v2 v3 v4, fun _ => k_sizeOf h hk v1 v2 v3 v4, fun _ => k_spread h hk v1 v2 v3 v4, fun _ => k_rare h hk v1 v2 v3 v4, fun _ => k_term h hk v1 v2 v3 v4, fun _ => k_and h hk v1 v2 v3 v4, fun _ => k_or h hk v1 v2 v3 v4, fun _ => k_not h hk v1 v2 v3 v4, fun _ => k_near h hk v1 v2 v3 v4, fun _ => k_dated h hk v1 v2 v3 v4, fun _ => k_kind h hk v1 v2 v3 v4, fun _ => k_scaled h hk v1 v2 v3 v4, fun _ => k_most h hk v1 v2 v3 v4, fun _ => k_clear h hk v1 v2 v3 v4, fun _ => k_nodes h hk v1 v2 v3 v4, fun _ => k_score h hk v1 v2 v3 v4, fun _ => k_found h hk v1 v2 v3 v4, fun _ => k_search h hk v1 v2 v3 v4, fun _ => k_results h hk v1 v2 v3 v4, fun _ => k_resultAt h hk v1 v2 v3 v4, fun _ => k_scoreAt h hk v1 v2 v3 v4, fun _ => k_ofKind h hk v1 v2 v3 v4, fun _ => k_ofDates h hk v1 v2 v3 v4, fun _ => k_window h hk v1 v2 v3 v4, fun _ => k_like h hk v1 v2 v3 v4, fun _ => k_mate h hk v1 v2 v3 v4, fun _ => k_cost h hk v1 v2 v3 v4, fun _ => k_byAlias h hk v1 v2 v3 v4, fun _ => k_wouldScore h hk v1 v2 v3 v4, fun _ => k_waste h hk v1 v2 v3 v4, fun _ => k_digest h hk v1 v2 v3 v4⟩
theorem law_loop {p : Program} {l : Launch} {e : Env} {s : State} {m : MethodId} {below : List Frame} {meth : Method} {c : Code} {b L : Nat} {xs : Nat → Int32} {D : va_G} {cA : Nat → ClassId} (hflags : l.stackTraces = false) (C0 : lw_At p s m meth c b L xs) (hL : L ≤ 2560) {r1 r2 r3 : Nat} : ∀ (j i C S : Nat), L ≤ i + 5 * j + 4 → i ≤ 2560 + 5 → C + (j + 1) * 80 ≤ 601024 → S + (j + 1) * 2400 ≤ 7293034 → ∀ (gc gm : gS), LI r1 r2 r3 gc gm → ∀ (H : Heap) (locs : List Loc) (ls : Array Slot), gL D cA s gc gm H locs → lv_has ls 9 [(0, .ref b), (1, .ref r1), (2, .ref r2), (3, .ref r3), (4, .int (nI i))] → W p l e room_1 s m #[Value.ref b] below meth c H locs C S (lw_Z below #[Value.ref b] s) (F0 m 23 ls [])
  | 0, i, C, S, h1, h2, h3, h4, gc, gm, hli, H, locs, ls, hc, hl =>
    c_L_body (k := fun _ _ _ => False) hflags C0 (by omega) (by omega) (fun _ _ _ q => q.elim) gc gm (nI i) (k_law hL (by omega) hli (fun q => by omega)) H locs ls hc hl
  | j + 1, i, C, S, h1, h2, h3, h4, gc, gm, hli, H, locs, ls, hc, hl =>
    c_L_body (k := fun gc gm i4 => i + 5 ≤ L ∧ i4 = nI (i + 5) ∧ LI r1 r2 r3 gc gm) hflags C0 (by omega) (by omega) (fun gc' gm' i4 q H' locs' ls' hc' hl' => by
      obtain ⟨q1, q2, q3⟩ := q
      subst q2
      exact law_loop hflags C0 hL j (i + 5) (C + 80) (S + 2400) (by omega) (by omega) (by omega) (by omega) gc' gm' q3 H' locs' ls' hc' hl') gc gm (nI i) (k_law hL (by omega) hli (fun q gc' gm' hl' => ⟨q, rfl, hl'⟩)) H locs ls hc hl
