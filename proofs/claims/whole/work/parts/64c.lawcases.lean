set_option maxHeartbeats 4000000 in
set_option maxRecDepth 100000 in
theorem c_L_case_1936 {p : Program} {l : Launch} {e : Env} {s : State} {m : MethodId} {below : List Frame} {meth : Method} {c : Code} {b L : Nat} {xs : Nat → Int32} {D : va_G} {cA : Nat → ClassId} (hflags : l.stackTraces = false) (C0 : lw_At p s m meth c b L xs) {C S : Nat} (hC : C + 80 ≤ 601024) (hS : S + 2400 ≤ 7293034) {r1 r2 r3 : Nat} {k : gS → gS → Int32 → Prop} (hk : ∀ (gc gm : gS) (i4 : Int32), k gc gm i4 → ∀ (H : Heap) (locs : List Loc) (ls : Array Slot), gL D cA s gc gm H locs → lv_has ls 9 [(0, .ref b), (1, .ref r1), (2, .ref r2), (3, .ref r3), (4, .int i4)] → W p l e room_1 s m #[Value.ref b] below meth c H locs (C + 80) (S + 2400) (lw_Z below #[Value.ref b] s) (F0 m 23 ls [])) (gc gm : gS) (i4 : Int32) (h : b_L_law_1936 xs L r1 r2 r3 gc gm i4 k) (H : Heap) (locs : List Loc) (ls : Array Slot) (hc : gL D cA s gc gm H locs) (hl : lv_has ls 9 [(0, .ref b), (1, .ref r1), (2, .ref r2), (3, .ref r3), (4, .int i4)]) : W p l e room_1 s m #[Value.ref b] below meth c H locs C S (lw_Z below #[Value.ref b] s) (F0 m 1936 ls []) := by
  obtain ⟨hx, hb, hr, hml, hown, hts0, hX, hbl, hlk, hgv⟩ := id C0
  have hts : ∀ w ∈ wsL_law, w.before #[Value.ref b] s = true := fun w h => hts0 w (wsL_law_in w h)
  have CF : CallFix p m c cL_law 9 s #[Value.ref b] wsL_law RL := ⟨hx, hb, hml, hown, hts⟩
  have hbA : ¬ (fun q : Nat => s.heap.size ≤ q) b := Nat.not_le.mpr hbl
  unfold b_L_law_1936 at h
  refine lv_aload_n hx hb dL_law_1936 rfl (lv_at hl 1 rfl) ?_
  refine lv_aload_n hx hb dL_law_1937 rfl (lv_at hl 0 rfl) ?_
  refine lv_iload hx hb dL_law_1938 (lv_at hl 4 rfl) ?_
  refine lv_iconst (v := 1) hx hb dL_law_1940 (by decide) ?_
  refine lv_iadd hx hb dL_law_1941 ?_
  obtain ⟨hi1, h⟩ := h
  refine va_sld hx hb hX hbl hbA hc.1.2.2.2.2.2 hi1 dL_law_1942 ?_
  refine lv_aload_n hx hb dL_law_1943 rfl (lv_at hl 3 rfl) ?_
  refine l_calli (vx_runSW (As := [.ref r1, .int (xs (Int32.toNatClampNeg (i4 + 1))), .ref r3]) (rest := []) CF (c_L_search hflags h) (vx_cwSW (hh := [(0, 9, 12, 28)]) 3 hts gL_law_L_search rfl rfl rfl (by decide +kernel) ⟨Nat.le_of_ble_eq_true rfl, Nat.le_of_ble_eq_true rfl⟩) hc.1.preS rfl rfl hl.1 rfl (lv_room (Nat.le_of_ble_eq_true rfl)) dL_law_1944 ⟨(by show _ + 1 ≤ 601024; omega), (by show _ + 6 ≤ 7293034; omega)⟩) hc (fun x2 g3 H locs hq hc => ?_)
  replace h := hq
  refine W.widen (k := C + 1) (n := S + 6) (by omega) (by omega) ?_
  refine lv_istore (lv' := [(5, .int x2), (0, .ref b), (1, .ref r1), (2, .ref r2), (3, .ref r3), (4, .int i4)]) hx hb dL_law_1947 hl (by decide) rfl (fun ls hl => ?_)
  refine lv_aload_n hx hb dL_law_1949 rfl (lv_at hl 3 rfl) ?_
  refine lv_aload_n hx hb dL_law_1950 rfl (lv_at hl 1 rfl) ?_
  refine lv_iload hx hb dL_law_1951 (lv_at hl 5 rfl) ?_
  refine lv_iconst (v := 1) hx hb dL_law_1953 (by decide) ?_
  refine lv_iadd hx hb dL_law_1954 ?_
  obtain ⟨hi4, h⟩ := h
  refine va_sld hx hb hX hbl hbA hc.1.2.2.2.2.2 hi4 dL_law_1955 ?_
  obtain ⟨hk5, h⟩ := h
  refine l_calli (va_runV (As := [.int (xs (Int32.toNatClampNeg (i4 + 1)))]) (rest := []) CF (c_X11_search h) (cwV 1 hts gL_law_X11_search rfl rfl rfl (by decide +kernel) ⟨Nat.le_of_ble_eq_true rfl, Nat.le_of_ble_eq_true rfl⟩) (hc.swap.1.preV hk5 rfl (by decide)) rfl rfl hl.1 rfl (lv_room (Nat.le_of_ble_eq_true rfl)) dL_law_1956 ⟨(by show _ + 0 ≤ 601024; omega), (by show _ + 0 ≤ 7293034; omega)⟩) hc.swap (fun x6 g7 H locs hq hcs => ?_)
  have hc := hcs.swap
  replace h := hq
  refine lv_istore (lv' := [(6, .int x6), (5, .int x2), (0, .ref b), (1, .ref r1), (2, .ref r2), (3, .ref r3), (4, .int i4)]) hx hb dL_law_1959 hl (by decide) rfl (fun ls hl => ?_)
  refine lv_aload_n hx hb dL_law_1961 rfl (lv_at hl 4 rfl) ?_
  obtain ⟨hk8, h⟩ := h
  refine l_calli (va_runV (As := []) (rest := []) CF (c_X11_thrown h) (cwV 0 hts gL_law_X11_thrown rfl rfl rfl (by decide +kernel) ⟨Nat.le_of_ble_eq_true rfl, Nat.le_of_ble_eq_true rfl⟩) (hc.swap.1.preV hk8 rfl (by decide)) rfl rfl hl.1 rfl (lv_room (Nat.le_of_ble_eq_true rfl)) dL_law_1962 ⟨(by show _ + 0 ≤ 601024; omega), (by show _ + 0 ≤ 7293034; omega)⟩) hc.swap (fun x9 g10 H locs hq hcs => ?_)
  have hc := hcs.swap
  obtain ⟨rfl, h⟩ := hq
  refine lv_iload hx hb dL_law_1965 (lv_at hl 1 rfl) ?_
  refine lv_icmp_eq (tgt := 1972) hx hb dL_law_1967 (by decide) (fun c11 => ?_) (fun c11 => ?_)
  · replace h := h.1 c11
    refine lv_iload hx hb dL_law_1972 (lv_at hl 1 rfl) ?_
    refine lv_if_ne (tgt := 1989) hx hb dL_law_1974 (by decide) (fun c12 => ?_) (fun c12 => ?_)
    · replace h := h.2 c12
      refine lv_goto (tgt := 2680) hx hb dL_law_1989 (by decide) ?_
      refine lv_iinc (v := (i4 + 5)) (lv' := [(4, .int (i4 + 5)), (6, .int x6), (5, .int x2), (0, .ref b), (1, .ref r1), (2, .ref r2), (3, .ref r3)]) hx hb dL_law_2680 hl (k := 6) rfl rfl (by decide) rfl (fun ls hl => ?_)
      refine lv_goto (tgt := 23) hx hb dL_law_2683 (by decide) ?_
      refine W.widen (k := C + 80) (n := S + 2400) (by omega) (by omega) ?_
      exact hk g3 g7 (i4 + 5) h _ _ _ hc (lv_sub hl [3, 4, 5, 6, 0] rfl)
    · replace h := h.1 c12
      refine lv_aload_n hx hb dL_law_1977 rfl (lv_at hl 5 rfl) ?_
      refine lv_iconst (v := 0) hx hb dL_law_1978 (by decide) ?_
      obtain ⟨hk13, h⟩ := h
      obtain ⟨hi14, h⟩ := h
      refine g_lald CF hc.1 hk13 hi14 dL_law_1979 ?_
      refine lv_iload hx hb dL_law_1980 (lv_at hl 0 rfl) ?_
      refine lv_i2l hx hb dL_law_1982 rfl ?_
      refine W.lcmp hx hb dL_law_1983 ?_
      refine lv_if_eq (tgt := 1989) hx hb dL_law_1984 (by decide) (fun c15 => ?_) (fun c15 => ?_)
      · replace h := h.1 c15
        refine lv_goto (tgt := 2680) hx hb dL_law_1989 (by decide) ?_
        refine lv_iinc (v := (i4 + 5)) (lv' := [(4, .int (i4 + 5)), (6, .int x6), (5, .int x2), (0, .ref b), (1, .ref r1), (2, .ref r2), (3, .ref r3)]) hx hb dL_law_2680 hl (k := 6) rfl rfl (by decide) rfl (fun ls hl => ?_)
        refine lv_goto (tgt := 23) hx hb dL_law_2683 (by decide) ?_
        refine W.widen (k := C + 80) (n := S + 2400) (by omega) (by omega) ?_
        exact hk g3 g7 (i4 + 5) h _ _ _ hc (lv_sub hl [3, 4, 5, 6, 0] rfl)
      · replace h := h.2 c15
        refine lv_iconst (v := 0) hx hb dL_law_1987 (by decide) ?_
        exact h.elim
  · replace h := h.2 c11
    refine lv_iconst (v := 0) hx hb dL_law_1970 (by decide) ?_
    exact h.elim
set_option maxHeartbeats 4000000 in
set_option maxRecDepth 100000 in
theorem c_L_case_1992 {p : Program} {l : Launch} {e : Env} {s : State} {m : MethodId} {below : List Frame} {meth : Method} {c : Code} {b L : Nat} {xs : Nat → Int32} {D : va_G} {cA : Nat → ClassId} (hflags : l.stackTraces = false) (C0 : lw_At p s m meth c b L xs) {C S : Nat} (hC : C + 80 ≤ 601024) (hS : S + 2400 ≤ 7293034) {r1 r2 r3 : Nat} {k : gS → gS → Int32 → Prop} (hk : ∀ (gc gm : gS) (i4 : Int32), k gc gm i4 → ∀ (H : Heap) (locs : List Loc) (ls : Array Slot), gL D cA s gc gm H locs → lv_has ls 9 [(0, .ref b), (1, .ref r1), (2, .ref r2), (3, .ref r3), (4, .int i4)] → W p l e room_1 s m #[Value.ref b] below meth c H locs (C + 80) (S + 2400) (lw_Z below #[Value.ref b] s) (F0 m 23 ls [])) (gc gm : gS) (i4 : Int32) (h : b_L_law_1992 xs L r1 r2 r3 gc gm i4 k) (H : Heap) (locs : List Loc) (ls : Array Slot) (hc : gL D cA s gc gm H locs) (hl : lv_has ls 9 [(0, .ref b), (1, .ref r1), (2, .ref r2), (3, .ref r3), (4, .int i4)]) : W p l e room_1 s m #[Value.ref b] below meth c H locs C S (lw_Z below #[Value.ref b] s) (F0 m 1992 ls []) := by
  obtain ⟨hx, hb, hr, hml, hown, hts0, hX, hbl, hlk, hgv⟩ := id C0
  have hts : ∀ w ∈ wsL_law, w.before #[Value.ref b] s = true := fun w h => hts0 w (wsL_law_in w h)
  have CF : CallFix p m c cL_law 9 s #[Value.ref b] wsL_law RL := ⟨hx, hb, hml, hown, hts⟩
  have hbA : ¬ (fun q : Nat => s.heap.size ≤ q) b := Nat.not_le.mpr hbl
  unfold b_L_law_1992 at h
  refine lv_aload_n hx hb dL_law_1992 rfl (lv_at hl 1 rfl) ?_
  obtain ⟨hk1, h⟩ := h
  refine l_calli (va_runV (As := []) (rest := []) CF (c_X10_results h) (cwV 0 hts gL_law_X10_results rfl rfl rfl (by decide +kernel) ⟨Nat.le_of_ble_eq_true rfl, Nat.le_of_ble_eq_true rfl⟩) (hc.1.preV hk1 rfl (by decide)) rfl rfl hl.1 rfl (lv_room (Nat.le_of_ble_eq_true rfl)) dL_law_1993 ⟨(by show _ + 0 ≤ 601024; omega), (by show _ + 0 ≤ 7293034; omega)⟩) hc (fun x2 g3 H locs hq hc => ?_)
  obtain ⟨rfl, h⟩ := hq
  refine lv_aload_n hx hb dL_law_1996 rfl (lv_at hl 2 rfl) ?_
  obtain ⟨hk4, h⟩ := h
  refine l_calli (va_runV (As := []) (rest := [.int x2]) CF (c_X11_results h) (cwV 0 hts gL_law_X11_results rfl rfl rfl (by decide +kernel) ⟨Nat.le_of_ble_eq_true rfl, Nat.le_of_ble_eq_true rfl⟩) (hc.swap.1.preV hk4 rfl (by decide)) rfl rfl hl.1 rfl (lv_room (Nat.le_of_ble_eq_true rfl)) dL_law_1997 ⟨(by show _ + 0 ≤ 601024; omega), (by show _ + 0 ≤ 7293034; omega)⟩) hc.swap (fun x5 g6 H locs hq hcs => ?_)
  have hc := hcs.swap
  replace h := hq
  refine lv_icmp_eq (tgt := 2680) hx hb dL_law_2000 (by decide) (fun c7 => ?_) (fun c7 => ?_)
  · replace h := h.1 c7
    refine lv_iinc (v := (i4 + 5)) (lv' := [(4, .int (i4 + 5)), (0, .ref b), (1, .ref r1), (2, .ref r2), (3, .ref r3)]) hx hb dL_law_2680 hl (k := 4) rfl rfl (by decide) rfl (fun ls hl => ?_)
    refine lv_goto (tgt := 23) hx hb dL_law_2683 (by decide) ?_
    refine W.widen (k := C + 80) (n := S + 2400) (by omega) (by omega) ?_
    exact hk gc g6 (i4 + 5) h _ _ _ hc (lv_sub hl [1, 2, 3, 4, 0] rfl)
  · replace h := h.2 c7
    refine lv_iconst (v := 0) hx hb dL_law_2003 (by decide) ?_
    exact h.elim
set_option maxHeartbeats 4000000 in
set_option maxRecDepth 100000 in
theorem c_L_case_2005 {p : Program} {l : Launch} {e : Env} {s : State} {m : MethodId} {below : List Frame} {meth : Method} {c : Code} {b L : Nat} {xs : Nat → Int32} {D : va_G} {cA : Nat → ClassId} (hflags : l.stackTraces = false) (C0 : lw_At p s m meth c b L xs) {C S : Nat} (hC : C + 80 ≤ 601024) (hS : S + 2400 ≤ 7293034) {r1 r2 r3 : Nat} {k : gS → gS → Int32 → Prop} (hk : ∀ (gc gm : gS) (i4 : Int32), k gc gm i4 → ∀ (H : Heap) (locs : List Loc) (ls : Array Slot), gL D cA s gc gm H locs → lv_has ls 9 [(0, .ref b), (1, .ref r1), (2, .ref r2), (3, .ref r3), (4, .int i4)] → W p l e room_1 s m #[Value.ref b] below meth c H locs (C + 80) (S + 2400) (lw_Z below #[Value.ref b] s) (F0 m 23 ls [])) (gc gm : gS) (i4 : Int32) (h : b_L_law_2005 xs L r1 r2 r3 gc gm i4 k) (H : Heap) (locs : List Loc) (ls : Array Slot) (hc : gL D cA s gc gm H locs) (hl : lv_has ls 9 [(0, .ref b), (1, .ref r1), (2, .ref r2), (3, .ref r3), (4, .int i4)]) : W p l e room_1 s m #[Value.ref b] below meth c H locs C S (lw_Z below #[Value.ref b] s) (F0 m 2005 ls []) := by
  obtain ⟨hx, hb, hr, hml, hown, hts0, hX, hbl, hlk, hgv⟩ := id C0
  have hts : ∀ w ∈ wsL_law, w.before #[Value.ref b] s = true := fun w h => hts0 w (wsL_law_in w h)
  have CF : CallFix p m c cL_law 9 s #[Value.ref b] wsL_law RL := ⟨hx, hb, hml, hown, hts⟩
  have hbA : ¬ (fun q : Nat => s.heap.size ≤ q) b := Nat.not_le.mpr hbl
  unfold b_L_law_2005 at h
  refine lv_aload_n hx hb dL_law_2005 rfl (lv_at hl 1 rfl) ?_
  refine lv_aload_n hx hb dL_law_2006 rfl (lv_at hl 0 rfl) ?_
  refine lv_iload hx hb dL_law_2007 (lv_at hl 4 rfl) ?_
  refine lv_iconst (v := 1) hx hb dL_law_2009 (by decide) ?_
  refine lv_iadd hx hb dL_law_2010 ?_
  obtain ⟨hi1, h⟩ := h
  refine va_sld hx hb hX hbl hbA hc.1.2.2.2.2.2 hi1 dL_law_2011 ?_
  refine lv_aload_n hx hb dL_law_2012 rfl (lv_at hl 3 rfl) ?_
  refine l_calli (vx_runSW (As := [.ref r1, .int (xs (Int32.toNatClampNeg (i4 + 1))), .ref r3]) (rest := []) CF (c_L_resultAt hflags h) (vx_cwSW (hh := [(0, 9, 12, 28)]) 3 hts gL_law_L_resultAt rfl rfl rfl (by decide +kernel) ⟨Nat.le_of_ble_eq_true rfl, Nat.le_of_ble_eq_true rfl⟩) hc.1.preS rfl rfl hl.1 rfl (lv_room (Nat.le_of_ble_eq_true rfl)) dL_law_2013 ⟨(by show _ + 1 ≤ 601024; omega), (by show _ + 6 ≤ 7293034; omega)⟩) hc (fun x2 g3 H locs hq hc => ?_)
  replace h := hq
  refine W.widen (k := C + 1) (n := S + 6) (by omega) (by omega) ?_
  refine lv_istore (lv' := [(5, .int x2), (0, .ref b), (1, .ref r1), (2, .ref r2), (3, .ref r3), (4, .int i4)]) hx hb dL_law_2016 hl (by decide) rfl (fun ls hl => ?_)
  refine lv_aload_n hx hb dL_law_2018 rfl (lv_at hl 3 rfl) ?_
  refine lv_aload_n hx hb dL_law_2019 rfl (lv_at hl 1 rfl) ?_
  refine lv_iload hx hb dL_law_2020 (lv_at hl 5 rfl) ?_
  refine lv_iconst (v := 1) hx hb dL_law_2022 (by decide) ?_
  refine lv_iadd hx hb dL_law_2023 ?_
  obtain ⟨hi4, h⟩ := h
  refine va_sld hx hb hX hbl hbA hc.1.2.2.2.2.2 hi4 dL_law_2024 ?_
  obtain ⟨hk5, h⟩ := h
  refine l_calli (va_runV (As := [.int (xs (Int32.toNatClampNeg (i4 + 1)))]) (rest := []) CF (c_X11_resultAt h) (cwV 1 hts gL_law_X11_resultAt rfl rfl rfl (by decide +kernel) ⟨Nat.le_of_ble_eq_true rfl, Nat.le_of_ble_eq_true rfl⟩) (hc.swap.1.preV hk5 rfl (by decide)) rfl rfl hl.1 rfl (lv_room (Nat.le_of_ble_eq_true rfl)) dL_law_2025 ⟨(by show _ + 0 ≤ 601024; omega), (by show _ + 0 ≤ 7293034; omega)⟩) hc.swap (fun x6 g7 H locs hq hcs => ?_)
  have hc := hcs.swap
  replace h := hq
  refine lv_istore (lv' := [(6, .int x6), (5, .int x2), (0, .ref b), (1, .ref r1), (2, .ref r2), (3, .ref r3), (4, .int i4)]) hx hb dL_law_2028 hl (by decide) rfl (fun ls hl => ?_)
  refine lv_aload_n hx hb dL_law_2030 rfl (lv_at hl 4 rfl) ?_
  obtain ⟨hk8, h⟩ := h
  refine l_calli (va_runV (As := []) (rest := []) CF (c_X11_thrown h) (cwV 0 hts gL_law_X11_thrown rfl rfl rfl (by decide +kernel) ⟨Nat.le_of_ble_eq_true rfl, Nat.le_of_ble_eq_true rfl⟩) (hc.swap.1.preV hk8 rfl (by decide)) rfl rfl hl.1 rfl (lv_room (Nat.le_of_ble_eq_true rfl)) dL_law_2031 ⟨(by show _ + 0 ≤ 601024; omega), (by show _ + 0 ≤ 7293034; omega)⟩) hc.swap (fun x9 g10 H locs hq hcs => ?_)
  have hc := hcs.swap
  obtain ⟨rfl, h⟩ := hq
  refine lv_iload hx hb dL_law_2034 (lv_at hl 1 rfl) ?_
  refine lv_icmp_eq (tgt := 2041) hx hb dL_law_2036 (by decide) (fun c11 => ?_) (fun c11 => ?_)
  · replace h := h.1 c11
    refine lv_iload hx hb dL_law_2041 (lv_at hl 1 rfl) ?_
    refine lv_if_ne (tgt := 2058) hx hb dL_law_2043 (by decide) (fun c12 => ?_) (fun c12 => ?_)
    · replace h := h.2 c12
      refine lv_goto (tgt := 2680) hx hb dL_law_2058 (by decide) ?_
      refine lv_iinc (v := (i4 + 5)) (lv' := [(4, .int (i4 + 5)), (6, .int x6), (5, .int x2), (0, .ref b), (1, .ref r1), (2, .ref r2), (3, .ref r3)]) hx hb dL_law_2680 hl (k := 6) rfl rfl (by decide) rfl (fun ls hl => ?_)
      refine lv_goto (tgt := 23) hx hb dL_law_2683 (by decide) ?_
      refine W.widen (k := C + 80) (n := S + 2400) (by omega) (by omega) ?_
      exact hk g3 g7 (i4 + 5) h _ _ _ hc (lv_sub hl [3, 4, 5, 6, 0] rfl)
    · replace h := h.1 c12
      refine lv_aload_n hx hb dL_law_2046 rfl (lv_at hl 5 rfl) ?_
      refine lv_iconst (v := 0) hx hb dL_law_2047 (by decide) ?_
      obtain ⟨hk13, h⟩ := h
      obtain ⟨hi14, h⟩ := h
      refine g_lald CF hc.1 hk13 hi14 dL_law_2048 ?_
      refine lv_iload hx hb dL_law_2049 (lv_at hl 0 rfl) ?_
      refine lv_i2l hx hb dL_law_2051 rfl ?_
      refine W.lcmp hx hb dL_law_2052 ?_
      refine lv_if_eq (tgt := 2058) hx hb dL_law_2053 (by decide) (fun c15 => ?_) (fun c15 => ?_)
      · replace h := h.1 c15
        refine lv_goto (tgt := 2680) hx hb dL_law_2058 (by decide) ?_
        refine lv_iinc (v := (i4 + 5)) (lv' := [(4, .int (i4 + 5)), (6, .int x6), (5, .int x2), (0, .ref b), (1, .ref r1), (2, .ref r2), (3, .ref r3)]) hx hb dL_law_2680 hl (k := 6) rfl rfl (by decide) rfl (fun ls hl => ?_)
        refine lv_goto (tgt := 23) hx hb dL_law_2683 (by decide) ?_
        refine W.widen (k := C + 80) (n := S + 2400) (by omega) (by omega) ?_
        exact hk g3 g7 (i4 + 5) h _ _ _ hc (lv_sub hl [3, 4, 5, 6, 0] rfl)
      · replace h := h.2 c15
        refine lv_iconst (v := 0) hx hb dL_law_2056 (by decide) ?_
        exact h.elim
  · replace h := h.2 c11
    refine lv_iconst (v := 0) hx hb dL_law_2039 (by decide) ?_
    exact h.elim
set_option maxHeartbeats 4000000 in
set_option maxRecDepth 100000 in
theorem c_L_case_2061 {p : Program} {l : Launch} {e : Env} {s : State} {m : MethodId} {below : List Frame} {meth : Method} {c : Code} {b L : Nat} {xs : Nat → Int32} {D : va_G} {cA : Nat → ClassId} (hflags : l.stackTraces = false) (C0 : lw_At p s m meth c b L xs) {C S : Nat} (hC : C + 80 ≤ 601024) (hS : S + 2400 ≤ 7293034) {r1 r2 r3 : Nat} {k : gS → gS → Int32 → Prop} (hk : ∀ (gc gm : gS) (i4 : Int32), k gc gm i4 → ∀ (H : Heap) (locs : List Loc) (ls : Array Slot), gL D cA s gc gm H locs → lv_has ls 9 [(0, .ref b), (1, .ref r1), (2, .ref r2), (3, .ref r3), (4, .int i4)] → W p l e room_1 s m #[Value.ref b] below meth c H locs (C + 80) (S + 2400) (lw_Z below #[Value.ref b] s) (F0 m 23 ls [])) (gc gm : gS) (i4 : Int32) (h : b_L_law_2061 xs L r1 r2 r3 gc gm i4 k) (H : Heap) (locs : List Loc) (ls : Array Slot) (hc : gL D cA s gc gm H locs) (hl : lv_has ls 9 [(0, .ref b), (1, .ref r1), (2, .ref r2), (3, .ref r3), (4, .int i4)]) : W p l e room_1 s m #[Value.ref b] below meth c H locs C S (lw_Z below #[Value.ref b] s) (F0 m 2061 ls []) := by
  obtain ⟨hx, hb, hr, hml, hown, hts0, hX, hbl, hlk, hgv⟩ := id C0
  have hts : ∀ w ∈ wsL_law, w.before #[Value.ref b] s = true := fun w h => hts0 w (wsL_law_in w h)
  have CF : CallFix p m c cL_law 9 s #[Value.ref b] wsL_law RL := ⟨hx, hb, hml, hown, hts⟩
  have hbA : ¬ (fun q : Nat => s.heap.size ≤ q) b := Nat.not_le.mpr hbl
  unfold b_L_law_2061 at h
  refine lv_aload_n hx hb dL_law_2061 rfl (lv_at hl 1 rfl) ?_
  refine lv_aload_n hx hb dL_law_2062 rfl (lv_at hl 0 rfl) ?_
  refine lv_iload hx hb dL_law_2063 (lv_at hl 4 rfl) ?_
  refine lv_iconst (v := 1) hx hb dL_law_2065 (by decide) ?_
  refine lv_iadd hx hb dL_law_2066 ?_
  obtain ⟨hi1, h⟩ := h
  refine va_sld hx hb hX hbl hbA hc.1.2.2.2.2.2 hi1 dL_law_2067 ?_
  refine lv_aload_n hx hb dL_law_2068 rfl (lv_at hl 3 rfl) ?_
  refine l_calli (vx_runSW (As := [.ref r1, .int (xs (Int32.toNatClampNeg (i4 + 1))), .ref r3]) (rest := []) CF (c_L_scoreAt hflags h) (vx_cwSW (hh := [(0, 9, 12, 28)]) 3 hts gL_law_L_scoreAt rfl rfl rfl (by decide +kernel) ⟨Nat.le_of_ble_eq_true rfl, Nat.le_of_ble_eq_true rfl⟩) hc.1.preS rfl rfl hl.1 rfl (lv_room (Nat.le_of_ble_eq_true rfl)) dL_law_2069 ⟨(by show _ + 1 ≤ 601024; omega), (by show _ + 6 ≤ 7293034; omega)⟩) hc (fun x2 g3 H locs hq hc => ?_)
  replace h := hq
  refine W.widen (k := C + 1) (n := S + 6) (by omega) (by omega) ?_
  refine lv_istore (lv' := [(5, .int x2), (0, .ref b), (1, .ref r1), (2, .ref r2), (3, .ref r3), (4, .int i4)]) hx hb dL_law_2072 hl (by decide) rfl (fun ls hl => ?_)
  refine lv_aload_n hx hb dL_law_2074 rfl (lv_at hl 3 rfl) ?_
  refine lv_aload_n hx hb dL_law_2075 rfl (lv_at hl 1 rfl) ?_
  refine lv_iload hx hb dL_law_2076 (lv_at hl 5 rfl) ?_
  refine lv_iconst (v := 1) hx hb dL_law_2078 (by decide) ?_
  refine lv_iadd hx hb dL_law_2079 ?_
  obtain ⟨hi4, h⟩ := h
  refine va_sld hx hb hX hbl hbA hc.1.2.2.2.2.2 hi4 dL_law_2080 ?_
  obtain ⟨hk5, h⟩ := h
  refine l_calli (va_runV (As := [.int (xs (Int32.toNatClampNeg (i4 + 1)))]) (rest := []) CF (c_X11_scoreAt h) (cwV 1 hts gL_law_X11_scoreAt rfl rfl rfl (by decide +kernel) ⟨Nat.le_of_ble_eq_true rfl, Nat.le_of_ble_eq_true rfl⟩) (hc.swap.1.preV hk5 rfl (by decide)) rfl rfl hl.1 rfl (lv_room (Nat.le_of_ble_eq_true rfl)) dL_law_2081 ⟨(by show _ + 0 ≤ 601024; omega), (by show _ + 0 ≤ 7293034; omega)⟩) hc.swap (fun x6 g7 H locs hq hcs => ?_)
  have hc := hcs.swap
  replace h := hq
  refine lv_istore (lv' := [(6, .int x6), (5, .int x2), (0, .ref b), (1, .ref r1), (2, .ref r2), (3, .ref r3), (4, .int i4)]) hx hb dL_law_2084 hl (by decide) rfl (fun ls hl => ?_)
  refine lv_aload_n hx hb dL_law_2086 rfl (lv_at hl 4 rfl) ?_
  obtain ⟨hk8, h⟩ := h
  refine l_calli (va_runV (As := []) (rest := []) CF (c_X11_thrown h) (cwV 0 hts gL_law_X11_thrown rfl rfl rfl (by decide +kernel) ⟨Nat.le_of_ble_eq_true rfl, Nat.le_of_ble_eq_true rfl⟩) (hc.swap.1.preV hk8 rfl (by decide)) rfl rfl hl.1 rfl (lv_room (Nat.le_of_ble_eq_true rfl)) dL_law_2087 ⟨(by show _ + 0 ≤ 601024; omega), (by show _ + 0 ≤ 7293034; omega)⟩) hc.swap (fun x9 g10 H locs hq hcs => ?_)
  have hc := hcs.swap
  obtain ⟨rfl, h⟩ := hq
  refine lv_iload hx hb dL_law_2090 (lv_at hl 1 rfl) ?_
  refine lv_icmp_eq (tgt := 2097) hx hb dL_law_2092 (by decide) (fun c11 => ?_) (fun c11 => ?_)
  · replace h := h.1 c11
    refine lv_iload hx hb dL_law_2097 (lv_at hl 1 rfl) ?_
    refine lv_if_ne (tgt := 2114) hx hb dL_law_2099 (by decide) (fun c12 => ?_) (fun c12 => ?_)
    · replace h := h.2 c12
      refine lv_goto (tgt := 2680) hx hb dL_law_2114 (by decide) ?_
      refine lv_iinc (v := (i4 + 5)) (lv' := [(4, .int (i4 + 5)), (6, .int x6), (5, .int x2), (0, .ref b), (1, .ref r1), (2, .ref r2), (3, .ref r3)]) hx hb dL_law_2680 hl (k := 6) rfl rfl (by decide) rfl (fun ls hl => ?_)
      refine lv_goto (tgt := 23) hx hb dL_law_2683 (by decide) ?_
      refine W.widen (k := C + 80) (n := S + 2400) (by omega) (by omega) ?_
      exact hk g3 g7 (i4 + 5) h _ _ _ hc (lv_sub hl [3, 4, 5, 6, 0] rfl)
    · replace h := h.1 c12
      refine lv_aload_n hx hb dL_law_2102 rfl (lv_at hl 5 rfl) ?_
      refine lv_iconst (v := 0) hx hb dL_law_2103 (by decide) ?_
      obtain ⟨hk13, h⟩ := h
      obtain ⟨hi14, h⟩ := h
      refine g_lald CF hc.1 hk13 hi14 dL_law_2104 ?_
      refine lv_iload hx hb dL_law_2105 (lv_at hl 0 rfl) ?_
      refine lv_i2l hx hb dL_law_2107 rfl ?_
      refine W.lcmp hx hb dL_law_2108 ?_
      refine lv_if_eq (tgt := 2114) hx hb dL_law_2109 (by decide) (fun c15 => ?_) (fun c15 => ?_)
      · replace h := h.1 c15
        refine lv_goto (tgt := 2680) hx hb dL_law_2114 (by decide) ?_
        refine lv_iinc (v := (i4 + 5)) (lv' := [(4, .int (i4 + 5)), (6, .int x6), (5, .int x2), (0, .ref b), (1, .ref r1), (2, .ref r2), (3, .ref r3)]) hx hb dL_law_2680 hl (k := 6) rfl rfl (by decide) rfl (fun ls hl => ?_)
        refine lv_goto (tgt := 23) hx hb dL_law_2683 (by decide) ?_
        refine W.widen (k := C + 80) (n := S + 2400) (by omega) (by omega) ?_
        exact hk g3 g7 (i4 + 5) h _ _ _ hc (lv_sub hl [3, 4, 5, 6, 0] rfl)
      · replace h := h.2 c15
        refine lv_iconst (v := 0) hx hb dL_law_2112 (by decide) ?_
        exact h.elim
  · replace h := h.2 c11
    refine lv_iconst (v := 0) hx hb dL_law_2095 (by decide) ?_
    exact h.elim
set_option maxHeartbeats 4000000 in
set_option maxRecDepth 100000 in
theorem c_L_case_2117 {p : Program} {l : Launch} {e : Env} {s : State} {m : MethodId} {below : List Frame} {meth : Method} {c : Code} {b L : Nat} {xs : Nat → Int32} {D : va_G} {cA : Nat → ClassId} (hflags : l.stackTraces = false) (C0 : lw_At p s m meth c b L xs) {C S : Nat} (hC : C + 80 ≤ 601024) (hS : S + 2400 ≤ 7293034) {r1 r2 r3 : Nat} {k : gS → gS → Int32 → Prop} (hk : ∀ (gc gm : gS) (i4 : Int32), k gc gm i4 → ∀ (H : Heap) (locs : List Loc) (ls : Array Slot), gL D cA s gc gm H locs → lv_has ls 9 [(0, .ref b), (1, .ref r1), (2, .ref r2), (3, .ref r3), (4, .int i4)] → W p l e room_1 s m #[Value.ref b] below meth c H locs (C + 80) (S + 2400) (lw_Z below #[Value.ref b] s) (F0 m 23 ls [])) (gc gm : gS) (i4 : Int32) (h : b_L_law_2117 xs L r1 r2 r3 gc gm i4 k) (H : Heap) (locs : List Loc) (ls : Array Slot) (hc : gL D cA s gc gm H locs) (hl : lv_has ls 9 [(0, .ref b), (1, .ref r1), (2, .ref r2), (3, .ref r3), (4, .int i4)]) : W p l e room_1 s m #[Value.ref b] below meth c H locs C S (lw_Z below #[Value.ref b] s) (F0 m 2117 ls []) := by
  obtain ⟨hx, hb, hr, hml, hown, hts0, hX, hbl, hlk, hgv⟩ := id C0
  have hts : ∀ w ∈ wsL_law, w.before #[Value.ref b] s = true := fun w h => hts0 w (wsL_law_in w h)
  have CF : CallFix p m c cL_law 9 s #[Value.ref b] wsL_law RL := ⟨hx, hb, hml, hown, hts⟩
  have hbA : ¬ (fun q : Nat => s.heap.size ≤ q) b := Nat.not_le.mpr hbl
  unfold b_L_law_2117 at h
  refine lv_aload_n hx hb dL_law_2117 rfl (lv_at hl 1 rfl) ?_
  refine lv_aload_n hx hb dL_law_2118 rfl (lv_at hl 0 rfl) ?_
  refine lv_iload hx hb dL_law_2119 (lv_at hl 4 rfl) ?_
  refine lv_iconst (v := 1) hx hb dL_law_2121 (by decide) ?_
  refine lv_iadd hx hb dL_law_2122 ?_
  obtain ⟨hi1, h⟩ := h
  refine va_sld hx hb hX hbl hbA hc.1.2.2.2.2.2 hi1 dL_law_2123 ?_
  refine lv_aload_n hx hb dL_law_2124 rfl (lv_at hl 3 rfl) ?_
  refine l_calli (vx_runSW (As := [.ref r1, .int (xs (Int32.toNatClampNeg (i4 + 1))), .ref r3]) (rest := []) CF (c_L_ofKind hflags h) (vx_cwSW (hh := [(0, 9, 12, 13)]) 3 hts gL_law_L_ofKind rfl rfl rfl (by decide +kernel) ⟨Nat.le_of_ble_eq_true rfl, Nat.le_of_ble_eq_true rfl⟩) hc.1.preS rfl rfl hl.1 rfl (lv_room (Nat.le_of_ble_eq_true rfl)) dL_law_2125 ⟨(by show _ + 1 ≤ 601024; omega), (by show _ + 6 ≤ 7293034; omega)⟩) hc (fun x2 g3 H locs hq hc => ?_)
  replace h := hq
  refine W.widen (k := C + 1) (n := S + 6) (by omega) (by omega) ?_
  refine lv_istore (lv' := [(5, .int x2), (0, .ref b), (1, .ref r1), (2, .ref r2), (3, .ref r3), (4, .int i4)]) hx hb dL_law_2128 hl (by decide) rfl (fun ls hl => ?_)
  refine lv_aload_n hx hb dL_law_2130 rfl (lv_at hl 3 rfl) ?_
  refine lv_aload_n hx hb dL_law_2131 rfl (lv_at hl 1 rfl) ?_
  refine lv_iload hx hb dL_law_2132 (lv_at hl 5 rfl) ?_
  refine lv_iconst (v := 1) hx hb dL_law_2134 (by decide) ?_
  refine lv_iadd hx hb dL_law_2135 ?_
  obtain ⟨hi4, h⟩ := h
  refine va_sld hx hb hX hbl hbA hc.1.2.2.2.2.2 hi4 dL_law_2136 ?_
  obtain ⟨hk5, h⟩ := h
  refine l_calli (va_runV (As := [.int (xs (Int32.toNatClampNeg (i4 + 1)))]) (rest := []) CF (c_X11_ofKind h) (cwV 1 hts gL_law_X11_ofKind rfl rfl rfl (by decide +kernel) ⟨Nat.le_of_ble_eq_true rfl, Nat.le_of_ble_eq_true rfl⟩) (hc.swap.1.preV hk5 rfl (by decide)) rfl rfl hl.1 rfl (lv_room (Nat.le_of_ble_eq_true rfl)) dL_law_2137 ⟨(by show _ + 0 ≤ 601024; omega), (by show _ + 0 ≤ 7293034; omega)⟩) hc.swap (fun x6 g7 H locs hq hcs => ?_)
  have hc := hcs.swap
  replace h := hq
  refine lv_istore (lv' := [(6, .int x6), (5, .int x2), (0, .ref b), (1, .ref r1), (2, .ref r2), (3, .ref r3), (4, .int i4)]) hx hb dL_law_2140 hl (by decide) rfl (fun ls hl => ?_)
  refine lv_aload_n hx hb dL_law_2142 rfl (lv_at hl 4 rfl) ?_
  obtain ⟨hk8, h⟩ := h
  refine l_calli (va_runV (As := []) (rest := []) CF (c_X11_thrown h) (cwV 0 hts gL_law_X11_thrown rfl rfl rfl (by decide +kernel) ⟨Nat.le_of_ble_eq_true rfl, Nat.le_of_ble_eq_true rfl⟩) (hc.swap.1.preV hk8 rfl (by decide)) rfl rfl hl.1 rfl (lv_room (Nat.le_of_ble_eq_true rfl)) dL_law_2143 ⟨(by show _ + 0 ≤ 601024; omega), (by show _ + 0 ≤ 7293034; omega)⟩) hc.swap (fun x9 g10 H locs hq hcs => ?_)
  have hc := hcs.swap
  obtain ⟨rfl, h⟩ := hq
  refine lv_iload hx hb dL_law_2146 (lv_at hl 1 rfl) ?_
  refine lv_icmp_eq (tgt := 2153) hx hb dL_law_2148 (by decide) (fun c11 => ?_) (fun c11 => ?_)
  · replace h := h.1 c11
    refine lv_iload hx hb dL_law_2153 (lv_at hl 1 rfl) ?_
    refine lv_if_ne (tgt := 2170) hx hb dL_law_2155 (by decide) (fun c12 => ?_) (fun c12 => ?_)
    · replace h := h.2 c12
      refine lv_goto (tgt := 2680) hx hb dL_law_2170 (by decide) ?_
      refine lv_iinc (v := (i4 + 5)) (lv' := [(4, .int (i4 + 5)), (6, .int x6), (5, .int x2), (0, .ref b), (1, .ref r1), (2, .ref r2), (3, .ref r3)]) hx hb dL_law_2680 hl (k := 6) rfl rfl (by decide) rfl (fun ls hl => ?_)
      refine lv_goto (tgt := 23) hx hb dL_law_2683 (by decide) ?_
      refine W.widen (k := C + 80) (n := S + 2400) (by omega) (by omega) ?_
      exact hk g3 g7 (i4 + 5) h _ _ _ hc (lv_sub hl [3, 4, 5, 6, 0] rfl)
    · replace h := h.1 c12
      refine lv_aload_n hx hb dL_law_2158 rfl (lv_at hl 5 rfl) ?_
      refine lv_iconst (v := 0) hx hb dL_law_2159 (by decide) ?_
      obtain ⟨hk13, h⟩ := h
      obtain ⟨hi14, h⟩ := h
      refine g_lald CF hc.1 hk13 hi14 dL_law_2160 ?_
      refine lv_iload hx hb dL_law_2161 (lv_at hl 0 rfl) ?_
      refine lv_i2l hx hb dL_law_2163 rfl ?_
      refine W.lcmp hx hb dL_law_2164 ?_
      refine lv_if_eq (tgt := 2170) hx hb dL_law_2165 (by decide) (fun c15 => ?_) (fun c15 => ?_)
      · replace h := h.1 c15
        refine lv_goto (tgt := 2680) hx hb dL_law_2170 (by decide) ?_
        refine lv_iinc (v := (i4 + 5)) (lv' := [(4, .int (i4 + 5)), (6, .int x6), (5, .int x2), (0, .ref b), (1, .ref r1), (2, .ref r2), (3, .ref r3)]) hx hb dL_law_2680 hl (k := 6) rfl rfl (by decide) rfl (fun ls hl => ?_)
        refine lv_goto (tgt := 23) hx hb dL_law_2683 (by decide) ?_
        refine W.widen (k := C + 80) (n := S + 2400) (by omega) (by omega) ?_
        exact hk g3 g7 (i4 + 5) h _ _ _ hc (lv_sub hl [3, 4, 5, 6, 0] rfl)
      · replace h := h.2 c15
        refine lv_iconst (v := 0) hx hb dL_law_2168 (by decide) ?_
        exact h.elim
  · replace h := h.2 c11
    refine lv_iconst (v := 0) hx hb dL_law_2151 (by decide) ?_
    exact h.elim
set_option maxHeartbeats 4000000 in
set_option maxRecDepth 100000 in
theorem c_L_case_2173 {p : Program} {l : Launch} {e : Env} {s : State} {m : MethodId} {below : List Frame} {meth : Method} {c : Code} {b L : Nat} {xs : Nat → Int32} {D : va_G} {cA : Nat → ClassId} (hflags : l.stackTraces = false) (C0 : lw_At p s m meth c b L xs) {C S : Nat} (hC : C + 80 ≤ 601024) (hS : S + 2400 ≤ 7293034) {r1 r2 r3 : Nat} {k : gS → gS → Int32 → Prop} (hk : ∀ (gc gm : gS) (i4 : Int32), k gc gm i4 → ∀ (H : Heap) (locs : List Loc) (ls : Array Slot), gL D cA s gc gm H locs → lv_has ls 9 [(0, .ref b), (1, .ref r1), (2, .ref r2), (3, .ref r3), (4, .int i4)] → W p l e room_1 s m #[Value.ref b] below meth c H locs (C + 80) (S + 2400) (lw_Z below #[Value.ref b] s) (F0 m 23 ls [])) (gc gm : gS) (i4 : Int32) (h : b_L_law_2173 xs L r1 r2 r3 gc gm i4 k) (H : Heap) (locs : List Loc) (ls : Array Slot) (hc : gL D cA s gc gm H locs) (hl : lv_has ls 9 [(0, .ref b), (1, .ref r1), (2, .ref r2), (3, .ref r3), (4, .int i4)]) : W p l e room_1 s m #[Value.ref b] below meth c H locs C S (lw_Z below #[Value.ref b] s) (F0 m 2173 ls []) := by
  obtain ⟨hx, hb, hr, hml, hown, hts0, hX, hbl, hlk, hgv⟩ := id C0
  have hts : ∀ w ∈ wsL_law, w.before #[Value.ref b] s = true := fun w h => hts0 w (wsL_law_in w h)
  have CF : CallFix p m c cL_law 9 s #[Value.ref b] wsL_law RL := ⟨hx, hb, hml, hown, hts⟩
  have hbA : ¬ (fun q : Nat => s.heap.size ≤ q) b := Nat.not_le.mpr hbl
  unfold b_L_law_2173 at h
  refine lv_aload_n hx hb dL_law_2173 rfl (lv_at hl 1 rfl) ?_
  refine lv_aload_n hx hb dL_law_2174 rfl (lv_at hl 0 rfl) ?_
  refine lv_iload hx hb dL_law_2175 (lv_at hl 4 rfl) ?_
  refine lv_iconst (v := 1) hx hb dL_law_2177 (by decide) ?_
  refine lv_iadd hx hb dL_law_2178 ?_
  obtain ⟨hi1, h⟩ := h
  refine va_sld hx hb hX hbl hbA hc.1.2.2.2.2.2 hi1 dL_law_2179 ?_
  refine lv_aload_n hx hb dL_law_2180 rfl (lv_at hl 0 rfl) ?_
  refine lv_iload hx hb dL_law_2181 (lv_at hl 4 rfl) ?_
  refine lv_iconst (v := 2) hx hb dL_law_2183 (by decide) ?_
  refine lv_iadd hx hb dL_law_2184 ?_
  obtain ⟨hi2, h⟩ := h
  refine va_sld hx hb hX hbl hbA hc.1.2.2.2.2.2 hi2 dL_law_2185 ?_
  refine lv_aload_n hx hb dL_law_2186 rfl (lv_at hl 3 rfl) ?_
  refine l_calli (vx_runSW (As := [.ref r1, .int (xs (Int32.toNatClampNeg (i4 + 1))), .int (xs (Int32.toNatClampNeg (i4 + 2))), .ref r3]) (rest := []) CF (c_L_ofDates hflags h) (vx_cwSW (hh := [(0, 10, 13, 13)]) 4 hts gL_law_L_ofDates rfl rfl rfl (by decide +kernel) ⟨Nat.le_of_ble_eq_true rfl, Nat.le_of_ble_eq_true rfl⟩) hc.1.preS rfl rfl hl.1 rfl (lv_room (Nat.le_of_ble_eq_true rfl)) dL_law_2187 ⟨(by show _ + 1 ≤ 601024; omega), (by show _ + 6 ≤ 7293034; omega)⟩) hc (fun x3 g4 H locs hq hc => ?_)
  replace h := hq
  refine W.widen (k := C + 1) (n := S + 6) (by omega) (by omega) ?_
  refine lv_istore (lv' := [(5, .int x3), (0, .ref b), (1, .ref r1), (2, .ref r2), (3, .ref r3), (4, .int i4)]) hx hb dL_law_2190 hl (by decide) rfl (fun ls hl => ?_)
  refine lv_aload_n hx hb dL_law_2192 rfl (lv_at hl 3 rfl) ?_
  refine lv_aload_n hx hb dL_law_2193 rfl (lv_at hl 1 rfl) ?_
  refine lv_iload hx hb dL_law_2194 (lv_at hl 5 rfl) ?_
  refine lv_iconst (v := 1) hx hb dL_law_2196 (by decide) ?_
  refine lv_iadd hx hb dL_law_2197 ?_
  obtain ⟨hi5, h⟩ := h
  refine va_sld hx hb hX hbl hbA hc.1.2.2.2.2.2 hi5 dL_law_2198 ?_
  refine lv_aload_n hx hb dL_law_2199 rfl (lv_at hl 1 rfl) ?_
  refine lv_iload hx hb dL_law_2200 (lv_at hl 5 rfl) ?_
  refine lv_iconst (v := 2) hx hb dL_law_2202 (by decide) ?_
  refine lv_iadd hx hb dL_law_2203 ?_
  obtain ⟨hi6, h⟩ := h
  refine va_sld hx hb hX hbl hbA hc.1.2.2.2.2.2 hi6 dL_law_2204 ?_
  obtain ⟨hk7, h⟩ := h
  refine l_calli (va_runV (As := [.int (xs (Int32.toNatClampNeg (i4 + 1))), .int (xs (Int32.toNatClampNeg (i4 + 2)))]) (rest := []) CF (c_X11_ofDates h) (cwV 2 hts gL_law_X11_ofDates rfl rfl rfl (by decide +kernel) ⟨Nat.le_of_ble_eq_true rfl, Nat.le_of_ble_eq_true rfl⟩) (hc.swap.1.preV hk7 rfl (by decide)) rfl rfl hl.1 rfl (lv_room (Nat.le_of_ble_eq_true rfl)) dL_law_2205 ⟨(by show _ + 0 ≤ 601024; omega), (by show _ + 0 ≤ 7293034; omega)⟩) hc.swap (fun x8 g9 H locs hq hcs => ?_)
  have hc := hcs.swap
  replace h := hq
  refine lv_istore (lv' := [(6, .int x8), (5, .int x3), (0, .ref b), (1, .ref r1), (2, .ref r2), (3, .ref r3), (4, .int i4)]) hx hb dL_law_2208 hl (by decide) rfl (fun ls hl => ?_)
  refine lv_aload_n hx hb dL_law_2210 rfl (lv_at hl 4 rfl) ?_
  obtain ⟨hk10, h⟩ := h
  refine l_calli (va_runV (As := []) (rest := []) CF (c_X11_thrown h) (cwV 0 hts gL_law_X11_thrown rfl rfl rfl (by decide +kernel) ⟨Nat.le_of_ble_eq_true rfl, Nat.le_of_ble_eq_true rfl⟩) (hc.swap.1.preV hk10 rfl (by decide)) rfl rfl hl.1 rfl (lv_room (Nat.le_of_ble_eq_true rfl)) dL_law_2211 ⟨(by show _ + 0 ≤ 601024; omega), (by show _ + 0 ≤ 7293034; omega)⟩) hc.swap (fun x11 g12 H locs hq hcs => ?_)
  have hc := hcs.swap
  obtain ⟨rfl, h⟩ := hq
  refine lv_iload hx hb dL_law_2214 (lv_at hl 1 rfl) ?_
  refine lv_icmp_eq (tgt := 2221) hx hb dL_law_2216 (by decide) (fun c13 => ?_) (fun c13 => ?_)
  · replace h := h.1 c13
    refine lv_iload hx hb dL_law_2221 (lv_at hl 1 rfl) ?_
    refine lv_if_ne (tgt := 2238) hx hb dL_law_2223 (by decide) (fun c14 => ?_) (fun c14 => ?_)
    · replace h := h.2 c14
      refine lv_goto (tgt := 2680) hx hb dL_law_2238 (by decide) ?_
      refine lv_iinc (v := (i4 + 5)) (lv' := [(4, .int (i4 + 5)), (6, .int x8), (5, .int x3), (0, .ref b), (1, .ref r1), (2, .ref r2), (3, .ref r3)]) hx hb dL_law_2680 hl (k := 6) rfl rfl (by decide) rfl (fun ls hl => ?_)
      refine lv_goto (tgt := 23) hx hb dL_law_2683 (by decide) ?_
      refine W.widen (k := C + 80) (n := S + 2400) (by omega) (by omega) ?_
      exact hk g4 g9 (i4 + 5) h _ _ _ hc (lv_sub hl [3, 4, 5, 6, 0] rfl)
    · replace h := h.1 c14
      refine lv_aload_n hx hb dL_law_2226 rfl (lv_at hl 5 rfl) ?_
      refine lv_iconst (v := 0) hx hb dL_law_2227 (by decide) ?_
      obtain ⟨hk15, h⟩ := h
      obtain ⟨hi16, h⟩ := h
      refine g_lald CF hc.1 hk15 hi16 dL_law_2228 ?_
      refine lv_iload hx hb dL_law_2229 (lv_at hl 0 rfl) ?_
      refine lv_i2l hx hb dL_law_2231 rfl ?_
      refine W.lcmp hx hb dL_law_2232 ?_
      refine lv_if_eq (tgt := 2238) hx hb dL_law_2233 (by decide) (fun c17 => ?_) (fun c17 => ?_)
      · replace h := h.1 c17
        refine lv_goto (tgt := 2680) hx hb dL_law_2238 (by decide) ?_
        refine lv_iinc (v := (i4 + 5)) (lv' := [(4, .int (i4 + 5)), (6, .int x8), (5, .int x3), (0, .ref b), (1, .ref r1), (2, .ref r2), (3, .ref r3)]) hx hb dL_law_2680 hl (k := 6) rfl rfl (by decide) rfl (fun ls hl => ?_)
        refine lv_goto (tgt := 23) hx hb dL_law_2683 (by decide) ?_
        refine W.widen (k := C + 80) (n := S + 2400) (by omega) (by omega) ?_
        exact hk g4 g9 (i4 + 5) h _ _ _ hc (lv_sub hl [3, 4, 5, 6, 0] rfl)
      · replace h := h.2 c17
        refine lv_iconst (v := 0) hx hb dL_law_2236 (by decide) ?_
        exact h.elim
  · replace h := h.2 c13
    refine lv_iconst (v := 0) hx hb dL_law_2219 (by decide) ?_
    exact h.elim
set_option maxHeartbeats 4000000 in
set_option maxRecDepth 100000 in
theorem c_L_case_2241 {p : Program} {l : Launch} {e : Env} {s : State} {m : MethodId} {below : List Frame} {meth : Method} {c : Code} {b L : Nat} {xs : Nat → Int32} {D : va_G} {cA : Nat → ClassId} (hflags : l.stackTraces = false) (C0 : lw_At p s m meth c b L xs) {C S : Nat} (hC : C + 80 ≤ 601024) (hS : S + 2400 ≤ 7293034) {r1 r2 r3 : Nat} {k : gS → gS → Int32 → Prop} (hk : ∀ (gc gm : gS) (i4 : Int32), k gc gm i4 → ∀ (H : Heap) (locs : List Loc) (ls : Array Slot), gL D cA s gc gm H locs → lv_has ls 9 [(0, .ref b), (1, .ref r1), (2, .ref r2), (3, .ref r3), (4, .int i4)] → W p l e room_1 s m #[Value.ref b] below meth c H locs (C + 80) (S + 2400) (lw_Z below #[Value.ref b] s) (F0 m 23 ls [])) (gc gm : gS) (i4 : Int32) (h : b_L_law_2241 xs L r1 r2 r3 gc gm i4 k) (H : Heap) (locs : List Loc) (ls : Array Slot) (hc : gL D cA s gc gm H locs) (hl : lv_has ls 9 [(0, .ref b), (1, .ref r1), (2, .ref r2), (3, .ref r3), (4, .int i4)]) : W p l e room_1 s m #[Value.ref b] below meth c H locs C S (lw_Z below #[Value.ref b] s) (F0 m 2241 ls []) := by
  obtain ⟨hx, hb, hr, hml, hown, hts0, hX, hbl, hlk, hgv⟩ := id C0
  have hts : ∀ w ∈ wsL_law, w.before #[Value.ref b] s = true := fun w h => hts0 w (wsL_law_in w h)
  have CF : CallFix p m c cL_law 9 s #[Value.ref b] wsL_law RL := ⟨hx, hb, hml, hown, hts⟩
  have hbA : ¬ (fun q : Nat => s.heap.size ≤ q) b := Nat.not_le.mpr hbl
  unfold b_L_law_2241 at h
  refine lv_aload_n hx hb dL_law_2241 rfl (lv_at hl 1 rfl) ?_
  refine lv_aload_n hx hb dL_law_2242 rfl (lv_at hl 0 rfl) ?_
  refine lv_iload hx hb dL_law_2243 (lv_at hl 4 rfl) ?_
  refine lv_iconst (v := 1) hx hb dL_law_2245 (by decide) ?_
  refine lv_iadd hx hb dL_law_2246 ?_
  obtain ⟨hi1, h⟩ := h
  refine va_sld hx hb hX hbl hbA hc.1.2.2.2.2.2 hi1 dL_law_2247 ?_
  refine lv_aload_n hx hb dL_law_2248 rfl (lv_at hl 0 rfl) ?_
  refine lv_iload hx hb dL_law_2249 (lv_at hl 4 rfl) ?_
  refine lv_iconst (v := 2) hx hb dL_law_2251 (by decide) ?_
  refine lv_iadd hx hb dL_law_2252 ?_
  obtain ⟨hi2, h⟩ := h
  refine va_sld hx hb hX hbl hbA hc.1.2.2.2.2.2 hi2 dL_law_2253 ?_
  refine lv_aload_n hx hb dL_law_2254 rfl (lv_at hl 0 rfl) ?_
  refine lv_iload hx hb dL_law_2255 (lv_at hl 4 rfl) ?_
  refine lv_iconst (v := 3) hx hb dL_law_2257 (by decide) ?_
  refine lv_iadd hx hb dL_law_2258 ?_
  obtain ⟨hi3, h⟩ := h
  refine va_sld hx hb hX hbl hbA hc.1.2.2.2.2.2 hi3 dL_law_2259 ?_
  refine lv_aload_n hx hb dL_law_2260 rfl (lv_at hl 0 rfl) ?_
  refine lv_iload hx hb dL_law_2261 (lv_at hl 4 rfl) ?_
  refine lv_iconst (v := 4) hx hb dL_law_2263 (by decide) ?_
  refine lv_iadd hx hb dL_law_2264 ?_
  obtain ⟨hi4, h⟩ := h
  refine va_sld hx hb hX hbl hbA hc.1.2.2.2.2.2 hi4 dL_law_2265 ?_
  refine lv_aload_n hx hb dL_law_2266 rfl (lv_at hl 3 rfl) ?_
  refine l_calli (vx_runSW (As := [.ref r1, .int (xs (Int32.toNatClampNeg (i4 + 1))), .int (xs (Int32.toNatClampNeg (i4 + 2))), .int (xs (Int32.toNatClampNeg (i4 + 3))), .int (xs (Int32.toNatClampNeg (i4 + 4))), .ref r3]) (rest := []) CF (c_L_window hflags h) (vx_cwSW (hh := [(0, 14, 17, 28), (0, 14, 21, 13)]) 6 hts gL_law_L_window rfl rfl rfl (by decide +kernel) ⟨Nat.le_of_ble_eq_true rfl, Nat.le_of_ble_eq_true rfl⟩) hc.1.preS rfl rfl hl.1 rfl (lv_room (Nat.le_of_ble_eq_true rfl)) dL_law_2267 ⟨(by show _ + 1 ≤ 601024; omega), (by show _ + 6 ≤ 7293034; omega)⟩) hc (fun x5 g6 H locs hq hc => ?_)
  replace h := hq
  refine W.widen (k := C + 1) (n := S + 6) (by omega) (by omega) ?_
  refine lv_istore (lv' := [(5, .int x5), (0, .ref b), (1, .ref r1), (2, .ref r2), (3, .ref r3), (4, .int i4)]) hx hb dL_law_2270 hl (by decide) rfl (fun ls hl => ?_)
  refine lv_aload_n hx hb dL_law_2272 rfl (lv_at hl 3 rfl) ?_
  refine lv_aload_n hx hb dL_law_2273 rfl (lv_at hl 1 rfl) ?_
  refine lv_iload hx hb dL_law_2274 (lv_at hl 5 rfl) ?_
  refine lv_iconst (v := 1) hx hb dL_law_2276 (by decide) ?_
  refine lv_iadd hx hb dL_law_2277 ?_
  obtain ⟨hi7, h⟩ := h
  refine va_sld hx hb hX hbl hbA hc.1.2.2.2.2.2 hi7 dL_law_2278 ?_
  refine lv_aload_n hx hb dL_law_2279 rfl (lv_at hl 1 rfl) ?_
  refine lv_iload hx hb dL_law_2280 (lv_at hl 5 rfl) ?_
  refine lv_iconst (v := 2) hx hb dL_law_2282 (by decide) ?_
  refine lv_iadd hx hb dL_law_2283 ?_
  obtain ⟨hi8, h⟩ := h
  refine va_sld hx hb hX hbl hbA hc.1.2.2.2.2.2 hi8 dL_law_2284 ?_
  refine lv_aload_n hx hb dL_law_2285 rfl (lv_at hl 1 rfl) ?_
  refine lv_iload hx hb dL_law_2286 (lv_at hl 5 rfl) ?_
  refine lv_iconst (v := 3) hx hb dL_law_2288 (by decide) ?_
  refine lv_iadd hx hb dL_law_2289 ?_
  obtain ⟨hi9, h⟩ := h
  refine va_sld hx hb hX hbl hbA hc.1.2.2.2.2.2 hi9 dL_law_2290 ?_
  refine lv_aload_n hx hb dL_law_2291 rfl (lv_at hl 1 rfl) ?_
  refine lv_iload hx hb dL_law_2292 (lv_at hl 5 rfl) ?_
  refine lv_iconst (v := 4) hx hb dL_law_2294 (by decide) ?_
  refine lv_iadd hx hb dL_law_2295 ?_
  obtain ⟨hi10, h⟩ := h
  refine va_sld hx hb hX hbl hbA hc.1.2.2.2.2.2 hi10 dL_law_2296 ?_
  obtain ⟨hk11, h⟩ := h
  refine l_calli (va_runV (As := [.int (xs (Int32.toNatClampNeg (i4 + 1))), .int (xs (Int32.toNatClampNeg (i4 + 2))), .int (xs (Int32.toNatClampNeg (i4 + 3))), .int (xs (Int32.toNatClampNeg (i4 + 4)))]) (rest := []) CF (c_X11_window h) (cwV 4 hts gL_law_X11_window rfl rfl rfl (by decide +kernel) ⟨Nat.le_of_ble_eq_true rfl, Nat.le_of_ble_eq_true rfl⟩) (hc.swap.1.preV hk11 rfl (by decide)) rfl rfl hl.1 rfl (lv_room (Nat.le_of_ble_eq_true rfl)) dL_law_2297 ⟨(by show _ + 0 ≤ 601024; omega), (by show _ + 0 ≤ 7293034; omega)⟩) hc.swap (fun x12 g13 H locs hq hcs => ?_)
  have hc := hcs.swap
  replace h := hq
  refine lv_istore (lv' := [(6, .int x12), (5, .int x5), (0, .ref b), (1, .ref r1), (2, .ref r2), (3, .ref r3), (4, .int i4)]) hx hb dL_law_2300 hl (by decide) rfl (fun ls hl => ?_)
  refine lv_aload_n hx hb dL_law_2302 rfl (lv_at hl 4 rfl) ?_
  obtain ⟨hk14, h⟩ := h
  refine l_calli (va_runV (As := []) (rest := []) CF (c_X11_thrown h) (cwV 0 hts gL_law_X11_thrown rfl rfl rfl (by decide +kernel) ⟨Nat.le_of_ble_eq_true rfl, Nat.le_of_ble_eq_true rfl⟩) (hc.swap.1.preV hk14 rfl (by decide)) rfl rfl hl.1 rfl (lv_room (Nat.le_of_ble_eq_true rfl)) dL_law_2303 ⟨(by show _ + 0 ≤ 601024; omega), (by show _ + 0 ≤ 7293034; omega)⟩) hc.swap (fun x15 g16 H locs hq hcs => ?_)
  have hc := hcs.swap
  obtain ⟨rfl, h⟩ := hq
  refine lv_iload hx hb dL_law_2306 (lv_at hl 1 rfl) ?_
  refine lv_icmp_eq (tgt := 2313) hx hb dL_law_2308 (by decide) (fun c17 => ?_) (fun c17 => ?_)
  · replace h := h.1 c17
    refine lv_iload hx hb dL_law_2313 (lv_at hl 1 rfl) ?_
    refine lv_if_ne (tgt := 2330) hx hb dL_law_2315 (by decide) (fun c18 => ?_) (fun c18 => ?_)
    · replace h := h.2 c18
      refine lv_goto (tgt := 2680) hx hb dL_law_2330 (by decide) ?_
      refine lv_iinc (v := (i4 + 5)) (lv' := [(4, .int (i4 + 5)), (6, .int x12), (5, .int x5), (0, .ref b), (1, .ref r1), (2, .ref r2), (3, .ref r3)]) hx hb dL_law_2680 hl (k := 6) rfl rfl (by decide) rfl (fun ls hl => ?_)
      refine lv_goto (tgt := 23) hx hb dL_law_2683 (by decide) ?_
      refine W.widen (k := C + 80) (n := S + 2400) (by omega) (by omega) ?_
      exact hk g6 g13 (i4 + 5) h _ _ _ hc (lv_sub hl [3, 4, 5, 6, 0] rfl)
    · replace h := h.1 c18
      refine lv_aload_n hx hb dL_law_2318 rfl (lv_at hl 5 rfl) ?_
      refine lv_iconst (v := 0) hx hb dL_law_2319 (by decide) ?_
      obtain ⟨hk19, h⟩ := h
      obtain ⟨hi20, h⟩ := h
      refine g_lald CF hc.1 hk19 hi20 dL_law_2320 ?_
      refine lv_iload hx hb dL_law_2321 (lv_at hl 0 rfl) ?_
      refine lv_i2l hx hb dL_law_2323 rfl ?_
      refine W.lcmp hx hb dL_law_2324 ?_
      refine lv_if_eq (tgt := 2330) hx hb dL_law_2325 (by decide) (fun c21 => ?_) (fun c21 => ?_)
      · replace h := h.1 c21
        refine lv_goto (tgt := 2680) hx hb dL_law_2330 (by decide) ?_
        refine lv_iinc (v := (i4 + 5)) (lv' := [(4, .int (i4 + 5)), (6, .int x12), (5, .int x5), (0, .ref b), (1, .ref r1), (2, .ref r2), (3, .ref r3)]) hx hb dL_law_2680 hl (k := 6) rfl rfl (by decide) rfl (fun ls hl => ?_)
        refine lv_goto (tgt := 23) hx hb dL_law_2683 (by decide) ?_
        refine W.widen (k := C + 80) (n := S + 2400) (by omega) (by omega) ?_
        exact hk g6 g13 (i4 + 5) h _ _ _ hc (lv_sub hl [3, 4, 5, 6, 0] rfl)
      · replace h := h.2 c21
        refine lv_iconst (v := 0) hx hb dL_law_2328 (by decide) ?_
        exact h.elim
  · replace h := h.2 c17
    refine lv_iconst (v := 0) hx hb dL_law_2311 (by decide) ?_
    exact h.elim
set_option maxHeartbeats 4000000 in
set_option maxRecDepth 100000 in
theorem c_L_case_2333 {p : Program} {l : Launch} {e : Env} {s : State} {m : MethodId} {below : List Frame} {meth : Method} {c : Code} {b L : Nat} {xs : Nat → Int32} {D : va_G} {cA : Nat → ClassId} (hflags : l.stackTraces = false) (C0 : lw_At p s m meth c b L xs) {C S : Nat} (hC : C + 80 ≤ 601024) (hS : S + 2400 ≤ 7293034) {r1 r2 r3 : Nat} {k : gS → gS → Int32 → Prop} (hk : ∀ (gc gm : gS) (i4 : Int32), k gc gm i4 → ∀ (H : Heap) (locs : List Loc) (ls : Array Slot), gL D cA s gc gm H locs → lv_has ls 9 [(0, .ref b), (1, .ref r1), (2, .ref r2), (3, .ref r3), (4, .int i4)] → W p l e room_1 s m #[Value.ref b] below meth c H locs (C + 80) (S + 2400) (lw_Z below #[Value.ref b] s) (F0 m 23 ls [])) (gc gm : gS) (i4 : Int32) (h : b_L_law_2333 xs L r1 r2 r3 gc gm i4 k) (H : Heap) (locs : List Loc) (ls : Array Slot) (hc : gL D cA s gc gm H locs) (hl : lv_has ls 9 [(0, .ref b), (1, .ref r1), (2, .ref r2), (3, .ref r3), (4, .int i4)]) : W p l e room_1 s m #[Value.ref b] below meth c H locs C S (lw_Z below #[Value.ref b] s) (F0 m 2333 ls []) := by
  obtain ⟨hx, hb, hr, hml, hown, hts0, hX, hbl, hlk, hgv⟩ := id C0
  have hts : ∀ w ∈ wsL_law, w.before #[Value.ref b] s = true := fun w h => hts0 w (wsL_law_in w h)
  have CF : CallFix p m c cL_law 9 s #[Value.ref b] wsL_law RL := ⟨hx, hb, hml, hown, hts⟩
  have hbA : ¬ (fun q : Nat => s.heap.size ≤ q) b := Nat.not_le.mpr hbl
  unfold b_L_law_2333 at h
  refine lv_aload_n hx hb dL_law_2333 rfl (lv_at hl 1 rfl) ?_
  refine lv_aload_n hx hb dL_law_2334 rfl (lv_at hl 0 rfl) ?_
  refine lv_iload hx hb dL_law_2335 (lv_at hl 4 rfl) ?_
  refine lv_iconst (v := 1) hx hb dL_law_2337 (by decide) ?_
  refine lv_iadd hx hb dL_law_2338 ?_
  obtain ⟨hi1, h⟩ := h
  refine va_sld hx hb hX hbl hbA hc.1.2.2.2.2.2 hi1 dL_law_2339 ?_
  refine lv_aload_n hx hb dL_law_2340 rfl (lv_at hl 3 rfl) ?_
  refine l_calli (vx_runSW (As := [.ref r1, .int (xs (Int32.toNatClampNeg (i4 + 1))), .ref r3]) (rest := []) CF (c_L_like hflags h) (vx_cwSW (hh := [(0, 9, 12, 28)]) 3 hts gL_law_L_like rfl rfl rfl (by decide +kernel) ⟨Nat.le_of_ble_eq_true rfl, Nat.le_of_ble_eq_true rfl⟩) hc.1.preS rfl rfl hl.1 rfl (lv_room (Nat.le_of_ble_eq_true rfl)) dL_law_2341 ⟨(by show _ + 1 ≤ 601024; omega), (by show _ + 6 ≤ 7293034; omega)⟩) hc (fun x2 g3 H locs hq hc => ?_)
  replace h := hq
  refine W.widen (k := C + 1) (n := S + 6) (by omega) (by omega) ?_
  refine lv_istore (lv' := [(5, .int x2), (0, .ref b), (1, .ref r1), (2, .ref r2), (3, .ref r3), (4, .int i4)]) hx hb dL_law_2344 hl (by decide) rfl (fun ls hl => ?_)
  refine lv_aload_n hx hb dL_law_2346 rfl (lv_at hl 3 rfl) ?_
  refine lv_aload_n hx hb dL_law_2347 rfl (lv_at hl 1 rfl) ?_
  refine lv_iload hx hb dL_law_2348 (lv_at hl 5 rfl) ?_
  refine lv_iconst (v := 1) hx hb dL_law_2350 (by decide) ?_
  refine lv_iadd hx hb dL_law_2351 ?_
  obtain ⟨hi4, h⟩ := h
  refine va_sld hx hb hX hbl hbA hc.1.2.2.2.2.2 hi4 dL_law_2352 ?_
  obtain ⟨hk5, h⟩ := h
  refine l_calli (va_runV (As := [.int (xs (Int32.toNatClampNeg (i4 + 1)))]) (rest := []) CF (c_X11_like h) (cwV 1 hts gL_law_X11_like rfl rfl rfl (by decide +kernel) ⟨Nat.le_of_ble_eq_true rfl, Nat.le_of_ble_eq_true rfl⟩) (hc.swap.1.preV hk5 rfl (by decide)) rfl rfl hl.1 rfl (lv_room (Nat.le_of_ble_eq_true rfl)) dL_law_2353 ⟨(by show _ + 0 ≤ 601024; omega), (by show _ + 0 ≤ 7293034; omega)⟩) hc.swap (fun x6 g7 H locs hq hcs => ?_)
  have hc := hcs.swap
  replace h := hq
  refine lv_istore (lv' := [(6, .int x6), (5, .int x2), (0, .ref b), (1, .ref r1), (2, .ref r2), (3, .ref r3), (4, .int i4)]) hx hb dL_law_2356 hl (by decide) rfl (fun ls hl => ?_)
  refine lv_aload_n hx hb dL_law_2358 rfl (lv_at hl 4 rfl) ?_
  obtain ⟨hk8, h⟩ := h
  refine l_calli (va_runV (As := []) (rest := []) CF (c_X11_thrown h) (cwV 0 hts gL_law_X11_thrown rfl rfl rfl (by decide +kernel) ⟨Nat.le_of_ble_eq_true rfl, Nat.le_of_ble_eq_true rfl⟩) (hc.swap.1.preV hk8 rfl (by decide)) rfl rfl hl.1 rfl (lv_room (Nat.le_of_ble_eq_true rfl)) dL_law_2359 ⟨(by show _ + 0 ≤ 601024; omega), (by show _ + 0 ≤ 7293034; omega)⟩) hc.swap (fun x9 g10 H locs hq hcs => ?_)
  have hc := hcs.swap
  obtain ⟨rfl, h⟩ := hq
  refine lv_iload hx hb dL_law_2362 (lv_at hl 1 rfl) ?_
  refine lv_icmp_eq (tgt := 2369) hx hb dL_law_2364 (by decide) (fun c11 => ?_) (fun c11 => ?_)
  · replace h := h.1 c11
    refine lv_iload hx hb dL_law_2369 (lv_at hl 1 rfl) ?_
    refine lv_if_ne (tgt := 2386) hx hb dL_law_2371 (by decide) (fun c12 => ?_) (fun c12 => ?_)
    · replace h := h.2 c12
      refine lv_goto (tgt := 2680) hx hb dL_law_2386 (by decide) ?_
      refine lv_iinc (v := (i4 + 5)) (lv' := [(4, .int (i4 + 5)), (6, .int x6), (5, .int x2), (0, .ref b), (1, .ref r1), (2, .ref r2), (3, .ref r3)]) hx hb dL_law_2680 hl (k := 6) rfl rfl (by decide) rfl (fun ls hl => ?_)
      refine lv_goto (tgt := 23) hx hb dL_law_2683 (by decide) ?_
      refine W.widen (k := C + 80) (n := S + 2400) (by omega) (by omega) ?_
      exact hk g3 g7 (i4 + 5) h _ _ _ hc (lv_sub hl [3, 4, 5, 6, 0] rfl)
    · replace h := h.1 c12
      refine lv_aload_n hx hb dL_law_2374 rfl (lv_at hl 5 rfl) ?_
      refine lv_iconst (v := 0) hx hb dL_law_2375 (by decide) ?_
      obtain ⟨hk13, h⟩ := h
      obtain ⟨hi14, h⟩ := h
      refine g_lald CF hc.1 hk13 hi14 dL_law_2376 ?_
      refine lv_iload hx hb dL_law_2377 (lv_at hl 0 rfl) ?_
      refine lv_i2l hx hb dL_law_2379 rfl ?_
      refine W.lcmp hx hb dL_law_2380 ?_
      refine lv_if_eq (tgt := 2386) hx hb dL_law_2381 (by decide) (fun c15 => ?_) (fun c15 => ?_)
      · replace h := h.1 c15
        refine lv_goto (tgt := 2680) hx hb dL_law_2386 (by decide) ?_
        refine lv_iinc (v := (i4 + 5)) (lv' := [(4, .int (i4 + 5)), (6, .int x6), (5, .int x2), (0, .ref b), (1, .ref r1), (2, .ref r2), (3, .ref r3)]) hx hb dL_law_2680 hl (k := 6) rfl rfl (by decide) rfl (fun ls hl => ?_)
        refine lv_goto (tgt := 23) hx hb dL_law_2683 (by decide) ?_
        refine W.widen (k := C + 80) (n := S + 2400) (by omega) (by omega) ?_
        exact hk g3 g7 (i4 + 5) h _ _ _ hc (lv_sub hl [3, 4, 5, 6, 0] rfl)
      · replace h := h.2 c15
        refine lv_iconst (v := 0) hx hb dL_law_2384 (by decide) ?_
        exact h.elim
  · replace h := h.2 c11
    refine lv_iconst (v := 0) hx hb dL_law_2367 (by decide) ?_
    exact h.elim
set_option maxHeartbeats 4000000 in
set_option maxRecDepth 100000 in
theorem c_L_case_2389 {p : Program} {l : Launch} {e : Env} {s : State} {m : MethodId} {below : List Frame} {meth : Method} {c : Code} {b L : Nat} {xs : Nat → Int32} {D : va_G} {cA : Nat → ClassId} (hflags : l.stackTraces = false) (C0 : lw_At p s m meth c b L xs) {C S : Nat} (hC : C + 80 ≤ 601024) (hS : S + 2400 ≤ 7293034) {r1 r2 r3 : Nat} {k : gS → gS → Int32 → Prop} (hk : ∀ (gc gm : gS) (i4 : Int32), k gc gm i4 → ∀ (H : Heap) (locs : List Loc) (ls : Array Slot), gL D cA s gc gm H locs → lv_has ls 9 [(0, .ref b), (1, .ref r1), (2, .ref r2), (3, .ref r3), (4, .int i4)] → W p l e room_1 s m #[Value.ref b] below meth c H locs (C + 80) (S + 2400) (lw_Z below #[Value.ref b] s) (F0 m 23 ls [])) (gc gm : gS) (i4 : Int32) (h : b_L_law_2389 xs L r1 r2 r3 gc gm i4 k) (H : Heap) (locs : List Loc) (ls : Array Slot) (hc : gL D cA s gc gm H locs) (hl : lv_has ls 9 [(0, .ref b), (1, .ref r1), (2, .ref r2), (3, .ref r3), (4, .int i4)]) : W p l e room_1 s m #[Value.ref b] below meth c H locs C S (lw_Z below #[Value.ref b] s) (F0 m 2389 ls []) := by
  obtain ⟨hx, hb, hr, hml, hown, hts0, hX, hbl, hlk, hgv⟩ := id C0
  have hts : ∀ w ∈ wsL_law, w.before #[Value.ref b] s = true := fun w h => hts0 w (wsL_law_in w h)
  have CF : CallFix p m c cL_law 9 s #[Value.ref b] wsL_law RL := ⟨hx, hb, hml, hown, hts⟩
  have hbA : ¬ (fun q : Nat => s.heap.size ≤ q) b := Nat.not_le.mpr hbl
  unfold b_L_law_2389 at h
  refine lv_aload_n hx hb dL_law_2389 rfl (lv_at hl 1 rfl) ?_
  refine lv_aload_n hx hb dL_law_2390 rfl (lv_at hl 0 rfl) ?_
  refine lv_iload hx hb dL_law_2391 (lv_at hl 4 rfl) ?_
  refine lv_iconst (v := 1) hx hb dL_law_2393 (by decide) ?_
  refine lv_iadd hx hb dL_law_2394 ?_
  obtain ⟨hi1, h⟩ := h
  refine va_sld hx hb hX hbl hbA hc.1.2.2.2.2.2 hi1 dL_law_2395 ?_
  refine lv_aload_n hx hb dL_law_2396 rfl (lv_at hl 3 rfl) ?_
  refine l_calli (vx_runSW (As := [.ref r1, .int (xs (Int32.toNatClampNeg (i4 + 1))), .ref r3]) (rest := []) CF (c_L_mate hflags h) (vx_cwSW (hh := [(0, 9, 12, 13)]) 3 hts gL_law_L_mate rfl rfl rfl (by decide +kernel) ⟨Nat.le_of_ble_eq_true rfl, Nat.le_of_ble_eq_true rfl⟩) hc.1.preS rfl rfl hl.1 rfl (lv_room (Nat.le_of_ble_eq_true rfl)) dL_law_2397 ⟨(by show _ + 1 ≤ 601024; omega), (by show _ + 6 ≤ 7293034; omega)⟩) hc (fun x2 g3 H locs hq hc => ?_)
  replace h := hq
  refine W.widen (k := C + 1) (n := S + 6) (by omega) (by omega) ?_
  refine lv_istore (lv' := [(5, .int x2), (0, .ref b), (1, .ref r1), (2, .ref r2), (3, .ref r3), (4, .int i4)]) hx hb dL_law_2400 hl (by decide) rfl (fun ls hl => ?_)
  refine lv_aload_n hx hb dL_law_2402 rfl (lv_at hl 3 rfl) ?_
  refine lv_aload_n hx hb dL_law_2403 rfl (lv_at hl 1 rfl) ?_
  refine lv_iload hx hb dL_law_2404 (lv_at hl 5 rfl) ?_
  refine lv_iconst (v := 1) hx hb dL_law_2406 (by decide) ?_
  refine lv_iadd hx hb dL_law_2407 ?_
  obtain ⟨hi4, h⟩ := h
  refine va_sld hx hb hX hbl hbA hc.1.2.2.2.2.2 hi4 dL_law_2408 ?_
  obtain ⟨hk5, h⟩ := h
  refine l_calli (va_runV (As := [.int (xs (Int32.toNatClampNeg (i4 + 1)))]) (rest := []) CF (c_X11_mate h) (cwV 1 hts gL_law_X11_mate rfl rfl rfl (by decide +kernel) ⟨Nat.le_of_ble_eq_true rfl, Nat.le_of_ble_eq_true rfl⟩) (hc.swap.1.preV hk5 rfl (by decide)) rfl rfl hl.1 rfl (lv_room (Nat.le_of_ble_eq_true rfl)) dL_law_2409 ⟨(by show _ + 0 ≤ 601024; omega), (by show _ + 0 ≤ 7293034; omega)⟩) hc.swap (fun x6 g7 H locs hq hcs => ?_)
  have hc := hcs.swap
  replace h := hq
  refine lv_istore (lv' := [(6, .int x6), (5, .int x2), (0, .ref b), (1, .ref r1), (2, .ref r2), (3, .ref r3), (4, .int i4)]) hx hb dL_law_2412 hl (by decide) rfl (fun ls hl => ?_)
  refine lv_aload_n hx hb dL_law_2414 rfl (lv_at hl 4 rfl) ?_
  obtain ⟨hk8, h⟩ := h
  refine l_calli (va_runV (As := []) (rest := []) CF (c_X11_thrown h) (cwV 0 hts gL_law_X11_thrown rfl rfl rfl (by decide +kernel) ⟨Nat.le_of_ble_eq_true rfl, Nat.le_of_ble_eq_true rfl⟩) (hc.swap.1.preV hk8 rfl (by decide)) rfl rfl hl.1 rfl (lv_room (Nat.le_of_ble_eq_true rfl)) dL_law_2415 ⟨(by show _ + 0 ≤ 601024; omega), (by show _ + 0 ≤ 7293034; omega)⟩) hc.swap (fun x9 g10 H locs hq hcs => ?_)
  have hc := hcs.swap
  obtain ⟨rfl, h⟩ := hq
  refine lv_iload hx hb dL_law_2418 (lv_at hl 1 rfl) ?_
  refine lv_icmp_eq (tgt := 2425) hx hb dL_law_2420 (by decide) (fun c11 => ?_) (fun c11 => ?_)
  · replace h := h.1 c11
    refine lv_iload hx hb dL_law_2425 (lv_at hl 1 rfl) ?_
    refine lv_if_ne (tgt := 2442) hx hb dL_law_2427 (by decide) (fun c12 => ?_) (fun c12 => ?_)
    · replace h := h.2 c12
      refine lv_goto (tgt := 2680) hx hb dL_law_2442 (by decide) ?_
      refine lv_iinc (v := (i4 + 5)) (lv' := [(4, .int (i4 + 5)), (6, .int x6), (5, .int x2), (0, .ref b), (1, .ref r1), (2, .ref r2), (3, .ref r3)]) hx hb dL_law_2680 hl (k := 6) rfl rfl (by decide) rfl (fun ls hl => ?_)
      refine lv_goto (tgt := 23) hx hb dL_law_2683 (by decide) ?_
      refine W.widen (k := C + 80) (n := S + 2400) (by omega) (by omega) ?_
      exact hk g3 g7 (i4 + 5) h _ _ _ hc (lv_sub hl [3, 4, 5, 6, 0] rfl)
    · replace h := h.1 c12
      refine lv_aload_n hx hb dL_law_2430 rfl (lv_at hl 5 rfl) ?_
      refine lv_iconst (v := 0) hx hb dL_law_2431 (by decide) ?_
      obtain ⟨hk13, h⟩ := h
      obtain ⟨hi14, h⟩ := h
      refine g_lald CF hc.1 hk13 hi14 dL_law_2432 ?_
      refine lv_iload hx hb dL_law_2433 (lv_at hl 0 rfl) ?_
      refine lv_i2l hx hb dL_law_2435 rfl ?_
      refine W.lcmp hx hb dL_law_2436 ?_
      refine lv_if_eq (tgt := 2442) hx hb dL_law_2437 (by decide) (fun c15 => ?_) (fun c15 => ?_)
      · replace h := h.1 c15
        refine lv_goto (tgt := 2680) hx hb dL_law_2442 (by decide) ?_
        refine lv_iinc (v := (i4 + 5)) (lv' := [(4, .int (i4 + 5)), (6, .int x6), (5, .int x2), (0, .ref b), (1, .ref r1), (2, .ref r2), (3, .ref r3)]) hx hb dL_law_2680 hl (k := 6) rfl rfl (by decide) rfl (fun ls hl => ?_)
        refine lv_goto (tgt := 23) hx hb dL_law_2683 (by decide) ?_
        refine W.widen (k := C + 80) (n := S + 2400) (by omega) (by omega) ?_
        exact hk g3 g7 (i4 + 5) h _ _ _ hc (lv_sub hl [3, 4, 5, 6, 0] rfl)
      · replace h := h.2 c15
        refine lv_iconst (v := 0) hx hb dL_law_2440 (by decide) ?_
        exact h.elim
  · replace h := h.2 c11
    refine lv_iconst (v := 0) hx hb dL_law_2423 (by decide) ?_
    exact h.elim
set_option maxHeartbeats 4000000 in
set_option maxRecDepth 100000 in
theorem c_L_case_2445 {p : Program} {l : Launch} {e : Env} {s : State} {m : MethodId} {below : List Frame} {meth : Method} {c : Code} {b L : Nat} {xs : Nat → Int32} {D : va_G} {cA : Nat → ClassId} (hflags : l.stackTraces = false) (C0 : lw_At p s m meth c b L xs) {C S : Nat} (hC : C + 80 ≤ 601024) (hS : S + 2400 ≤ 7293034) {r1 r2 r3 : Nat} {k : gS → gS → Int32 → Prop} (hk : ∀ (gc gm : gS) (i4 : Int32), k gc gm i4 → ∀ (H : Heap) (locs : List Loc) (ls : Array Slot), gL D cA s gc gm H locs → lv_has ls 9 [(0, .ref b), (1, .ref r1), (2, .ref r2), (3, .ref r3), (4, .int i4)] → W p l e room_1 s m #[Value.ref b] below meth c H locs (C + 80) (S + 2400) (lw_Z below #[Value.ref b] s) (F0 m 23 ls [])) (gc gm : gS) (i4 : Int32) (h : b_L_law_2445 xs L r1 r2 r3 gc gm i4 k) (H : Heap) (locs : List Loc) (ls : Array Slot) (hc : gL D cA s gc gm H locs) (hl : lv_has ls 9 [(0, .ref b), (1, .ref r1), (2, .ref r2), (3, .ref r3), (4, .int i4)]) : W p l e room_1 s m #[Value.ref b] below meth c H locs C S (lw_Z below #[Value.ref b] s) (F0 m 2445 ls []) := by
  obtain ⟨hx, hb, hr, hml, hown, hts0, hX, hbl, hlk, hgv⟩ := id C0
  have hts : ∀ w ∈ wsL_law, w.before #[Value.ref b] s = true := fun w h => hts0 w (wsL_law_in w h)
  have CF : CallFix p m c cL_law 9 s #[Value.ref b] wsL_law RL := ⟨hx, hb, hml, hown, hts⟩
  have hbA : ¬ (fun q : Nat => s.heap.size ≤ q) b := Nat.not_le.mpr hbl
  unfold b_L_law_2445 at h
  refine lv_aload_n hx hb dL_law_2445 rfl (lv_at hl 1 rfl) ?_
  refine lv_aload_n hx hb dL_law_2446 rfl (lv_at hl 0 rfl) ?_
  refine lv_iload hx hb dL_law_2447 (lv_at hl 4 rfl) ?_
  refine lv_iconst (v := 1) hx hb dL_law_2449 (by decide) ?_
  refine lv_iadd hx hb dL_law_2450 ?_
  obtain ⟨hi1, h⟩ := h
  refine va_sld hx hb hX hbl hbA hc.1.2.2.2.2.2 hi1 dL_law_2451 ?_
  refine lv_aload_n hx hb dL_law_2452 rfl (lv_at hl 3 rfl) ?_
  refine l_calli (vx_runSW (As := [.ref r1, .int (xs (Int32.toNatClampNeg (i4 + 1))), .ref r3]) (rest := []) CF (c_L_cost hflags h) (vx_cwSW (hh := [(0, 9, 12, 28)]) 3 hts gL_law_L_cost rfl rfl rfl (by decide +kernel) ⟨Nat.le_of_ble_eq_true rfl, Nat.le_of_ble_eq_true rfl⟩) hc.1.preS rfl rfl hl.1 rfl (lv_room (Nat.le_of_ble_eq_true rfl)) dL_law_2453 ⟨(by show _ + 1 ≤ 601024; omega), (by show _ + 6 ≤ 7293034; omega)⟩) hc (fun x2 g3 H locs hq hc => ?_)
  replace h := hq
  refine W.widen (k := C + 1) (n := S + 6) (by omega) (by omega) ?_
  refine lv_istore (lv' := [(5, .int x2), (0, .ref b), (1, .ref r1), (2, .ref r2), (3, .ref r3), (4, .int i4)]) hx hb dL_law_2456 hl (by decide) rfl (fun ls hl => ?_)
  refine lv_aload_n hx hb dL_law_2458 rfl (lv_at hl 3 rfl) ?_
  refine lv_aload_n hx hb dL_law_2459 rfl (lv_at hl 1 rfl) ?_
  refine lv_iload hx hb dL_law_2460 (lv_at hl 5 rfl) ?_
  refine lv_iconst (v := 1) hx hb dL_law_2462 (by decide) ?_
  refine lv_iadd hx hb dL_law_2463 ?_
  obtain ⟨hi4, h⟩ := h
  refine va_sld hx hb hX hbl hbA hc.1.2.2.2.2.2 hi4 dL_law_2464 ?_
  obtain ⟨hk5, h⟩ := h
  refine l_calli (va_runV (As := [.int (xs (Int32.toNatClampNeg (i4 + 1)))]) (rest := []) CF (c_X11_cost h) (cwV 1 hts gL_law_X11_cost rfl rfl rfl (by decide +kernel) ⟨Nat.le_of_ble_eq_true rfl, Nat.le_of_ble_eq_true rfl⟩) (hc.swap.1.preV hk5 rfl (by decide)) rfl rfl hl.1 rfl (lv_room (Nat.le_of_ble_eq_true rfl)) dL_law_2465 ⟨(by show _ + 0 ≤ 601024; omega), (by show _ + 0 ≤ 7293034; omega)⟩) hc.swap (fun x6 g7 H locs hq hcs => ?_)
  have hc := hcs.swap
  replace h := hq
  refine lv_istore (lv' := [(6, .int x6), (5, .int x2), (0, .ref b), (1, .ref r1), (2, .ref r2), (3, .ref r3), (4, .int i4)]) hx hb dL_law_2468 hl (by decide) rfl (fun ls hl => ?_)
  refine lv_aload_n hx hb dL_law_2470 rfl (lv_at hl 4 rfl) ?_
  obtain ⟨hk8, h⟩ := h
  refine l_calli (va_runV (As := []) (rest := []) CF (c_X11_thrown h) (cwV 0 hts gL_law_X11_thrown rfl rfl rfl (by decide +kernel) ⟨Nat.le_of_ble_eq_true rfl, Nat.le_of_ble_eq_true rfl⟩) (hc.swap.1.preV hk8 rfl (by decide)) rfl rfl hl.1 rfl (lv_room (Nat.le_of_ble_eq_true rfl)) dL_law_2471 ⟨(by show _ + 0 ≤ 601024; omega), (by show _ + 0 ≤ 7293034; omega)⟩) hc.swap (fun x9 g10 H locs hq hcs => ?_)
  have hc := hcs.swap
  obtain ⟨rfl, h⟩ := hq
  refine lv_iload hx hb dL_law_2474 (lv_at hl 1 rfl) ?_
  refine lv_icmp_eq (tgt := 2481) hx hb dL_law_2476 (by decide) (fun c11 => ?_) (fun c11 => ?_)
  · replace h := h.1 c11
    refine lv_iload hx hb dL_law_2481 (lv_at hl 1 rfl) ?_
    refine lv_if_ne (tgt := 2498) hx hb dL_law_2483 (by decide) (fun c12 => ?_) (fun c12 => ?_)
    · replace h := h.2 c12
      refine lv_goto (tgt := 2680) hx hb dL_law_2498 (by decide) ?_
      refine lv_iinc (v := (i4 + 5)) (lv' := [(4, .int (i4 + 5)), (6, .int x6), (5, .int x2), (0, .ref b), (1, .ref r1), (2, .ref r2), (3, .ref r3)]) hx hb dL_law_2680 hl (k := 6) rfl rfl (by decide) rfl (fun ls hl => ?_)
      refine lv_goto (tgt := 23) hx hb dL_law_2683 (by decide) ?_
      refine W.widen (k := C + 80) (n := S + 2400) (by omega) (by omega) ?_
      exact hk g3 g7 (i4 + 5) h _ _ _ hc (lv_sub hl [3, 4, 5, 6, 0] rfl)
    · replace h := h.1 c12
      refine lv_aload_n hx hb dL_law_2486 rfl (lv_at hl 5 rfl) ?_
      refine lv_iconst (v := 0) hx hb dL_law_2487 (by decide) ?_
      obtain ⟨hk13, h⟩ := h
      obtain ⟨hi14, h⟩ := h
      refine g_lald CF hc.1 hk13 hi14 dL_law_2488 ?_
      refine lv_iload hx hb dL_law_2489 (lv_at hl 0 rfl) ?_
      refine lv_i2l hx hb dL_law_2491 rfl ?_
      refine W.lcmp hx hb dL_law_2492 ?_
      refine lv_if_eq (tgt := 2498) hx hb dL_law_2493 (by decide) (fun c15 => ?_) (fun c15 => ?_)
      · replace h := h.1 c15
        refine lv_goto (tgt := 2680) hx hb dL_law_2498 (by decide) ?_
        refine lv_iinc (v := (i4 + 5)) (lv' := [(4, .int (i4 + 5)), (6, .int x6), (5, .int x2), (0, .ref b), (1, .ref r1), (2, .ref r2), (3, .ref r3)]) hx hb dL_law_2680 hl (k := 6) rfl rfl (by decide) rfl (fun ls hl => ?_)
        refine lv_goto (tgt := 23) hx hb dL_law_2683 (by decide) ?_
        refine W.widen (k := C + 80) (n := S + 2400) (by omega) (by omega) ?_
        exact hk g3 g7 (i4 + 5) h _ _ _ hc (lv_sub hl [3, 4, 5, 6, 0] rfl)
      · replace h := h.2 c15
        refine lv_iconst (v := 0) hx hb dL_law_2496 (by decide) ?_
        exact h.elim
  · replace h := h.2 c11
    refine lv_iconst (v := 0) hx hb dL_law_2479 (by decide) ?_
    exact h.elim
set_option maxHeartbeats 4000000 in
set_option maxRecDepth 100000 in
theorem c_L_case_2501 {p : Program} {l : Launch} {e : Env} {s : State} {m : MethodId} {below : List Frame} {meth : Method} {c : Code} {b L : Nat} {xs : Nat → Int32} {D : va_G} {cA : Nat → ClassId} (hflags : l.stackTraces = false) (C0 : lw_At p s m meth c b L xs) {C S : Nat} (hC : C + 80 ≤ 601024) (hS : S + 2400 ≤ 7293034) {r1 r2 r3 : Nat} {k : gS → gS → Int32 → Prop} (hk : ∀ (gc gm : gS) (i4 : Int32), k gc gm i4 → ∀ (H : Heap) (locs : List Loc) (ls : Array Slot), gL D cA s gc gm H locs → lv_has ls 9 [(0, .ref b), (1, .ref r1), (2, .ref r2), (3, .ref r3), (4, .int i4)] → W p l e room_1 s m #[Value.ref b] below meth c H locs (C + 80) (S + 2400) (lw_Z below #[Value.ref b] s) (F0 m 23 ls [])) (gc gm : gS) (i4 : Int32) (h : b_L_law_2501 xs L r1 r2 r3 gc gm i4 k) (H : Heap) (locs : List Loc) (ls : Array Slot) (hc : gL D cA s gc gm H locs) (hl : lv_has ls 9 [(0, .ref b), (1, .ref r1), (2, .ref r2), (3, .ref r3), (4, .int i4)]) : W p l e room_1 s m #[Value.ref b] below meth c H locs C S (lw_Z below #[Value.ref b] s) (F0 m 2501 ls []) := by
  obtain ⟨hx, hb, hr, hml, hown, hts0, hX, hbl, hlk, hgv⟩ := id C0
  have hts : ∀ w ∈ wsL_law, w.before #[Value.ref b] s = true := fun w h => hts0 w (wsL_law_in w h)
  have CF : CallFix p m c cL_law 9 s #[Value.ref b] wsL_law RL := ⟨hx, hb, hml, hown, hts⟩
  have hbA : ¬ (fun q : Nat => s.heap.size ≤ q) b := Nat.not_le.mpr hbl
  unfold b_L_law_2501 at h
  refine lv_aload_n hx hb dL_law_2501 rfl (lv_at hl 1 rfl) ?_
  refine lv_aload_n hx hb dL_law_2502 rfl (lv_at hl 0 rfl) ?_
  refine lv_iload hx hb dL_law_2503 (lv_at hl 4 rfl) ?_
  refine lv_iconst (v := 1) hx hb dL_law_2505 (by decide) ?_
  refine lv_iadd hx hb dL_law_2506 ?_
  obtain ⟨hi1, h⟩ := h
  refine va_sld hx hb hX hbl hbA hc.1.2.2.2.2.2 hi1 dL_law_2507 ?_
  refine lv_aload_n hx hb dL_law_2508 rfl (lv_at hl 3 rfl) ?_
  refine l_calli (vx_runSW (As := [.ref r1, .int (xs (Int32.toNatClampNeg (i4 + 1))), .ref r3]) (rest := []) CF (c_L_byAlias hflags h) (vx_cwSW (hh := [(0, 9, 12, 28)]) 3 hts gL_law_L_byAlias rfl rfl rfl (by decide +kernel) ⟨Nat.le_of_ble_eq_true rfl, Nat.le_of_ble_eq_true rfl⟩) hc.1.preS rfl rfl hl.1 rfl (lv_room (Nat.le_of_ble_eq_true rfl)) dL_law_2509 ⟨(by show _ + 1 ≤ 601024; omega), (by show _ + 6 ≤ 7293034; omega)⟩) hc (fun x2 g3 H locs hq hc => ?_)
  replace h := hq
  refine W.widen (k := C + 1) (n := S + 6) (by omega) (by omega) ?_
  refine lv_istore (lv' := [(5, .int x2), (0, .ref b), (1, .ref r1), (2, .ref r2), (3, .ref r3), (4, .int i4)]) hx hb dL_law_2512 hl (by decide) rfl (fun ls hl => ?_)
  refine lv_aload_n hx hb dL_law_2514 rfl (lv_at hl 3 rfl) ?_
  refine lv_aload_n hx hb dL_law_2515 rfl (lv_at hl 1 rfl) ?_
  refine lv_iload hx hb dL_law_2516 (lv_at hl 5 rfl) ?_
  refine lv_iconst (v := 1) hx hb dL_law_2518 (by decide) ?_
  refine lv_iadd hx hb dL_law_2519 ?_
  obtain ⟨hi4, h⟩ := h
  refine va_sld hx hb hX hbl hbA hc.1.2.2.2.2.2 hi4 dL_law_2520 ?_
  obtain ⟨hk5, h⟩ := h
  refine l_calli (va_runV (As := [.int (xs (Int32.toNatClampNeg (i4 + 1)))]) (rest := []) CF (c_X11_byAlias h) (cwV 1 hts gL_law_X11_byAlias rfl rfl rfl (by decide +kernel) ⟨Nat.le_of_ble_eq_true rfl, Nat.le_of_ble_eq_true rfl⟩) (hc.swap.1.preV hk5 rfl (by decide)) rfl rfl hl.1 rfl (lv_room (Nat.le_of_ble_eq_true rfl)) dL_law_2521 ⟨(by show _ + 2 ≤ 601024; omega), (by show _ + 260 ≤ 7293034; omega)⟩) hc.swap (fun x6 g7 H locs hq hcs => ?_)
  have hc := hcs.swap
  replace h := hq
  refine W.widen (k := C + 3) (n := S + 266) (by omega) (by omega) ?_
  refine lv_istore (lv' := [(6, .int x6), (5, .int x2), (0, .ref b), (1, .ref r1), (2, .ref r2), (3, .ref r3), (4, .int i4)]) hx hb dL_law_2524 hl (by decide) rfl (fun ls hl => ?_)
  refine lv_aload_n hx hb dL_law_2526 rfl (lv_at hl 4 rfl) ?_
  obtain ⟨hk8, h⟩ := h
  refine l_calli (va_runV (As := []) (rest := []) CF (c_X11_thrown h) (cwV 0 hts gL_law_X11_thrown rfl rfl rfl (by decide +kernel) ⟨Nat.le_of_ble_eq_true rfl, Nat.le_of_ble_eq_true rfl⟩) (hc.swap.1.preV hk8 rfl (by decide)) rfl rfl hl.1 rfl (lv_room (Nat.le_of_ble_eq_true rfl)) dL_law_2527 ⟨(by show _ + 0 ≤ 601024; omega), (by show _ + 0 ≤ 7293034; omega)⟩) hc.swap (fun x9 g10 H locs hq hcs => ?_)
  have hc := hcs.swap
  obtain ⟨rfl, h⟩ := hq
  refine lv_iload hx hb dL_law_2530 (lv_at hl 1 rfl) ?_
  refine lv_icmp_eq (tgt := 2537) hx hb dL_law_2532 (by decide) (fun c11 => ?_) (fun c11 => ?_)
  · replace h := h.1 c11
    refine lv_iload hx hb dL_law_2537 (lv_at hl 1 rfl) ?_
    refine lv_if_ne (tgt := 2554) hx hb dL_law_2539 (by decide) (fun c12 => ?_) (fun c12 => ?_)
    · replace h := h.2 c12
      refine lv_goto (tgt := 2680) hx hb dL_law_2554 (by decide) ?_
      refine lv_iinc (v := (i4 + 5)) (lv' := [(4, .int (i4 + 5)), (6, .int x6), (5, .int x2), (0, .ref b), (1, .ref r1), (2, .ref r2), (3, .ref r3)]) hx hb dL_law_2680 hl (k := 6) rfl rfl (by decide) rfl (fun ls hl => ?_)
      refine lv_goto (tgt := 23) hx hb dL_law_2683 (by decide) ?_
      refine W.widen (k := C + 80) (n := S + 2400) (by omega) (by omega) ?_
      exact hk g3 g7 (i4 + 5) h _ _ _ hc (lv_sub hl [3, 4, 5, 6, 0] rfl)
    · replace h := h.1 c12
      refine lv_aload_n hx hb dL_law_2542 rfl (lv_at hl 5 rfl) ?_
      refine lv_iconst (v := 0) hx hb dL_law_2543 (by decide) ?_
      obtain ⟨hk13, h⟩ := h
      obtain ⟨hi14, h⟩ := h
      refine g_lald CF hc.1 hk13 hi14 dL_law_2544 ?_
      refine lv_iload hx hb dL_law_2545 (lv_at hl 0 rfl) ?_
      refine lv_i2l hx hb dL_law_2547 rfl ?_
      refine W.lcmp hx hb dL_law_2548 ?_
      refine lv_if_eq (tgt := 2554) hx hb dL_law_2549 (by decide) (fun c15 => ?_) (fun c15 => ?_)
      · replace h := h.1 c15
        refine lv_goto (tgt := 2680) hx hb dL_law_2554 (by decide) ?_
        refine lv_iinc (v := (i4 + 5)) (lv' := [(4, .int (i4 + 5)), (6, .int x6), (5, .int x2), (0, .ref b), (1, .ref r1), (2, .ref r2), (3, .ref r3)]) hx hb dL_law_2680 hl (k := 6) rfl rfl (by decide) rfl (fun ls hl => ?_)
        refine lv_goto (tgt := 23) hx hb dL_law_2683 (by decide) ?_
        refine W.widen (k := C + 80) (n := S + 2400) (by omega) (by omega) ?_
        exact hk g3 g7 (i4 + 5) h _ _ _ hc (lv_sub hl [3, 4, 5, 6, 0] rfl)
      · replace h := h.2 c15
        refine lv_iconst (v := 0) hx hb dL_law_2552 (by decide) ?_
        exact h.elim
  · replace h := h.2 c11
    refine lv_iconst (v := 0) hx hb dL_law_2535 (by decide) ?_
    exact h.elim
set_option maxHeartbeats 4000000 in
set_option maxRecDepth 100000 in
theorem c_L_case_2557 {p : Program} {l : Launch} {e : Env} {s : State} {m : MethodId} {below : List Frame} {meth : Method} {c : Code} {b L : Nat} {xs : Nat → Int32} {D : va_G} {cA : Nat → ClassId} (hflags : l.stackTraces = false) (C0 : lw_At p s m meth c b L xs) {C S : Nat} (hC : C + 80 ≤ 601024) (hS : S + 2400 ≤ 7293034) {r1 r2 r3 : Nat} {k : gS → gS → Int32 → Prop} (hk : ∀ (gc gm : gS) (i4 : Int32), k gc gm i4 → ∀ (H : Heap) (locs : List Loc) (ls : Array Slot), gL D cA s gc gm H locs → lv_has ls 9 [(0, .ref b), (1, .ref r1), (2, .ref r2), (3, .ref r3), (4, .int i4)] → W p l e room_1 s m #[Value.ref b] below meth c H locs (C + 80) (S + 2400) (lw_Z below #[Value.ref b] s) (F0 m 23 ls [])) (gc gm : gS) (i4 : Int32) (h : b_L_law_2557 xs L r1 r2 r3 gc gm i4 k) (H : Heap) (locs : List Loc) (ls : Array Slot) (hc : gL D cA s gc gm H locs) (hl : lv_has ls 9 [(0, .ref b), (1, .ref r1), (2, .ref r2), (3, .ref r3), (4, .int i4)]) : W p l e room_1 s m #[Value.ref b] below meth c H locs C S (lw_Z below #[Value.ref b] s) (F0 m 2557 ls []) := by
  obtain ⟨hx, hb, hr, hml, hown, hts0, hX, hbl, hlk, hgv⟩ := id C0
  have hts : ∀ w ∈ wsL_law, w.before #[Value.ref b] s = true := fun w h => hts0 w (wsL_law_in w h)
  have CF : CallFix p m c cL_law 9 s #[Value.ref b] wsL_law RL := ⟨hx, hb, hml, hown, hts⟩
  have hbA : ¬ (fun q : Nat => s.heap.size ≤ q) b := Nat.not_le.mpr hbl
  unfold b_L_law_2557 at h
  refine lv_aload_n hx hb dL_law_2557 rfl (lv_at hl 1 rfl) ?_
  refine lv_aload_n hx hb dL_law_2558 rfl (lv_at hl 0 rfl) ?_
  refine lv_iload hx hb dL_law_2559 (lv_at hl 4 rfl) ?_
  refine lv_iconst (v := 1) hx hb dL_law_2561 (by decide) ?_
  refine lv_iadd hx hb dL_law_2562 ?_
  obtain ⟨hi1, h⟩ := h
  refine va_sld hx hb hX hbl hbA hc.1.2.2.2.2.2 hi1 dL_law_2563 ?_
  refine lv_aload_n hx hb dL_law_2564 rfl (lv_at hl 0 rfl) ?_
  refine lv_iload hx hb dL_law_2565 (lv_at hl 4 rfl) ?_
  refine lv_iconst (v := 2) hx hb dL_law_2567 (by decide) ?_
  refine lv_iadd hx hb dL_law_2568 ?_
  obtain ⟨hi2, h⟩ := h
  refine va_sld hx hb hX hbl hbA hc.1.2.2.2.2.2 hi2 dL_law_2569 ?_
  refine lv_aload_n hx hb dL_law_2570 rfl (lv_at hl 3 rfl) ?_
  refine l_calli (vx_runSW (As := [.ref r1, .int (xs (Int32.toNatClampNeg (i4 + 1))), .int (xs (Int32.toNatClampNeg (i4 + 2))), .ref r3]) (rest := []) CF (c_L_wouldScore hflags h) (vx_cwSW (hh := [(0, 10, 13, 28)]) 4 hts gL_law_L_wouldScore rfl rfl rfl (by decide +kernel) ⟨Nat.le_of_ble_eq_true rfl, Nat.le_of_ble_eq_true rfl⟩) hc.1.preS rfl rfl hl.1 rfl (lv_room (Nat.le_of_ble_eq_true rfl)) dL_law_2571 ⟨(by show _ + 1 ≤ 601024; omega), (by show _ + 6 ≤ 7293034; omega)⟩) hc (fun x3 g4 H locs hq hc => ?_)
  replace h := hq
  refine W.widen (k := C + 1) (n := S + 6) (by omega) (by omega) ?_
  refine lv_istore (lv' := [(5, .int x3), (0, .ref b), (1, .ref r1), (2, .ref r2), (3, .ref r3), (4, .int i4)]) hx hb dL_law_2574 hl (by decide) rfl (fun ls hl => ?_)
  refine lv_aload_n hx hb dL_law_2576 rfl (lv_at hl 3 rfl) ?_
  refine lv_aload_n hx hb dL_law_2577 rfl (lv_at hl 1 rfl) ?_
  refine lv_iload hx hb dL_law_2578 (lv_at hl 5 rfl) ?_
  refine lv_iconst (v := 1) hx hb dL_law_2580 (by decide) ?_
  refine lv_iadd hx hb dL_law_2581 ?_
  obtain ⟨hi5, h⟩ := h
  refine va_sld hx hb hX hbl hbA hc.1.2.2.2.2.2 hi5 dL_law_2582 ?_
  refine lv_aload_n hx hb dL_law_2583 rfl (lv_at hl 1 rfl) ?_
  refine lv_iload hx hb dL_law_2584 (lv_at hl 5 rfl) ?_
  refine lv_iconst (v := 2) hx hb dL_law_2586 (by decide) ?_
  refine lv_iadd hx hb dL_law_2587 ?_
  obtain ⟨hi6, h⟩ := h
  refine va_sld hx hb hX hbl hbA hc.1.2.2.2.2.2 hi6 dL_law_2588 ?_
  obtain ⟨hk7, h⟩ := h
  refine l_calli (va_runV (As := [.int (xs (Int32.toNatClampNeg (i4 + 1))), .int (xs (Int32.toNatClampNeg (i4 + 2)))]) (rest := []) CF (c_X11_wouldScore h) (cwV 2 hts gL_law_X11_wouldScore rfl rfl rfl (by decide +kernel) ⟨Nat.le_of_ble_eq_true rfl, Nat.le_of_ble_eq_true rfl⟩) (hc.swap.1.preV hk7 rfl (by decide)) rfl rfl hl.1 rfl (lv_room (Nat.le_of_ble_eq_true rfl)) dL_law_2589 ⟨(by show _ + 1 ≤ 601024; omega), (by show _ + 60 ≤ 7293034; omega)⟩) hc.swap (fun x8 g9 H locs hq hcs => ?_)
  have hc := hcs.swap
  replace h := hq
  refine W.widen (k := C + 2) (n := S + 66) (by omega) (by omega) ?_
  refine lv_istore (lv' := [(6, .int x8), (5, .int x3), (0, .ref b), (1, .ref r1), (2, .ref r2), (3, .ref r3), (4, .int i4)]) hx hb dL_law_2592 hl (by decide) rfl (fun ls hl => ?_)
  refine lv_aload_n hx hb dL_law_2594 rfl (lv_at hl 4 rfl) ?_
  obtain ⟨hk10, h⟩ := h
  refine l_calli (va_runV (As := []) (rest := []) CF (c_X11_thrown h) (cwV 0 hts gL_law_X11_thrown rfl rfl rfl (by decide +kernel) ⟨Nat.le_of_ble_eq_true rfl, Nat.le_of_ble_eq_true rfl⟩) (hc.swap.1.preV hk10 rfl (by decide)) rfl rfl hl.1 rfl (lv_room (Nat.le_of_ble_eq_true rfl)) dL_law_2595 ⟨(by show _ + 0 ≤ 601024; omega), (by show _ + 0 ≤ 7293034; omega)⟩) hc.swap (fun x11 g12 H locs hq hcs => ?_)
  have hc := hcs.swap
  obtain ⟨rfl, h⟩ := hq
  refine lv_iload hx hb dL_law_2598 (lv_at hl 1 rfl) ?_
  refine lv_icmp_eq (tgt := 2605) hx hb dL_law_2600 (by decide) (fun c13 => ?_) (fun c13 => ?_)
  · replace h := h.1 c13
    refine lv_iload hx hb dL_law_2605 (lv_at hl 1 rfl) ?_
    refine lv_if_ne (tgt := 2622) hx hb dL_law_2607 (by decide) (fun c14 => ?_) (fun c14 => ?_)
    · replace h := h.2 c14
      refine lv_goto (tgt := 2680) hx hb dL_law_2622 (by decide) ?_
      refine lv_iinc (v := (i4 + 5)) (lv' := [(4, .int (i4 + 5)), (6, .int x8), (5, .int x3), (0, .ref b), (1, .ref r1), (2, .ref r2), (3, .ref r3)]) hx hb dL_law_2680 hl (k := 6) rfl rfl (by decide) rfl (fun ls hl => ?_)
      refine lv_goto (tgt := 23) hx hb dL_law_2683 (by decide) ?_
      refine W.widen (k := C + 80) (n := S + 2400) (by omega) (by omega) ?_
      exact hk g4 g9 (i4 + 5) h _ _ _ hc (lv_sub hl [3, 4, 5, 6, 0] rfl)
    · replace h := h.1 c14
      refine lv_aload_n hx hb dL_law_2610 rfl (lv_at hl 5 rfl) ?_
      refine lv_iconst (v := 0) hx hb dL_law_2611 (by decide) ?_
      obtain ⟨hk15, h⟩ := h
      obtain ⟨hi16, h⟩ := h
      refine g_lald CF hc.1 hk15 hi16 dL_law_2612 ?_
      refine lv_iload hx hb dL_law_2613 (lv_at hl 0 rfl) ?_
      refine lv_i2l hx hb dL_law_2615 rfl ?_
      refine W.lcmp hx hb dL_law_2616 ?_
      refine lv_if_eq (tgt := 2622) hx hb dL_law_2617 (by decide) (fun c17 => ?_) (fun c17 => ?_)
      · replace h := h.1 c17
        refine lv_goto (tgt := 2680) hx hb dL_law_2622 (by decide) ?_
        refine lv_iinc (v := (i4 + 5)) (lv' := [(4, .int (i4 + 5)), (6, .int x8), (5, .int x3), (0, .ref b), (1, .ref r1), (2, .ref r2), (3, .ref r3)]) hx hb dL_law_2680 hl (k := 6) rfl rfl (by decide) rfl (fun ls hl => ?_)
        refine lv_goto (tgt := 23) hx hb dL_law_2683 (by decide) ?_
        refine W.widen (k := C + 80) (n := S + 2400) (by omega) (by omega) ?_
        exact hk g4 g9 (i4 + 5) h _ _ _ hc (lv_sub hl [3, 4, 5, 6, 0] rfl)
      · replace h := h.2 c17
        refine lv_iconst (v := 0) hx hb dL_law_2620 (by decide) ?_
        exact h.elim
  · replace h := h.2 c13
    refine lv_iconst (v := 0) hx hb dL_law_2603 (by decide) ?_
    exact h.elim
set_option maxHeartbeats 4000000 in
set_option maxRecDepth 100000 in
theorem c_L_case_2625 {p : Program} {l : Launch} {e : Env} {s : State} {m : MethodId} {below : List Frame} {meth : Method} {c : Code} {b L : Nat} {xs : Nat → Int32} {D : va_G} {cA : Nat → ClassId} (hflags : l.stackTraces = false) (C0 : lw_At p s m meth c b L xs) {C S : Nat} (hC : C + 80 ≤ 601024) (hS : S + 2400 ≤ 7293034) {r1 r2 r3 : Nat} {k : gS → gS → Int32 → Prop} (hk : ∀ (gc gm : gS) (i4 : Int32), k gc gm i4 → ∀ (H : Heap) (locs : List Loc) (ls : Array Slot), gL D cA s gc gm H locs → lv_has ls 9 [(0, .ref b), (1, .ref r1), (2, .ref r2), (3, .ref r3), (4, .int i4)] → W p l e room_1 s m #[Value.ref b] below meth c H locs (C + 80) (S + 2400) (lw_Z below #[Value.ref b] s) (F0 m 23 ls [])) (gc gm : gS) (i4 : Int32) (h : b_L_law_2625 xs L r1 r2 r3 gc gm i4 k) (H : Heap) (locs : List Loc) (ls : Array Slot) (hc : gL D cA s gc gm H locs) (hl : lv_has ls 9 [(0, .ref b), (1, .ref r1), (2, .ref r2), (3, .ref r3), (4, .int i4)]) : W p l e room_1 s m #[Value.ref b] below meth c H locs C S (lw_Z below #[Value.ref b] s) (F0 m 2625 ls []) := by
  obtain ⟨hx, hb, hr, hml, hown, hts0, hX, hbl, hlk, hgv⟩ := id C0
  have hts : ∀ w ∈ wsL_law, w.before #[Value.ref b] s = true := fun w h => hts0 w (wsL_law_in w h)
  have CF : CallFix p m c cL_law 9 s #[Value.ref b] wsL_law RL := ⟨hx, hb, hml, hown, hts⟩
  have hbA : ¬ (fun q : Nat => s.heap.size ≤ q) b := Nat.not_le.mpr hbl
  unfold b_L_law_2625 at h
  refine lv_aload_n hx hb dL_law_2625 rfl (lv_at hl 1 rfl) ?_
  obtain ⟨hk1, h⟩ := h
  refine l_calld (va_runV (As := []) (rest := []) CF (c_X10_waste h) (cwV 0 hts gL_law_X10_waste rfl rfl rfl (by decide +kernel) ⟨Nat.le_of_ble_eq_true rfl, Nat.le_of_ble_eq_true rfl⟩) (hc.1.preV hk1 rfl (by decide)) rfl rfl hl.1 rfl (lv_room (Nat.le_of_ble_eq_true rfl)) dL_law_2626 ⟨(by show _ + 0 ≤ 601024; omega), (by show _ + 0 ≤ 7293034; omega)⟩) hc (fun u2 g3 H locs hq hc => ?_)
  obtain ⟨rfl, h⟩ := hq
  refine lv_dstore (lv' := [(5, .double u2), (0, .ref b), (1, .ref r1), (2, .ref r2), (3, .ref r3), (4, .int i4)]) hx hb dL_law_2629 hl (by decide) rfl (fun ls hl => ?_)
  refine lv_aload_n hx hb dL_law_2631 rfl (lv_at hl 3 rfl) ?_
  obtain ⟨hk4, h⟩ := h
  refine l_calld (va_runV (As := []) (rest := []) CF (c_X11_waste h) (cwV 0 hts gL_law_X11_waste rfl rfl rfl (by decide +kernel) ⟨Nat.le_of_ble_eq_true rfl, Nat.le_of_ble_eq_true rfl⟩) (hc.swap.1.preV hk4 rfl (by decide)) rfl rfl hl.1 rfl (lv_room (Nat.le_of_ble_eq_true rfl)) dL_law_2632 ⟨(by show _ + 0 ≤ 601024; omega), (by show _ + 0 ≤ 7293034; omega)⟩) hc.swap (fun u5 g6 H locs hq hcs => ?_)
  have hc := hcs.swap
  replace h := hq
  refine lv_dstore (lv' := [(7, .double u5), (5, .double u2), (0, .ref b), (1, .ref r1), (2, .ref r2), (3, .ref r3), (4, .int i4)]) hx hb dL_law_2635 hl (by decide) rfl (fun ls hl => ?_)
  refine lv_dload hx hb dL_law_2637 (lv_at hl 1 rfl) ?_
  refine lv_dload hx hb dL_law_2639 (lv_at hl 0 rfl) ?_
  refine lv_dcmp hx hb dL_law_2641 ?_
  refine lv_if_eq (tgt := 2663) hx hb dL_law_2642 (by decide) (fun c7 => ?_) (fun c7 => ?_)
  · replace h := h.1 c7
    refine lv_goto (tgt := 2680) hx hb dL_law_2663 (by decide) ?_
    refine lv_iinc (v := (i4 + 5)) (lv' := [(4, .int (i4 + 5)), (7, .double u5), (5, .double u2), (0, .ref b), (1, .ref r1), (2, .ref r2), (3, .ref r3)]) hx hb dL_law_2680 hl (k := 6) rfl rfl (by decide) rfl (fun ls hl => ?_)
    refine lv_goto (tgt := 23) hx hb dL_law_2683 (by decide) ?_
    refine W.widen (k := C + 80) (n := S + 2400) (by omega) (by omega) ?_
    exact hk gc g6 (i4 + 5) h _ _ _ hc (lv_sub hl [3, 4, 5, 6, 0] rfl)
  · replace h := h.2 c7
    refine lv_dload hx hb dL_law_2645 (lv_at hl 1 rfl) ?_
    refine lv_dload hx hb dL_law_2647 (lv_at hl 1 rfl) ?_
    refine lv_dcmp hx hb dL_law_2649 ?_
    refine lv_if_eq (tgt := 2661) hx hb dL_law_2650 (by decide) (fun c8 => ?_) (fun c8 => ?_)
    · replace h := h.1 c8
      refine lv_iconst (v := 0) hx hb dL_law_2661 (by decide) ?_
      exact h.elim
    · replace h := h.2 c8
      refine lv_dload hx hb dL_law_2653 (lv_at hl 0 rfl) ?_
      refine lv_dload hx hb dL_law_2655 (lv_at hl 0 rfl) ?_
      refine lv_dcmp hx hb dL_law_2657 ?_
      refine lv_if_ne (tgt := 2663) hx hb dL_law_2658 (by decide) (fun c9 => ?_) (fun c9 => ?_)
      · replace h := h.2 c9
        refine lv_goto (tgt := 2680) hx hb dL_law_2663 (by decide) ?_
        refine lv_iinc (v := (i4 + 5)) (lv' := [(4, .int (i4 + 5)), (7, .double u5), (5, .double u2), (0, .ref b), (1, .ref r1), (2, .ref r2), (3, .ref r3)]) hx hb dL_law_2680 hl (k := 6) rfl rfl (by decide) rfl (fun ls hl => ?_)
        refine lv_goto (tgt := 23) hx hb dL_law_2683 (by decide) ?_
        refine W.widen (k := C + 80) (n := S + 2400) (by omega) (by omega) ?_
        exact hk gc g6 (i4 + 5) h _ _ _ hc (lv_sub hl [3, 4, 5, 6, 0] rfl)
      · replace h := h.1 c9
        refine lv_iconst (v := 0) hx hb dL_law_2661 (by decide) ?_
        exact h.elim
set_option maxHeartbeats 4000000 in
set_option maxRecDepth 100000 in
theorem c_L_case_2666 {p : Program} {l : Launch} {e : Env} {s : State} {m : MethodId} {below : List Frame} {meth : Method} {c : Code} {b L : Nat} {xs : Nat → Int32} {D : va_G} {cA : Nat → ClassId} (hflags : l.stackTraces = false) (C0 : lw_At p s m meth c b L xs) {C S : Nat} (hC : C + 80 ≤ 601024) (hS : S + 2400 ≤ 7293034) {r1 r2 r3 : Nat} {k : gS → gS → Int32 → Prop} (hk : ∀ (gc gm : gS) (i4 : Int32), k gc gm i4 → ∀ (H : Heap) (locs : List Loc) (ls : Array Slot), gL D cA s gc gm H locs → lv_has ls 9 [(0, .ref b), (1, .ref r1), (2, .ref r2), (3, .ref r3), (4, .int i4)] → W p l e room_1 s m #[Value.ref b] below meth c H locs (C + 80) (S + 2400) (lw_Z below #[Value.ref b] s) (F0 m 23 ls [])) (gc gm : gS) (i4 : Int32) (h : b_L_law_2666 xs L r1 r2 r3 gc gm i4 k) (H : Heap) (locs : List Loc) (ls : Array Slot) (hc : gL D cA s gc gm H locs) (hl : lv_has ls 9 [(0, .ref b), (1, .ref r1), (2, .ref r2), (3, .ref r3), (4, .int i4)]) : W p l e room_1 s m #[Value.ref b] below meth c H locs C S (lw_Z below #[Value.ref b] s) (F0 m 2666 ls []) := by
  obtain ⟨hx, hb, hr, hml, hown, hts0, hX, hbl, hlk, hgv⟩ := id C0
  have hts : ∀ w ∈ wsL_law, w.before #[Value.ref b] s = true := fun w h => hts0 w (wsL_law_in w h)
  have CF : CallFix p m c cL_law 9 s #[Value.ref b] wsL_law RL := ⟨hx, hb, hml, hown, hts⟩
  have hbA : ¬ (fun q : Nat => s.heap.size ≤ q) b := Nat.not_le.mpr hbl
  unfold b_L_law_2666 at h
  refine lv_aload_n hx hb dL_law_2666 rfl (lv_at hl 1 rfl) ?_
  obtain ⟨hk1, h⟩ := h
  refine l_calll (va_runV (As := []) (rest := []) CF (c_X10_digest h) (cwV 0 hts gL_law_X10_digest rfl rfl rfl (by decide +kernel) ⟨Nat.le_of_ble_eq_true rfl, Nat.le_of_ble_eq_true rfl⟩) (hc.1.preV hk1 rfl (by decide)) rfl rfl hl.1 rfl (lv_room (Nat.le_of_ble_eq_true rfl)) dL_law_2667 ⟨(by show _ + 0 ≤ 601024; omega), (by show _ + 0 ≤ 7293034; omega)⟩) hc (fun z2 g3 H locs hq hc => ?_)
  replace h := hq
  refine lv_aload_n hx hb dL_law_2670 rfl (lv_at hl 2 rfl) ?_
  obtain ⟨hk4, h⟩ := h
  refine l_calll (va_runV (As := []) (rest := [.long z2]) CF (c_X11_digest h) (cwV 0 hts gL_law_X11_digest rfl rfl rfl (by decide +kernel) ⟨Nat.le_of_ble_eq_true rfl, Nat.le_of_ble_eq_true rfl⟩) (hc.swap.1.preV hk4 rfl (by decide)) rfl rfl hl.1 rfl (lv_room (Nat.le_of_ble_eq_true rfl)) dL_law_2671 ⟨(by show _ + 61 ≤ 601024; omega), (by show _ + 1860 ≤ 7293034; omega)⟩) hc.swap (fun z5 g6 H locs hq hcs => ?_)
  have hc := hcs.swap
  replace h := hq
  refine W.widen (k := C + 61) (n := S + 1860) (by omega) (by omega) ?_
  refine W.lcmp hx hb dL_law_2674 ?_
  refine lv_if_eq (tgt := 2680) hx hb dL_law_2675 (by decide) (fun c7 => ?_) (fun c7 => ?_)
  · replace h := h.1 c7
    refine lv_iinc (v := (i4 + 5)) (lv' := [(4, .int (i4 + 5)), (0, .ref b), (1, .ref r1), (2, .ref r2), (3, .ref r3)]) hx hb dL_law_2680 hl (k := 4) rfl rfl (by decide) rfl (fun ls hl => ?_)
    refine lv_goto (tgt := 23) hx hb dL_law_2683 (by decide) ?_
    refine W.widen (k := C + 80) (n := S + 2400) (by omega) (by omega) ?_
    exact hk g3 g6 (i4 + 5) h _ _ _ hc (lv_sub hl [1, 2, 3, 4, 0] rfl)
  · replace h := h.2 c7
    refine lv_iconst (v := 0) hx hb dL_law_2678 (by decide) ?_
    exact h.elim
