set_option maxHeartbeats 4000000 in
set_option maxRecDepth 100000 in
theorem c_L_case_998 {p : Program} {l : Launch} {e : Env} {s : State} {m : MethodId} {below : List Frame} {meth : Method} {c : Code} {b L : Nat} {xs : Nat → Int32} {D : va_G} {cA : Nat → ClassId} (hflags : l.stackTraces = false) (C0 : lw_At p s m meth c b L xs) {C S : Nat} (hC : C + 80 ≤ 601024) (hS : S + 2400 ≤ 7293034) {r1 r2 r3 : Nat} {k : gS → gS → Int32 → Prop} (hk : ∀ (gc gm : gS) (i4 : Int32), k gc gm i4 → ∀ (H : Heap) (locs : List Loc) (ls : Array Slot), gL D cA s gc gm H locs → lv_has ls 9 [(0, .ref b), (1, .ref r1), (2, .ref r2), (3, .ref r3), (4, .int i4)] → W p l e room_1 s m #[Value.ref b] below meth c H locs (C + 80) (S + 2400) (lw_Z below #[Value.ref b] s) (F0 m 23 ls [])) (gc gm : gS) (i4 : Int32) (h : b_L_law_998 xs L r1 r2 r3 gc gm i4 k) (H : Heap) (locs : List Loc) (ls : Array Slot) (hc : gL D cA s gc gm H locs) (hl : lv_has ls 9 [(0, .ref b), (1, .ref r1), (2, .ref r2), (3, .ref r3), (4, .int i4)]) : W p l e room_1 s m #[Value.ref b] below meth c H locs C S (lw_Z below #[Value.ref b] s) (F0 m 998 ls []) := by
  obtain ⟨hx, hb, hr, hml, hown, hts0, hX, hbl, hlk, hgv⟩ := id C0
  have hts : ∀ w ∈ wsL_law, w.before #[Value.ref b] s = true := fun w h => hts0 w (wsL_law_in w h)
  have CF : CallFix p m c cL_law 9 s #[Value.ref b] wsL_law RL := ⟨hx, hb, hml, hown, hts⟩
  have hbA : ¬ (fun q : Nat => s.heap.size ≤ q) b := Nat.not_le.mpr hbl
  unfold b_L_law_998 at h
  refine lv_aload_n hx hb dL_law_998 rfl (lv_at hl 1 rfl) ?_
  refine lv_aload_n hx hb dL_law_999 rfl (lv_at hl 0 rfl) ?_
  refine lv_iload hx hb dL_law_1000 (lv_at hl 4 rfl) ?_
  refine lv_iconst (v := 1) hx hb dL_law_1002 (by decide) ?_
  refine lv_iadd hx hb dL_law_1003 ?_
  obtain ⟨hi1, h⟩ := h
  refine va_sld hx hb hX hbl hbA hc.1.2.2.2.2.2 hi1 dL_law_1004 ?_
  refine lv_aload_n hx hb dL_law_1005 rfl (lv_at hl 0 rfl) ?_
  refine lv_iload hx hb dL_law_1006 (lv_at hl 4 rfl) ?_
  refine lv_iconst (v := 2) hx hb dL_law_1008 (by decide) ?_
  refine lv_iadd hx hb dL_law_1009 ?_
  obtain ⟨hi2, h⟩ := h
  refine va_sld hx hb hX hbl hbA hc.1.2.2.2.2.2 hi2 dL_law_1010 ?_
  refine lv_aload_n hx hb dL_law_1011 rfl (lv_at hl 3 rfl) ?_
  refine l_calli (vx_runSW (As := [.ref r1, .int (xs (Int32.toNatClampNeg (i4 + 1))), .int (xs (Int32.toNatClampNeg (i4 + 2))), .ref r3]) (rest := []) CF (c_L_spread hflags h) (vx_cwSW (hh := [(0, 10, 13, 13)]) 4 hts gL_law_L_spread rfl rfl rfl (by decide +kernel) ⟨Nat.le_of_ble_eq_true rfl, Nat.le_of_ble_eq_true rfl⟩) hc.1.preS rfl rfl hl.1 rfl (lv_room (Nat.le_of_ble_eq_true rfl)) dL_law_1012 ⟨(by show _ + 1 ≤ 601024; omega), (by show _ + 6 ≤ 7293034; omega)⟩) hc (fun x3 g4 H locs hq hc => ?_)
  replace h := hq
  refine W.widen (k := C + 1) (n := S + 6) (by omega) (by omega) ?_
  refine lv_istore (lv' := [(5, .int x3), (0, .ref b), (1, .ref r1), (2, .ref r2), (3, .ref r3), (4, .int i4)]) hx hb dL_law_1015 hl (by decide) rfl (fun ls hl => ?_)
  refine lv_aload_n hx hb dL_law_1017 rfl (lv_at hl 3 rfl) ?_
  refine lv_aload_n hx hb dL_law_1018 rfl (lv_at hl 1 rfl) ?_
  refine lv_iload hx hb dL_law_1019 (lv_at hl 5 rfl) ?_
  refine lv_iconst (v := 1) hx hb dL_law_1021 (by decide) ?_
  refine lv_iadd hx hb dL_law_1022 ?_
  obtain ⟨hi5, h⟩ := h
  refine va_sld hx hb hX hbl hbA hc.1.2.2.2.2.2 hi5 dL_law_1023 ?_
  refine lv_aload_n hx hb dL_law_1024 rfl (lv_at hl 1 rfl) ?_
  refine lv_iload hx hb dL_law_1025 (lv_at hl 5 rfl) ?_
  refine lv_iconst (v := 2) hx hb dL_law_1027 (by decide) ?_
  refine lv_iadd hx hb dL_law_1028 ?_
  obtain ⟨hi6, h⟩ := h
  refine va_sld hx hb hX hbl hbA hc.1.2.2.2.2.2 hi6 dL_law_1029 ?_
  obtain ⟨hk7, h⟩ := h
  refine l_calli (va_runV (As := [.int (xs (Int32.toNatClampNeg (i4 + 1))), .int (xs (Int32.toNatClampNeg (i4 + 2)))]) (rest := []) CF (c_X11_spread h) (cwV 2 hts gL_law_X11_spread rfl rfl rfl (by decide +kernel) ⟨Nat.le_of_ble_eq_true rfl, Nat.le_of_ble_eq_true rfl⟩) (hc.swap.1.preV hk7 rfl (by decide)) rfl rfl hl.1 rfl (lv_room (Nat.le_of_ble_eq_true rfl)) dL_law_1030 ⟨(by show _ + 0 ≤ 601024; omega), (by show _ + 0 ≤ 7293034; omega)⟩) hc.swap (fun x8 g9 H locs hq hcs => ?_)
  have hc := hcs.swap
  replace h := hq
  refine lv_istore (lv' := [(6, .int x8), (5, .int x3), (0, .ref b), (1, .ref r1), (2, .ref r2), (3, .ref r3), (4, .int i4)]) hx hb dL_law_1033 hl (by decide) rfl (fun ls hl => ?_)
  refine lv_aload_n hx hb dL_law_1035 rfl (lv_at hl 4 rfl) ?_
  obtain ⟨hk10, h⟩ := h
  refine l_calli (va_runV (As := []) (rest := []) CF (c_X11_thrown h) (cwV 0 hts gL_law_X11_thrown rfl rfl rfl (by decide +kernel) ⟨Nat.le_of_ble_eq_true rfl, Nat.le_of_ble_eq_true rfl⟩) (hc.swap.1.preV hk10 rfl (by decide)) rfl rfl hl.1 rfl (lv_room (Nat.le_of_ble_eq_true rfl)) dL_law_1036 ⟨(by show _ + 0 ≤ 601024; omega), (by show _ + 0 ≤ 7293034; omega)⟩) hc.swap (fun x11 g12 H locs hq hcs => ?_)
  have hc := hcs.swap
  obtain ⟨rfl, h⟩ := hq
  refine lv_iload hx hb dL_law_1039 (lv_at hl 1 rfl) ?_
  refine lv_icmp_eq (tgt := 1046) hx hb dL_law_1041 (by decide) (fun c13 => ?_) (fun c13 => ?_)
  · replace h := h.1 c13
    refine lv_iload hx hb dL_law_1046 (lv_at hl 1 rfl) ?_
    refine lv_if_ne (tgt := 1063) hx hb dL_law_1048 (by decide) (fun c14 => ?_) (fun c14 => ?_)
    · replace h := h.2 c14
      refine lv_goto (tgt := 2680) hx hb dL_law_1063 (by decide) ?_
      refine lv_iinc (v := (i4 + 5)) (lv' := [(4, .int (i4 + 5)), (6, .int x8), (5, .int x3), (0, .ref b), (1, .ref r1), (2, .ref r2), (3, .ref r3)]) hx hb dL_law_2680 hl (k := 6) rfl rfl (by decide) rfl (fun ls hl => ?_)
      refine lv_goto (tgt := 23) hx hb dL_law_2683 (by decide) ?_
      refine W.widen (k := C + 80) (n := S + 2400) (by omega) (by omega) ?_
      exact hk g4 g9 (i4 + 5) h _ _ _ hc (lv_sub hl [3, 4, 5, 6, 0] rfl)
    · replace h := h.1 c14
      refine lv_aload_n hx hb dL_law_1051 rfl (lv_at hl 5 rfl) ?_
      refine lv_iconst (v := 0) hx hb dL_law_1052 (by decide) ?_
      obtain ⟨hk15, h⟩ := h
      obtain ⟨hi16, h⟩ := h
      refine g_lald CF hc.1 hk15 hi16 dL_law_1053 ?_
      refine lv_iload hx hb dL_law_1054 (lv_at hl 0 rfl) ?_
      refine lv_i2l hx hb dL_law_1056 rfl ?_
      refine W.lcmp hx hb dL_law_1057 ?_
      refine lv_if_eq (tgt := 1063) hx hb dL_law_1058 (by decide) (fun c17 => ?_) (fun c17 => ?_)
      · replace h := h.1 c17
        refine lv_goto (tgt := 2680) hx hb dL_law_1063 (by decide) ?_
        refine lv_iinc (v := (i4 + 5)) (lv' := [(4, .int (i4 + 5)), (6, .int x8), (5, .int x3), (0, .ref b), (1, .ref r1), (2, .ref r2), (3, .ref r3)]) hx hb dL_law_2680 hl (k := 6) rfl rfl (by decide) rfl (fun ls hl => ?_)
        refine lv_goto (tgt := 23) hx hb dL_law_2683 (by decide) ?_
        refine W.widen (k := C + 80) (n := S + 2400) (by omega) (by omega) ?_
        exact hk g4 g9 (i4 + 5) h _ _ _ hc (lv_sub hl [3, 4, 5, 6, 0] rfl)
      · replace h := h.2 c17
        refine lv_iconst (v := 0) hx hb dL_law_1061 (by decide) ?_
        exact h.elim
  · replace h := h.2 c13
    refine lv_iconst (v := 0) hx hb dL_law_1044 (by decide) ?_
    exact h.elim
set_option maxHeartbeats 4000000 in
set_option maxRecDepth 100000 in
theorem c_L_case_1066 {p : Program} {l : Launch} {e : Env} {s : State} {m : MethodId} {below : List Frame} {meth : Method} {c : Code} {b L : Nat} {xs : Nat → Int32} {D : va_G} {cA : Nat → ClassId} (hflags : l.stackTraces = false) (C0 : lw_At p s m meth c b L xs) {C S : Nat} (hC : C + 80 ≤ 601024) (hS : S + 2400 ≤ 7293034) {r1 r2 r3 : Nat} {k : gS → gS → Int32 → Prop} (hk : ∀ (gc gm : gS) (i4 : Int32), k gc gm i4 → ∀ (H : Heap) (locs : List Loc) (ls : Array Slot), gL D cA s gc gm H locs → lv_has ls 9 [(0, .ref b), (1, .ref r1), (2, .ref r2), (3, .ref r3), (4, .int i4)] → W p l e room_1 s m #[Value.ref b] below meth c H locs (C + 80) (S + 2400) (lw_Z below #[Value.ref b] s) (F0 m 23 ls [])) (gc gm : gS) (i4 : Int32) (h : b_L_law_1066 xs L r1 r2 r3 gc gm i4 k) (H : Heap) (locs : List Loc) (ls : Array Slot) (hc : gL D cA s gc gm H locs) (hl : lv_has ls 9 [(0, .ref b), (1, .ref r1), (2, .ref r2), (3, .ref r3), (4, .int i4)]) : W p l e room_1 s m #[Value.ref b] below meth c H locs C S (lw_Z below #[Value.ref b] s) (F0 m 1066 ls []) := by
  obtain ⟨hx, hb, hr, hml, hown, hts0, hX, hbl, hlk, hgv⟩ := id C0
  have hts : ∀ w ∈ wsL_law, w.before #[Value.ref b] s = true := fun w h => hts0 w (wsL_law_in w h)
  have CF : CallFix p m c cL_law 9 s #[Value.ref b] wsL_law RL := ⟨hx, hb, hml, hown, hts⟩
  have hbA : ¬ (fun q : Nat => s.heap.size ≤ q) b := Nat.not_le.mpr hbl
  unfold b_L_law_1066 at h
  refine lv_aload_n hx hb dL_law_1066 rfl (lv_at hl 1 rfl) ?_
  refine lv_aload_n hx hb dL_law_1067 rfl (lv_at hl 0 rfl) ?_
  refine lv_iload hx hb dL_law_1068 (lv_at hl 4 rfl) ?_
  refine lv_iconst (v := 1) hx hb dL_law_1070 (by decide) ?_
  refine lv_iadd hx hb dL_law_1071 ?_
  obtain ⟨hi1, h⟩ := h
  refine va_sld hx hb hX hbl hbA hc.1.2.2.2.2.2 hi1 dL_law_1072 ?_
  refine lv_aload_n hx hb dL_law_1073 rfl (lv_at hl 0 rfl) ?_
  refine lv_iload hx hb dL_law_1074 (lv_at hl 4 rfl) ?_
  refine lv_iconst (v := 2) hx hb dL_law_1076 (by decide) ?_
  refine lv_iadd hx hb dL_law_1077 ?_
  obtain ⟨hi2, h⟩ := h
  refine va_sld hx hb hX hbl hbA hc.1.2.2.2.2.2 hi2 dL_law_1078 ?_
  refine lv_aload_n hx hb dL_law_1079 rfl (lv_at hl 3 rfl) ?_
  refine l_calli (vx_runSW (As := [.ref r1, .int (xs (Int32.toNatClampNeg (i4 + 1))), .int (xs (Int32.toNatClampNeg (i4 + 2))), .ref r3]) (rest := []) CF (c_L_rare hflags h) (vx_cwSW (hh := [(0, 10, 13, 13)]) 4 hts gL_law_L_rare rfl rfl rfl (by decide +kernel) ⟨Nat.le_of_ble_eq_true rfl, Nat.le_of_ble_eq_true rfl⟩) hc.1.preS rfl rfl hl.1 rfl (lv_room (Nat.le_of_ble_eq_true rfl)) dL_law_1080 ⟨(by show _ + 1 ≤ 601024; omega), (by show _ + 6 ≤ 7293034; omega)⟩) hc (fun x3 g4 H locs hq hc => ?_)
  replace h := hq
  refine W.widen (k := C + 1) (n := S + 6) (by omega) (by omega) ?_
  refine lv_istore (lv' := [(5, .int x3), (0, .ref b), (1, .ref r1), (2, .ref r2), (3, .ref r3), (4, .int i4)]) hx hb dL_law_1083 hl (by decide) rfl (fun ls hl => ?_)
  refine lv_aload_n hx hb dL_law_1085 rfl (lv_at hl 3 rfl) ?_
  refine lv_aload_n hx hb dL_law_1086 rfl (lv_at hl 1 rfl) ?_
  refine lv_iload hx hb dL_law_1087 (lv_at hl 5 rfl) ?_
  refine lv_iconst (v := 1) hx hb dL_law_1089 (by decide) ?_
  refine lv_iadd hx hb dL_law_1090 ?_
  obtain ⟨hi5, h⟩ := h
  refine va_sld hx hb hX hbl hbA hc.1.2.2.2.2.2 hi5 dL_law_1091 ?_
  refine lv_aload_n hx hb dL_law_1092 rfl (lv_at hl 1 rfl) ?_
  refine lv_iload hx hb dL_law_1093 (lv_at hl 5 rfl) ?_
  refine lv_iconst (v := 2) hx hb dL_law_1095 (by decide) ?_
  refine lv_iadd hx hb dL_law_1096 ?_
  obtain ⟨hi6, h⟩ := h
  refine va_sld hx hb hX hbl hbA hc.1.2.2.2.2.2 hi6 dL_law_1097 ?_
  obtain ⟨hk7, h⟩ := h
  refine l_calli (va_runV (As := [.int (xs (Int32.toNatClampNeg (i4 + 1))), .int (xs (Int32.toNatClampNeg (i4 + 2)))]) (rest := []) CF (c_X11_rare h) (cwV 2 hts gL_law_X11_rare rfl rfl rfl (by decide +kernel) ⟨Nat.le_of_ble_eq_true rfl, Nat.le_of_ble_eq_true rfl⟩) (hc.swap.1.preV hk7 rfl (by decide)) rfl rfl hl.1 rfl (lv_room (Nat.le_of_ble_eq_true rfl)) dL_law_1098 ⟨(by show _ + 0 ≤ 601024; omega), (by show _ + 0 ≤ 7293034; omega)⟩) hc.swap (fun x8 g9 H locs hq hcs => ?_)
  have hc := hcs.swap
  replace h := hq
  refine lv_istore (lv' := [(6, .int x8), (5, .int x3), (0, .ref b), (1, .ref r1), (2, .ref r2), (3, .ref r3), (4, .int i4)]) hx hb dL_law_1101 hl (by decide) rfl (fun ls hl => ?_)
  refine lv_aload_n hx hb dL_law_1103 rfl (lv_at hl 4 rfl) ?_
  obtain ⟨hk10, h⟩ := h
  refine l_calli (va_runV (As := []) (rest := []) CF (c_X11_thrown h) (cwV 0 hts gL_law_X11_thrown rfl rfl rfl (by decide +kernel) ⟨Nat.le_of_ble_eq_true rfl, Nat.le_of_ble_eq_true rfl⟩) (hc.swap.1.preV hk10 rfl (by decide)) rfl rfl hl.1 rfl (lv_room (Nat.le_of_ble_eq_true rfl)) dL_law_1104 ⟨(by show _ + 0 ≤ 601024; omega), (by show _ + 0 ≤ 7293034; omega)⟩) hc.swap (fun x11 g12 H locs hq hcs => ?_)
  have hc := hcs.swap
  obtain ⟨rfl, h⟩ := hq
  refine lv_iload hx hb dL_law_1107 (lv_at hl 1 rfl) ?_
  refine lv_icmp_eq (tgt := 1114) hx hb dL_law_1109 (by decide) (fun c13 => ?_) (fun c13 => ?_)
  · replace h := h.1 c13
    refine lv_iload hx hb dL_law_1114 (lv_at hl 1 rfl) ?_
    refine lv_if_ne (tgt := 1131) hx hb dL_law_1116 (by decide) (fun c14 => ?_) (fun c14 => ?_)
    · replace h := h.2 c14
      refine lv_goto (tgt := 2680) hx hb dL_law_1131 (by decide) ?_
      refine lv_iinc (v := (i4 + 5)) (lv' := [(4, .int (i4 + 5)), (6, .int x8), (5, .int x3), (0, .ref b), (1, .ref r1), (2, .ref r2), (3, .ref r3)]) hx hb dL_law_2680 hl (k := 6) rfl rfl (by decide) rfl (fun ls hl => ?_)
      refine lv_goto (tgt := 23) hx hb dL_law_2683 (by decide) ?_
      refine W.widen (k := C + 80) (n := S + 2400) (by omega) (by omega) ?_
      exact hk g4 g9 (i4 + 5) h _ _ _ hc (lv_sub hl [3, 4, 5, 6, 0] rfl)
    · replace h := h.1 c14
      refine lv_aload_n hx hb dL_law_1119 rfl (lv_at hl 5 rfl) ?_
      refine lv_iconst (v := 0) hx hb dL_law_1120 (by decide) ?_
      obtain ⟨hk15, h⟩ := h
      obtain ⟨hi16, h⟩ := h
      refine g_lald CF hc.1 hk15 hi16 dL_law_1121 ?_
      refine lv_iload hx hb dL_law_1122 (lv_at hl 0 rfl) ?_
      refine lv_i2l hx hb dL_law_1124 rfl ?_
      refine W.lcmp hx hb dL_law_1125 ?_
      refine lv_if_eq (tgt := 1131) hx hb dL_law_1126 (by decide) (fun c17 => ?_) (fun c17 => ?_)
      · replace h := h.1 c17
        refine lv_goto (tgt := 2680) hx hb dL_law_1131 (by decide) ?_
        refine lv_iinc (v := (i4 + 5)) (lv' := [(4, .int (i4 + 5)), (6, .int x8), (5, .int x3), (0, .ref b), (1, .ref r1), (2, .ref r2), (3, .ref r3)]) hx hb dL_law_2680 hl (k := 6) rfl rfl (by decide) rfl (fun ls hl => ?_)
        refine lv_goto (tgt := 23) hx hb dL_law_2683 (by decide) ?_
        refine W.widen (k := C + 80) (n := S + 2400) (by omega) (by omega) ?_
        exact hk g4 g9 (i4 + 5) h _ _ _ hc (lv_sub hl [3, 4, 5, 6, 0] rfl)
      · replace h := h.2 c17
        refine lv_iconst (v := 0) hx hb dL_law_1129 (by decide) ?_
        exact h.elim
  · replace h := h.2 c13
    refine lv_iconst (v := 0) hx hb dL_law_1112 (by decide) ?_
    exact h.elim
set_option maxHeartbeats 4000000 in
set_option maxRecDepth 100000 in
theorem c_L_case_1134 {p : Program} {l : Launch} {e : Env} {s : State} {m : MethodId} {below : List Frame} {meth : Method} {c : Code} {b L : Nat} {xs : Nat → Int32} {D : va_G} {cA : Nat → ClassId} (hflags : l.stackTraces = false) (C0 : lw_At p s m meth c b L xs) {C S : Nat} (hC : C + 80 ≤ 601024) (hS : S + 2400 ≤ 7293034) {r1 r2 r3 : Nat} {k : gS → gS → Int32 → Prop} (hk : ∀ (gc gm : gS) (i4 : Int32), k gc gm i4 → ∀ (H : Heap) (locs : List Loc) (ls : Array Slot), gL D cA s gc gm H locs → lv_has ls 9 [(0, .ref b), (1, .ref r1), (2, .ref r2), (3, .ref r3), (4, .int i4)] → W p l e room_1 s m #[Value.ref b] below meth c H locs (C + 80) (S + 2400) (lw_Z below #[Value.ref b] s) (F0 m 23 ls [])) (gc gm : gS) (i4 : Int32) (h : b_L_law_1134 xs L r1 r2 r3 gc gm i4 k) (H : Heap) (locs : List Loc) (ls : Array Slot) (hc : gL D cA s gc gm H locs) (hl : lv_has ls 9 [(0, .ref b), (1, .ref r1), (2, .ref r2), (3, .ref r3), (4, .int i4)]) : W p l e room_1 s m #[Value.ref b] below meth c H locs C S (lw_Z below #[Value.ref b] s) (F0 m 1134 ls []) := by
  obtain ⟨hx, hb, hr, hml, hown, hts0, hX, hbl, hlk, hgv⟩ := id C0
  have hts : ∀ w ∈ wsL_law, w.before #[Value.ref b] s = true := fun w h => hts0 w (wsL_law_in w h)
  have CF : CallFix p m c cL_law 9 s #[Value.ref b] wsL_law RL := ⟨hx, hb, hml, hown, hts⟩
  have hbA : ¬ (fun q : Nat => s.heap.size ≤ q) b := Nat.not_le.mpr hbl
  unfold b_L_law_1134 at h
  refine lv_aload_n hx hb dL_law_1134 rfl (lv_at hl 1 rfl) ?_
  refine lv_aload_n hx hb dL_law_1135 rfl (lv_at hl 0 rfl) ?_
  refine lv_iload hx hb dL_law_1136 (lv_at hl 4 rfl) ?_
  refine lv_iconst (v := 1) hx hb dL_law_1138 (by decide) ?_
  refine lv_iadd hx hb dL_law_1139 ?_
  obtain ⟨hi1, h⟩ := h
  refine va_sld hx hb hX hbl hbA hc.1.2.2.2.2.2 hi1 dL_law_1140 ?_
  refine lv_aload_n hx hb dL_law_1141 rfl (lv_at hl 0 rfl) ?_
  refine lv_iload hx hb dL_law_1142 (lv_at hl 4 rfl) ?_
  refine lv_iconst (v := 2) hx hb dL_law_1144 (by decide) ?_
  refine lv_iadd hx hb dL_law_1145 ?_
  obtain ⟨hi2, h⟩ := h
  refine va_sld hx hb hX hbl hbA hc.1.2.2.2.2.2 hi2 dL_law_1146 ?_
  refine lv_aload_n hx hb dL_law_1147 rfl (lv_at hl 3 rfl) ?_
  refine l_calli (vx_runSW (As := [.ref r1, .int (xs (Int32.toNatClampNeg (i4 + 1))), .int (xs (Int32.toNatClampNeg (i4 + 2))), .ref r3]) (rest := []) CF (c_L_term hflags h) (vx_cwSW (hh := [(0, 10, 13, 13), (0, 10, 17, 15)]) 4 hts gL_law_L_term rfl rfl rfl (by decide +kernel) ⟨Nat.le_of_ble_eq_true rfl, Nat.le_of_ble_eq_true rfl⟩) hc.1.preS rfl rfl hl.1 rfl (lv_room (Nat.le_of_ble_eq_true rfl)) dL_law_1148 ⟨(by show _ + 1 ≤ 601024; omega), (by show _ + 13 ≤ 7293034; omega)⟩) hc (fun x3 g4 H locs hq hc => ?_)
  replace h := hq
  refine W.widen (k := C + 1) (n := S + 13) (by omega) (by omega) ?_
  refine lv_istore (lv' := [(5, .int x3), (0, .ref b), (1, .ref r1), (2, .ref r2), (3, .ref r3), (4, .int i4)]) hx hb dL_law_1151 hl (by decide) rfl (fun ls hl => ?_)
  refine lv_aload_n hx hb dL_law_1153 rfl (lv_at hl 3 rfl) ?_
  refine lv_aload_n hx hb dL_law_1154 rfl (lv_at hl 1 rfl) ?_
  refine lv_iload hx hb dL_law_1155 (lv_at hl 5 rfl) ?_
  refine lv_iconst (v := 1) hx hb dL_law_1157 (by decide) ?_
  refine lv_iadd hx hb dL_law_1158 ?_
  obtain ⟨hi5, h⟩ := h
  refine va_sld hx hb hX hbl hbA hc.1.2.2.2.2.2 hi5 dL_law_1159 ?_
  refine lv_aload_n hx hb dL_law_1160 rfl (lv_at hl 1 rfl) ?_
  refine lv_iload hx hb dL_law_1161 (lv_at hl 5 rfl) ?_
  refine lv_iconst (v := 2) hx hb dL_law_1163 (by decide) ?_
  refine lv_iadd hx hb dL_law_1164 ?_
  obtain ⟨hi6, h⟩ := h
  refine va_sld hx hb hX hbl hbA hc.1.2.2.2.2.2 hi6 dL_law_1165 ?_
  obtain ⟨hk7, h⟩ := h
  refine l_calli (va_runV (As := [.int (xs (Int32.toNatClampNeg (i4 + 1))), .int (xs (Int32.toNatClampNeg (i4 + 2)))]) (rest := []) CF (c_X11_term h) (cwV 2 hts gL_law_X11_term rfl rfl rfl (by decide +kernel) ⟨Nat.le_of_ble_eq_true rfl, Nat.le_of_ble_eq_true rfl⟩) (hc.swap.1.preV hk7 rfl (by decide)) rfl rfl hl.1 rfl (lv_room (Nat.le_of_ble_eq_true rfl)) dL_law_1166 ⟨(by show _ + 0 ≤ 601024; omega), (by show _ + 0 ≤ 7293034; omega)⟩) hc.swap (fun x8 g9 H locs hq hcs => ?_)
  have hc := hcs.swap
  replace h := hq
  refine lv_istore (lv' := [(6, .int x8), (5, .int x3), (0, .ref b), (1, .ref r1), (2, .ref r2), (3, .ref r3), (4, .int i4)]) hx hb dL_law_1169 hl (by decide) rfl (fun ls hl => ?_)
  refine lv_aload_n hx hb dL_law_1171 rfl (lv_at hl 4 rfl) ?_
  obtain ⟨hk10, h⟩ := h
  refine l_calli (va_runV (As := []) (rest := []) CF (c_X11_thrown h) (cwV 0 hts gL_law_X11_thrown rfl rfl rfl (by decide +kernel) ⟨Nat.le_of_ble_eq_true rfl, Nat.le_of_ble_eq_true rfl⟩) (hc.swap.1.preV hk10 rfl (by decide)) rfl rfl hl.1 rfl (lv_room (Nat.le_of_ble_eq_true rfl)) dL_law_1172 ⟨(by show _ + 0 ≤ 601024; omega), (by show _ + 0 ≤ 7293034; omega)⟩) hc.swap (fun x11 g12 H locs hq hcs => ?_)
  have hc := hcs.swap
  obtain ⟨rfl, h⟩ := hq
  refine lv_iload hx hb dL_law_1175 (lv_at hl 1 rfl) ?_
  refine lv_icmp_eq (tgt := 1182) hx hb dL_law_1177 (by decide) (fun c13 => ?_) (fun c13 => ?_)
  · replace h := h.1 c13
    refine lv_iload hx hb dL_law_1182 (lv_at hl 1 rfl) ?_
    refine lv_if_ne (tgt := 1199) hx hb dL_law_1184 (by decide) (fun c14 => ?_) (fun c14 => ?_)
    · replace h := h.2 c14
      refine lv_goto (tgt := 2680) hx hb dL_law_1199 (by decide) ?_
      refine lv_iinc (v := (i4 + 5)) (lv' := [(4, .int (i4 + 5)), (6, .int x8), (5, .int x3), (0, .ref b), (1, .ref r1), (2, .ref r2), (3, .ref r3)]) hx hb dL_law_2680 hl (k := 6) rfl rfl (by decide) rfl (fun ls hl => ?_)
      refine lv_goto (tgt := 23) hx hb dL_law_2683 (by decide) ?_
      refine W.widen (k := C + 80) (n := S + 2400) (by omega) (by omega) ?_
      exact hk g4 g9 (i4 + 5) h _ _ _ hc (lv_sub hl [3, 4, 5, 6, 0] rfl)
    · replace h := h.1 c14
      refine lv_aload_n hx hb dL_law_1187 rfl (lv_at hl 5 rfl) ?_
      refine lv_iconst (v := 0) hx hb dL_law_1188 (by decide) ?_
      obtain ⟨hk15, h⟩ := h
      obtain ⟨hi16, h⟩ := h
      refine g_lald CF hc.1 hk15 hi16 dL_law_1189 ?_
      refine lv_iload hx hb dL_law_1190 (lv_at hl 0 rfl) ?_
      refine lv_i2l hx hb dL_law_1192 rfl ?_
      refine W.lcmp hx hb dL_law_1193 ?_
      refine lv_if_eq (tgt := 1199) hx hb dL_law_1194 (by decide) (fun c17 => ?_) (fun c17 => ?_)
      · replace h := h.1 c17
        refine lv_goto (tgt := 2680) hx hb dL_law_1199 (by decide) ?_
        refine lv_iinc (v := (i4 + 5)) (lv' := [(4, .int (i4 + 5)), (6, .int x8), (5, .int x3), (0, .ref b), (1, .ref r1), (2, .ref r2), (3, .ref r3)]) hx hb dL_law_2680 hl (k := 6) rfl rfl (by decide) rfl (fun ls hl => ?_)
        refine lv_goto (tgt := 23) hx hb dL_law_2683 (by decide) ?_
        refine W.widen (k := C + 80) (n := S + 2400) (by omega) (by omega) ?_
        exact hk g4 g9 (i4 + 5) h _ _ _ hc (lv_sub hl [3, 4, 5, 6, 0] rfl)
      · replace h := h.2 c17
        refine lv_iconst (v := 0) hx hb dL_law_1197 (by decide) ?_
        exact h.elim
  · replace h := h.2 c13
    refine lv_iconst (v := 0) hx hb dL_law_1180 (by decide) ?_
    exact h.elim
set_option maxHeartbeats 4000000 in
set_option maxRecDepth 100000 in
theorem c_L_case_1202 {p : Program} {l : Launch} {e : Env} {s : State} {m : MethodId} {below : List Frame} {meth : Method} {c : Code} {b L : Nat} {xs : Nat → Int32} {D : va_G} {cA : Nat → ClassId} (hflags : l.stackTraces = false) (C0 : lw_At p s m meth c b L xs) {C S : Nat} (hC : C + 80 ≤ 601024) (hS : S + 2400 ≤ 7293034) {r1 r2 r3 : Nat} {k : gS → gS → Int32 → Prop} (hk : ∀ (gc gm : gS) (i4 : Int32), k gc gm i4 → ∀ (H : Heap) (locs : List Loc) (ls : Array Slot), gL D cA s gc gm H locs → lv_has ls 9 [(0, .ref b), (1, .ref r1), (2, .ref r2), (3, .ref r3), (4, .int i4)] → W p l e room_1 s m #[Value.ref b] below meth c H locs (C + 80) (S + 2400) (lw_Z below #[Value.ref b] s) (F0 m 23 ls [])) (gc gm : gS) (i4 : Int32) (h : b_L_law_1202 xs L r1 r2 r3 gc gm i4 k) (H : Heap) (locs : List Loc) (ls : Array Slot) (hc : gL D cA s gc gm H locs) (hl : lv_has ls 9 [(0, .ref b), (1, .ref r1), (2, .ref r2), (3, .ref r3), (4, .int i4)]) : W p l e room_1 s m #[Value.ref b] below meth c H locs C S (lw_Z below #[Value.ref b] s) (F0 m 1202 ls []) := by
  obtain ⟨hx, hb, hr, hml, hown, hts0, hX, hbl, hlk, hgv⟩ := id C0
  have hts : ∀ w ∈ wsL_law, w.before #[Value.ref b] s = true := fun w h => hts0 w (wsL_law_in w h)
  have CF : CallFix p m c cL_law 9 s #[Value.ref b] wsL_law RL := ⟨hx, hb, hml, hown, hts⟩
  have hbA : ¬ (fun q : Nat => s.heap.size ≤ q) b := Nat.not_le.mpr hbl
  unfold b_L_law_1202 at h
  refine lv_aload_n hx hb dL_law_1202 rfl (lv_at hl 1 rfl) ?_
  refine lv_aload_n hx hb dL_law_1203 rfl (lv_at hl 0 rfl) ?_
  refine lv_iload hx hb dL_law_1204 (lv_at hl 4 rfl) ?_
  refine lv_iconst (v := 1) hx hb dL_law_1206 (by decide) ?_
  refine lv_iadd hx hb dL_law_1207 ?_
  obtain ⟨hi1, h⟩ := h
  refine va_sld hx hb hX hbl hbA hc.1.2.2.2.2.2 hi1 dL_law_1208 ?_
  refine lv_aload_n hx hb dL_law_1209 rfl (lv_at hl 0 rfl) ?_
  refine lv_iload hx hb dL_law_1210 (lv_at hl 4 rfl) ?_
  refine lv_iconst (v := 2) hx hb dL_law_1212 (by decide) ?_
  refine lv_iadd hx hb dL_law_1213 ?_
  obtain ⟨hi2, h⟩ := h
  refine va_sld hx hb hX hbl hbA hc.1.2.2.2.2.2 hi2 dL_law_1214 ?_
  refine lv_aload_n hx hb dL_law_1215 rfl (lv_at hl 3 rfl) ?_
  refine l_calli (vx_runSW (As := [.ref r1, .int (xs (Int32.toNatClampNeg (i4 + 1))), .int (xs (Int32.toNatClampNeg (i4 + 2))), .ref r3]) (rest := []) CF (c_L_and hflags h) (vx_cwSW (hh := [(0, 10, 13, 28), (0, 10, 17, 15)]) 4 hts gL_law_L_and rfl rfl rfl (by decide +kernel) ⟨Nat.le_of_ble_eq_true rfl, Nat.le_of_ble_eq_true rfl⟩) hc.1.preS rfl rfl hl.1 rfl (lv_room (Nat.le_of_ble_eq_true rfl)) dL_law_1216 ⟨(by show _ + 1 ≤ 601024; omega), (by show _ + 13 ≤ 7293034; omega)⟩) hc (fun x3 g4 H locs hq hc => ?_)
  replace h := hq
  refine W.widen (k := C + 1) (n := S + 13) (by omega) (by omega) ?_
  refine lv_istore (lv' := [(5, .int x3), (0, .ref b), (1, .ref r1), (2, .ref r2), (3, .ref r3), (4, .int i4)]) hx hb dL_law_1219 hl (by decide) rfl (fun ls hl => ?_)
  refine lv_aload_n hx hb dL_law_1221 rfl (lv_at hl 3 rfl) ?_
  refine lv_aload_n hx hb dL_law_1222 rfl (lv_at hl 1 rfl) ?_
  refine lv_iload hx hb dL_law_1223 (lv_at hl 5 rfl) ?_
  refine lv_iconst (v := 1) hx hb dL_law_1225 (by decide) ?_
  refine lv_iadd hx hb dL_law_1226 ?_
  obtain ⟨hi5, h⟩ := h
  refine va_sld hx hb hX hbl hbA hc.1.2.2.2.2.2 hi5 dL_law_1227 ?_
  refine lv_aload_n hx hb dL_law_1228 rfl (lv_at hl 1 rfl) ?_
  refine lv_iload hx hb dL_law_1229 (lv_at hl 5 rfl) ?_
  refine lv_iconst (v := 2) hx hb dL_law_1231 (by decide) ?_
  refine lv_iadd hx hb dL_law_1232 ?_
  obtain ⟨hi6, h⟩ := h
  refine va_sld hx hb hX hbl hbA hc.1.2.2.2.2.2 hi6 dL_law_1233 ?_
  obtain ⟨hk7, h⟩ := h
  refine l_calli (va_runV (As := [.int (xs (Int32.toNatClampNeg (i4 + 1))), .int (xs (Int32.toNatClampNeg (i4 + 2)))]) (rest := []) CF (c_X11_and h) (cwV 2 hts gL_law_X11_and rfl rfl rfl (by decide +kernel) ⟨Nat.le_of_ble_eq_true rfl, Nat.le_of_ble_eq_true rfl⟩) (hc.swap.1.preV hk7 rfl (by decide)) rfl rfl hl.1 rfl (lv_room (Nat.le_of_ble_eq_true rfl)) dL_law_1234 ⟨(by show _ + 0 ≤ 601024; omega), (by show _ + 0 ≤ 7293034; omega)⟩) hc.swap (fun x8 g9 H locs hq hcs => ?_)
  have hc := hcs.swap
  replace h := hq
  refine lv_istore (lv' := [(6, .int x8), (5, .int x3), (0, .ref b), (1, .ref r1), (2, .ref r2), (3, .ref r3), (4, .int i4)]) hx hb dL_law_1237 hl (by decide) rfl (fun ls hl => ?_)
  refine lv_aload_n hx hb dL_law_1239 rfl (lv_at hl 4 rfl) ?_
  obtain ⟨hk10, h⟩ := h
  refine l_calli (va_runV (As := []) (rest := []) CF (c_X11_thrown h) (cwV 0 hts gL_law_X11_thrown rfl rfl rfl (by decide +kernel) ⟨Nat.le_of_ble_eq_true rfl, Nat.le_of_ble_eq_true rfl⟩) (hc.swap.1.preV hk10 rfl (by decide)) rfl rfl hl.1 rfl (lv_room (Nat.le_of_ble_eq_true rfl)) dL_law_1240 ⟨(by show _ + 0 ≤ 601024; omega), (by show _ + 0 ≤ 7293034; omega)⟩) hc.swap (fun x11 g12 H locs hq hcs => ?_)
  have hc := hcs.swap
  obtain ⟨rfl, h⟩ := hq
  refine lv_iload hx hb dL_law_1243 (lv_at hl 1 rfl) ?_
  refine lv_icmp_eq (tgt := 1250) hx hb dL_law_1245 (by decide) (fun c13 => ?_) (fun c13 => ?_)
  · replace h := h.1 c13
    refine lv_iload hx hb dL_law_1250 (lv_at hl 1 rfl) ?_
    refine lv_if_ne (tgt := 1267) hx hb dL_law_1252 (by decide) (fun c14 => ?_) (fun c14 => ?_)
    · replace h := h.2 c14
      refine lv_goto (tgt := 2680) hx hb dL_law_1267 (by decide) ?_
      refine lv_iinc (v := (i4 + 5)) (lv' := [(4, .int (i4 + 5)), (6, .int x8), (5, .int x3), (0, .ref b), (1, .ref r1), (2, .ref r2), (3, .ref r3)]) hx hb dL_law_2680 hl (k := 6) rfl rfl (by decide) rfl (fun ls hl => ?_)
      refine lv_goto (tgt := 23) hx hb dL_law_2683 (by decide) ?_
      refine W.widen (k := C + 80) (n := S + 2400) (by omega) (by omega) ?_
      exact hk g4 g9 (i4 + 5) h _ _ _ hc (lv_sub hl [3, 4, 5, 6, 0] rfl)
    · replace h := h.1 c14
      refine lv_aload_n hx hb dL_law_1255 rfl (lv_at hl 5 rfl) ?_
      refine lv_iconst (v := 0) hx hb dL_law_1256 (by decide) ?_
      obtain ⟨hk15, h⟩ := h
      obtain ⟨hi16, h⟩ := h
      refine g_lald CF hc.1 hk15 hi16 dL_law_1257 ?_
      refine lv_iload hx hb dL_law_1258 (lv_at hl 0 rfl) ?_
      refine lv_i2l hx hb dL_law_1260 rfl ?_
      refine W.lcmp hx hb dL_law_1261 ?_
      refine lv_if_eq (tgt := 1267) hx hb dL_law_1262 (by decide) (fun c17 => ?_) (fun c17 => ?_)
      · replace h := h.1 c17
        refine lv_goto (tgt := 2680) hx hb dL_law_1267 (by decide) ?_
        refine lv_iinc (v := (i4 + 5)) (lv' := [(4, .int (i4 + 5)), (6, .int x8), (5, .int x3), (0, .ref b), (1, .ref r1), (2, .ref r2), (3, .ref r3)]) hx hb dL_law_2680 hl (k := 6) rfl rfl (by decide) rfl (fun ls hl => ?_)
        refine lv_goto (tgt := 23) hx hb dL_law_2683 (by decide) ?_
        refine W.widen (k := C + 80) (n := S + 2400) (by omega) (by omega) ?_
        exact hk g4 g9 (i4 + 5) h _ _ _ hc (lv_sub hl [3, 4, 5, 6, 0] rfl)
      · replace h := h.2 c17
        refine lv_iconst (v := 0) hx hb dL_law_1265 (by decide) ?_
        exact h.elim
  · replace h := h.2 c13
    refine lv_iconst (v := 0) hx hb dL_law_1248 (by decide) ?_
    exact h.elim
set_option maxHeartbeats 4000000 in
set_option maxRecDepth 100000 in
theorem c_L_case_1270 {p : Program} {l : Launch} {e : Env} {s : State} {m : MethodId} {below : List Frame} {meth : Method} {c : Code} {b L : Nat} {xs : Nat → Int32} {D : va_G} {cA : Nat → ClassId} (hflags : l.stackTraces = false) (C0 : lw_At p s m meth c b L xs) {C S : Nat} (hC : C + 80 ≤ 601024) (hS : S + 2400 ≤ 7293034) {r1 r2 r3 : Nat} {k : gS → gS → Int32 → Prop} (hk : ∀ (gc gm : gS) (i4 : Int32), k gc gm i4 → ∀ (H : Heap) (locs : List Loc) (ls : Array Slot), gL D cA s gc gm H locs → lv_has ls 9 [(0, .ref b), (1, .ref r1), (2, .ref r2), (3, .ref r3), (4, .int i4)] → W p l e room_1 s m #[Value.ref b] below meth c H locs (C + 80) (S + 2400) (lw_Z below #[Value.ref b] s) (F0 m 23 ls [])) (gc gm : gS) (i4 : Int32) (h : b_L_law_1270 xs L r1 r2 r3 gc gm i4 k) (H : Heap) (locs : List Loc) (ls : Array Slot) (hc : gL D cA s gc gm H locs) (hl : lv_has ls 9 [(0, .ref b), (1, .ref r1), (2, .ref r2), (3, .ref r3), (4, .int i4)]) : W p l e room_1 s m #[Value.ref b] below meth c H locs C S (lw_Z below #[Value.ref b] s) (F0 m 1270 ls []) := by
  obtain ⟨hx, hb, hr, hml, hown, hts0, hX, hbl, hlk, hgv⟩ := id C0
  have hts : ∀ w ∈ wsL_law, w.before #[Value.ref b] s = true := fun w h => hts0 w (wsL_law_in w h)
  have CF : CallFix p m c cL_law 9 s #[Value.ref b] wsL_law RL := ⟨hx, hb, hml, hown, hts⟩
  have hbA : ¬ (fun q : Nat => s.heap.size ≤ q) b := Nat.not_le.mpr hbl
  unfold b_L_law_1270 at h
  refine lv_aload_n hx hb dL_law_1270 rfl (lv_at hl 1 rfl) ?_
  refine lv_aload_n hx hb dL_law_1271 rfl (lv_at hl 0 rfl) ?_
  refine lv_iload hx hb dL_law_1272 (lv_at hl 4 rfl) ?_
  refine lv_iconst (v := 1) hx hb dL_law_1274 (by decide) ?_
  refine lv_iadd hx hb dL_law_1275 ?_
  obtain ⟨hi1, h⟩ := h
  refine va_sld hx hb hX hbl hbA hc.1.2.2.2.2.2 hi1 dL_law_1276 ?_
  refine lv_aload_n hx hb dL_law_1277 rfl (lv_at hl 0 rfl) ?_
  refine lv_iload hx hb dL_law_1278 (lv_at hl 4 rfl) ?_
  refine lv_iconst (v := 2) hx hb dL_law_1280 (by decide) ?_
  refine lv_iadd hx hb dL_law_1281 ?_
  obtain ⟨hi2, h⟩ := h
  refine va_sld hx hb hX hbl hbA hc.1.2.2.2.2.2 hi2 dL_law_1282 ?_
  refine lv_aload_n hx hb dL_law_1283 rfl (lv_at hl 3 rfl) ?_
  refine l_calli (vx_runSW (As := [.ref r1, .int (xs (Int32.toNatClampNeg (i4 + 1))), .int (xs (Int32.toNatClampNeg (i4 + 2))), .ref r3]) (rest := []) CF (c_L_or hflags h) (vx_cwSW (hh := [(0, 10, 13, 28), (0, 10, 17, 15)]) 4 hts gL_law_L_or rfl rfl rfl (by decide +kernel) ⟨Nat.le_of_ble_eq_true rfl, Nat.le_of_ble_eq_true rfl⟩) hc.1.preS rfl rfl hl.1 rfl (lv_room (Nat.le_of_ble_eq_true rfl)) dL_law_1284 ⟨(by show _ + 1 ≤ 601024; omega), (by show _ + 13 ≤ 7293034; omega)⟩) hc (fun x3 g4 H locs hq hc => ?_)
  replace h := hq
  refine W.widen (k := C + 1) (n := S + 13) (by omega) (by omega) ?_
  refine lv_istore (lv' := [(5, .int x3), (0, .ref b), (1, .ref r1), (2, .ref r2), (3, .ref r3), (4, .int i4)]) hx hb dL_law_1287 hl (by decide) rfl (fun ls hl => ?_)
  refine lv_aload_n hx hb dL_law_1289 rfl (lv_at hl 3 rfl) ?_
  refine lv_aload_n hx hb dL_law_1290 rfl (lv_at hl 1 rfl) ?_
  refine lv_iload hx hb dL_law_1291 (lv_at hl 5 rfl) ?_
  refine lv_iconst (v := 1) hx hb dL_law_1293 (by decide) ?_
  refine lv_iadd hx hb dL_law_1294 ?_
  obtain ⟨hi5, h⟩ := h
  refine va_sld hx hb hX hbl hbA hc.1.2.2.2.2.2 hi5 dL_law_1295 ?_
  refine lv_aload_n hx hb dL_law_1296 rfl (lv_at hl 1 rfl) ?_
  refine lv_iload hx hb dL_law_1297 (lv_at hl 5 rfl) ?_
  refine lv_iconst (v := 2) hx hb dL_law_1299 (by decide) ?_
  refine lv_iadd hx hb dL_law_1300 ?_
  obtain ⟨hi6, h⟩ := h
  refine va_sld hx hb hX hbl hbA hc.1.2.2.2.2.2 hi6 dL_law_1301 ?_
  obtain ⟨hk7, h⟩ := h
  refine l_calli (va_runV (As := [.int (xs (Int32.toNatClampNeg (i4 + 1))), .int (xs (Int32.toNatClampNeg (i4 + 2)))]) (rest := []) CF (c_X11_or h) (cwV 2 hts gL_law_X11_or rfl rfl rfl (by decide +kernel) ⟨Nat.le_of_ble_eq_true rfl, Nat.le_of_ble_eq_true rfl⟩) (hc.swap.1.preV hk7 rfl (by decide)) rfl rfl hl.1 rfl (lv_room (Nat.le_of_ble_eq_true rfl)) dL_law_1302 ⟨(by show _ + 0 ≤ 601024; omega), (by show _ + 0 ≤ 7293034; omega)⟩) hc.swap (fun x8 g9 H locs hq hcs => ?_)
  have hc := hcs.swap
  replace h := hq
  refine lv_istore (lv' := [(6, .int x8), (5, .int x3), (0, .ref b), (1, .ref r1), (2, .ref r2), (3, .ref r3), (4, .int i4)]) hx hb dL_law_1305 hl (by decide) rfl (fun ls hl => ?_)
  refine lv_aload_n hx hb dL_law_1307 rfl (lv_at hl 4 rfl) ?_
  obtain ⟨hk10, h⟩ := h
  refine l_calli (va_runV (As := []) (rest := []) CF (c_X11_thrown h) (cwV 0 hts gL_law_X11_thrown rfl rfl rfl (by decide +kernel) ⟨Nat.le_of_ble_eq_true rfl, Nat.le_of_ble_eq_true rfl⟩) (hc.swap.1.preV hk10 rfl (by decide)) rfl rfl hl.1 rfl (lv_room (Nat.le_of_ble_eq_true rfl)) dL_law_1308 ⟨(by show _ + 0 ≤ 601024; omega), (by show _ + 0 ≤ 7293034; omega)⟩) hc.swap (fun x11 g12 H locs hq hcs => ?_)
  have hc := hcs.swap
  obtain ⟨rfl, h⟩ := hq
  refine lv_iload hx hb dL_law_1311 (lv_at hl 1 rfl) ?_
  refine lv_icmp_eq (tgt := 1318) hx hb dL_law_1313 (by decide) (fun c13 => ?_) (fun c13 => ?_)
  · replace h := h.1 c13
    refine lv_iload hx hb dL_law_1318 (lv_at hl 1 rfl) ?_
    refine lv_if_ne (tgt := 1335) hx hb dL_law_1320 (by decide) (fun c14 => ?_) (fun c14 => ?_)
    · replace h := h.2 c14
      refine lv_goto (tgt := 2680) hx hb dL_law_1335 (by decide) ?_
      refine lv_iinc (v := (i4 + 5)) (lv' := [(4, .int (i4 + 5)), (6, .int x8), (5, .int x3), (0, .ref b), (1, .ref r1), (2, .ref r2), (3, .ref r3)]) hx hb dL_law_2680 hl (k := 6) rfl rfl (by decide) rfl (fun ls hl => ?_)
      refine lv_goto (tgt := 23) hx hb dL_law_2683 (by decide) ?_
      refine W.widen (k := C + 80) (n := S + 2400) (by omega) (by omega) ?_
      exact hk g4 g9 (i4 + 5) h _ _ _ hc (lv_sub hl [3, 4, 5, 6, 0] rfl)
    · replace h := h.1 c14
      refine lv_aload_n hx hb dL_law_1323 rfl (lv_at hl 5 rfl) ?_
      refine lv_iconst (v := 0) hx hb dL_law_1324 (by decide) ?_
      obtain ⟨hk15, h⟩ := h
      obtain ⟨hi16, h⟩ := h
      refine g_lald CF hc.1 hk15 hi16 dL_law_1325 ?_
      refine lv_iload hx hb dL_law_1326 (lv_at hl 0 rfl) ?_
      refine lv_i2l hx hb dL_law_1328 rfl ?_
      refine W.lcmp hx hb dL_law_1329 ?_
      refine lv_if_eq (tgt := 1335) hx hb dL_law_1330 (by decide) (fun c17 => ?_) (fun c17 => ?_)
      · replace h := h.1 c17
        refine lv_goto (tgt := 2680) hx hb dL_law_1335 (by decide) ?_
        refine lv_iinc (v := (i4 + 5)) (lv' := [(4, .int (i4 + 5)), (6, .int x8), (5, .int x3), (0, .ref b), (1, .ref r1), (2, .ref r2), (3, .ref r3)]) hx hb dL_law_2680 hl (k := 6) rfl rfl (by decide) rfl (fun ls hl => ?_)
        refine lv_goto (tgt := 23) hx hb dL_law_2683 (by decide) ?_
        refine W.widen (k := C + 80) (n := S + 2400) (by omega) (by omega) ?_
        exact hk g4 g9 (i4 + 5) h _ _ _ hc (lv_sub hl [3, 4, 5, 6, 0] rfl)
      · replace h := h.2 c17
        refine lv_iconst (v := 0) hx hb dL_law_1333 (by decide) ?_
        exact h.elim
  · replace h := h.2 c13
    refine lv_iconst (v := 0) hx hb dL_law_1316 (by decide) ?_
    exact h.elim
set_option maxHeartbeats 4000000 in
set_option maxRecDepth 100000 in
theorem c_L_case_1338 {p : Program} {l : Launch} {e : Env} {s : State} {m : MethodId} {below : List Frame} {meth : Method} {c : Code} {b L : Nat} {xs : Nat → Int32} {D : va_G} {cA : Nat → ClassId} (hflags : l.stackTraces = false) (C0 : lw_At p s m meth c b L xs) {C S : Nat} (hC : C + 80 ≤ 601024) (hS : S + 2400 ≤ 7293034) {r1 r2 r3 : Nat} {k : gS → gS → Int32 → Prop} (hk : ∀ (gc gm : gS) (i4 : Int32), k gc gm i4 → ∀ (H : Heap) (locs : List Loc) (ls : Array Slot), gL D cA s gc gm H locs → lv_has ls 9 [(0, .ref b), (1, .ref r1), (2, .ref r2), (3, .ref r3), (4, .int i4)] → W p l e room_1 s m #[Value.ref b] below meth c H locs (C + 80) (S + 2400) (lw_Z below #[Value.ref b] s) (F0 m 23 ls [])) (gc gm : gS) (i4 : Int32) (h : b_L_law_1338 xs L r1 r2 r3 gc gm i4 k) (H : Heap) (locs : List Loc) (ls : Array Slot) (hc : gL D cA s gc gm H locs) (hl : lv_has ls 9 [(0, .ref b), (1, .ref r1), (2, .ref r2), (3, .ref r3), (4, .int i4)]) : W p l e room_1 s m #[Value.ref b] below meth c H locs C S (lw_Z below #[Value.ref b] s) (F0 m 1338 ls []) := by
  obtain ⟨hx, hb, hr, hml, hown, hts0, hX, hbl, hlk, hgv⟩ := id C0
  have hts : ∀ w ∈ wsL_law, w.before #[Value.ref b] s = true := fun w h => hts0 w (wsL_law_in w h)
  have CF : CallFix p m c cL_law 9 s #[Value.ref b] wsL_law RL := ⟨hx, hb, hml, hown, hts⟩
  have hbA : ¬ (fun q : Nat => s.heap.size ≤ q) b := Nat.not_le.mpr hbl
  unfold b_L_law_1338 at h
  refine lv_aload_n hx hb dL_law_1338 rfl (lv_at hl 1 rfl) ?_
  refine lv_aload_n hx hb dL_law_1339 rfl (lv_at hl 0 rfl) ?_
  refine lv_iload hx hb dL_law_1340 (lv_at hl 4 rfl) ?_
  refine lv_iconst (v := 1) hx hb dL_law_1342 (by decide) ?_
  refine lv_iadd hx hb dL_law_1343 ?_
  obtain ⟨hi1, h⟩ := h
  refine va_sld hx hb hX hbl hbA hc.1.2.2.2.2.2 hi1 dL_law_1344 ?_
  refine lv_aload_n hx hb dL_law_1345 rfl (lv_at hl 0 rfl) ?_
  refine lv_iload hx hb dL_law_1346 (lv_at hl 4 rfl) ?_
  refine lv_iconst (v := 2) hx hb dL_law_1348 (by decide) ?_
  refine lv_iadd hx hb dL_law_1349 ?_
  obtain ⟨hi2, h⟩ := h
  refine va_sld hx hb hX hbl hbA hc.1.2.2.2.2.2 hi2 dL_law_1350 ?_
  refine lv_aload_n hx hb dL_law_1351 rfl (lv_at hl 3 rfl) ?_
  refine l_calli (vx_runSW (As := [.ref r1, .int (xs (Int32.toNatClampNeg (i4 + 1))), .int (xs (Int32.toNatClampNeg (i4 + 2))), .ref r3]) (rest := []) CF (c_L_not hflags h) (vx_cwSW (hh := [(0, 10, 13, 28), (0, 10, 17, 15)]) 4 hts gL_law_L_not rfl rfl rfl (by decide +kernel) ⟨Nat.le_of_ble_eq_true rfl, Nat.le_of_ble_eq_true rfl⟩) hc.1.preS rfl rfl hl.1 rfl (lv_room (Nat.le_of_ble_eq_true rfl)) dL_law_1352 ⟨(by show _ + 1 ≤ 601024; omega), (by show _ + 13 ≤ 7293034; omega)⟩) hc (fun x3 g4 H locs hq hc => ?_)
  replace h := hq
  refine W.widen (k := C + 1) (n := S + 13) (by omega) (by omega) ?_
  refine lv_istore (lv' := [(5, .int x3), (0, .ref b), (1, .ref r1), (2, .ref r2), (3, .ref r3), (4, .int i4)]) hx hb dL_law_1355 hl (by decide) rfl (fun ls hl => ?_)
  refine lv_aload_n hx hb dL_law_1357 rfl (lv_at hl 3 rfl) ?_
  refine lv_aload_n hx hb dL_law_1358 rfl (lv_at hl 1 rfl) ?_
  refine lv_iload hx hb dL_law_1359 (lv_at hl 5 rfl) ?_
  refine lv_iconst (v := 1) hx hb dL_law_1361 (by decide) ?_
  refine lv_iadd hx hb dL_law_1362 ?_
  obtain ⟨hi5, h⟩ := h
  refine va_sld hx hb hX hbl hbA hc.1.2.2.2.2.2 hi5 dL_law_1363 ?_
  refine lv_aload_n hx hb dL_law_1364 rfl (lv_at hl 1 rfl) ?_
  refine lv_iload hx hb dL_law_1365 (lv_at hl 5 rfl) ?_
  refine lv_iconst (v := 2) hx hb dL_law_1367 (by decide) ?_
  refine lv_iadd hx hb dL_law_1368 ?_
  obtain ⟨hi6, h⟩ := h
  refine va_sld hx hb hX hbl hbA hc.1.2.2.2.2.2 hi6 dL_law_1369 ?_
  obtain ⟨hk7, h⟩ := h
  refine l_calli (va_runV (As := [.int (xs (Int32.toNatClampNeg (i4 + 1))), .int (xs (Int32.toNatClampNeg (i4 + 2)))]) (rest := []) CF (c_X11_not h) (cwV 2 hts gL_law_X11_not rfl rfl rfl (by decide +kernel) ⟨Nat.le_of_ble_eq_true rfl, Nat.le_of_ble_eq_true rfl⟩) (hc.swap.1.preV hk7 rfl (by decide)) rfl rfl hl.1 rfl (lv_room (Nat.le_of_ble_eq_true rfl)) dL_law_1370 ⟨(by show _ + 0 ≤ 601024; omega), (by show _ + 0 ≤ 7293034; omega)⟩) hc.swap (fun x8 g9 H locs hq hcs => ?_)
  have hc := hcs.swap
  replace h := hq
  refine lv_istore (lv' := [(6, .int x8), (5, .int x3), (0, .ref b), (1, .ref r1), (2, .ref r2), (3, .ref r3), (4, .int i4)]) hx hb dL_law_1373 hl (by decide) rfl (fun ls hl => ?_)
  refine lv_aload_n hx hb dL_law_1375 rfl (lv_at hl 4 rfl) ?_
  obtain ⟨hk10, h⟩ := h
  refine l_calli (va_runV (As := []) (rest := []) CF (c_X11_thrown h) (cwV 0 hts gL_law_X11_thrown rfl rfl rfl (by decide +kernel) ⟨Nat.le_of_ble_eq_true rfl, Nat.le_of_ble_eq_true rfl⟩) (hc.swap.1.preV hk10 rfl (by decide)) rfl rfl hl.1 rfl (lv_room (Nat.le_of_ble_eq_true rfl)) dL_law_1376 ⟨(by show _ + 0 ≤ 601024; omega), (by show _ + 0 ≤ 7293034; omega)⟩) hc.swap (fun x11 g12 H locs hq hcs => ?_)
  have hc := hcs.swap
  obtain ⟨rfl, h⟩ := hq
  refine lv_iload hx hb dL_law_1379 (lv_at hl 1 rfl) ?_
  refine lv_icmp_eq (tgt := 1386) hx hb dL_law_1381 (by decide) (fun c13 => ?_) (fun c13 => ?_)
  · replace h := h.1 c13
    refine lv_iload hx hb dL_law_1386 (lv_at hl 1 rfl) ?_
    refine lv_if_ne (tgt := 1403) hx hb dL_law_1388 (by decide) (fun c14 => ?_) (fun c14 => ?_)
    · replace h := h.2 c14
      refine lv_goto (tgt := 2680) hx hb dL_law_1403 (by decide) ?_
      refine lv_iinc (v := (i4 + 5)) (lv' := [(4, .int (i4 + 5)), (6, .int x8), (5, .int x3), (0, .ref b), (1, .ref r1), (2, .ref r2), (3, .ref r3)]) hx hb dL_law_2680 hl (k := 6) rfl rfl (by decide) rfl (fun ls hl => ?_)
      refine lv_goto (tgt := 23) hx hb dL_law_2683 (by decide) ?_
      refine W.widen (k := C + 80) (n := S + 2400) (by omega) (by omega) ?_
      exact hk g4 g9 (i4 + 5) h _ _ _ hc (lv_sub hl [3, 4, 5, 6, 0] rfl)
    · replace h := h.1 c14
      refine lv_aload_n hx hb dL_law_1391 rfl (lv_at hl 5 rfl) ?_
      refine lv_iconst (v := 0) hx hb dL_law_1392 (by decide) ?_
      obtain ⟨hk15, h⟩ := h
      obtain ⟨hi16, h⟩ := h
      refine g_lald CF hc.1 hk15 hi16 dL_law_1393 ?_
      refine lv_iload hx hb dL_law_1394 (lv_at hl 0 rfl) ?_
      refine lv_i2l hx hb dL_law_1396 rfl ?_
      refine W.lcmp hx hb dL_law_1397 ?_
      refine lv_if_eq (tgt := 1403) hx hb dL_law_1398 (by decide) (fun c17 => ?_) (fun c17 => ?_)
      · replace h := h.1 c17
        refine lv_goto (tgt := 2680) hx hb dL_law_1403 (by decide) ?_
        refine lv_iinc (v := (i4 + 5)) (lv' := [(4, .int (i4 + 5)), (6, .int x8), (5, .int x3), (0, .ref b), (1, .ref r1), (2, .ref r2), (3, .ref r3)]) hx hb dL_law_2680 hl (k := 6) rfl rfl (by decide) rfl (fun ls hl => ?_)
        refine lv_goto (tgt := 23) hx hb dL_law_2683 (by decide) ?_
        refine W.widen (k := C + 80) (n := S + 2400) (by omega) (by omega) ?_
        exact hk g4 g9 (i4 + 5) h _ _ _ hc (lv_sub hl [3, 4, 5, 6, 0] rfl)
      · replace h := h.2 c17
        refine lv_iconst (v := 0) hx hb dL_law_1401 (by decide) ?_
        exact h.elim
  · replace h := h.2 c13
    refine lv_iconst (v := 0) hx hb dL_law_1384 (by decide) ?_
    exact h.elim
set_option maxHeartbeats 4000000 in
set_option maxRecDepth 100000 in
theorem c_L_case_1406 {p : Program} {l : Launch} {e : Env} {s : State} {m : MethodId} {below : List Frame} {meth : Method} {c : Code} {b L : Nat} {xs : Nat → Int32} {D : va_G} {cA : Nat → ClassId} (hflags : l.stackTraces = false) (C0 : lw_At p s m meth c b L xs) {C S : Nat} (hC : C + 80 ≤ 601024) (hS : S + 2400 ≤ 7293034) {r1 r2 r3 : Nat} {k : gS → gS → Int32 → Prop} (hk : ∀ (gc gm : gS) (i4 : Int32), k gc gm i4 → ∀ (H : Heap) (locs : List Loc) (ls : Array Slot), gL D cA s gc gm H locs → lv_has ls 9 [(0, .ref b), (1, .ref r1), (2, .ref r2), (3, .ref r3), (4, .int i4)] → W p l e room_1 s m #[Value.ref b] below meth c H locs (C + 80) (S + 2400) (lw_Z below #[Value.ref b] s) (F0 m 23 ls [])) (gc gm : gS) (i4 : Int32) (h : b_L_law_1406 xs L r1 r2 r3 gc gm i4 k) (H : Heap) (locs : List Loc) (ls : Array Slot) (hc : gL D cA s gc gm H locs) (hl : lv_has ls 9 [(0, .ref b), (1, .ref r1), (2, .ref r2), (3, .ref r3), (4, .int i4)]) : W p l e room_1 s m #[Value.ref b] below meth c H locs C S (lw_Z below #[Value.ref b] s) (F0 m 1406 ls []) := by
  obtain ⟨hx, hb, hr, hml, hown, hts0, hX, hbl, hlk, hgv⟩ := id C0
  have hts : ∀ w ∈ wsL_law, w.before #[Value.ref b] s = true := fun w h => hts0 w (wsL_law_in w h)
  have CF : CallFix p m c cL_law 9 s #[Value.ref b] wsL_law RL := ⟨hx, hb, hml, hown, hts⟩
  have hbA : ¬ (fun q : Nat => s.heap.size ≤ q) b := Nat.not_le.mpr hbl
  unfold b_L_law_1406 at h
  refine lv_aload_n hx hb dL_law_1406 rfl (lv_at hl 1 rfl) ?_
  refine lv_aload_n hx hb dL_law_1407 rfl (lv_at hl 0 rfl) ?_
  refine lv_iload hx hb dL_law_1408 (lv_at hl 4 rfl) ?_
  refine lv_iconst (v := 1) hx hb dL_law_1410 (by decide) ?_
  refine lv_iadd hx hb dL_law_1411 ?_
  obtain ⟨hi1, h⟩ := h
  refine va_sld hx hb hX hbl hbA hc.1.2.2.2.2.2 hi1 dL_law_1412 ?_
  refine lv_aload_n hx hb dL_law_1413 rfl (lv_at hl 0 rfl) ?_
  refine lv_iload hx hb dL_law_1414 (lv_at hl 4 rfl) ?_
  refine lv_iconst (v := 2) hx hb dL_law_1416 (by decide) ?_
  refine lv_iadd hx hb dL_law_1417 ?_
  obtain ⟨hi2, h⟩ := h
  refine va_sld hx hb hX hbl hbA hc.1.2.2.2.2.2 hi2 dL_law_1418 ?_
  refine lv_aload_n hx hb dL_law_1419 rfl (lv_at hl 0 rfl) ?_
  refine lv_iload hx hb dL_law_1420 (lv_at hl 4 rfl) ?_
  refine lv_iconst (v := 3) hx hb dL_law_1422 (by decide) ?_
  refine lv_iadd hx hb dL_law_1423 ?_
  obtain ⟨hi3, h⟩ := h
  refine va_sld hx hb hX hbl hbA hc.1.2.2.2.2.2 hi3 dL_law_1424 ?_
  refine lv_aload_n hx hb dL_law_1425 rfl (lv_at hl 0 rfl) ?_
  refine lv_iload hx hb dL_law_1426 (lv_at hl 4 rfl) ?_
  refine lv_iconst (v := 4) hx hb dL_law_1428 (by decide) ?_
  refine lv_iadd hx hb dL_law_1429 ?_
  obtain ⟨hi4, h⟩ := h
  refine va_sld hx hb hX hbl hbA hc.1.2.2.2.2.2 hi4 dL_law_1430 ?_
  refine lv_if_eq (tgt := 1438) hx hb dL_law_1431 (by decide) (fun c5 => ?_) (fun c5 => ?_)
  · replace h := h.1 c5
    refine lv_iconst (v := 0) hx hb dL_law_1438 (by decide) ?_
    refine lv_aload_n hx hb dL_law_1439 rfl (lv_at hl 3 rfl) ?_
    refine l_calli (vx_runSW (As := [.ref r1, .int (xs (Int32.toNatClampNeg (i4 + 1))), .int (xs (Int32.toNatClampNeg (i4 + 2))), .int (xs (Int32.toNatClampNeg (i4 + 3))), .int 0, .ref r3]) (rest := []) CF (c_L_near hflags h) (vx_cwSW (hh := [(0, 14, 17, 28), (0, 14, 21, 13), (0, 14, 25, 15)]) 6 hts gL_law_L_near rfl rfl rfl (by decide +kernel) ⟨Nat.le_of_ble_eq_true rfl, Nat.le_of_ble_eq_true rfl⟩) hc.1.preS rfl rfl hl.1 rfl (lv_room (Nat.le_of_ble_eq_true rfl)) dL_law_1440 ⟨(by show _ + 1 ≤ 601024; omega), (by show _ + 13 ≤ 7293034; omega)⟩) hc (fun x6 g7 H locs hq hc => ?_)
    replace h := hq
    refine W.widen (k := C + 1) (n := S + 13) (by omega) (by omega) ?_
    refine lv_istore (lv' := [(5, .int x6), (0, .ref b), (1, .ref r1), (2, .ref r2), (3, .ref r3), (4, .int i4)]) hx hb dL_law_1443 hl (by decide) rfl (fun ls hl => ?_)
    refine lv_aload_n hx hb dL_law_1445 rfl (lv_at hl 3 rfl) ?_
    refine lv_aload_n hx hb dL_law_1446 rfl (lv_at hl 1 rfl) ?_
    refine lv_iload hx hb dL_law_1447 (lv_at hl 5 rfl) ?_
    refine lv_iconst (v := 1) hx hb dL_law_1449 (by decide) ?_
    refine lv_iadd hx hb dL_law_1450 ?_
    obtain ⟨hi8, h⟩ := h
    refine va_sld hx hb hX hbl hbA hc.1.2.2.2.2.2 hi8 dL_law_1451 ?_
    refine lv_aload_n hx hb dL_law_1452 rfl (lv_at hl 1 rfl) ?_
    refine lv_iload hx hb dL_law_1453 (lv_at hl 5 rfl) ?_
    refine lv_iconst (v := 2) hx hb dL_law_1455 (by decide) ?_
    refine lv_iadd hx hb dL_law_1456 ?_
    obtain ⟨hi9, h⟩ := h
    refine va_sld hx hb hX hbl hbA hc.1.2.2.2.2.2 hi9 dL_law_1457 ?_
    refine lv_aload_n hx hb dL_law_1458 rfl (lv_at hl 1 rfl) ?_
    refine lv_iload hx hb dL_law_1459 (lv_at hl 5 rfl) ?_
    refine lv_iconst (v := 3) hx hb dL_law_1461 (by decide) ?_
    refine lv_iadd hx hb dL_law_1462 ?_
    obtain ⟨hi10, h⟩ := h
    refine va_sld hx hb hX hbl hbA hc.1.2.2.2.2.2 hi10 dL_law_1463 ?_
    refine lv_aload_n hx hb dL_law_1464 rfl (lv_at hl 1 rfl) ?_
    refine lv_iload hx hb dL_law_1465 (lv_at hl 5 rfl) ?_
    refine lv_iconst (v := 4) hx hb dL_law_1467 (by decide) ?_
    refine lv_iadd hx hb dL_law_1468 ?_
    obtain ⟨hi11, h⟩ := h
    refine va_sld hx hb hX hbl hbA hc.1.2.2.2.2.2 hi11 dL_law_1469 ?_
    refine lv_if_eq (tgt := 1477) hx hb dL_law_1470 (by decide) (fun c12 => ?_) (fun c12 => ?_)
    · replace h := h.1 c12
      refine lv_iconst (v := 0) hx hb dL_law_1477 (by decide) ?_
      obtain ⟨hk13, h⟩ := h
      refine l_calli (va_runV (As := [.int (xs (Int32.toNatClampNeg (i4 + 1))), .int (xs (Int32.toNatClampNeg (i4 + 2))), .int (xs (Int32.toNatClampNeg (i4 + 3))), .int 0]) (rest := []) CF (c_X11_near h) (cwV 4 hts gL_law_X11_near rfl rfl rfl (by decide +kernel) ⟨Nat.le_of_ble_eq_true rfl, Nat.le_of_ble_eq_true rfl⟩) (hc.swap.1.preV hk13 rfl (by decide)) rfl rfl hl.1 rfl (lv_room (Nat.le_of_ble_eq_true rfl)) dL_law_1478 ⟨(by show _ + 0 ≤ 601024; omega), (by show _ + 0 ≤ 7293034; omega)⟩) hc.swap (fun x14 g15 H locs hq hcs => ?_)
      have hc := hcs.swap
      replace h := hq
      refine lv_istore (lv' := [(6, .int x14), (5, .int x6), (0, .ref b), (1, .ref r1), (2, .ref r2), (3, .ref r3), (4, .int i4)]) hx hb dL_law_1481 hl (by decide) rfl (fun ls hl => ?_)
      refine lv_aload_n hx hb dL_law_1483 rfl (lv_at hl 4 rfl) ?_
      obtain ⟨hk16, h⟩ := h
      refine l_calli (va_runV (As := []) (rest := []) CF (c_X11_thrown h) (cwV 0 hts gL_law_X11_thrown rfl rfl rfl (by decide +kernel) ⟨Nat.le_of_ble_eq_true rfl, Nat.le_of_ble_eq_true rfl⟩) (hc.swap.1.preV hk16 rfl (by decide)) rfl rfl hl.1 rfl (lv_room (Nat.le_of_ble_eq_true rfl)) dL_law_1484 ⟨(by show _ + 0 ≤ 601024; omega), (by show _ + 0 ≤ 7293034; omega)⟩) hc.swap (fun x17 g18 H locs hq hcs => ?_)
      have hc := hcs.swap
      obtain ⟨rfl, h⟩ := hq
      refine lv_iload hx hb dL_law_1487 (lv_at hl 1 rfl) ?_
      refine lv_icmp_eq (tgt := 1494) hx hb dL_law_1489 (by decide) (fun c19 => ?_) (fun c19 => ?_)
      · replace h := h.1 c19
        refine lv_iload hx hb dL_law_1494 (lv_at hl 1 rfl) ?_
        refine lv_if_ne (tgt := 1511) hx hb dL_law_1496 (by decide) (fun c20 => ?_) (fun c20 => ?_)
        · replace h := h.2 c20
          refine lv_goto (tgt := 2680) hx hb dL_law_1511 (by decide) ?_
          refine lv_iinc (v := (i4 + 5)) (lv' := [(4, .int (i4 + 5)), (6, .int x14), (5, .int x6), (0, .ref b), (1, .ref r1), (2, .ref r2), (3, .ref r3)]) hx hb dL_law_2680 hl (k := 6) rfl rfl (by decide) rfl (fun ls hl => ?_)
          refine lv_goto (tgt := 23) hx hb dL_law_2683 (by decide) ?_
          refine W.widen (k := C + 80) (n := S + 2400) (by omega) (by omega) ?_
          exact hk g7 g15 (i4 + 5) h _ _ _ hc (lv_sub hl [3, 4, 5, 6, 0] rfl)
        · replace h := h.1 c20
          refine lv_aload_n hx hb dL_law_1499 rfl (lv_at hl 5 rfl) ?_
          refine lv_iconst (v := 0) hx hb dL_law_1500 (by decide) ?_
          obtain ⟨hk21, h⟩ := h
          obtain ⟨hi22, h⟩ := h
          refine g_lald CF hc.1 hk21 hi22 dL_law_1501 ?_
          refine lv_iload hx hb dL_law_1502 (lv_at hl 0 rfl) ?_
          refine lv_i2l hx hb dL_law_1504 rfl ?_
          refine W.lcmp hx hb dL_law_1505 ?_
          refine lv_if_eq (tgt := 1511) hx hb dL_law_1506 (by decide) (fun c23 => ?_) (fun c23 => ?_)
          · replace h := h.1 c23
            refine lv_goto (tgt := 2680) hx hb dL_law_1511 (by decide) ?_
            refine lv_iinc (v := (i4 + 5)) (lv' := [(4, .int (i4 + 5)), (6, .int x14), (5, .int x6), (0, .ref b), (1, .ref r1), (2, .ref r2), (3, .ref r3)]) hx hb dL_law_2680 hl (k := 6) rfl rfl (by decide) rfl (fun ls hl => ?_)
            refine lv_goto (tgt := 23) hx hb dL_law_2683 (by decide) ?_
            refine W.widen (k := C + 80) (n := S + 2400) (by omega) (by omega) ?_
            exact hk g7 g15 (i4 + 5) h _ _ _ hc (lv_sub hl [3, 4, 5, 6, 0] rfl)
          · replace h := h.2 c23
            refine lv_iconst (v := 0) hx hb dL_law_1509 (by decide) ?_
            exact h.elim
      · replace h := h.2 c19
        refine lv_iconst (v := 0) hx hb dL_law_1492 (by decide) ?_
        exact h.elim
    · replace h := h.2 c12
      refine lv_iconst (v := 1) hx hb dL_law_1473 (by decide) ?_
      refine lv_goto (tgt := 1478) hx hb dL_law_1474 (by decide) ?_
      obtain ⟨hk24, h⟩ := h
      refine l_calli (va_runV (As := [.int (xs (Int32.toNatClampNeg (i4 + 1))), .int (xs (Int32.toNatClampNeg (i4 + 2))), .int (xs (Int32.toNatClampNeg (i4 + 3))), .int 1]) (rest := []) CF (c_X11_near h) (cwV 4 hts gL_law_X11_near rfl rfl rfl (by decide +kernel) ⟨Nat.le_of_ble_eq_true rfl, Nat.le_of_ble_eq_true rfl⟩) (hc.swap.1.preV hk24 rfl (by decide)) rfl rfl hl.1 rfl (lv_room (Nat.le_of_ble_eq_true rfl)) dL_law_1478 ⟨(by show _ + 0 ≤ 601024; omega), (by show _ + 0 ≤ 7293034; omega)⟩) hc.swap (fun x25 g26 H locs hq hcs => ?_)
      have hc := hcs.swap
      replace h := hq
      refine lv_istore (lv' := [(6, .int x25), (5, .int x6), (0, .ref b), (1, .ref r1), (2, .ref r2), (3, .ref r3), (4, .int i4)]) hx hb dL_law_1481 hl (by decide) rfl (fun ls hl => ?_)
      refine lv_aload_n hx hb dL_law_1483 rfl (lv_at hl 4 rfl) ?_
      obtain ⟨hk27, h⟩ := h
      refine l_calli (va_runV (As := []) (rest := []) CF (c_X11_thrown h) (cwV 0 hts gL_law_X11_thrown rfl rfl rfl (by decide +kernel) ⟨Nat.le_of_ble_eq_true rfl, Nat.le_of_ble_eq_true rfl⟩) (hc.swap.1.preV hk27 rfl (by decide)) rfl rfl hl.1 rfl (lv_room (Nat.le_of_ble_eq_true rfl)) dL_law_1484 ⟨(by show _ + 0 ≤ 601024; omega), (by show _ + 0 ≤ 7293034; omega)⟩) hc.swap (fun x28 g29 H locs hq hcs => ?_)
      have hc := hcs.swap
      obtain ⟨rfl, h⟩ := hq
      refine lv_iload hx hb dL_law_1487 (lv_at hl 1 rfl) ?_
      refine lv_icmp_eq (tgt := 1494) hx hb dL_law_1489 (by decide) (fun c30 => ?_) (fun c30 => ?_)
      · replace h := h.1 c30
        refine lv_iload hx hb dL_law_1494 (lv_at hl 1 rfl) ?_
        refine lv_if_ne (tgt := 1511) hx hb dL_law_1496 (by decide) (fun c31 => ?_) (fun c31 => ?_)
        · replace h := h.2 c31
          refine lv_goto (tgt := 2680) hx hb dL_law_1511 (by decide) ?_
          refine lv_iinc (v := (i4 + 5)) (lv' := [(4, .int (i4 + 5)), (6, .int x25), (5, .int x6), (0, .ref b), (1, .ref r1), (2, .ref r2), (3, .ref r3)]) hx hb dL_law_2680 hl (k := 6) rfl rfl (by decide) rfl (fun ls hl => ?_)
          refine lv_goto (tgt := 23) hx hb dL_law_2683 (by decide) ?_
          refine W.widen (k := C + 80) (n := S + 2400) (by omega) (by omega) ?_
          exact hk g7 g26 (i4 + 5) h _ _ _ hc (lv_sub hl [3, 4, 5, 6, 0] rfl)
        · replace h := h.1 c31
          refine lv_aload_n hx hb dL_law_1499 rfl (lv_at hl 5 rfl) ?_
          refine lv_iconst (v := 0) hx hb dL_law_1500 (by decide) ?_
          obtain ⟨hk32, h⟩ := h
          obtain ⟨hi33, h⟩ := h
          refine g_lald CF hc.1 hk32 hi33 dL_law_1501 ?_
          refine lv_iload hx hb dL_law_1502 (lv_at hl 0 rfl) ?_
          refine lv_i2l hx hb dL_law_1504 rfl ?_
          refine W.lcmp hx hb dL_law_1505 ?_
          refine lv_if_eq (tgt := 1511) hx hb dL_law_1506 (by decide) (fun c34 => ?_) (fun c34 => ?_)
          · replace h := h.1 c34
            refine lv_goto (tgt := 2680) hx hb dL_law_1511 (by decide) ?_
            refine lv_iinc (v := (i4 + 5)) (lv' := [(4, .int (i4 + 5)), (6, .int x25), (5, .int x6), (0, .ref b), (1, .ref r1), (2, .ref r2), (3, .ref r3)]) hx hb dL_law_2680 hl (k := 6) rfl rfl (by decide) rfl (fun ls hl => ?_)
            refine lv_goto (tgt := 23) hx hb dL_law_2683 (by decide) ?_
            refine W.widen (k := C + 80) (n := S + 2400) (by omega) (by omega) ?_
            exact hk g7 g26 (i4 + 5) h _ _ _ hc (lv_sub hl [3, 4, 5, 6, 0] rfl)
          · replace h := h.2 c34
            refine lv_iconst (v := 0) hx hb dL_law_1509 (by decide) ?_
            exact h.elim
      · replace h := h.2 c30
        refine lv_iconst (v := 0) hx hb dL_law_1492 (by decide) ?_
        exact h.elim
  · replace h := h.2 c5
    refine lv_iconst (v := 1) hx hb dL_law_1434 (by decide) ?_
    refine lv_goto (tgt := 1439) hx hb dL_law_1435 (by decide) ?_
    refine lv_aload_n hx hb dL_law_1439 rfl (lv_at hl 3 rfl) ?_
    refine l_calli (vx_runSW (As := [.ref r1, .int (xs (Int32.toNatClampNeg (i4 + 1))), .int (xs (Int32.toNatClampNeg (i4 + 2))), .int (xs (Int32.toNatClampNeg (i4 + 3))), .int 1, .ref r3]) (rest := []) CF (c_L_near hflags h) (vx_cwSW (hh := [(0, 14, 17, 28), (0, 14, 21, 13), (0, 14, 25, 15)]) 6 hts gL_law_L_near rfl rfl rfl (by decide +kernel) ⟨Nat.le_of_ble_eq_true rfl, Nat.le_of_ble_eq_true rfl⟩) hc.1.preS rfl rfl hl.1 rfl (lv_room (Nat.le_of_ble_eq_true rfl)) dL_law_1440 ⟨(by show _ + 1 ≤ 601024; omega), (by show _ + 13 ≤ 7293034; omega)⟩) hc (fun x35 g36 H locs hq hc => ?_)
    replace h := hq
    refine W.widen (k := C + 1) (n := S + 13) (by omega) (by omega) ?_
    refine lv_istore (lv' := [(5, .int x35), (0, .ref b), (1, .ref r1), (2, .ref r2), (3, .ref r3), (4, .int i4)]) hx hb dL_law_1443 hl (by decide) rfl (fun ls hl => ?_)
    refine lv_aload_n hx hb dL_law_1445 rfl (lv_at hl 3 rfl) ?_
    refine lv_aload_n hx hb dL_law_1446 rfl (lv_at hl 1 rfl) ?_
    refine lv_iload hx hb dL_law_1447 (lv_at hl 5 rfl) ?_
    refine lv_iconst (v := 1) hx hb dL_law_1449 (by decide) ?_
    refine lv_iadd hx hb dL_law_1450 ?_
    obtain ⟨hi37, h⟩ := h
    refine va_sld hx hb hX hbl hbA hc.1.2.2.2.2.2 hi37 dL_law_1451 ?_
    refine lv_aload_n hx hb dL_law_1452 rfl (lv_at hl 1 rfl) ?_
    refine lv_iload hx hb dL_law_1453 (lv_at hl 5 rfl) ?_
    refine lv_iconst (v := 2) hx hb dL_law_1455 (by decide) ?_
    refine lv_iadd hx hb dL_law_1456 ?_
    obtain ⟨hi38, h⟩ := h
    refine va_sld hx hb hX hbl hbA hc.1.2.2.2.2.2 hi38 dL_law_1457 ?_
    refine lv_aload_n hx hb dL_law_1458 rfl (lv_at hl 1 rfl) ?_
    refine lv_iload hx hb dL_law_1459 (lv_at hl 5 rfl) ?_
    refine lv_iconst (v := 3) hx hb dL_law_1461 (by decide) ?_
    refine lv_iadd hx hb dL_law_1462 ?_
    obtain ⟨hi39, h⟩ := h
    refine va_sld hx hb hX hbl hbA hc.1.2.2.2.2.2 hi39 dL_law_1463 ?_
    refine lv_aload_n hx hb dL_law_1464 rfl (lv_at hl 1 rfl) ?_
    refine lv_iload hx hb dL_law_1465 (lv_at hl 5 rfl) ?_
    refine lv_iconst (v := 4) hx hb dL_law_1467 (by decide) ?_
    refine lv_iadd hx hb dL_law_1468 ?_
    obtain ⟨hi40, h⟩ := h
    refine va_sld hx hb hX hbl hbA hc.1.2.2.2.2.2 hi40 dL_law_1469 ?_
    refine lv_if_eq (tgt := 1477) hx hb dL_law_1470 (by decide) (fun c41 => ?_) (fun c41 => ?_)
    · replace h := h.1 c41
      refine lv_iconst (v := 0) hx hb dL_law_1477 (by decide) ?_
      obtain ⟨hk42, h⟩ := h
      refine l_calli (va_runV (As := [.int (xs (Int32.toNatClampNeg (i4 + 1))), .int (xs (Int32.toNatClampNeg (i4 + 2))), .int (xs (Int32.toNatClampNeg (i4 + 3))), .int 0]) (rest := []) CF (c_X11_near h) (cwV 4 hts gL_law_X11_near rfl rfl rfl (by decide +kernel) ⟨Nat.le_of_ble_eq_true rfl, Nat.le_of_ble_eq_true rfl⟩) (hc.swap.1.preV hk42 rfl (by decide)) rfl rfl hl.1 rfl (lv_room (Nat.le_of_ble_eq_true rfl)) dL_law_1478 ⟨(by show _ + 0 ≤ 601024; omega), (by show _ + 0 ≤ 7293034; omega)⟩) hc.swap (fun x43 g44 H locs hq hcs => ?_)
      have hc := hcs.swap
      replace h := hq
      refine lv_istore (lv' := [(6, .int x43), (5, .int x35), (0, .ref b), (1, .ref r1), (2, .ref r2), (3, .ref r3), (4, .int i4)]) hx hb dL_law_1481 hl (by decide) rfl (fun ls hl => ?_)
      refine lv_aload_n hx hb dL_law_1483 rfl (lv_at hl 4 rfl) ?_
      obtain ⟨hk45, h⟩ := h
      refine l_calli (va_runV (As := []) (rest := []) CF (c_X11_thrown h) (cwV 0 hts gL_law_X11_thrown rfl rfl rfl (by decide +kernel) ⟨Nat.le_of_ble_eq_true rfl, Nat.le_of_ble_eq_true rfl⟩) (hc.swap.1.preV hk45 rfl (by decide)) rfl rfl hl.1 rfl (lv_room (Nat.le_of_ble_eq_true rfl)) dL_law_1484 ⟨(by show _ + 0 ≤ 601024; omega), (by show _ + 0 ≤ 7293034; omega)⟩) hc.swap (fun x46 g47 H locs hq hcs => ?_)
      have hc := hcs.swap
      obtain ⟨rfl, h⟩ := hq
      refine lv_iload hx hb dL_law_1487 (lv_at hl 1 rfl) ?_
      refine lv_icmp_eq (tgt := 1494) hx hb dL_law_1489 (by decide) (fun c48 => ?_) (fun c48 => ?_)
      · replace h := h.1 c48
        refine lv_iload hx hb dL_law_1494 (lv_at hl 1 rfl) ?_
        refine lv_if_ne (tgt := 1511) hx hb dL_law_1496 (by decide) (fun c49 => ?_) (fun c49 => ?_)
        · replace h := h.2 c49
          refine lv_goto (tgt := 2680) hx hb dL_law_1511 (by decide) ?_
          refine lv_iinc (v := (i4 + 5)) (lv' := [(4, .int (i4 + 5)), (6, .int x43), (5, .int x35), (0, .ref b), (1, .ref r1), (2, .ref r2), (3, .ref r3)]) hx hb dL_law_2680 hl (k := 6) rfl rfl (by decide) rfl (fun ls hl => ?_)
          refine lv_goto (tgt := 23) hx hb dL_law_2683 (by decide) ?_
          refine W.widen (k := C + 80) (n := S + 2400) (by omega) (by omega) ?_
          exact hk g36 g44 (i4 + 5) h _ _ _ hc (lv_sub hl [3, 4, 5, 6, 0] rfl)
        · replace h := h.1 c49
          refine lv_aload_n hx hb dL_law_1499 rfl (lv_at hl 5 rfl) ?_
          refine lv_iconst (v := 0) hx hb dL_law_1500 (by decide) ?_
          obtain ⟨hk50, h⟩ := h
          obtain ⟨hi51, h⟩ := h
          refine g_lald CF hc.1 hk50 hi51 dL_law_1501 ?_
          refine lv_iload hx hb dL_law_1502 (lv_at hl 0 rfl) ?_
          refine lv_i2l hx hb dL_law_1504 rfl ?_
          refine W.lcmp hx hb dL_law_1505 ?_
          refine lv_if_eq (tgt := 1511) hx hb dL_law_1506 (by decide) (fun c52 => ?_) (fun c52 => ?_)
          · replace h := h.1 c52
            refine lv_goto (tgt := 2680) hx hb dL_law_1511 (by decide) ?_
            refine lv_iinc (v := (i4 + 5)) (lv' := [(4, .int (i4 + 5)), (6, .int x43), (5, .int x35), (0, .ref b), (1, .ref r1), (2, .ref r2), (3, .ref r3)]) hx hb dL_law_2680 hl (k := 6) rfl rfl (by decide) rfl (fun ls hl => ?_)
            refine lv_goto (tgt := 23) hx hb dL_law_2683 (by decide) ?_
            refine W.widen (k := C + 80) (n := S + 2400) (by omega) (by omega) ?_
            exact hk g36 g44 (i4 + 5) h _ _ _ hc (lv_sub hl [3, 4, 5, 6, 0] rfl)
          · replace h := h.2 c52
            refine lv_iconst (v := 0) hx hb dL_law_1509 (by decide) ?_
            exact h.elim
      · replace h := h.2 c48
        refine lv_iconst (v := 0) hx hb dL_law_1492 (by decide) ?_
        exact h.elim
    · replace h := h.2 c41
      refine lv_iconst (v := 1) hx hb dL_law_1473 (by decide) ?_
      refine lv_goto (tgt := 1478) hx hb dL_law_1474 (by decide) ?_
      obtain ⟨hk53, h⟩ := h
      refine l_calli (va_runV (As := [.int (xs (Int32.toNatClampNeg (i4 + 1))), .int (xs (Int32.toNatClampNeg (i4 + 2))), .int (xs (Int32.toNatClampNeg (i4 + 3))), .int 1]) (rest := []) CF (c_X11_near h) (cwV 4 hts gL_law_X11_near rfl rfl rfl (by decide +kernel) ⟨Nat.le_of_ble_eq_true rfl, Nat.le_of_ble_eq_true rfl⟩) (hc.swap.1.preV hk53 rfl (by decide)) rfl rfl hl.1 rfl (lv_room (Nat.le_of_ble_eq_true rfl)) dL_law_1478 ⟨(by show _ + 0 ≤ 601024; omega), (by show _ + 0 ≤ 7293034; omega)⟩) hc.swap (fun x54 g55 H locs hq hcs => ?_)
      have hc := hcs.swap
      replace h := hq
      refine lv_istore (lv' := [(6, .int x54), (5, .int x35), (0, .ref b), (1, .ref r1), (2, .ref r2), (3, .ref r3), (4, .int i4)]) hx hb dL_law_1481 hl (by decide) rfl (fun ls hl => ?_)
      refine lv_aload_n hx hb dL_law_1483 rfl (lv_at hl 4 rfl) ?_
      obtain ⟨hk56, h⟩ := h
      refine l_calli (va_runV (As := []) (rest := []) CF (c_X11_thrown h) (cwV 0 hts gL_law_X11_thrown rfl rfl rfl (by decide +kernel) ⟨Nat.le_of_ble_eq_true rfl, Nat.le_of_ble_eq_true rfl⟩) (hc.swap.1.preV hk56 rfl (by decide)) rfl rfl hl.1 rfl (lv_room (Nat.le_of_ble_eq_true rfl)) dL_law_1484 ⟨(by show _ + 0 ≤ 601024; omega), (by show _ + 0 ≤ 7293034; omega)⟩) hc.swap (fun x57 g58 H locs hq hcs => ?_)
      have hc := hcs.swap
      obtain ⟨rfl, h⟩ := hq
      refine lv_iload hx hb dL_law_1487 (lv_at hl 1 rfl) ?_
      refine lv_icmp_eq (tgt := 1494) hx hb dL_law_1489 (by decide) (fun c59 => ?_) (fun c59 => ?_)
      · replace h := h.1 c59
        refine lv_iload hx hb dL_law_1494 (lv_at hl 1 rfl) ?_
        refine lv_if_ne (tgt := 1511) hx hb dL_law_1496 (by decide) (fun c60 => ?_) (fun c60 => ?_)
        · replace h := h.2 c60
          refine lv_goto (tgt := 2680) hx hb dL_law_1511 (by decide) ?_
          refine lv_iinc (v := (i4 + 5)) (lv' := [(4, .int (i4 + 5)), (6, .int x54), (5, .int x35), (0, .ref b), (1, .ref r1), (2, .ref r2), (3, .ref r3)]) hx hb dL_law_2680 hl (k := 6) rfl rfl (by decide) rfl (fun ls hl => ?_)
          refine lv_goto (tgt := 23) hx hb dL_law_2683 (by decide) ?_
          refine W.widen (k := C + 80) (n := S + 2400) (by omega) (by omega) ?_
          exact hk g36 g55 (i4 + 5) h _ _ _ hc (lv_sub hl [3, 4, 5, 6, 0] rfl)
        · replace h := h.1 c60
          refine lv_aload_n hx hb dL_law_1499 rfl (lv_at hl 5 rfl) ?_
          refine lv_iconst (v := 0) hx hb dL_law_1500 (by decide) ?_
          obtain ⟨hk61, h⟩ := h
          obtain ⟨hi62, h⟩ := h
          refine g_lald CF hc.1 hk61 hi62 dL_law_1501 ?_
          refine lv_iload hx hb dL_law_1502 (lv_at hl 0 rfl) ?_
          refine lv_i2l hx hb dL_law_1504 rfl ?_
          refine W.lcmp hx hb dL_law_1505 ?_
          refine lv_if_eq (tgt := 1511) hx hb dL_law_1506 (by decide) (fun c63 => ?_) (fun c63 => ?_)
          · replace h := h.1 c63
            refine lv_goto (tgt := 2680) hx hb dL_law_1511 (by decide) ?_
            refine lv_iinc (v := (i4 + 5)) (lv' := [(4, .int (i4 + 5)), (6, .int x54), (5, .int x35), (0, .ref b), (1, .ref r1), (2, .ref r2), (3, .ref r3)]) hx hb dL_law_2680 hl (k := 6) rfl rfl (by decide) rfl (fun ls hl => ?_)
            refine lv_goto (tgt := 23) hx hb dL_law_2683 (by decide) ?_
            refine W.widen (k := C + 80) (n := S + 2400) (by omega) (by omega) ?_
            exact hk g36 g55 (i4 + 5) h _ _ _ hc (lv_sub hl [3, 4, 5, 6, 0] rfl)
          · replace h := h.2 c63
            refine lv_iconst (v := 0) hx hb dL_law_1509 (by decide) ?_
            exact h.elim
      · replace h := h.2 c59
        refine lv_iconst (v := 0) hx hb dL_law_1492 (by decide) ?_
        exact h.elim
set_option maxHeartbeats 4000000 in
set_option maxRecDepth 100000 in
theorem c_L_case_1514 {p : Program} {l : Launch} {e : Env} {s : State} {m : MethodId} {below : List Frame} {meth : Method} {c : Code} {b L : Nat} {xs : Nat → Int32} {D : va_G} {cA : Nat → ClassId} (hflags : l.stackTraces = false) (C0 : lw_At p s m meth c b L xs) {C S : Nat} (hC : C + 80 ≤ 601024) (hS : S + 2400 ≤ 7293034) {r1 r2 r3 : Nat} {k : gS → gS → Int32 → Prop} (hk : ∀ (gc gm : gS) (i4 : Int32), k gc gm i4 → ∀ (H : Heap) (locs : List Loc) (ls : Array Slot), gL D cA s gc gm H locs → lv_has ls 9 [(0, .ref b), (1, .ref r1), (2, .ref r2), (3, .ref r3), (4, .int i4)] → W p l e room_1 s m #[Value.ref b] below meth c H locs (C + 80) (S + 2400) (lw_Z below #[Value.ref b] s) (F0 m 23 ls [])) (gc gm : gS) (i4 : Int32) (h : b_L_law_1514 xs L r1 r2 r3 gc gm i4 k) (H : Heap) (locs : List Loc) (ls : Array Slot) (hc : gL D cA s gc gm H locs) (hl : lv_has ls 9 [(0, .ref b), (1, .ref r1), (2, .ref r2), (3, .ref r3), (4, .int i4)]) : W p l e room_1 s m #[Value.ref b] below meth c H locs C S (lw_Z below #[Value.ref b] s) (F0 m 1514 ls []) := by
  obtain ⟨hx, hb, hr, hml, hown, hts0, hX, hbl, hlk, hgv⟩ := id C0
  have hts : ∀ w ∈ wsL_law, w.before #[Value.ref b] s = true := fun w h => hts0 w (wsL_law_in w h)
  have CF : CallFix p m c cL_law 9 s #[Value.ref b] wsL_law RL := ⟨hx, hb, hml, hown, hts⟩
  have hbA : ¬ (fun q : Nat => s.heap.size ≤ q) b := Nat.not_le.mpr hbl
  unfold b_L_law_1514 at h
  refine lv_aload_n hx hb dL_law_1514 rfl (lv_at hl 1 rfl) ?_
  refine lv_aload_n hx hb dL_law_1515 rfl (lv_at hl 0 rfl) ?_
  refine lv_iload hx hb dL_law_1516 (lv_at hl 4 rfl) ?_
  refine lv_iconst (v := 1) hx hb dL_law_1518 (by decide) ?_
  refine lv_iadd hx hb dL_law_1519 ?_
  obtain ⟨hi1, h⟩ := h
  refine va_sld hx hb hX hbl hbA hc.1.2.2.2.2.2 hi1 dL_law_1520 ?_
  refine lv_aload_n hx hb dL_law_1521 rfl (lv_at hl 0 rfl) ?_
  refine lv_iload hx hb dL_law_1522 (lv_at hl 4 rfl) ?_
  refine lv_iconst (v := 2) hx hb dL_law_1524 (by decide) ?_
  refine lv_iadd hx hb dL_law_1525 ?_
  obtain ⟨hi2, h⟩ := h
  refine va_sld hx hb hX hbl hbA hc.1.2.2.2.2.2 hi2 dL_law_1526 ?_
  refine lv_aload_n hx hb dL_law_1527 rfl (lv_at hl 3 rfl) ?_
  refine l_calli (vx_runSW (As := [.ref r1, .int (xs (Int32.toNatClampNeg (i4 + 1))), .int (xs (Int32.toNatClampNeg (i4 + 2))), .ref r3]) (rest := []) CF (c_L_dated hflags h) (vx_cwSW (hh := [(0, 10, 13, 13), (0, 10, 17, 15)]) 4 hts gL_law_L_dated rfl rfl rfl (by decide +kernel) ⟨Nat.le_of_ble_eq_true rfl, Nat.le_of_ble_eq_true rfl⟩) hc.1.preS rfl rfl hl.1 rfl (lv_room (Nat.le_of_ble_eq_true rfl)) dL_law_1528 ⟨(by show _ + 1 ≤ 601024; omega), (by show _ + 13 ≤ 7293034; omega)⟩) hc (fun x3 g4 H locs hq hc => ?_)
  replace h := hq
  refine W.widen (k := C + 1) (n := S + 13) (by omega) (by omega) ?_
  refine lv_istore (lv' := [(5, .int x3), (0, .ref b), (1, .ref r1), (2, .ref r2), (3, .ref r3), (4, .int i4)]) hx hb dL_law_1531 hl (by decide) rfl (fun ls hl => ?_)
  refine lv_aload_n hx hb dL_law_1533 rfl (lv_at hl 3 rfl) ?_
  refine lv_aload_n hx hb dL_law_1534 rfl (lv_at hl 1 rfl) ?_
  refine lv_iload hx hb dL_law_1535 (lv_at hl 5 rfl) ?_
  refine lv_iconst (v := 1) hx hb dL_law_1537 (by decide) ?_
  refine lv_iadd hx hb dL_law_1538 ?_
  obtain ⟨hi5, h⟩ := h
  refine va_sld hx hb hX hbl hbA hc.1.2.2.2.2.2 hi5 dL_law_1539 ?_
  refine lv_aload_n hx hb dL_law_1540 rfl (lv_at hl 1 rfl) ?_
  refine lv_iload hx hb dL_law_1541 (lv_at hl 5 rfl) ?_
  refine lv_iconst (v := 2) hx hb dL_law_1543 (by decide) ?_
  refine lv_iadd hx hb dL_law_1544 ?_
  obtain ⟨hi6, h⟩ := h
  refine va_sld hx hb hX hbl hbA hc.1.2.2.2.2.2 hi6 dL_law_1545 ?_
  obtain ⟨hk7, h⟩ := h
  refine l_calli (va_runV (As := [.int (xs (Int32.toNatClampNeg (i4 + 1))), .int (xs (Int32.toNatClampNeg (i4 + 2)))]) (rest := []) CF (c_X11_dated h) (cwV 2 hts gL_law_X11_dated rfl rfl rfl (by decide +kernel) ⟨Nat.le_of_ble_eq_true rfl, Nat.le_of_ble_eq_true rfl⟩) (hc.swap.1.preV hk7 rfl (by decide)) rfl rfl hl.1 rfl (lv_room (Nat.le_of_ble_eq_true rfl)) dL_law_1546 ⟨(by show _ + 0 ≤ 601024; omega), (by show _ + 0 ≤ 7293034; omega)⟩) hc.swap (fun x8 g9 H locs hq hcs => ?_)
  have hc := hcs.swap
  replace h := hq
  refine lv_istore (lv' := [(6, .int x8), (5, .int x3), (0, .ref b), (1, .ref r1), (2, .ref r2), (3, .ref r3), (4, .int i4)]) hx hb dL_law_1549 hl (by decide) rfl (fun ls hl => ?_)
  refine lv_aload_n hx hb dL_law_1551 rfl (lv_at hl 4 rfl) ?_
  obtain ⟨hk10, h⟩ := h
  refine l_calli (va_runV (As := []) (rest := []) CF (c_X11_thrown h) (cwV 0 hts gL_law_X11_thrown rfl rfl rfl (by decide +kernel) ⟨Nat.le_of_ble_eq_true rfl, Nat.le_of_ble_eq_true rfl⟩) (hc.swap.1.preV hk10 rfl (by decide)) rfl rfl hl.1 rfl (lv_room (Nat.le_of_ble_eq_true rfl)) dL_law_1552 ⟨(by show _ + 0 ≤ 601024; omega), (by show _ + 0 ≤ 7293034; omega)⟩) hc.swap (fun x11 g12 H locs hq hcs => ?_)
  have hc := hcs.swap
  obtain ⟨rfl, h⟩ := hq
  refine lv_iload hx hb dL_law_1555 (lv_at hl 1 rfl) ?_
  refine lv_icmp_eq (tgt := 1562) hx hb dL_law_1557 (by decide) (fun c13 => ?_) (fun c13 => ?_)
  · replace h := h.1 c13
    refine lv_iload hx hb dL_law_1562 (lv_at hl 1 rfl) ?_
    refine lv_if_ne (tgt := 1579) hx hb dL_law_1564 (by decide) (fun c14 => ?_) (fun c14 => ?_)
    · replace h := h.2 c14
      refine lv_goto (tgt := 2680) hx hb dL_law_1579 (by decide) ?_
      refine lv_iinc (v := (i4 + 5)) (lv' := [(4, .int (i4 + 5)), (6, .int x8), (5, .int x3), (0, .ref b), (1, .ref r1), (2, .ref r2), (3, .ref r3)]) hx hb dL_law_2680 hl (k := 6) rfl rfl (by decide) rfl (fun ls hl => ?_)
      refine lv_goto (tgt := 23) hx hb dL_law_2683 (by decide) ?_
      refine W.widen (k := C + 80) (n := S + 2400) (by omega) (by omega) ?_
      exact hk g4 g9 (i4 + 5) h _ _ _ hc (lv_sub hl [3, 4, 5, 6, 0] rfl)
    · replace h := h.1 c14
      refine lv_aload_n hx hb dL_law_1567 rfl (lv_at hl 5 rfl) ?_
      refine lv_iconst (v := 0) hx hb dL_law_1568 (by decide) ?_
      obtain ⟨hk15, h⟩ := h
      obtain ⟨hi16, h⟩ := h
      refine g_lald CF hc.1 hk15 hi16 dL_law_1569 ?_
      refine lv_iload hx hb dL_law_1570 (lv_at hl 0 rfl) ?_
      refine lv_i2l hx hb dL_law_1572 rfl ?_
      refine W.lcmp hx hb dL_law_1573 ?_
      refine lv_if_eq (tgt := 1579) hx hb dL_law_1574 (by decide) (fun c17 => ?_) (fun c17 => ?_)
      · replace h := h.1 c17
        refine lv_goto (tgt := 2680) hx hb dL_law_1579 (by decide) ?_
        refine lv_iinc (v := (i4 + 5)) (lv' := [(4, .int (i4 + 5)), (6, .int x8), (5, .int x3), (0, .ref b), (1, .ref r1), (2, .ref r2), (3, .ref r3)]) hx hb dL_law_2680 hl (k := 6) rfl rfl (by decide) rfl (fun ls hl => ?_)
        refine lv_goto (tgt := 23) hx hb dL_law_2683 (by decide) ?_
        refine W.widen (k := C + 80) (n := S + 2400) (by omega) (by omega) ?_
        exact hk g4 g9 (i4 + 5) h _ _ _ hc (lv_sub hl [3, 4, 5, 6, 0] rfl)
      · replace h := h.2 c17
        refine lv_iconst (v := 0) hx hb dL_law_1577 (by decide) ?_
        exact h.elim
  · replace h := h.2 c13
    refine lv_iconst (v := 0) hx hb dL_law_1560 (by decide) ?_
    exact h.elim
set_option maxHeartbeats 4000000 in
set_option maxRecDepth 100000 in
theorem c_L_case_1582 {p : Program} {l : Launch} {e : Env} {s : State} {m : MethodId} {below : List Frame} {meth : Method} {c : Code} {b L : Nat} {xs : Nat → Int32} {D : va_G} {cA : Nat → ClassId} (hflags : l.stackTraces = false) (C0 : lw_At p s m meth c b L xs) {C S : Nat} (hC : C + 80 ≤ 601024) (hS : S + 2400 ≤ 7293034) {r1 r2 r3 : Nat} {k : gS → gS → Int32 → Prop} (hk : ∀ (gc gm : gS) (i4 : Int32), k gc gm i4 → ∀ (H : Heap) (locs : List Loc) (ls : Array Slot), gL D cA s gc gm H locs → lv_has ls 9 [(0, .ref b), (1, .ref r1), (2, .ref r2), (3, .ref r3), (4, .int i4)] → W p l e room_1 s m #[Value.ref b] below meth c H locs (C + 80) (S + 2400) (lw_Z below #[Value.ref b] s) (F0 m 23 ls [])) (gc gm : gS) (i4 : Int32) (h : b_L_law_1582 xs L r1 r2 r3 gc gm i4 k) (H : Heap) (locs : List Loc) (ls : Array Slot) (hc : gL D cA s gc gm H locs) (hl : lv_has ls 9 [(0, .ref b), (1, .ref r1), (2, .ref r2), (3, .ref r3), (4, .int i4)]) : W p l e room_1 s m #[Value.ref b] below meth c H locs C S (lw_Z below #[Value.ref b] s) (F0 m 1582 ls []) := by
  obtain ⟨hx, hb, hr, hml, hown, hts0, hX, hbl, hlk, hgv⟩ := id C0
  have hts : ∀ w ∈ wsL_law, w.before #[Value.ref b] s = true := fun w h => hts0 w (wsL_law_in w h)
  have CF : CallFix p m c cL_law 9 s #[Value.ref b] wsL_law RL := ⟨hx, hb, hml, hown, hts⟩
  have hbA : ¬ (fun q : Nat => s.heap.size ≤ q) b := Nat.not_le.mpr hbl
  unfold b_L_law_1582 at h
  refine lv_aload_n hx hb dL_law_1582 rfl (lv_at hl 1 rfl) ?_
  refine lv_aload_n hx hb dL_law_1583 rfl (lv_at hl 0 rfl) ?_
  refine lv_iload hx hb dL_law_1584 (lv_at hl 4 rfl) ?_
  refine lv_iconst (v := 1) hx hb dL_law_1586 (by decide) ?_
  refine lv_iadd hx hb dL_law_1587 ?_
  obtain ⟨hi1, h⟩ := h
  refine va_sld hx hb hX hbl hbA hc.1.2.2.2.2.2 hi1 dL_law_1588 ?_
  refine lv_aload_n hx hb dL_law_1589 rfl (lv_at hl 3 rfl) ?_
  refine l_calli (vx_runSW (As := [.ref r1, .int (xs (Int32.toNatClampNeg (i4 + 1))), .ref r3]) (rest := []) CF (c_L_kind hflags h) (vx_cwSW (hh := [(0, 9, 12, 13), (0, 9, 15, 15)]) 3 hts gL_law_L_kind rfl rfl rfl (by decide +kernel) ⟨Nat.le_of_ble_eq_true rfl, Nat.le_of_ble_eq_true rfl⟩) hc.1.preS rfl rfl hl.1 rfl (lv_room (Nat.le_of_ble_eq_true rfl)) dL_law_1590 ⟨(by show _ + 1 ≤ 601024; omega), (by show _ + 13 ≤ 7293034; omega)⟩) hc (fun x2 g3 H locs hq hc => ?_)
  replace h := hq
  refine W.widen (k := C + 1) (n := S + 13) (by omega) (by omega) ?_
  refine lv_istore (lv' := [(5, .int x2), (0, .ref b), (1, .ref r1), (2, .ref r2), (3, .ref r3), (4, .int i4)]) hx hb dL_law_1593 hl (by decide) rfl (fun ls hl => ?_)
  refine lv_aload_n hx hb dL_law_1595 rfl (lv_at hl 3 rfl) ?_
  refine lv_aload_n hx hb dL_law_1596 rfl (lv_at hl 1 rfl) ?_
  refine lv_iload hx hb dL_law_1597 (lv_at hl 5 rfl) ?_
  refine lv_iconst (v := 1) hx hb dL_law_1599 (by decide) ?_
  refine lv_iadd hx hb dL_law_1600 ?_
  obtain ⟨hi4, h⟩ := h
  refine va_sld hx hb hX hbl hbA hc.1.2.2.2.2.2 hi4 dL_law_1601 ?_
  obtain ⟨hk5, h⟩ := h
  refine l_calli (va_runV (As := [.int (xs (Int32.toNatClampNeg (i4 + 1)))]) (rest := []) CF (c_X11_kind h) (cwV 1 hts gL_law_X11_kind rfl rfl rfl (by decide +kernel) ⟨Nat.le_of_ble_eq_true rfl, Nat.le_of_ble_eq_true rfl⟩) (hc.swap.1.preV hk5 rfl (by decide)) rfl rfl hl.1 rfl (lv_room (Nat.le_of_ble_eq_true rfl)) dL_law_1602 ⟨(by show _ + 0 ≤ 601024; omega), (by show _ + 0 ≤ 7293034; omega)⟩) hc.swap (fun x6 g7 H locs hq hcs => ?_)
  have hc := hcs.swap
  replace h := hq
  refine lv_istore (lv' := [(6, .int x6), (5, .int x2), (0, .ref b), (1, .ref r1), (2, .ref r2), (3, .ref r3), (4, .int i4)]) hx hb dL_law_1605 hl (by decide) rfl (fun ls hl => ?_)
  refine lv_aload_n hx hb dL_law_1607 rfl (lv_at hl 4 rfl) ?_
  obtain ⟨hk8, h⟩ := h
  refine l_calli (va_runV (As := []) (rest := []) CF (c_X11_thrown h) (cwV 0 hts gL_law_X11_thrown rfl rfl rfl (by decide +kernel) ⟨Nat.le_of_ble_eq_true rfl, Nat.le_of_ble_eq_true rfl⟩) (hc.swap.1.preV hk8 rfl (by decide)) rfl rfl hl.1 rfl (lv_room (Nat.le_of_ble_eq_true rfl)) dL_law_1608 ⟨(by show _ + 0 ≤ 601024; omega), (by show _ + 0 ≤ 7293034; omega)⟩) hc.swap (fun x9 g10 H locs hq hcs => ?_)
  have hc := hcs.swap
  obtain ⟨rfl, h⟩ := hq
  refine lv_iload hx hb dL_law_1611 (lv_at hl 1 rfl) ?_
  refine lv_icmp_eq (tgt := 1618) hx hb dL_law_1613 (by decide) (fun c11 => ?_) (fun c11 => ?_)
  · replace h := h.1 c11
    refine lv_iload hx hb dL_law_1618 (lv_at hl 1 rfl) ?_
    refine lv_if_ne (tgt := 1635) hx hb dL_law_1620 (by decide) (fun c12 => ?_) (fun c12 => ?_)
    · replace h := h.2 c12
      refine lv_goto (tgt := 2680) hx hb dL_law_1635 (by decide) ?_
      refine lv_iinc (v := (i4 + 5)) (lv' := [(4, .int (i4 + 5)), (6, .int x6), (5, .int x2), (0, .ref b), (1, .ref r1), (2, .ref r2), (3, .ref r3)]) hx hb dL_law_2680 hl (k := 6) rfl rfl (by decide) rfl (fun ls hl => ?_)
      refine lv_goto (tgt := 23) hx hb dL_law_2683 (by decide) ?_
      refine W.widen (k := C + 80) (n := S + 2400) (by omega) (by omega) ?_
      exact hk g3 g7 (i4 + 5) h _ _ _ hc (lv_sub hl [3, 4, 5, 6, 0] rfl)
    · replace h := h.1 c12
      refine lv_aload_n hx hb dL_law_1623 rfl (lv_at hl 5 rfl) ?_
      refine lv_iconst (v := 0) hx hb dL_law_1624 (by decide) ?_
      obtain ⟨hk13, h⟩ := h
      obtain ⟨hi14, h⟩ := h
      refine g_lald CF hc.1 hk13 hi14 dL_law_1625 ?_
      refine lv_iload hx hb dL_law_1626 (lv_at hl 0 rfl) ?_
      refine lv_i2l hx hb dL_law_1628 rfl ?_
      refine W.lcmp hx hb dL_law_1629 ?_
      refine lv_if_eq (tgt := 1635) hx hb dL_law_1630 (by decide) (fun c15 => ?_) (fun c15 => ?_)
      · replace h := h.1 c15
        refine lv_goto (tgt := 2680) hx hb dL_law_1635 (by decide) ?_
        refine lv_iinc (v := (i4 + 5)) (lv' := [(4, .int (i4 + 5)), (6, .int x6), (5, .int x2), (0, .ref b), (1, .ref r1), (2, .ref r2), (3, .ref r3)]) hx hb dL_law_2680 hl (k := 6) rfl rfl (by decide) rfl (fun ls hl => ?_)
        refine lv_goto (tgt := 23) hx hb dL_law_2683 (by decide) ?_
        refine W.widen (k := C + 80) (n := S + 2400) (by omega) (by omega) ?_
        exact hk g3 g7 (i4 + 5) h _ _ _ hc (lv_sub hl [3, 4, 5, 6, 0] rfl)
      · replace h := h.2 c15
        refine lv_iconst (v := 0) hx hb dL_law_1633 (by decide) ?_
        exact h.elim
  · replace h := h.2 c11
    refine lv_iconst (v := 0) hx hb dL_law_1616 (by decide) ?_
    exact h.elim
set_option maxHeartbeats 4000000 in
set_option maxRecDepth 100000 in
theorem c_L_case_1638 {p : Program} {l : Launch} {e : Env} {s : State} {m : MethodId} {below : List Frame} {meth : Method} {c : Code} {b L : Nat} {xs : Nat → Int32} {D : va_G} {cA : Nat → ClassId} (hflags : l.stackTraces = false) (C0 : lw_At p s m meth c b L xs) {C S : Nat} (hC : C + 80 ≤ 601024) (hS : S + 2400 ≤ 7293034) {r1 r2 r3 : Nat} {k : gS → gS → Int32 → Prop} (hk : ∀ (gc gm : gS) (i4 : Int32), k gc gm i4 → ∀ (H : Heap) (locs : List Loc) (ls : Array Slot), gL D cA s gc gm H locs → lv_has ls 9 [(0, .ref b), (1, .ref r1), (2, .ref r2), (3, .ref r3), (4, .int i4)] → W p l e room_1 s m #[Value.ref b] below meth c H locs (C + 80) (S + 2400) (lw_Z below #[Value.ref b] s) (F0 m 23 ls [])) (gc gm : gS) (i4 : Int32) (h : b_L_law_1638 xs L r1 r2 r3 gc gm i4 k) (H : Heap) (locs : List Loc) (ls : Array Slot) (hc : gL D cA s gc gm H locs) (hl : lv_has ls 9 [(0, .ref b), (1, .ref r1), (2, .ref r2), (3, .ref r3), (4, .int i4)]) : W p l e room_1 s m #[Value.ref b] below meth c H locs C S (lw_Z below #[Value.ref b] s) (F0 m 1638 ls []) := by
  obtain ⟨hx, hb, hr, hml, hown, hts0, hX, hbl, hlk, hgv⟩ := id C0
  have hts : ∀ w ∈ wsL_law, w.before #[Value.ref b] s = true := fun w h => hts0 w (wsL_law_in w h)
  have CF : CallFix p m c cL_law 9 s #[Value.ref b] wsL_law RL := ⟨hx, hb, hml, hown, hts⟩
  have hbA : ¬ (fun q : Nat => s.heap.size ≤ q) b := Nat.not_le.mpr hbl
  unfold b_L_law_1638 at h
  refine lv_aload_n hx hb dL_law_1638 rfl (lv_at hl 1 rfl) ?_
  refine lv_aload_n hx hb dL_law_1639 rfl (lv_at hl 0 rfl) ?_
  refine lv_iload hx hb dL_law_1640 (lv_at hl 4 rfl) ?_
  refine lv_iconst (v := 1) hx hb dL_law_1642 (by decide) ?_
  refine lv_iadd hx hb dL_law_1643 ?_
  obtain ⟨hi1, h⟩ := h
  refine va_sld hx hb hX hbl hbA hc.1.2.2.2.2.2 hi1 dL_law_1644 ?_
  refine lv_aload_n hx hb dL_law_1645 rfl (lv_at hl 0 rfl) ?_
  refine lv_iload hx hb dL_law_1646 (lv_at hl 4 rfl) ?_
  refine lv_iconst (v := 2) hx hb dL_law_1648 (by decide) ?_
  refine lv_iadd hx hb dL_law_1649 ?_
  obtain ⟨hi2, h⟩ := h
  refine va_sld hx hb hX hbl hbA hc.1.2.2.2.2.2 hi2 dL_law_1650 ?_
  refine lv_aload_n hx hb dL_law_1651 rfl (lv_at hl 3 rfl) ?_
  refine l_calli (vx_runSW (As := [.ref r1, .int (xs (Int32.toNatClampNeg (i4 + 1))), .int (xs (Int32.toNatClampNeg (i4 + 2))), .ref r3]) (rest := []) CF (c_L_scaled hflags h) (vx_cwSW (hh := [(0, 10, 13, 28), (0, 10, 17, 13), (0, 10, 21, 15)]) 4 hts gL_law_L_scaled rfl rfl rfl (by decide +kernel) ⟨Nat.le_of_ble_eq_true rfl, Nat.le_of_ble_eq_true rfl⟩) hc.1.preS rfl rfl hl.1 rfl (lv_room (Nat.le_of_ble_eq_true rfl)) dL_law_1652 ⟨(by show _ + 1 ≤ 601024; omega), (by show _ + 13 ≤ 7293034; omega)⟩) hc (fun x3 g4 H locs hq hc => ?_)
  replace h := hq
  refine W.widen (k := C + 1) (n := S + 13) (by omega) (by omega) ?_
  refine lv_istore (lv' := [(5, .int x3), (0, .ref b), (1, .ref r1), (2, .ref r2), (3, .ref r3), (4, .int i4)]) hx hb dL_law_1655 hl (by decide) rfl (fun ls hl => ?_)
  refine lv_aload_n hx hb dL_law_1657 rfl (lv_at hl 3 rfl) ?_
  refine lv_aload_n hx hb dL_law_1658 rfl (lv_at hl 1 rfl) ?_
  refine lv_iload hx hb dL_law_1659 (lv_at hl 5 rfl) ?_
  refine lv_iconst (v := 1) hx hb dL_law_1661 (by decide) ?_
  refine lv_iadd hx hb dL_law_1662 ?_
  obtain ⟨hi5, h⟩ := h
  refine va_sld hx hb hX hbl hbA hc.1.2.2.2.2.2 hi5 dL_law_1663 ?_
  refine lv_aload_n hx hb dL_law_1664 rfl (lv_at hl 1 rfl) ?_
  refine lv_iload hx hb dL_law_1665 (lv_at hl 5 rfl) ?_
  refine lv_iconst (v := 2) hx hb dL_law_1667 (by decide) ?_
  refine lv_iadd hx hb dL_law_1668 ?_
  obtain ⟨hi6, h⟩ := h
  refine va_sld hx hb hX hbl hbA hc.1.2.2.2.2.2 hi6 dL_law_1669 ?_
  obtain ⟨hk7, h⟩ := h
  refine l_calli (va_runV (As := [.int (xs (Int32.toNatClampNeg (i4 + 1))), .int (xs (Int32.toNatClampNeg (i4 + 2)))]) (rest := []) CF (c_X11_scaled h) (cwV 2 hts gL_law_X11_scaled rfl rfl rfl (by decide +kernel) ⟨Nat.le_of_ble_eq_true rfl, Nat.le_of_ble_eq_true rfl⟩) (hc.swap.1.preV hk7 rfl (by decide)) rfl rfl hl.1 rfl (lv_room (Nat.le_of_ble_eq_true rfl)) dL_law_1670 ⟨(by show _ + 0 ≤ 601024; omega), (by show _ + 0 ≤ 7293034; omega)⟩) hc.swap (fun x8 g9 H locs hq hcs => ?_)
  have hc := hcs.swap
  replace h := hq
  refine lv_istore (lv' := [(6, .int x8), (5, .int x3), (0, .ref b), (1, .ref r1), (2, .ref r2), (3, .ref r3), (4, .int i4)]) hx hb dL_law_1673 hl (by decide) rfl (fun ls hl => ?_)
  refine lv_aload_n hx hb dL_law_1675 rfl (lv_at hl 4 rfl) ?_
  obtain ⟨hk10, h⟩ := h
  refine l_calli (va_runV (As := []) (rest := []) CF (c_X11_thrown h) (cwV 0 hts gL_law_X11_thrown rfl rfl rfl (by decide +kernel) ⟨Nat.le_of_ble_eq_true rfl, Nat.le_of_ble_eq_true rfl⟩) (hc.swap.1.preV hk10 rfl (by decide)) rfl rfl hl.1 rfl (lv_room (Nat.le_of_ble_eq_true rfl)) dL_law_1676 ⟨(by show _ + 0 ≤ 601024; omega), (by show _ + 0 ≤ 7293034; omega)⟩) hc.swap (fun x11 g12 H locs hq hcs => ?_)
  have hc := hcs.swap
  obtain ⟨rfl, h⟩ := hq
  refine lv_iload hx hb dL_law_1679 (lv_at hl 1 rfl) ?_
  refine lv_icmp_eq (tgt := 1686) hx hb dL_law_1681 (by decide) (fun c13 => ?_) (fun c13 => ?_)
  · replace h := h.1 c13
    refine lv_iload hx hb dL_law_1686 (lv_at hl 1 rfl) ?_
    refine lv_if_ne (tgt := 1703) hx hb dL_law_1688 (by decide) (fun c14 => ?_) (fun c14 => ?_)
    · replace h := h.2 c14
      refine lv_goto (tgt := 2680) hx hb dL_law_1703 (by decide) ?_
      refine lv_iinc (v := (i4 + 5)) (lv' := [(4, .int (i4 + 5)), (6, .int x8), (5, .int x3), (0, .ref b), (1, .ref r1), (2, .ref r2), (3, .ref r3)]) hx hb dL_law_2680 hl (k := 6) rfl rfl (by decide) rfl (fun ls hl => ?_)
      refine lv_goto (tgt := 23) hx hb dL_law_2683 (by decide) ?_
      refine W.widen (k := C + 80) (n := S + 2400) (by omega) (by omega) ?_
      exact hk g4 g9 (i4 + 5) h _ _ _ hc (lv_sub hl [3, 4, 5, 6, 0] rfl)
    · replace h := h.1 c14
      refine lv_aload_n hx hb dL_law_1691 rfl (lv_at hl 5 rfl) ?_
      refine lv_iconst (v := 0) hx hb dL_law_1692 (by decide) ?_
      obtain ⟨hk15, h⟩ := h
      obtain ⟨hi16, h⟩ := h
      refine g_lald CF hc.1 hk15 hi16 dL_law_1693 ?_
      refine lv_iload hx hb dL_law_1694 (lv_at hl 0 rfl) ?_
      refine lv_i2l hx hb dL_law_1696 rfl ?_
      refine W.lcmp hx hb dL_law_1697 ?_
      refine lv_if_eq (tgt := 1703) hx hb dL_law_1698 (by decide) (fun c17 => ?_) (fun c17 => ?_)
      · replace h := h.1 c17
        refine lv_goto (tgt := 2680) hx hb dL_law_1703 (by decide) ?_
        refine lv_iinc (v := (i4 + 5)) (lv' := [(4, .int (i4 + 5)), (6, .int x8), (5, .int x3), (0, .ref b), (1, .ref r1), (2, .ref r2), (3, .ref r3)]) hx hb dL_law_2680 hl (k := 6) rfl rfl (by decide) rfl (fun ls hl => ?_)
        refine lv_goto (tgt := 23) hx hb dL_law_2683 (by decide) ?_
        refine W.widen (k := C + 80) (n := S + 2400) (by omega) (by omega) ?_
        exact hk g4 g9 (i4 + 5) h _ _ _ hc (lv_sub hl [3, 4, 5, 6, 0] rfl)
      · replace h := h.2 c17
        refine lv_iconst (v := 0) hx hb dL_law_1701 (by decide) ?_
        exact h.elim
  · replace h := h.2 c13
    refine lv_iconst (v := 0) hx hb dL_law_1684 (by decide) ?_
    exact h.elim
set_option maxHeartbeats 4000000 in
set_option maxRecDepth 100000 in
theorem c_L_case_1706 {p : Program} {l : Launch} {e : Env} {s : State} {m : MethodId} {below : List Frame} {meth : Method} {c : Code} {b L : Nat} {xs : Nat → Int32} {D : va_G} {cA : Nat → ClassId} (hflags : l.stackTraces = false) (C0 : lw_At p s m meth c b L xs) {C S : Nat} (hC : C + 80 ≤ 601024) (hS : S + 2400 ≤ 7293034) {r1 r2 r3 : Nat} {k : gS → gS → Int32 → Prop} (hk : ∀ (gc gm : gS) (i4 : Int32), k gc gm i4 → ∀ (H : Heap) (locs : List Loc) (ls : Array Slot), gL D cA s gc gm H locs → lv_has ls 9 [(0, .ref b), (1, .ref r1), (2, .ref r2), (3, .ref r3), (4, .int i4)] → W p l e room_1 s m #[Value.ref b] below meth c H locs (C + 80) (S + 2400) (lw_Z below #[Value.ref b] s) (F0 m 23 ls [])) (gc gm : gS) (i4 : Int32) (h : b_L_law_1706 xs L r1 r2 r3 gc gm i4 k) (H : Heap) (locs : List Loc) (ls : Array Slot) (hc : gL D cA s gc gm H locs) (hl : lv_has ls 9 [(0, .ref b), (1, .ref r1), (2, .ref r2), (3, .ref r3), (4, .int i4)]) : W p l e room_1 s m #[Value.ref b] below meth c H locs C S (lw_Z below #[Value.ref b] s) (F0 m 1706 ls []) := by
  obtain ⟨hx, hb, hr, hml, hown, hts0, hX, hbl, hlk, hgv⟩ := id C0
  have hts : ∀ w ∈ wsL_law, w.before #[Value.ref b] s = true := fun w h => hts0 w (wsL_law_in w h)
  have CF : CallFix p m c cL_law 9 s #[Value.ref b] wsL_law RL := ⟨hx, hb, hml, hown, hts⟩
  have hbA : ¬ (fun q : Nat => s.heap.size ≤ q) b := Nat.not_le.mpr hbl
  unfold b_L_law_1706 at h
  refine lv_aload_n hx hb dL_law_1706 rfl (lv_at hl 1 rfl) ?_
  refine lv_aload_n hx hb dL_law_1707 rfl (lv_at hl 0 rfl) ?_
  refine lv_iload hx hb dL_law_1708 (lv_at hl 4 rfl) ?_
  refine lv_iconst (v := 1) hx hb dL_law_1710 (by decide) ?_
  refine lv_iadd hx hb dL_law_1711 ?_
  obtain ⟨hi1, h⟩ := h
  refine va_sld hx hb hX hbl hbA hc.1.2.2.2.2.2 hi1 dL_law_1712 ?_
  refine lv_aload_n hx hb dL_law_1713 rfl (lv_at hl 0 rfl) ?_
  refine lv_iload hx hb dL_law_1714 (lv_at hl 4 rfl) ?_
  refine lv_iconst (v := 2) hx hb dL_law_1716 (by decide) ?_
  refine lv_iadd hx hb dL_law_1717 ?_
  obtain ⟨hi2, h⟩ := h
  refine va_sld hx hb hX hbl hbA hc.1.2.2.2.2.2 hi2 dL_law_1718 ?_
  refine lv_aload_n hx hb dL_law_1719 rfl (lv_at hl 0 rfl) ?_
  refine lv_iload hx hb dL_law_1720 (lv_at hl 4 rfl) ?_
  refine lv_iconst (v := 3) hx hb dL_law_1722 (by decide) ?_
  refine lv_iadd hx hb dL_law_1723 ?_
  obtain ⟨hi3, h⟩ := h
  refine va_sld hx hb hX hbl hbA hc.1.2.2.2.2.2 hi3 dL_law_1724 ?_
  refine lv_aload_n hx hb dL_law_1725 rfl (lv_at hl 3 rfl) ?_
  refine l_calli (vx_runSW (As := [.ref r1, .int (xs (Int32.toNatClampNeg (i4 + 1))), .int (xs (Int32.toNatClampNeg (i4 + 2))), .int (xs (Int32.toNatClampNeg (i4 + 3))), .ref r3]) (rest := []) CF (c_L_most hflags h) (vx_cwSW (hh := [(0, 12, 15, 28), (0, 12, 19, 13), (0, 12, 23, 15)]) 5 hts gL_law_L_most rfl rfl rfl (by decide +kernel) ⟨Nat.le_of_ble_eq_true rfl, Nat.le_of_ble_eq_true rfl⟩) hc.1.preS rfl rfl hl.1 rfl (lv_room (Nat.le_of_ble_eq_true rfl)) dL_law_1726 ⟨(by show _ + 1 ≤ 601024; omega), (by show _ + 13 ≤ 7293034; omega)⟩) hc (fun x4 g5 H locs hq hc => ?_)
  replace h := hq
  refine W.widen (k := C + 1) (n := S + 13) (by omega) (by omega) ?_
  refine lv_istore (lv' := [(5, .int x4), (0, .ref b), (1, .ref r1), (2, .ref r2), (3, .ref r3), (4, .int i4)]) hx hb dL_law_1729 hl (by decide) rfl (fun ls hl => ?_)
  refine lv_aload_n hx hb dL_law_1731 rfl (lv_at hl 3 rfl) ?_
  refine lv_aload_n hx hb dL_law_1732 rfl (lv_at hl 1 rfl) ?_
  refine lv_iload hx hb dL_law_1733 (lv_at hl 5 rfl) ?_
  refine lv_iconst (v := 1) hx hb dL_law_1735 (by decide) ?_
  refine lv_iadd hx hb dL_law_1736 ?_
  obtain ⟨hi6, h⟩ := h
  refine va_sld hx hb hX hbl hbA hc.1.2.2.2.2.2 hi6 dL_law_1737 ?_
  refine lv_aload_n hx hb dL_law_1738 rfl (lv_at hl 1 rfl) ?_
  refine lv_iload hx hb dL_law_1739 (lv_at hl 5 rfl) ?_
  refine lv_iconst (v := 2) hx hb dL_law_1741 (by decide) ?_
  refine lv_iadd hx hb dL_law_1742 ?_
  obtain ⟨hi7, h⟩ := h
  refine va_sld hx hb hX hbl hbA hc.1.2.2.2.2.2 hi7 dL_law_1743 ?_
  refine lv_aload_n hx hb dL_law_1744 rfl (lv_at hl 1 rfl) ?_
  refine lv_iload hx hb dL_law_1745 (lv_at hl 5 rfl) ?_
  refine lv_iconst (v := 3) hx hb dL_law_1747 (by decide) ?_
  refine lv_iadd hx hb dL_law_1748 ?_
  obtain ⟨hi8, h⟩ := h
  refine va_sld hx hb hX hbl hbA hc.1.2.2.2.2.2 hi8 dL_law_1749 ?_
  obtain ⟨hk9, h⟩ := h
  refine l_calli (va_runV (As := [.int (xs (Int32.toNatClampNeg (i4 + 1))), .int (xs (Int32.toNatClampNeg (i4 + 2))), .int (xs (Int32.toNatClampNeg (i4 + 3)))]) (rest := []) CF (c_X11_most h) (cwV 3 hts gL_law_X11_most rfl rfl rfl (by decide +kernel) ⟨Nat.le_of_ble_eq_true rfl, Nat.le_of_ble_eq_true rfl⟩) (hc.swap.1.preV hk9 rfl (by decide)) rfl rfl hl.1 rfl (lv_room (Nat.le_of_ble_eq_true rfl)) dL_law_1750 ⟨(by show _ + 0 ≤ 601024; omega), (by show _ + 0 ≤ 7293034; omega)⟩) hc.swap (fun x10 g11 H locs hq hcs => ?_)
  have hc := hcs.swap
  replace h := hq
  refine lv_istore (lv' := [(6, .int x10), (5, .int x4), (0, .ref b), (1, .ref r1), (2, .ref r2), (3, .ref r3), (4, .int i4)]) hx hb dL_law_1753 hl (by decide) rfl (fun ls hl => ?_)
  refine lv_aload_n hx hb dL_law_1755 rfl (lv_at hl 4 rfl) ?_
  obtain ⟨hk12, h⟩ := h
  refine l_calli (va_runV (As := []) (rest := []) CF (c_X11_thrown h) (cwV 0 hts gL_law_X11_thrown rfl rfl rfl (by decide +kernel) ⟨Nat.le_of_ble_eq_true rfl, Nat.le_of_ble_eq_true rfl⟩) (hc.swap.1.preV hk12 rfl (by decide)) rfl rfl hl.1 rfl (lv_room (Nat.le_of_ble_eq_true rfl)) dL_law_1756 ⟨(by show _ + 0 ≤ 601024; omega), (by show _ + 0 ≤ 7293034; omega)⟩) hc.swap (fun x13 g14 H locs hq hcs => ?_)
  have hc := hcs.swap
  obtain ⟨rfl, h⟩ := hq
  refine lv_iload hx hb dL_law_1759 (lv_at hl 1 rfl) ?_
  refine lv_icmp_eq (tgt := 1766) hx hb dL_law_1761 (by decide) (fun c15 => ?_) (fun c15 => ?_)
  · replace h := h.1 c15
    refine lv_iload hx hb dL_law_1766 (lv_at hl 1 rfl) ?_
    refine lv_if_ne (tgt := 1783) hx hb dL_law_1768 (by decide) (fun c16 => ?_) (fun c16 => ?_)
    · replace h := h.2 c16
      refine lv_goto (tgt := 2680) hx hb dL_law_1783 (by decide) ?_
      refine lv_iinc (v := (i4 + 5)) (lv' := [(4, .int (i4 + 5)), (6, .int x10), (5, .int x4), (0, .ref b), (1, .ref r1), (2, .ref r2), (3, .ref r3)]) hx hb dL_law_2680 hl (k := 6) rfl rfl (by decide) rfl (fun ls hl => ?_)
      refine lv_goto (tgt := 23) hx hb dL_law_2683 (by decide) ?_
      refine W.widen (k := C + 80) (n := S + 2400) (by omega) (by omega) ?_
      exact hk g5 g11 (i4 + 5) h _ _ _ hc (lv_sub hl [3, 4, 5, 6, 0] rfl)
    · replace h := h.1 c16
      refine lv_aload_n hx hb dL_law_1771 rfl (lv_at hl 5 rfl) ?_
      refine lv_iconst (v := 0) hx hb dL_law_1772 (by decide) ?_
      obtain ⟨hk17, h⟩ := h
      obtain ⟨hi18, h⟩ := h
      refine g_lald CF hc.1 hk17 hi18 dL_law_1773 ?_
      refine lv_iload hx hb dL_law_1774 (lv_at hl 0 rfl) ?_
      refine lv_i2l hx hb dL_law_1776 rfl ?_
      refine W.lcmp hx hb dL_law_1777 ?_
      refine lv_if_eq (tgt := 1783) hx hb dL_law_1778 (by decide) (fun c19 => ?_) (fun c19 => ?_)
      · replace h := h.1 c19
        refine lv_goto (tgt := 2680) hx hb dL_law_1783 (by decide) ?_
        refine lv_iinc (v := (i4 + 5)) (lv' := [(4, .int (i4 + 5)), (6, .int x10), (5, .int x4), (0, .ref b), (1, .ref r1), (2, .ref r2), (3, .ref r3)]) hx hb dL_law_2680 hl (k := 6) rfl rfl (by decide) rfl (fun ls hl => ?_)
        refine lv_goto (tgt := 23) hx hb dL_law_2683 (by decide) ?_
        refine W.widen (k := C + 80) (n := S + 2400) (by omega) (by omega) ?_
        exact hk g5 g11 (i4 + 5) h _ _ _ hc (lv_sub hl [3, 4, 5, 6, 0] rfl)
      · replace h := h.2 c19
        refine lv_iconst (v := 0) hx hb dL_law_1781 (by decide) ?_
        exact h.elim
  · replace h := h.2 c15
    refine lv_iconst (v := 0) hx hb dL_law_1764 (by decide) ?_
    exact h.elim
set_option maxHeartbeats 4000000 in
set_option maxRecDepth 100000 in
theorem c_L_case_1786 {p : Program} {l : Launch} {e : Env} {s : State} {m : MethodId} {below : List Frame} {meth : Method} {c : Code} {b L : Nat} {xs : Nat → Int32} {D : va_G} {cA : Nat → ClassId} (hflags : l.stackTraces = false) (C0 : lw_At p s m meth c b L xs) {C S : Nat} (hC : C + 80 ≤ 601024) (hS : S + 2400 ≤ 7293034) {r1 r2 r3 : Nat} {k : gS → gS → Int32 → Prop} (hk : ∀ (gc gm : gS) (i4 : Int32), k gc gm i4 → ∀ (H : Heap) (locs : List Loc) (ls : Array Slot), gL D cA s gc gm H locs → lv_has ls 9 [(0, .ref b), (1, .ref r1), (2, .ref r2), (3, .ref r3), (4, .int i4)] → W p l e room_1 s m #[Value.ref b] below meth c H locs (C + 80) (S + 2400) (lw_Z below #[Value.ref b] s) (F0 m 23 ls [])) (gc gm : gS) (i4 : Int32) (h : b_L_law_1786 xs L r1 r2 r3 gc gm i4 k) (H : Heap) (locs : List Loc) (ls : Array Slot) (hc : gL D cA s gc gm H locs) (hl : lv_has ls 9 [(0, .ref b), (1, .ref r1), (2, .ref r2), (3, .ref r3), (4, .int i4)]) : W p l e room_1 s m #[Value.ref b] below meth c H locs C S (lw_Z below #[Value.ref b] s) (F0 m 1786 ls []) := by
  obtain ⟨hx, hb, hr, hml, hown, hts0, hX, hbl, hlk, hgv⟩ := id C0
  have hts : ∀ w ∈ wsL_law, w.before #[Value.ref b] s = true := fun w h => hts0 w (wsL_law_in w h)
  have CF : CallFix p m c cL_law 9 s #[Value.ref b] wsL_law RL := ⟨hx, hb, hml, hown, hts⟩
  have hbA : ¬ (fun q : Nat => s.heap.size ≤ q) b := Nat.not_le.mpr hbl
  unfold b_L_law_1786 at h
  refine lv_aload_n hx hb dL_law_1786 rfl (lv_at hl 1 rfl) ?_
  obtain ⟨hk1, h⟩ := h
  refine l_calli (va_runV (As := []) (rest := []) CF (c_X10_clear h) (cwV 0 hts gL_law_X10_clear rfl rfl rfl (by decide +kernel) ⟨Nat.le_of_ble_eq_true rfl, Nat.le_of_ble_eq_true rfl⟩) (hc.1.preV hk1 rfl (by decide)) rfl rfl hl.1 rfl (lv_room (Nat.le_of_ble_eq_true rfl)) dL_law_1787 ⟨(by show _ + 0 ≤ 601024; omega), (by show _ + 0 ≤ 7293034; omega)⟩) hc (fun x2 g3 H locs hq hc => ?_)
  replace h := hq
  refine lv_aload_n hx hb dL_law_1790 rfl (lv_at hl 2 rfl) ?_
  obtain ⟨hk4, h⟩ := h
  refine l_calli (va_runV (As := []) (rest := [.int x2]) CF (c_X11_clear h) (cwV 0 hts gL_law_X11_clear rfl rfl rfl (by decide +kernel) ⟨Nat.le_of_ble_eq_true rfl, Nat.le_of_ble_eq_true rfl⟩) (hc.swap.1.preV hk4 rfl (by decide)) rfl rfl hl.1 rfl (lv_room (Nat.le_of_ble_eq_true rfl)) dL_law_1791 ⟨(by show _ + 0 ≤ 601024; omega), (by show _ + 0 ≤ 7293034; omega)⟩) hc.swap (fun x5 g6 H locs hq hcs => ?_)
  have hc := hcs.swap
  replace h := hq
  refine lv_icmp_eq (tgt := 2680) hx hb dL_law_1794 (by decide) (fun c7 => ?_) (fun c7 => ?_)
  · replace h := h.1 c7
    refine lv_iinc (v := (i4 + 5)) (lv' := [(4, .int (i4 + 5)), (0, .ref b), (1, .ref r1), (2, .ref r2), (3, .ref r3)]) hx hb dL_law_2680 hl (k := 4) rfl rfl (by decide) rfl (fun ls hl => ?_)
    refine lv_goto (tgt := 23) hx hb dL_law_2683 (by decide) ?_
    refine W.widen (k := C + 80) (n := S + 2400) (by omega) (by omega) ?_
    exact hk g3 g6 (i4 + 5) h _ _ _ hc (lv_sub hl [1, 2, 3, 4, 0] rfl)
  · replace h := h.2 c7
    refine lv_iconst (v := 0) hx hb dL_law_1797 (by decide) ?_
    exact h.elim
set_option maxHeartbeats 4000000 in
set_option maxRecDepth 100000 in
theorem c_L_case_1799 {p : Program} {l : Launch} {e : Env} {s : State} {m : MethodId} {below : List Frame} {meth : Method} {c : Code} {b L : Nat} {xs : Nat → Int32} {D : va_G} {cA : Nat → ClassId} (hflags : l.stackTraces = false) (C0 : lw_At p s m meth c b L xs) {C S : Nat} (hC : C + 80 ≤ 601024) (hS : S + 2400 ≤ 7293034) {r1 r2 r3 : Nat} {k : gS → gS → Int32 → Prop} (hk : ∀ (gc gm : gS) (i4 : Int32), k gc gm i4 → ∀ (H : Heap) (locs : List Loc) (ls : Array Slot), gL D cA s gc gm H locs → lv_has ls 9 [(0, .ref b), (1, .ref r1), (2, .ref r2), (3, .ref r3), (4, .int i4)] → W p l e room_1 s m #[Value.ref b] below meth c H locs (C + 80) (S + 2400) (lw_Z below #[Value.ref b] s) (F0 m 23 ls [])) (gc gm : gS) (i4 : Int32) (h : b_L_law_1799 xs L r1 r2 r3 gc gm i4 k) (H : Heap) (locs : List Loc) (ls : Array Slot) (hc : gL D cA s gc gm H locs) (hl : lv_has ls 9 [(0, .ref b), (1, .ref r1), (2, .ref r2), (3, .ref r3), (4, .int i4)]) : W p l e room_1 s m #[Value.ref b] below meth c H locs C S (lw_Z below #[Value.ref b] s) (F0 m 1799 ls []) := by
  obtain ⟨hx, hb, hr, hml, hown, hts0, hX, hbl, hlk, hgv⟩ := id C0
  have hts : ∀ w ∈ wsL_law, w.before #[Value.ref b] s = true := fun w h => hts0 w (wsL_law_in w h)
  have CF : CallFix p m c cL_law 9 s #[Value.ref b] wsL_law RL := ⟨hx, hb, hml, hown, hts⟩
  have hbA : ¬ (fun q : Nat => s.heap.size ≤ q) b := Nat.not_le.mpr hbl
  unfold b_L_law_1799 at h
  refine lv_aload_n hx hb dL_law_1799 rfl (lv_at hl 1 rfl) ?_
  obtain ⟨hk1, h⟩ := h
  refine l_calli (va_runV (As := []) (rest := []) CF (c_X10_nodes h) (cwV 0 hts gL_law_X10_nodes rfl rfl rfl (by decide +kernel) ⟨Nat.le_of_ble_eq_true rfl, Nat.le_of_ble_eq_true rfl⟩) (hc.1.preV hk1 rfl (by decide)) rfl rfl hl.1 rfl (lv_room (Nat.le_of_ble_eq_true rfl)) dL_law_1800 ⟨(by show _ + 0 ≤ 601024; omega), (by show _ + 0 ≤ 7293034; omega)⟩) hc (fun x2 g3 H locs hq hc => ?_)
  obtain ⟨rfl, h⟩ := hq
  refine lv_aload_n hx hb dL_law_1803 rfl (lv_at hl 2 rfl) ?_
  obtain ⟨hk4, h⟩ := h
  refine l_calli (va_runV (As := []) (rest := [.int x2]) CF (c_X11_nodes h) (cwV 0 hts gL_law_X11_nodes rfl rfl rfl (by decide +kernel) ⟨Nat.le_of_ble_eq_true rfl, Nat.le_of_ble_eq_true rfl⟩) (hc.swap.1.preV hk4 rfl (by decide)) rfl rfl hl.1 rfl (lv_room (Nat.le_of_ble_eq_true rfl)) dL_law_1804 ⟨(by show _ + 0 ≤ 601024; omega), (by show _ + 0 ≤ 7293034; omega)⟩) hc.swap (fun x5 g6 H locs hq hcs => ?_)
  have hc := hcs.swap
  replace h := hq
  refine lv_icmp_eq (tgt := 2680) hx hb dL_law_1807 (by decide) (fun c7 => ?_) (fun c7 => ?_)
  · replace h := h.1 c7
    refine lv_iinc (v := (i4 + 5)) (lv' := [(4, .int (i4 + 5)), (0, .ref b), (1, .ref r1), (2, .ref r2), (3, .ref r3)]) hx hb dL_law_2680 hl (k := 4) rfl rfl (by decide) rfl (fun ls hl => ?_)
    refine lv_goto (tgt := 23) hx hb dL_law_2683 (by decide) ?_
    refine W.widen (k := C + 80) (n := S + 2400) (by omega) (by omega) ?_
    exact hk gc g6 (i4 + 5) h _ _ _ hc (lv_sub hl [1, 2, 3, 4, 0] rfl)
  · replace h := h.2 c7
    refine lv_iconst (v := 0) hx hb dL_law_1810 (by decide) ?_
    exact h.elim
set_option maxHeartbeats 4000000 in
set_option maxRecDepth 100000 in
theorem c_L_case_1812 {p : Program} {l : Launch} {e : Env} {s : State} {m : MethodId} {below : List Frame} {meth : Method} {c : Code} {b L : Nat} {xs : Nat → Int32} {D : va_G} {cA : Nat → ClassId} (hflags : l.stackTraces = false) (C0 : lw_At p s m meth c b L xs) {C S : Nat} (hC : C + 80 ≤ 601024) (hS : S + 2400 ≤ 7293034) {r1 r2 r3 : Nat} {k : gS → gS → Int32 → Prop} (hk : ∀ (gc gm : gS) (i4 : Int32), k gc gm i4 → ∀ (H : Heap) (locs : List Loc) (ls : Array Slot), gL D cA s gc gm H locs → lv_has ls 9 [(0, .ref b), (1, .ref r1), (2, .ref r2), (3, .ref r3), (4, .int i4)] → W p l e room_1 s m #[Value.ref b] below meth c H locs (C + 80) (S + 2400) (lw_Z below #[Value.ref b] s) (F0 m 23 ls [])) (gc gm : gS) (i4 : Int32) (h : b_L_law_1812 xs L r1 r2 r3 gc gm i4 k) (H : Heap) (locs : List Loc) (ls : Array Slot) (hc : gL D cA s gc gm H locs) (hl : lv_has ls 9 [(0, .ref b), (1, .ref r1), (2, .ref r2), (3, .ref r3), (4, .int i4)]) : W p l e room_1 s m #[Value.ref b] below meth c H locs C S (lw_Z below #[Value.ref b] s) (F0 m 1812 ls []) := by
  obtain ⟨hx, hb, hr, hml, hown, hts0, hX, hbl, hlk, hgv⟩ := id C0
  have hts : ∀ w ∈ wsL_law, w.before #[Value.ref b] s = true := fun w h => hts0 w (wsL_law_in w h)
  have CF : CallFix p m c cL_law 9 s #[Value.ref b] wsL_law RL := ⟨hx, hb, hml, hown, hts⟩
  have hbA : ¬ (fun q : Nat => s.heap.size ≤ q) b := Nat.not_le.mpr hbl
  unfold b_L_law_1812 at h
  refine lv_aload_n hx hb dL_law_1812 rfl (lv_at hl 1 rfl) ?_
  refine lv_aload_n hx hb dL_law_1813 rfl (lv_at hl 0 rfl) ?_
  refine lv_iload hx hb dL_law_1814 (lv_at hl 4 rfl) ?_
  refine lv_iconst (v := 1) hx hb dL_law_1816 (by decide) ?_
  refine lv_iadd hx hb dL_law_1817 ?_
  obtain ⟨hi1, h⟩ := h
  refine va_sld hx hb hX hbl hbA hc.1.2.2.2.2.2 hi1 dL_law_1818 ?_
  refine lv_aload_n hx hb dL_law_1819 rfl (lv_at hl 0 rfl) ?_
  refine lv_iload hx hb dL_law_1820 (lv_at hl 4 rfl) ?_
  refine lv_iconst (v := 2) hx hb dL_law_1822 (by decide) ?_
  refine lv_iadd hx hb dL_law_1823 ?_
  obtain ⟨hi2, h⟩ := h
  refine va_sld hx hb hX hbl hbA hc.1.2.2.2.2.2 hi2 dL_law_1824 ?_
  refine lv_aload_n hx hb dL_law_1825 rfl (lv_at hl 3 rfl) ?_
  refine l_calli (vx_runSW (As := [.ref r1, .int (xs (Int32.toNatClampNeg (i4 + 1))), .int (xs (Int32.toNatClampNeg (i4 + 2))), .ref r3]) (rest := []) CF (c_L_score hflags h) (vx_cwSW (hh := [(0, 10, 13, 28)]) 4 hts gL_law_L_score rfl rfl rfl (by decide +kernel) ⟨Nat.le_of_ble_eq_true rfl, Nat.le_of_ble_eq_true rfl⟩) hc.1.preS rfl rfl hl.1 rfl (lv_room (Nat.le_of_ble_eq_true rfl)) dL_law_1826 ⟨(by show _ + 1 ≤ 601024; omega), (by show _ + 6 ≤ 7293034; omega)⟩) hc (fun x3 g4 H locs hq hc => ?_)
  replace h := hq
  refine W.widen (k := C + 1) (n := S + 6) (by omega) (by omega) ?_
  refine lv_istore (lv' := [(5, .int x3), (0, .ref b), (1, .ref r1), (2, .ref r2), (3, .ref r3), (4, .int i4)]) hx hb dL_law_1829 hl (by decide) rfl (fun ls hl => ?_)
  refine lv_aload_n hx hb dL_law_1831 rfl (lv_at hl 3 rfl) ?_
  refine lv_aload_n hx hb dL_law_1832 rfl (lv_at hl 1 rfl) ?_
  refine lv_iload hx hb dL_law_1833 (lv_at hl 5 rfl) ?_
  refine lv_iconst (v := 1) hx hb dL_law_1835 (by decide) ?_
  refine lv_iadd hx hb dL_law_1836 ?_
  obtain ⟨hi5, h⟩ := h
  refine va_sld hx hb hX hbl hbA hc.1.2.2.2.2.2 hi5 dL_law_1837 ?_
  refine lv_aload_n hx hb dL_law_1838 rfl (lv_at hl 1 rfl) ?_
  refine lv_iload hx hb dL_law_1839 (lv_at hl 5 rfl) ?_
  refine lv_iconst (v := 2) hx hb dL_law_1841 (by decide) ?_
  refine lv_iadd hx hb dL_law_1842 ?_
  obtain ⟨hi6, h⟩ := h
  refine va_sld hx hb hX hbl hbA hc.1.2.2.2.2.2 hi6 dL_law_1843 ?_
  obtain ⟨hk7, h⟩ := h
  refine l_calli (va_runV (As := [.int (xs (Int32.toNatClampNeg (i4 + 1))), .int (xs (Int32.toNatClampNeg (i4 + 2)))]) (rest := []) CF (c_X11_score h) (cwV 2 hts gL_law_X11_score rfl rfl rfl (by decide +kernel) ⟨Nat.le_of_ble_eq_true rfl, Nat.le_of_ble_eq_true rfl⟩) (hc.swap.1.preV hk7 rfl (by decide)) rfl rfl hl.1 rfl (lv_room (Nat.le_of_ble_eq_true rfl)) dL_law_1844 ⟨(by show _ + 0 ≤ 601024; omega), (by show _ + 0 ≤ 7293034; omega)⟩) hc.swap (fun x8 g9 H locs hq hcs => ?_)
  have hc := hcs.swap
  replace h := hq
  refine lv_istore (lv' := [(6, .int x8), (5, .int x3), (0, .ref b), (1, .ref r1), (2, .ref r2), (3, .ref r3), (4, .int i4)]) hx hb dL_law_1847 hl (by decide) rfl (fun ls hl => ?_)
  refine lv_aload_n hx hb dL_law_1849 rfl (lv_at hl 4 rfl) ?_
  obtain ⟨hk10, h⟩ := h
  refine l_calli (va_runV (As := []) (rest := []) CF (c_X11_thrown h) (cwV 0 hts gL_law_X11_thrown rfl rfl rfl (by decide +kernel) ⟨Nat.le_of_ble_eq_true rfl, Nat.le_of_ble_eq_true rfl⟩) (hc.swap.1.preV hk10 rfl (by decide)) rfl rfl hl.1 rfl (lv_room (Nat.le_of_ble_eq_true rfl)) dL_law_1850 ⟨(by show _ + 0 ≤ 601024; omega), (by show _ + 0 ≤ 7293034; omega)⟩) hc.swap (fun x11 g12 H locs hq hcs => ?_)
  have hc := hcs.swap
  obtain ⟨rfl, h⟩ := hq
  refine lv_iload hx hb dL_law_1853 (lv_at hl 1 rfl) ?_
  refine lv_icmp_eq (tgt := 1860) hx hb dL_law_1855 (by decide) (fun c13 => ?_) (fun c13 => ?_)
  · replace h := h.1 c13
    refine lv_iload hx hb dL_law_1860 (lv_at hl 1 rfl) ?_
    refine lv_if_ne (tgt := 1877) hx hb dL_law_1862 (by decide) (fun c14 => ?_) (fun c14 => ?_)
    · replace h := h.2 c14
      refine lv_goto (tgt := 2680) hx hb dL_law_1877 (by decide) ?_
      refine lv_iinc (v := (i4 + 5)) (lv' := [(4, .int (i4 + 5)), (6, .int x8), (5, .int x3), (0, .ref b), (1, .ref r1), (2, .ref r2), (3, .ref r3)]) hx hb dL_law_2680 hl (k := 6) rfl rfl (by decide) rfl (fun ls hl => ?_)
      refine lv_goto (tgt := 23) hx hb dL_law_2683 (by decide) ?_
      refine W.widen (k := C + 80) (n := S + 2400) (by omega) (by omega) ?_
      exact hk g4 g9 (i4 + 5) h _ _ _ hc (lv_sub hl [3, 4, 5, 6, 0] rfl)
    · replace h := h.1 c14
      refine lv_aload_n hx hb dL_law_1865 rfl (lv_at hl 5 rfl) ?_
      refine lv_iconst (v := 0) hx hb dL_law_1866 (by decide) ?_
      obtain ⟨hk15, h⟩ := h
      obtain ⟨hi16, h⟩ := h
      refine g_lald CF hc.1 hk15 hi16 dL_law_1867 ?_
      refine lv_iload hx hb dL_law_1868 (lv_at hl 0 rfl) ?_
      refine lv_i2l hx hb dL_law_1870 rfl ?_
      refine W.lcmp hx hb dL_law_1871 ?_
      refine lv_if_eq (tgt := 1877) hx hb dL_law_1872 (by decide) (fun c17 => ?_) (fun c17 => ?_)
      · replace h := h.1 c17
        refine lv_goto (tgt := 2680) hx hb dL_law_1877 (by decide) ?_
        refine lv_iinc (v := (i4 + 5)) (lv' := [(4, .int (i4 + 5)), (6, .int x8), (5, .int x3), (0, .ref b), (1, .ref r1), (2, .ref r2), (3, .ref r3)]) hx hb dL_law_2680 hl (k := 6) rfl rfl (by decide) rfl (fun ls hl => ?_)
        refine lv_goto (tgt := 23) hx hb dL_law_2683 (by decide) ?_
        refine W.widen (k := C + 80) (n := S + 2400) (by omega) (by omega) ?_
        exact hk g4 g9 (i4 + 5) h _ _ _ hc (lv_sub hl [3, 4, 5, 6, 0] rfl)
      · replace h := h.2 c17
        refine lv_iconst (v := 0) hx hb dL_law_1875 (by decide) ?_
        exact h.elim
  · replace h := h.2 c13
    refine lv_iconst (v := 0) hx hb dL_law_1858 (by decide) ?_
    exact h.elim
set_option maxHeartbeats 4000000 in
set_option maxRecDepth 100000 in
theorem c_L_case_1880 {p : Program} {l : Launch} {e : Env} {s : State} {m : MethodId} {below : List Frame} {meth : Method} {c : Code} {b L : Nat} {xs : Nat → Int32} {D : va_G} {cA : Nat → ClassId} (hflags : l.stackTraces = false) (C0 : lw_At p s m meth c b L xs) {C S : Nat} (hC : C + 80 ≤ 601024) (hS : S + 2400 ≤ 7293034) {r1 r2 r3 : Nat} {k : gS → gS → Int32 → Prop} (hk : ∀ (gc gm : gS) (i4 : Int32), k gc gm i4 → ∀ (H : Heap) (locs : List Loc) (ls : Array Slot), gL D cA s gc gm H locs → lv_has ls 9 [(0, .ref b), (1, .ref r1), (2, .ref r2), (3, .ref r3), (4, .int i4)] → W p l e room_1 s m #[Value.ref b] below meth c H locs (C + 80) (S + 2400) (lw_Z below #[Value.ref b] s) (F0 m 23 ls [])) (gc gm : gS) (i4 : Int32) (h : b_L_law_1880 xs L r1 r2 r3 gc gm i4 k) (H : Heap) (locs : List Loc) (ls : Array Slot) (hc : gL D cA s gc gm H locs) (hl : lv_has ls 9 [(0, .ref b), (1, .ref r1), (2, .ref r2), (3, .ref r3), (4, .int i4)]) : W p l e room_1 s m #[Value.ref b] below meth c H locs C S (lw_Z below #[Value.ref b] s) (F0 m 1880 ls []) := by
  obtain ⟨hx, hb, hr, hml, hown, hts0, hX, hbl, hlk, hgv⟩ := id C0
  have hts : ∀ w ∈ wsL_law, w.before #[Value.ref b] s = true := fun w h => hts0 w (wsL_law_in w h)
  have CF : CallFix p m c cL_law 9 s #[Value.ref b] wsL_law RL := ⟨hx, hb, hml, hown, hts⟩
  have hbA : ¬ (fun q : Nat => s.heap.size ≤ q) b := Nat.not_le.mpr hbl
  unfold b_L_law_1880 at h
  refine lv_aload_n hx hb dL_law_1880 rfl (lv_at hl 1 rfl) ?_
  refine lv_aload_n hx hb dL_law_1881 rfl (lv_at hl 0 rfl) ?_
  refine lv_iload hx hb dL_law_1882 (lv_at hl 4 rfl) ?_
  refine lv_iconst (v := 1) hx hb dL_law_1884 (by decide) ?_
  refine lv_iadd hx hb dL_law_1885 ?_
  obtain ⟨hi1, h⟩ := h
  refine va_sld hx hb hX hbl hbA hc.1.2.2.2.2.2 hi1 dL_law_1886 ?_
  refine lv_aload_n hx hb dL_law_1887 rfl (lv_at hl 3 rfl) ?_
  refine l_calli (vx_runSW (As := [.ref r1, .int (xs (Int32.toNatClampNeg (i4 + 1))), .ref r3]) (rest := []) CF (c_L_found hflags h) (vx_cwSW (hh := [(0, 9, 12, 28)]) 3 hts gL_law_L_found rfl rfl rfl (by decide +kernel) ⟨Nat.le_of_ble_eq_true rfl, Nat.le_of_ble_eq_true rfl⟩) hc.1.preS rfl rfl hl.1 rfl (lv_room (Nat.le_of_ble_eq_true rfl)) dL_law_1888 ⟨(by show _ + 1 ≤ 601024; omega), (by show _ + 6 ≤ 7293034; omega)⟩) hc (fun x2 g3 H locs hq hc => ?_)
  replace h := hq
  refine W.widen (k := C + 1) (n := S + 6) (by omega) (by omega) ?_
  refine lv_istore (lv' := [(5, .int x2), (0, .ref b), (1, .ref r1), (2, .ref r2), (3, .ref r3), (4, .int i4)]) hx hb dL_law_1891 hl (by decide) rfl (fun ls hl => ?_)
  refine lv_aload_n hx hb dL_law_1893 rfl (lv_at hl 3 rfl) ?_
  refine lv_aload_n hx hb dL_law_1894 rfl (lv_at hl 1 rfl) ?_
  refine lv_iload hx hb dL_law_1895 (lv_at hl 5 rfl) ?_
  refine lv_iconst (v := 1) hx hb dL_law_1897 (by decide) ?_
  refine lv_iadd hx hb dL_law_1898 ?_
  obtain ⟨hi4, h⟩ := h
  refine va_sld hx hb hX hbl hbA hc.1.2.2.2.2.2 hi4 dL_law_1899 ?_
  obtain ⟨hk5, h⟩ := h
  refine l_calli (va_runV (As := [.int (xs (Int32.toNatClampNeg (i4 + 1)))]) (rest := []) CF (c_X11_found h) (cwV 1 hts gL_law_X11_found rfl rfl rfl (by decide +kernel) ⟨Nat.le_of_ble_eq_true rfl, Nat.le_of_ble_eq_true rfl⟩) (hc.swap.1.preV hk5 rfl (by decide)) rfl rfl hl.1 rfl (lv_room (Nat.le_of_ble_eq_true rfl)) dL_law_1900 ⟨(by show _ + 0 ≤ 601024; omega), (by show _ + 0 ≤ 7293034; omega)⟩) hc.swap (fun x6 g7 H locs hq hcs => ?_)
  have hc := hcs.swap
  replace h := hq
  refine lv_istore (lv' := [(6, .int x6), (5, .int x2), (0, .ref b), (1, .ref r1), (2, .ref r2), (3, .ref r3), (4, .int i4)]) hx hb dL_law_1903 hl (by decide) rfl (fun ls hl => ?_)
  refine lv_aload_n hx hb dL_law_1905 rfl (lv_at hl 4 rfl) ?_
  obtain ⟨hk8, h⟩ := h
  refine l_calli (va_runV (As := []) (rest := []) CF (c_X11_thrown h) (cwV 0 hts gL_law_X11_thrown rfl rfl rfl (by decide +kernel) ⟨Nat.le_of_ble_eq_true rfl, Nat.le_of_ble_eq_true rfl⟩) (hc.swap.1.preV hk8 rfl (by decide)) rfl rfl hl.1 rfl (lv_room (Nat.le_of_ble_eq_true rfl)) dL_law_1906 ⟨(by show _ + 0 ≤ 601024; omega), (by show _ + 0 ≤ 7293034; omega)⟩) hc.swap (fun x9 g10 H locs hq hcs => ?_)
  have hc := hcs.swap
  obtain ⟨rfl, h⟩ := hq
  refine lv_iload hx hb dL_law_1909 (lv_at hl 1 rfl) ?_
  refine lv_icmp_eq (tgt := 1916) hx hb dL_law_1911 (by decide) (fun c11 => ?_) (fun c11 => ?_)
  · replace h := h.1 c11
    refine lv_iload hx hb dL_law_1916 (lv_at hl 1 rfl) ?_
    refine lv_if_ne (tgt := 1933) hx hb dL_law_1918 (by decide) (fun c12 => ?_) (fun c12 => ?_)
    · replace h := h.2 c12
      refine lv_goto (tgt := 2680) hx hb dL_law_1933 (by decide) ?_
      refine lv_iinc (v := (i4 + 5)) (lv' := [(4, .int (i4 + 5)), (6, .int x6), (5, .int x2), (0, .ref b), (1, .ref r1), (2, .ref r2), (3, .ref r3)]) hx hb dL_law_2680 hl (k := 6) rfl rfl (by decide) rfl (fun ls hl => ?_)
      refine lv_goto (tgt := 23) hx hb dL_law_2683 (by decide) ?_
      refine W.widen (k := C + 80) (n := S + 2400) (by omega) (by omega) ?_
      exact hk g3 g7 (i4 + 5) h _ _ _ hc (lv_sub hl [3, 4, 5, 6, 0] rfl)
    · replace h := h.1 c12
      refine lv_aload_n hx hb dL_law_1921 rfl (lv_at hl 5 rfl) ?_
      refine lv_iconst (v := 0) hx hb dL_law_1922 (by decide) ?_
      obtain ⟨hk13, h⟩ := h
      obtain ⟨hi14, h⟩ := h
      refine g_lald CF hc.1 hk13 hi14 dL_law_1923 ?_
      refine lv_iload hx hb dL_law_1924 (lv_at hl 0 rfl) ?_
      refine lv_i2l hx hb dL_law_1926 rfl ?_
      refine W.lcmp hx hb dL_law_1927 ?_
      refine lv_if_eq (tgt := 1933) hx hb dL_law_1928 (by decide) (fun c15 => ?_) (fun c15 => ?_)
      · replace h := h.1 c15
        refine lv_goto (tgt := 2680) hx hb dL_law_1933 (by decide) ?_
        refine lv_iinc (v := (i4 + 5)) (lv' := [(4, .int (i4 + 5)), (6, .int x6), (5, .int x2), (0, .ref b), (1, .ref r1), (2, .ref r2), (3, .ref r3)]) hx hb dL_law_2680 hl (k := 6) rfl rfl (by decide) rfl (fun ls hl => ?_)
        refine lv_goto (tgt := 23) hx hb dL_law_2683 (by decide) ?_
        refine W.widen (k := C + 80) (n := S + 2400) (by omega) (by omega) ?_
        exact hk g3 g7 (i4 + 5) h _ _ _ hc (lv_sub hl [3, 4, 5, 6, 0] rfl)
      · replace h := h.2 c15
        refine lv_iconst (v := 0) hx hb dL_law_1931 (by decide) ?_
        exact h.elim
  · replace h := h.2 c11
    refine lv_iconst (v := 0) hx hb dL_law_1914 (by decide) ?_
    exact h.elim
