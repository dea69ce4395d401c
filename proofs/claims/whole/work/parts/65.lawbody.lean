set_option maxHeartbeats 4000000 in
set_option maxRecDepth 100000 in
theorem c_L_body {p : Program} {l : Launch} {e : Env} {s : State} {m : MethodId} {below : List Frame} {meth : Method} {c : Code} {b L : Nat} {xs : Nat → Int32} {D : va_G} {cA : Nat → ClassId} (hflags : l.stackTraces = false) (C0 : lw_At p s m meth c b L xs) {C S : Nat} (hC : C + 80 ≤ 601024) (hS : S + 2400 ≤ 7293034) {r1 r2 r3 : Nat} {k : gS → gS → Int32 → Prop} (hk : ∀ (gc gm : gS) (i4 : Int32), k gc gm i4 → ∀ (H : Heap) (locs : List Loc) (ls : Array Slot), gL D cA s gc gm H locs → lv_has ls 9 [(0, .ref b), (1, .ref r1), (2, .ref r2), (3, .ref r3), (4, .int i4)] → W p l e room_1 s m #[Value.ref b] below meth c H locs (C + 80) (S + 2400) (lw_Z below #[Value.ref b] s) (F0 m 23 ls [])) (gc gm : gS) (i4 : Int32) (h : l_L_law xs L r1 r2 r3 gc gm i4 k) (H : Heap) (locs : List Loc) (ls : Array Slot) (hc : gL D cA s gc gm H locs) (hl : lv_has ls 9 [(0, .ref b), (1, .ref r1), (2, .ref r2), (3, .ref r3), (4, .int i4)]) : W p l e room_1 s m #[Value.ref b] below meth c H locs C S (lw_Z below #[Value.ref b] s) (F0 m 23 ls []) := by
  obtain ⟨hx, hb, hr, hml, hown, hts0, hX, hbl, hlk, hgv⟩ := id C0
  have hts : ∀ w ∈ wsL_law, w.before #[Value.ref b] s = true := fun w h => hts0 w (wsL_law_in w h)
  have CF : CallFix p m c cL_law 9 s #[Value.ref b] wsL_law RL := ⟨hx, hb, hml, hown, hts⟩
  have hbA : ¬ (fun q : Nat => s.heap.size ≤ q) b := Nat.not_le.mpr hbl
  unfold l_L_law at h
  refine lv_iload hx hb dL_law_23 (lv_at hl 4 rfl) ?_
  refine lv_aload_n hx hb dL_law_25 rfl (lv_at hl 0 rfl) ?_
  refine va_slen hx hb hX hbl hbA hc.1.2.2.2.2.2 dL_law_26 ?_
  refine lv_iconst (v := 5) hx hb dL_law_27 (by decide) ?_
  refine lv_isub hx hb dL_law_28 ?_
  refine lv_icmp_gt (tgt := 2686) hx hb dL_law_29 (by decide) (fun c1 => ?_) (fun c1 => ?_)
  · replace h := h.1 c1
    refine lv_iconst (v := 1) hx hb dL_law_2686 (by decide) ?_
    refine va_forget (fun q hq => hc.1.2.2.2.2.2.2.2 q hq) ?_
    refine W.widen (k := 601024) (n := 7293034) (by omega) (by omega) ?_
    exact lw_ret (d0 := s.drawn) (Drawn.sameBut.refl s.drawn lw_cs) hx hb hr hlk dL_law_2687
  · replace h := h.2 c1
    refine lv_aload_n hx hb dL_law_32 rfl (lv_at hl 0 rfl) ?_
    refine lv_iload hx hb dL_law_33 (lv_at hl 4 rfl) ?_
    obtain ⟨hi2, h⟩ := h
    refine va_sld hx hb hX hbl hbA hc.1.2.2.2.2.2 hi2 dL_law_35 ?_
    refine lv_bipush (v := 63) hx hb dL_law_36 (by decide) ?_
    refine lv_iand hx hb dL_law_38 ?_
    by_cases hd3 : ((xs (Int32.toNatClampNeg i4)) &&& 63).toInt < 0 ∨ 43 < ((xs (Int32.toNatClampNeg i4)) &&& 63).toInt
    · replace h := h.1 hd3
      refine lv_tableOut (tgt := 2680) hx hb dL_law_39 hd3 (by decide) ?_
      refine lv_iinc (v := (i4 + 5)) (lv' := [(4, .int (i4 + 5)), (0, .ref b), (1, .ref r1), (2, .ref r2), (3, .ref r3)]) hx hb dL_law_2680 hl (k := 4) rfl rfl (by decide) rfl (fun ls hl => ?_)
      refine lv_goto (tgt := 23) hx hb dL_law_2683 (by decide) ?_
      refine W.widen (k := C + 80) (n := S + 2400) (by omega) (by omega) ?_
      exact hk gc gm (i4 + 5) h _ _ _ hc (lv_sub hl [1, 2, 3, 4, 0] rfl)
    · replace h := h.2
      rcases (show ((xs (Int32.toNatClampNeg i4)) &&& 63).toInt = 0 ∨ ((xs (Int32.toNatClampNeg i4)) &&& 63).toInt = 1 ∨ ((xs (Int32.toNatClampNeg i4)) &&& 63).toInt = 2 ∨ ((xs (Int32.toNatClampNeg i4)) &&& 63).toInt = 3 ∨ ((xs (Int32.toNatClampNeg i4)) &&& 63).toInt = 4 ∨ ((xs (Int32.toNatClampNeg i4)) &&& 63).toInt = 5 ∨ ((xs (Int32.toNatClampNeg i4)) &&& 63).toInt = 6 ∨ ((xs (Int32.toNatClampNeg i4)) &&& 63).toInt = 7 ∨ ((xs (Int32.toNatClampNeg i4)) &&& 63).toInt = 8 ∨ ((xs (Int32.toNatClampNeg i4)) &&& 63).toInt = 9 ∨ ((xs (Int32.toNatClampNeg i4)) &&& 63).toInt = 10 ∨ ((xs (Int32.toNatClampNeg i4)) &&& 63).toInt = 11 ∨ ((xs (Int32.toNatClampNeg i4)) &&& 63).toInt = 12 ∨ ((xs (Int32.toNatClampNeg i4)) &&& 63).toInt = 13 ∨ ((xs (Int32.toNatClampNeg i4)) &&& 63).toInt = 14 ∨ ((xs (Int32.toNatClampNeg i4)) &&& 63).toInt = 15 ∨ ((xs (Int32.toNatClampNeg i4)) &&& 63).toInt = 16 ∨ ((xs (Int32.toNatClampNeg i4)) &&& 63).toInt = 17 ∨ ((xs (Int32.toNatClampNeg i4)) &&& 63).toInt = 18 ∨ ((xs (Int32.toNatClampNeg i4)) &&& 63).toInt = 19 ∨ ((xs (Int32.toNatClampNeg i4)) &&& 63).toInt = 20 ∨ ((xs (Int32.toNatClampNeg i4)) &&& 63).toInt = 21 ∨ ((xs (Int32.toNatClampNeg i4)) &&& 63).toInt = 22 ∨ ((xs (Int32.toNatClampNeg i4)) &&& 63).toInt = 23 ∨ ((xs (Int32.toNatClampNeg i4)) &&& 63).toInt = 24 ∨ ((xs (Int32.toNatClampNeg i4)) &&& 63).toInt = 25 ∨ ((xs (Int32.toNatClampNeg i4)) &&& 63).toInt = 26 ∨ ((xs (Int32.toNatClampNeg i4)) &&& 63).toInt = 27 ∨ ((xs (Int32.toNatClampNeg i4)) &&& 63).toInt = 28 ∨ ((xs (Int32.toNatClampNeg i4)) &&& 63).toInt = 29 ∨ ((xs (Int32.toNatClampNeg i4)) &&& 63).toInt = 30 ∨ ((xs (Int32.toNatClampNeg i4)) &&& 63).toInt = 31 ∨ ((xs (Int32.toNatClampNeg i4)) &&& 63).toInt = 32 ∨ ((xs (Int32.toNatClampNeg i4)) &&& 63).toInt = 33 ∨ ((xs (Int32.toNatClampNeg i4)) &&& 63).toInt = 34 ∨ ((xs (Int32.toNatClampNeg i4)) &&& 63).toInt = 35 ∨ ((xs (Int32.toNatClampNeg i4)) &&& 63).toInt = 36 ∨ ((xs (Int32.toNatClampNeg i4)) &&& 63).toInt = 37 ∨ ((xs (Int32.toNatClampNeg i4)) &&& 63).toInt = 38 ∨ ((xs (Int32.toNatClampNeg i4)) &&& 63).toInt = 39 ∨ ((xs (Int32.toNatClampNeg i4)) &&& 63).toInt = 40 ∨ ((xs (Int32.toNatClampNeg i4)) &&& 63).toInt = 41 ∨ ((xs (Int32.toNatClampNeg i4)) &&& 63).toInt = 42 ∨ ((xs (Int32.toNatClampNeg i4)) &&& 63).toInt = 43 by omega) with hs | hs | hs | hs | hs | hs | hs | hs | hs | hs | hs | hs | hs | hs | hs | hs | hs | hs | hs | hs | hs | hs | hs | hs | hs | hs | hs | hs | hs | hs | hs | hs | hs | hs | hs | hs | hs | hs | hs | hs | hs | hs | hs | hs
      · replace h := h.1 hs
        refine lv_tableIn (off := 189) (tgt := 228) hx hb dL_law_39 (by omega) (by omega) (by rw [hs]; rfl) (by decide) ?_
        exact c_L_case_228 hflags C0 hC hS hk gc gm i4 h _ _ _ hc hl
      · replace h := h.2.1 hs
        refine lv_tableIn (off := 257) (tgt := 296) hx hb dL_law_39 (by omega) (by omega) (by rw [hs]; rfl) (by decide) ?_
        exact c_L_case_296 hflags C0 hC hS hk gc gm i4 h _ _ _ hc hl
      · replace h := h.2.2.1 hs
        refine lv_tableIn (off := 325) (tgt := 364) hx hb dL_law_39 (by omega) (by omega) (by rw [hs]; rfl) (by decide) ?_
        exact c_L_case_364 hflags C0 hC hS hk gc gm i4 h _ _ _ hc hl
      · replace h := h.2.2.2.1 hs
        refine lv_tableIn (off := 369) (tgt := 408) hx hb dL_law_39 (by omega) (by omega) (by rw [hs]; rfl) (by decide) ?_
        exact c_L_case_408 hflags C0 hC hS hk gc gm i4 h _ _ _ hc hl
      · replace h := h.2.2.2.2.1 hs
        refine lv_tableIn (off := 432) (tgt := 471) hx hb dL_law_39 (by omega) (by omega) (by rw [hs]; rfl) (by decide) ?_
        exact c_L_case_471 hflags C0 hC hS hk gc gm i4 h _ _ _ hc hl
      · replace h := h.2.2.2.2.2.1 hs
        refine lv_tableIn (off := 523) (tgt := 562) hx hb dL_law_39 (by omega) (by omega) (by rw [hs]; rfl) (by decide) ?_
        exact c_L_case_562 hflags C0 hC hS hk gc gm i4 h _ _ _ hc hl
      · replace h := h.2.2.2.2.2.2.1 hs
        refine lv_tableIn (off := 591) (tgt := 630) hx hb dL_law_39 (by omega) (by omega) (by rw [hs]; rfl) (by decide) ?_
        exact c_L_case_630 hflags C0 hC hS hk gc gm i4 h _ _ _ hc hl
      · replace h := h.2.2.2.2.2.2.2.1 hs
        refine lv_tableIn (off := 659) (tgt := 698) hx hb dL_law_39 (by omega) (by omega) (by rw [hs]; rfl) (by decide) ?_
        exact c_L_case_698 hflags C0 hC hS hk gc gm i4 h _ _ _ hc hl
      · replace h := h.2.2.2.2.2.2.2.2.1 hs
        refine lv_tableIn (off := 672) (tgt := 711) hx hb dL_law_39 (by omega) (by omega) (by rw [hs]; rfl) (by decide) ?_
        exact c_L_case_711 hflags C0 hC hS hk gc gm i4 h _ _ _ hc hl
      · replace h := h.2.2.2.2.2.2.2.2.2.1 hs
        refine lv_tableIn (off := 728) (tgt := 767) hx hb dL_law_39 (by omega) (by omega) (by rw [hs]; rfl) (by decide) ?_
        exact c_L_case_767 hflags C0 hC hS hk gc gm i4 h _ _ _ hc hl
      · replace h := h.2.2.2.2.2.2.2.2.2.2.1 hs
        refine lv_tableIn (off := 808) (tgt := 847) hx hb dL_law_39 (by omega) (by omega) (by rw [hs]; rfl) (by decide) ?_
        exact c_L_case_847 hflags C0 hC hS hk gc gm i4 h _ _ _ hc hl
      · replace h := h.2.2.2.2.2.2.2.2.2.2.2.1 hs
        refine lv_tableIn (off := 821) (tgt := 860) hx hb dL_law_39 (by omega) (by omega) (by rw [hs]; rfl) (by decide) ?_
        exact c_L_case_860 hflags C0 hC hS hk gc gm i4 h _ _ _ hc hl
      · replace h := h.2.2.2.2.2.2.2.2.2.2.2.2.1 hs
        refine lv_tableIn (off := 834) (tgt := 873) hx hb dL_law_39 (by omega) (by omega) (by rw [hs]; rfl) (by decide) ?_
        exact c_L_case_873 hflags C0 hC hS hk gc gm i4 h _ _ _ hc hl
      · replace h := h.2.2.2.2.2.2.2.2.2.2.2.2.2.1 hs
        refine lv_tableIn (off := 847) (tgt := 886) hx hb dL_law_39 (by omega) (by omega) (by rw [hs]; rfl) (by decide) ?_
        exact c_L_case_886 hflags C0 hC hS hk gc gm i4 h _ _ _ hc hl
      · replace h := h.2.2.2.2.2.2.2.2.2.2.2.2.2.2.1 hs
        refine lv_tableIn (off := 903) (tgt := 942) hx hb dL_law_39 (by omega) (by omega) (by rw [hs]; rfl) (by decide) ?_
        exact c_L_case_942 hflags C0 hC hS hk gc gm i4 h _ _ _ hc hl
      · replace h := h.2.2.2.2.2.2.2.2.2.2.2.2.2.2.2.1 hs
        refine lv_tableIn (off := 959) (tgt := 998) hx hb dL_law_39 (by omega) (by omega) (by rw [hs]; rfl) (by decide) ?_
        exact c_L_case_998 hflags C0 hC hS hk gc gm i4 h _ _ _ hc hl
      · replace h := h.2.2.2.2.2.2.2.2.2.2.2.2.2.2.2.2.1 hs
        refine lv_tableIn (off := 1027) (tgt := 1066) hx hb dL_law_39 (by omega) (by omega) (by rw [hs]; rfl) (by decide) ?_
        exact c_L_case_1066 hflags C0 hC hS hk gc gm i4 h _ _ _ hc hl
      · replace h := h.2.2.2.2.2.2.2.2.2.2.2.2.2.2.2.2.2.1 hs
        refine lv_tableIn (off := 1095) (tgt := 1134) hx hb dL_law_39 (by omega) (by omega) (by rw [hs]; rfl) (by decide) ?_
        exact c_L_case_1134 hflags C0 hC hS hk gc gm i4 h _ _ _ hc hl
      · replace h := h.2.2.2.2.2.2.2.2.2.2.2.2.2.2.2.2.2.2.1 hs
        refine lv_tableIn (off := 1163) (tgt := 1202) hx hb dL_law_39 (by omega) (by omega) (by rw [hs]; rfl) (by decide) ?_
        exact c_L_case_1202 hflags C0 hC hS hk gc gm i4 h _ _ _ hc hl
      · replace h := h.2.2.2.2.2.2.2.2.2.2.2.2.2.2.2.2.2.2.2.1 hs
        refine lv_tableIn (off := 1231) (tgt := 1270) hx hb dL_law_39 (by omega) (by omega) (by rw [hs]; rfl) (by decide) ?_
        exact c_L_case_1270 hflags C0 hC hS hk gc gm i4 h _ _ _ hc hl
      · replace h := h.2.2.2.2.2.2.2.2.2.2.2.2.2.2.2.2.2.2.2.2.1 hs
        refine lv_tableIn (off := 1299) (tgt := 1338) hx hb dL_law_39 (by omega) (by omega) (by rw [hs]; rfl) (by decide) ?_
        exact c_L_case_1338 hflags C0 hC hS hk gc gm i4 h _ _ _ hc hl
      · replace h := h.2.2.2.2.2.2.2.2.2.2.2.2.2.2.2.2.2.2.2.2.2.1 hs
        refine lv_tableIn (off := 1367) (tgt := 1406) hx hb dL_law_39 (by omega) (by omega) (by rw [hs]; rfl) (by decide) ?_
        exact c_L_case_1406 hflags C0 hC hS hk gc gm i4 h _ _ _ hc hl
      · replace h := h.2.2.2.2.2.2.2.2.2.2.2.2.2.2.2.2.2.2.2.2.2.2.1 hs
        refine lv_tableIn (off := 1475) (tgt := 1514) hx hb dL_law_39 (by omega) (by omega) (by rw [hs]; rfl) (by decide) ?_
        exact c_L_case_1514 hflags C0 hC hS hk gc gm i4 h _ _ _ hc hl
      · replace h := h.2.2.2.2.2.2.2.2.2.2.2.2.2.2.2.2.2.2.2.2.2.2.2.1 hs
        refine lv_tableIn (off := 1543) (tgt := 1582) hx hb dL_law_39 (by omega) (by omega) (by rw [hs]; rfl) (by decide) ?_
        exact c_L_case_1582 hflags C0 hC hS hk gc gm i4 h _ _ _ hc hl
      · replace h := h.2.2.2.2.2.2.2.2.2.2.2.2.2.2.2.2.2.2.2.2.2.2.2.2.1 hs
        refine lv_tableIn (off := 1599) (tgt := 1638) hx hb dL_law_39 (by omega) (by omega) (by rw [hs]; rfl) (by decide) ?_
        exact c_L_case_1638 hflags C0 hC hS hk gc gm i4 h _ _ _ hc hl
      · replace h := h.2.2.2.2.2.2.2.2.2.2.2.2.2.2.2.2.2.2.2.2.2.2.2.2.2.1 hs
        refine lv_tableIn (off := 1667) (tgt := 1706) hx hb dL_law_39 (by omega) (by omega) (by rw [hs]; rfl) (by decide) ?_
        exact c_L_case_1706 hflags C0 hC hS hk gc gm i4 h _ _ _ hc hl
      · replace h := h.2.2.2.2.2.2.2.2.2.2.2.2.2.2.2.2.2.2.2.2.2.2.2.2.2.2.1 hs
        refine lv_tableIn (off := 1747) (tgt := 1786) hx hb dL_law_39 (by omega) (by omega) (by rw [hs]; rfl) (by decide) ?_
        exact c_L_case_1786 hflags C0 hC hS hk gc gm i4 h _ _ _ hc hl
      · replace h := h.2.2.2.2.2.2.2.2.2.2.2.2.2.2.2.2.2.2.2.2.2.2.2.2.2.2.2.1 hs
        refine lv_tableIn (off := 1760) (tgt := 1799) hx hb dL_law_39 (by omega) (by omega) (by rw [hs]; rfl) (by decide) ?_
        exact c_L_case_1799 hflags C0 hC hS hk gc gm i4 h _ _ _ hc hl
      · replace h := h.2.2.2.2.2.2.2.2.2.2.2.2.2.2.2.2.2.2.2.2.2.2.2.2.2.2.2.2.1 hs
        refine lv_tableIn (off := 1773) (tgt := 1812) hx hb dL_law_39 (by omega) (by omega) (by rw [hs]; rfl) (by decide) ?_
        exact c_L_case_1812 hflags C0 hC hS hk gc gm i4 h _ _ _ hc hl
      · replace h := h.2.2.2.2.2.2.2.2.2.2.2.2.2.2.2.2.2.2.2.2.2.2.2.2.2.2.2.2.2.1 hs
        refine lv_tableIn (off := 1841) (tgt := 1880) hx hb dL_law_39 (by omega) (by omega) (by rw [hs]; rfl) (by decide) ?_
        exact c_L_case_1880 hflags C0 hC hS hk gc gm i4 h _ _ _ hc hl
      · replace h := h.2.2.2.2.2.2.2.2.2.2.2.2.2.2.2.2.2.2.2.2.2.2.2.2.2.2.2.2.2.2.1 hs
        refine lv_tableIn (off := 1897) (tgt := 1936) hx hb dL_law_39 (by omega) (by omega) (by rw [hs]; rfl) (by decide) ?_
        exact c_L_case_1936 hflags C0 hC hS hk gc gm i4 h _ _ _ hc hl
      · replace h := h.2.2.2.2.2.2.2.2.2.2.2.2.2.2.2.2.2.2.2.2.2.2.2.2.2.2.2.2.2.2.2.1 hs
        refine lv_tableIn (off := 1953) (tgt := 1992) hx hb dL_law_39 (by omega) (by omega) (by rw [hs]; rfl) (by decide) ?_
        exact c_L_case_1992 hflags C0 hC hS hk gc gm i4 h _ _ _ hc hl
      · replace h := h.2.2.2.2.2.2.2.2.2.2.2.2.2.2.2.2.2.2.2.2.2.2.2.2.2.2.2.2.2.2.2.2.1 hs
        refine lv_tableIn (off := 1966) (tgt := 2005) hx hb dL_law_39 (by omega) (by omega) (by rw [hs]; rfl) (by decide) ?_
        exact c_L_case_2005 hflags C0 hC hS hk gc gm i4 h _ _ _ hc hl
      · replace h := h.2.2.2.2.2.2.2.2.2.2.2.2.2.2.2.2.2.2.2.2.2.2.2.2.2.2.2.2.2.2.2.2.2.1 hs
        refine lv_tableIn (off := 2022) (tgt := 2061) hx hb dL_law_39 (by omega) (by omega) (by rw [hs]; rfl) (by decide) ?_
        exact c_L_case_2061 hflags C0 hC hS hk gc gm i4 h _ _ _ hc hl
      · replace h := h.2.2.2.2.2.2.2.2.2.2.2.2.2.2.2.2.2.2.2.2.2.2.2.2.2.2.2.2.2.2.2.2.2.2.1 hs
        refine lv_tableIn (off := 2078) (tgt := 2117) hx hb dL_law_39 (by omega) (by omega) (by rw [hs]; rfl) (by decide) ?_
        exact c_L_case_2117 hflags C0 hC hS hk gc gm i4 h _ _ _ hc hl
      · replace h := h.2.2.2.2.2.2.2.2.2.2.2.2.2.2.2.2.2.2.2.2.2.2.2.2.2.2.2.2.2.2.2.2.2.2.2.1 hs
        refine lv_tableIn (off := 2134) (tgt := 2173) hx hb dL_law_39 (by omega) (by omega) (by rw [hs]; rfl) (by decide) ?_
        exact c_L_case_2173 hflags C0 hC hS hk gc gm i4 h _ _ _ hc hl
      · replace h := h.2.2.2.2.2.2.2.2.2.2.2.2.2.2.2.2.2.2.2.2.2.2.2.2.2.2.2.2.2.2.2.2.2.2.2.2.1 hs
        refine lv_tableIn (off := 2202) (tgt := 2241) hx hb dL_law_39 (by omega) (by omega) (by rw [hs]; rfl) (by decide) ?_
        exact c_L_case_2241 hflags C0 hC hS hk gc gm i4 h _ _ _ hc hl
      · replace h := h.2.2.2.2.2.2.2.2.2.2.2.2.2.2.2.2.2.2.2.2.2.2.2.2.2.2.2.2.2.2.2.2.2.2.2.2.2.1 hs
        refine lv_tableIn (off := 2294) (tgt := 2333) hx hb dL_law_39 (by omega) (by omega) (by rw [hs]; rfl) (by decide) ?_
        exact c_L_case_2333 hflags C0 hC hS hk gc gm i4 h _ _ _ hc hl
      · replace h := h.2.2.2.2.2.2.2.2.2.2.2.2.2.2.2.2.2.2.2.2.2.2.2.2.2.2.2.2.2.2.2.2.2.2.2.2.2.2.1 hs
        refine lv_tableIn (off := 2350) (tgt := 2389) hx hb dL_law_39 (by omega) (by omega) (by rw [hs]; rfl) (by decide) ?_
        exact c_L_case_2389 hflags C0 hC hS hk gc gm i4 h _ _ _ hc hl
      · replace h := h.2.2.2.2.2.2.2.2.2.2.2.2.2.2.2.2.2.2.2.2.2.2.2.2.2.2.2.2.2.2.2.2.2.2.2.2.2.2.2.1 hs
        refine lv_tableIn (off := 2406) (tgt := 2445) hx hb dL_law_39 (by omega) (by omega) (by rw [hs]; rfl) (by decide) ?_
        exact c_L_case_2445 hflags C0 hC hS hk gc gm i4 h _ _ _ hc hl
      · replace h := h.2.2.2.2.2.2.2.2.2.2.2.2.2.2.2.2.2.2.2.2.2.2.2.2.2.2.2.2.2.2.2.2.2.2.2.2.2.2.2.2.1 hs
        refine lv_tableIn (off := 2462) (tgt := 2501) hx hb dL_law_39 (by omega) (by omega) (by rw [hs]; rfl) (by decide) ?_
        exact c_L_case_2501 hflags C0 hC hS hk gc gm i4 h _ _ _ hc hl
      · replace h := h.2.2.2.2.2.2.2.2.2.2.2.2.2.2.2.2.2.2.2.2.2.2.2.2.2.2.2.2.2.2.2.2.2.2.2.2.2.2.2.2.2.1 hs
        refine lv_tableIn (off := 2518) (tgt := 2557) hx hb dL_law_39 (by omega) (by omega) (by rw [hs]; rfl) (by decide) ?_
        exact c_L_case_2557 hflags C0 hC hS hk gc gm i4 h _ _ _ hc hl
      · replace h := h.2.2.2.2.2.2.2.2.2.2.2.2.2.2.2.2.2.2.2.2.2.2.2.2.2.2.2.2.2.2.2.2.2.2.2.2.2.2.2.2.2.2.1 hs
        refine lv_tableIn (off := 2586) (tgt := 2625) hx hb dL_law_39 (by omega) (by omega) (by rw [hs]; rfl) (by decide) ?_
        exact c_L_case_2625 hflags C0 hC hS hk gc gm i4 h _ _ _ hc hl
      · replace h := h.2.2.2.2.2.2.2.2.2.2.2.2.2.2.2.2.2.2.2.2.2.2.2.2.2.2.2.2.2.2.2.2.2.2.2.2.2.2.2.2.2.2.2 hs
        refine lv_tableIn (off := 2627) (tgt := 2666) hx hb dL_law_39 (by omega) (by omega) (by rw [hs]; rfl) (by decide) ?_
        exact c_L_case_2666 hflags C0 hC hS hk gc gm i4 h _ _ _ hc hl
