def b_X10_write_66 (g : gS) (Q : Int32 → gS → Prop) (X : String → gS → Prop) : Prop :=
  X "java/lang/IllegalStateException" g
def b_X10_write_14 (g : gS) (Q : Int32 → gS → Prop) (X : String → gS → Prop) : Prop :=
  X "java/lang/IllegalArgumentException" g
def w_X10_write (g0 : gS) (p0 : Nat) (p1 : Int32) (p2 : Int32) (Q : Int32 → gS → Prop) (X : String → gS → Prop) : Prop :=
  w_X10_isField g0 p1 (fun x1 => ((x1 = 0 → (b_X10_write_14 g0 Q X)) ∧ (¬ x1 = 0 → (w_X10_isTerm g0 p2 (fun x4 => ((x4 = 0 → (b_X10_write_14 g0 Q X)) ∧ (¬ x4 = 0 → (gK g0 p0 = 11 ∧ (∃ y8, gR g0 p0 0 = some y8 ∧ (gK g0 y8 = 1 ∧ (∀ o11, o11 = gR g0 y8 2 → ((o11 = none → (X "java/lang/IllegalStateException" g0)) ∧ (∀ y13, o11 = some y13 → (gK g0 y13 = 3 ∧ (w_X2_rowOf g0 y13 p1 (fun o16 => ((o16 = none → (b_X10_write_66 g0 Q X)) ∧ (∀ y18, o16 = some y18 → (gK g0 y18 = 10 ∧ (w_X9_isFull g0 y18 (fun x21 => ((x21 = 0 → (w_X9_append g0 y18 p2 (fun g25 => (gK g25 y18 = 10 ∧ (Q (gI g25 y18 3) g25))))) ∧ (¬ x21 = 0 → (b_X10_write_66 g0 Q X))))))))))))))))))))))))
abbrev r_X10_write : Room := { frames := 6, cells := 1, slots := 6, locals := 82 }
set_option maxHeartbeats 4000000 in
set_option maxRecDepth 100000 in
theorem c_X10_write {l : Launch} {D : va_G} {cA : Nat → ClassId} {sz : Nat} {g0 : gS} {p0 : Nat} {p1 : Int32} {p2 : Int32} {Q : Int32 → gS → Prop} {X : String → gS → Prop} (hflags : l.stackTraces = false) (h : w_X10_write g0 p0 p1 p2 Q X) : vx_Met l yX10_write wsX10_write r_X10_write (va_Pc [.ref p0, .int p1, .int p2] (gPre D cA g0 sz)) (gQi D cA g0 sz (Q)) (gQx D cA g0 sz (X)) 1 6 (gA g0 sz) := by
  refine g_xmet (cc := cX10_write) (maxL := 5) (ret := (some .int)) (own := RX10) (by decide) rfl rfl (Nat.le_of_ble_eq_true rfl) ?_
  intro p e s m args below meth c ls CF hr hlk hnm hxt hc hl
  obtain ⟨hx, hb, hml, hown, hts⟩ := id CF
  have hl : lv_has ls 5 [(0, .ref p0), (1, .int p1), (2, .int p2)] := hl
  show W p l e r_X10_write s m args below meth c s.heap [] 0 0 (vx_MQ below (gQi D cA g0 sz (Q)) (gQx D cA g0 sz (X)) args s 1 6 (gA g0 sz)) (F0 m 0 ls [])
  have hb_66 : ∀ (g : gS), b_X10_write_66 g Q X → ∀ (H : Heap) (locs : List Loc) (ls : Array Slot), gC D cA (gA g0 sz) s g H locs → lv_has ls 5 [] → W p l e r_X10_write s m args below meth c H locs 0 0 (vx_MQ below (gQi D cA g0 sz (Q)) (gQx D cA g0 sz (X)) args s 1 6 (gA g0 sz)) (F0 m 66 ls []) := by
    intro g h H locs ls hc hl
    unfold b_X10_write_66 at h
    exact g_throwS CF hflags hc (cls := "java/lang/IllegalStateException") (text := "the field is full") (names := ["java/lang/RuntimeException", "java/lang/Exception"]) (ik := 100) (is := 131) (ic := 104) (by decide) (by decide) (List.mem_cons_of_mem _ (List.mem_append_left _ (List.mem_append_left _ (List.mem_append_left _ (List.mem_append_left _ (List.mem_append_left _ (List.mem_append_left _ (List.mem_append_left _ (List.mem_of_getElem? (i := 2) rfl))))))))) (List.mem_cons_of_mem _ (List.mem_append_left _ (List.mem_append_left _ (List.mem_append_left _ (List.mem_append_left _ (List.mem_append_left _ (List.mem_append_left _ (List.mem_append_left _ (List.mem_of_getElem? (i := 3) rfl))))))))) (by decide +kernel) (fun _ h9 => List.mem_cons_of_mem _ (List.mem_append_right _ (h9))) ex_104_2 ex_ot ex_100_104_3 hl.1 dX10_write_66 dX10_write_69 dX10_write_70 dX10_write_72 dX10_write_75 hxt (Nat.le_of_ble_eq_true rfl) (Nat.le_of_ble_eq_true rfl) (Nat.le_of_ble_eq_true rfl) (Nat.le_of_ble_eq_true rfl) hlk h (Nat.le_of_ble_eq_true rfl) (Nat.le_of_ble_eq_true rfl)
  have hb_14 : ∀ (g : gS), b_X10_write_14 g Q X → ∀ (H : Heap) (locs : List Loc) (ls : Array Slot), gC D cA (gA g0 sz) s g H locs → lv_has ls 5 [] → W p l e r_X10_write s m args below meth c H locs 0 0 (vx_MQ below (gQi D cA g0 sz (Q)) (gQx D cA g0 sz (X)) args s 1 6 (gA g0 sz)) (F0 m 14 ls []) := by
    intro g h H locs ls hc hl
    unfold b_X10_write_14 at h
    exact g_throwS CF hflags hc (cls := "java/lang/IllegalArgumentException") (text := "there is no such field or term") (names := ["java/lang/RuntimeException", "java/lang/Exception"]) (ik := 85) (is := 120) (ic := 89) (by decide) (by decide) (List.mem_cons_of_mem _ (List.mem_append_left _ (List.mem_append_left _ (List.mem_append_left _ (List.mem_append_left _ (List.mem_append_left _ (List.mem_append_left _ (List.mem_append_left _ (List.mem_of_getElem? (i := 0) rfl))))))))) (List.mem_cons_of_mem _ (List.mem_append_left _ (List.mem_append_left _ (List.mem_append_left _ (List.mem_append_left _ (List.mem_append_left _ (List.mem_append_left _ (List.mem_append_left _ (List.mem_of_getElem? (i := 1) rfl))))))))) (by decide +kernel) (fun _ h9 => List.mem_cons_of_mem _ (List.mem_append_left _ (List.mem_append_right _ (h9)))) ex_89_2 ex_ot ex_85_89_3 hl.1 dX10_write_14 dX10_write_17 dX10_write_18 dX10_write_20 dX10_write_23 hxt (Nat.le_of_ble_eq_true rfl) (Nat.le_of_ble_eq_true rfl) (Nat.le_of_ble_eq_true rfl) (Nat.le_of_ble_eq_true rfl) hlk h (Nat.le_of_ble_eq_true rfl) (Nat.le_of_ble_eq_true rfl)
  unfold w_X10_write at h
  obtain ⟨H, hH0⟩ : ∃ z, z = s.heap := ⟨_, rfl⟩
  rw [← hH0] at hc ⊢
  obtain ⟨locs, hlc0⟩ : ∃ z : List Loc, z = [] := ⟨_, rfl⟩
  rw [← hlc0] at hc ⊢
  refine lv_iload_n hx hb dX10_write_0 rfl (lv_at hl 1 rfl) ?_
  refine g_calli (va_runS (As := [.int p1]) (rest := []) CF (c_X10_isField h) (va_cwS 1 hts gX10_write_X10_isField rfl rfl rfl (by decide +kernel) ⟨Nat.le_of_ble_eq_true rfl, Nat.le_of_ble_eq_true rfl⟩) hc.preS rfl rfl hl.1 rfl (lv_room (Nat.le_of_ble_eq_true rfl)) dX10_write_1 ⟨Nat.le_of_ble_eq_true rfl, Nat.le_of_ble_eq_true rfl⟩) hc (fun x1 gq2 H locs hq hc => ?_)
  obtain ⟨rfl, h⟩ := hq
  refine lv_if_eq (tgt := 14) hx hb dX10_write_4 (by decide) (fun c3 => ?_) (fun c3 => ?_)
  · have h := h.1 c3
    exact hb_14 g0 h _ _ _ hc (lv_sub hl [] rfl)
  · have h := h.2 c3
    refine lv_iload_n hx hb dX10_write_7 rfl (lv_at hl 2 rfl) ?_
    refine g_calli (va_runS (As := [.int p2]) (rest := []) CF (c_X10_isTerm h) (va_cwS 1 hts gX10_write_X10_isTerm rfl rfl rfl (by decide +kernel) ⟨Nat.le_of_ble_eq_true rfl, Nat.le_of_ble_eq_true rfl⟩) hc.preS rfl rfl hl.1 rfl (lv_room (Nat.le_of_ble_eq_true rfl)) dX10_write_8 ⟨Nat.le_of_ble_eq_true rfl, Nat.le_of_ble_eq_true rfl⟩) hc (fun x4 gq5 H locs hq hc => ?_)
    obtain ⟨rfl, h⟩ := hq
    refine lv_if_ne (tgt := 24) hx hb dX10_write_11 (by decide) (fun c6 => ?_) (fun c6 => ?_)
    · have h := h.2 c6
      refine lv_aload_n hx hb dX10_write_24 rfl (lv_at hl 0 rfl) ?_
      obtain ⟨hk7, h⟩ := h
      obtain ⟨y8, e9, h⟩ := h
      refine g_getr CF hc hk7 rfl (by decide) (fun _ h9 => List.mem_cons_of_mem _ (List.mem_append_left _ (List.mem_append_left _ (List.mem_append_left _ (List.mem_append_left _ (List.mem_append_left _ (List.mem_append_right _ (h9)))))))) (k := 0) (by decide) (List.mem_cons_of_mem _ (List.mem_append_left _ (List.mem_append_left _ (List.mem_append_left _ (List.mem_append_left _ (List.mem_append_left _ (List.mem_append_left _ (List.mem_append_left _ (List.mem_of_getElem? (i := 4) rfl))))))))) e9 rfl dX10_write_25 ?_
      obtain ⟨hk10, h⟩ := h
      refine g_get CF hc hk10 rfl (by decide) (fun _ h9 => List.mem_cons_of_mem _ (List.mem_append_left _ (List.mem_append_left _ (List.mem_append_left _ (List.mem_append_left _ (List.mem_append_right _ (h9))))))) (k := 2) (by decide) (List.mem_cons_of_mem _ (List.mem_append_left _ (List.mem_append_left _ (List.mem_append_left _ (List.mem_append_left _ (List.mem_append_left _ (List.mem_append_left _ (List.mem_append_left _ (List.mem_of_getElem? (i := 5) rfl))))))))) rfl dX10_write_28 ?_
      obtain ⟨o11, eo12⟩ : ∃ z, z = gR g0 y8 2 := ⟨_, rfl⟩
      rw [← eo12]
      replace h := h o11 eo12
      refine g_astore_nq (lv' := [(3, va_rf o11), (0, .ref p0), (1, .int p1), (2, .int p2)]) CF dX10_write_31 rfl hl (by decide) rfl (fun ls hl => ?_)
      refine g_aload_nq CF dX10_write_32 rfl (lv_at hl 0 rfl) ?_
      refine g_ifnonnull (tgt := 46) CF dX10_write_33 (by decide) (fun y13 e14 => ?_) (fun e14 => ?_)
      · have hu29 := h.2 y13 e14
        subst e14
        have h := hu29
        refine lv_aload_n hx hb dX10_write_46 rfl (lv_at hl 0 rfl) ?_
        refine lv_iload_n hx hb dX10_write_47 rfl (lv_at hl 2 rfl) ?_
        obtain ⟨hk15, h⟩ := h
        refine g_callq (va_runV (As := [.int p1]) (rest := []) CF (c_X2_rowOf h) (cwV 1 hts gX10_write_X2_rowOf rfl rfl rfl (by decide +kernel) ⟨Nat.le_of_ble_eq_true rfl, Nat.le_of_ble_eq_true rfl⟩) (hc.preV hk15 rfl (by decide)) rfl rfl hl.1 rfl (lv_room (Nat.le_of_ble_eq_true rfl)) dX10_write_48 ⟨Nat.le_of_ble_eq_true rfl, Nat.le_of_ble_eq_true rfl⟩) hc (fun o16 gq17 H locs hq hc => ?_)
        obtain ⟨rfl, h⟩ := hq
        refine g_astoreq (lv' := [(4, va_rf o16), (3, .ref y13), (0, .ref p0), (1, .int p1), (2, .int p2)]) CF dX10_write_51 hl (by decide) rfl (fun ls hl => ?_)
        refine g_aloadq CF dX10_write_53 (lv_at hl 0 rfl) ?_
        refine g_ifnull (tgt := 66) CF dX10_write_55 (by decide) (fun e19 => ?_) (fun y18 e19 => ?_)
        · have hu28 := h.1 e19
          subst e19
          have h := hu28
          exact hb_66 g0 h _ _ _ hc (lv_sub hl [] rfl)
        · have hu28 := h.2 y18 e19
          subst e19
          have h := hu28
          refine lv_aload hx hb dX10_write_58 (lv_at hl 0 rfl) ?_
          obtain ⟨hk20, h⟩ := h
          refine g_calli (va_runV (As := []) (rest := []) CF (c_X9_isFull h) (cwV 0 hts gX10_write_X9_isFull rfl rfl rfl (by decide +kernel) ⟨Nat.le_of_ble_eq_true rfl, Nat.le_of_ble_eq_true rfl⟩) (hc.preV hk20 rfl (by decide)) rfl rfl hl.1 rfl (lv_room (Nat.le_of_ble_eq_true rfl)) dX10_write_60 ⟨Nat.le_of_ble_eq_true rfl, Nat.le_of_ble_eq_true rfl⟩) hc (fun x21 gq22 H locs hq hc => ?_)
          obtain ⟨rfl, h⟩ := hq
          refine lv_if_eq (tgt := 76) hx hb dX10_write_63 (by decide) (fun c23 => ?_) (fun c23 => ?_)
          · have h := h.1 c23
            refine lv_aload hx hb dX10_write_76 (lv_at hl 0 rfl) ?_
            refine lv_iload_n hx hb dX10_write_78 rfl (lv_at hl 4 rfl) ?_
            refine g_callv (va_runV (As := [.int p2]) (rest := []) CF (c_X9_append h) (cwV 1 hts gX10_write_X9_append rfl rfl rfl (by decide +kernel) ⟨Nat.le_of_ble_eq_true rfl, Nat.le_of_ble_eq_true rfl⟩) (hc.preV hk20 rfl (by decide)) rfl rfl hl.1 rfl (lv_room (Nat.le_of_ble_eq_true rfl)) dX10_write_79 ⟨Nat.le_of_ble_eq_true rfl, Nat.le_of_ble_eq_true rfl⟩) hc (fun g25 H locs hq hc => ?_)
            replace h := hq
            refine lv_aload hx hb dX10_write_82 (lv_at hl 0 rfl) ?_
            obtain ⟨hk27, h⟩ := h
            refine g_get CF hc hk27 rfl (by decide) (fun _ h9 => List.mem_cons_of_mem _ (List.mem_append_left _ (List.mem_append_left _ (List.mem_append_left _ (List.mem_append_right _ (h9)))))) (k := 3) (by decide) (List.mem_cons_of_mem _ (List.mem_append_left _ (List.mem_append_left _ (List.mem_append_left _ (List.mem_append_left _ (List.mem_append_left _ (List.mem_append_left _ (List.mem_append_left _ (List.mem_of_getElem? (i := 6) rfl))))))))) rfl dX10_write_84 ?_
            refine W.widen (k := 1) (n := 6) (Nat.le_of_ble_eq_true rfl) (Nat.le_of_ble_eq_true rfl) ?_
            refine vx_ret ?_
            exact g_reti (r := (gI g25 y18 3)) CF hr hlk hc rfl h dX10_write_87
          · have h := h.2 c23
            exact hb_66 g0 h _ _ _ hc (lv_sub hl [] rfl)
      · have hu29 := h.1 e14
        subst e14
        have h := hu29
        exact g_throwS CF hflags hc (cls := "java/lang/IllegalStateException") (text := "no document is open") (names := ["java/lang/RuntimeException", "java/lang/Exception"]) (ik := 100) (is := 122) (ic := 104) (by decide) (by decide) (List.mem_cons_of_mem _ (List.mem_append_left _ (List.mem_append_left _ (List.mem_append_left _ (List.mem_append_left _ (List.mem_append_left _ (List.mem_append_left _ (List.mem_append_left _ (List.mem_of_getElem? (i := 2) rfl))))))))) (List.mem_cons_of_mem _ (List.mem_append_left _ (List.mem_append_left _ (List.mem_append_left _ (List.mem_append_left _ (List.mem_append_left _ (List.mem_append_left _ (List.mem_append_left _ (List.mem_of_getElem? (i := 3) rfl))))))))) (by decide +kernel) (fun _ h9 => List.mem_cons_of_mem _ (List.mem_append_right _ (h9))) ex_104_2 ex_ot ex_100_104_3 hl.1 dX10_write_36 dX10_write_39 dX10_write_40 dX10_write_42 dX10_write_45 hxt (Nat.le_of_ble_eq_true rfl) (Nat.le_of_ble_eq_true rfl) (Nat.le_of_ble_eq_true rfl) (Nat.le_of_ble_eq_true rfl) hlk h (Nat.le_of_ble_eq_true rfl) (Nat.le_of_ble_eq_true rfl)
    · have h := h.1 c6
      exact hb_14 g0 h _ _ _ hc (lv_sub hl [] rfl)
def w_X10_close (g0 : gS) (p0 : Nat) (Q : Int32 → gS → Prop) (X : String → gS → Prop) : Prop :=
  gK g0 p0 = 11 ∧ (∃ y2, gR g0 p0 0 = some y2 ∧ (gK g0 y2 = 1 ∧ (∀ o5, o5 = gR g0 y2 2 → ((o5 = none → (X "java/lang/IllegalStateException" g0)) ∧ (∀ y7, o5 = some y7 → (∃ y9, gR g0 p0 0 = some y9 ∧ (gK g0 y9 = 1 ∧ (w_X0_takeIn g0 y9 (fun g13 => (gK g13 p0 = 11 ∧ (∃ y16, gR g13 p0 0 = some y16 ∧ (gK g13 y16 = 1 ∧ (w_X0_bufferSize g13 y16 (fun x19 => (Q x19 g13)))))))))))))))
abbrev r_X10_close : Room := { frames := 6, cells := 1, slots := 6, locals := 82 }
set_option maxHeartbeats 4000000 in
set_option maxRecDepth 100000 in
theorem c_X10_close {l : Launch} {D : va_G} {cA : Nat → ClassId} {sz : Nat} {g0 : gS} {p0 : Nat} {Q : Int32 → gS → Prop} {X : String → gS → Prop} (hflags : l.stackTraces = false) (h : w_X10_close g0 p0 Q X) : vx_Met l yX10_close wsX10_close r_X10_close (va_Pc [.ref p0] (gPre D cA g0 sz)) (gQi D cA g0 sz (Q)) (gQx D cA g0 sz (X)) 1 6 (gA g0 sz) := by
  refine g_xmet (cc := cX10_close) (maxL := 1) (ret := (some .int)) (own := RX10) (by decide) rfl rfl (Nat.le_of_ble_eq_true rfl) ?_
  intro p e s m args below meth c ls CF hr hlk hnm hxt hc hl
  obtain ⟨hx, hb, hml, hown, hts⟩ := id CF
  have hl : lv_has ls 1 [(0, .ref p0)] := hl
  show W p l e r_X10_close s m args below meth c s.heap [] 0 0 (vx_MQ below (gQi D cA g0 sz (Q)) (gQx D cA g0 sz (X)) args s 1 6 (gA g0 sz)) (F0 m 0 ls [])
  unfold w_X10_close at h
  obtain ⟨H, hH0⟩ : ∃ z, z = s.heap := ⟨_, rfl⟩
  rw [← hH0] at hc ⊢
  obtain ⟨locs, hlc0⟩ : ∃ z : List Loc, z = [] := ⟨_, rfl⟩
  rw [← hlc0] at hc ⊢
  refine lv_aload_n hx hb dX10_close_0 rfl (lv_at hl 0 rfl) ?_
  obtain ⟨hk1, h⟩ := h
  obtain ⟨y2, e3, h⟩ := h
  refine g_getr CF hc hk1 rfl (by decide) (fun _ h9 => List.mem_cons_of_mem _ (List.mem_append_left _ (List.mem_append_left _ (List.mem_append_left _ (List.mem_append_right _ (h9)))))) (k := 0) (by decide) (List.mem_cons_of_mem _ (List.mem_append_left _ (List.mem_append_left _ (List.mem_append_left _ (List.mem_append_left _ (List.mem_append_left _ (List.mem_of_getElem? (i := 2) rfl))))))) e3 rfl dX10_close_1 ?_
  obtain ⟨hk4, h⟩ := h
  refine g_get CF hc hk4 rfl (by decide) (fun _ h9 => List.mem_cons_of_mem _ (List.mem_append_left _ (List.mem_append_left _ (List.mem_append_right _ (h9))))) (k := 2) (by decide) (List.mem_cons_of_mem _ (List.mem_append_left _ (List.mem_append_left _ (List.mem_append_left _ (List.mem_append_left _ (List.mem_append_left _ (List.mem_of_getElem? (i := 3) rfl))))))) rfl dX10_close_4 ?_
  obtain ⟨o5, eo6⟩ : ∃ z, z = gR g0 y2 2 := ⟨_, rfl⟩
  rw [← eo6]
  replace h := h o5 eo6
  refine g_ifnonnull (tgt := 20) CF dX10_close_7 (by decide) (fun y7 e8 => ?_) (fun e8 => ?_)
  · have hu21 := h.2 y7 e8
    subst e8
    have h := hu21
    refine lv_aload_n hx hb dX10_close_20 rfl (lv_at hl 0 rfl) ?_
    obtain ⟨y9, e10, h⟩ := h
    refine g_getr CF hc hk1 rfl (by decide) (fun _ h9 => List.mem_cons_of_mem _ (List.mem_append_left _ (List.mem_append_left _ (List.mem_append_left _ (List.mem_append_right _ (h9)))))) (k := 0) (by decide) (List.mem_cons_of_mem _ (List.mem_append_left _ (List.mem_append_left _ (List.mem_append_left _ (List.mem_append_left _ (List.mem_append_left _ (List.mem_of_getElem? (i := 2) rfl))))))) e10 rfl dX10_close_21 ?_
    obtain ⟨hk11, h⟩ := h
    refine g_callv (va_runV (As := []) (rest := []) CF (c_X0_takeIn h) (cwV 0 hts gX10_close_X0_takeIn rfl rfl rfl (by decide +kernel) ⟨Nat.le_of_ble_eq_true rfl, Nat.le_of_ble_eq_true rfl⟩) (hc.preV hk11 rfl (by decide)) rfl rfl hl.1 rfl (lv_room (Nat.le_of_ble_eq_true rfl)) dX10_close_24 ⟨Nat.le_of_ble_eq_true rfl, Nat.le_of_ble_eq_true rfl⟩) hc (fun g13 H locs hq hc => ?_)
    replace h := hq
    refine lv_aload_n hx hb dX10_close_27 rfl (lv_at hl 0 rfl) ?_
    obtain ⟨hk15, h⟩ := h
    obtain ⟨y16, e17, h⟩ := h
    refine g_getr CF hc hk15 rfl (by decide) (fun _ h9 => List.mem_cons_of_mem _ (List.mem_append_left _ (List.mem_append_left _ (List.mem_append_left _ (List.mem_append_right _ (h9)))))) (k := 0) (by decide) (List.mem_cons_of_mem _ (List.mem_append_left _ (List.mem_append_left _ (List.mem_append_left _ (List.mem_append_left _ (List.mem_append_left _ (List.mem_of_getElem? (i := 2) rfl))))))) e17 rfl dX10_close_28 ?_
    obtain ⟨hk18, h⟩ := h
    refine g_calli (va_runV (As := []) (rest := []) CF (c_X0_bufferSize h) (cwV 0 hts gX10_close_X0_bufferSize rfl rfl rfl (by decide +kernel) ⟨Nat.le_of_ble_eq_true rfl, Nat.le_of_ble_eq_true rfl⟩) (hc.preV hk18 rfl (by decide)) rfl rfl hl.1 rfl (lv_room (Nat.le_of_ble_eq_true rfl)) dX10_close_31 ⟨Nat.le_of_ble_eq_true rfl, Nat.le_of_ble_eq_true rfl⟩) hc (fun x19 gq20 H locs hq hc => ?_)
    obtain ⟨rfl, h⟩ := hq
    refine W.widen (k := 1) (n := 6) (Nat.le_of_ble_eq_true rfl) (Nat.le_of_ble_eq_true rfl) ?_
    refine vx_ret ?_
    exact g_reti (r := x19) CF hr hlk hc rfl h dX10_close_34
  · have hu21 := h.1 e8
    subst e8
    have h := hu21
    exact g_throwS CF hflags hc (cls := "java/lang/IllegalStateException") (text := "no document is open") (names := ["java/lang/RuntimeException", "java/lang/Exception"]) (ik := 100) (is := 122) (ic := 104) (by decide) (by decide) (List.mem_cons_of_mem _ (List.mem_append_left _ (List.mem_append_left _ (List.mem_append_left _ (List.mem_append_left _ (List.mem_append_left _ (List.mem_of_getElem? (i := 0) rfl))))))) (List.mem_cons_of_mem _ (List.mem_append_left _ (List.mem_append_left _ (List.mem_append_left _ (List.mem_append_left _ (List.mem_append_left _ (List.mem_of_getElem? (i := 1) rfl))))))) (by decide +kernel) (fun _ h9 => List.mem_cons_of_mem _ (List.mem_append_right _ (h9))) ex_104_2 ex_ot ex_100_104_3 hl.1 dX10_close_10 dX10_close_13 dX10_close_14 dX10_close_16 dX10_close_19 hxt (Nat.le_of_ble_eq_true rfl) (Nat.le_of_ble_eq_true rfl) (Nat.le_of_ble_eq_true rfl) (Nat.le_of_ble_eq_true rfl) hlk h (Nat.le_of_ble_eq_true rfl) (Nat.le_of_ble_eq_true rfl)
def b_X10_remove_35 (g : gS) (r2 : Nat) (is0 : Int32) (Q : Int32 → gS → Prop) (X : String → gS → Prop) : Prop :=
  gK g r2 = 3 ∧ (∀ g2, g2 = sU g r2 4 1 → ((is0 = 0 ∨ is0 = 1) ∧ (Q is0 g2)))
def w_X10_remove (g0 : gS) (p0 : Nat) (p1 : Int32) (Q : Int32 → gS → Prop) (X : String → gS → Prop) : Prop :=
  gK g0 p0 = 11 ∧ (∃ y6, gR g0 p0 0 = some y6 ∧ (gK g0 y6 = 1 ∧ (w_X0_documentAt g0 y6 p1 (fun o9 => ((o9 = none → (X "java/lang/IndexOutOfBoundsException" g0)) ∧ (∀ y11, o9 = some y11 → (gK g0 y11 = 3 ∧ (((gI g0 y11 4) = 0 → (b_X10_remove_35 g0 y11 1 Q X)) ∧ (¬ (gI g0 y11 4) = 0 → (b_X10_remove_35 g0 y11 0 Q X))))))))))
abbrev r_X10_remove : Room := { frames := 6, cells := 1, slots := 6, locals := 82 }
set_option maxHeartbeats 4000000 in
set_option maxRecDepth 100000 in
theorem c_X10_remove {l : Launch} {D : va_G} {cA : Nat → ClassId} {sz : Nat} {g0 : gS} {p0 : Nat} {p1 : Int32} {Q : Int32 → gS → Prop} {X : String → gS → Prop} (hflags : l.stackTraces = false) (h : w_X10_remove g0 p0 p1 Q X) : vx_Met l yX10_remove wsX10_remove r_X10_remove (va_Pc [.ref p0, .int p1] (gPre D cA g0 sz)) (gQi D cA g0 sz (Q)) (gQx D cA g0 sz (X)) 1 6 (gA g0 sz) := by
  refine g_xmet (cc := cX10_remove) (maxL := 4) (ret := (some .boolean)) (own := RX10) (by decide) rfl rfl (Nat.le_of_ble_eq_true rfl) ?_
  intro p e s m args below meth c ls CF hr hlk hnm hxt hc hl
  obtain ⟨hx, hb, hml, hown, hts⟩ := id CF
  have hl : lv_has ls 4 [(0, .ref p0), (1, .int p1)] := hl
  show W p l e r_X10_remove s m args below meth c s.heap [] 0 0 (vx_MQ below (gQi D cA g0 sz (Q)) (gQx D cA g0 sz (X)) args s 1 6 (gA g0 sz)) (F0 m 0 ls [])
  have hb_35 : ∀ (g : gS) (r2 : Nat) (is0 : Int32), b_X10_remove_35 g r2 is0 Q X → ∀ (H : Heap) (locs : List Loc) (ls : Array Slot), gC D cA (gA g0 sz) s g H locs → lv_has ls 4 [(2, .ref r2)] → W p l e r_X10_remove s m args below meth c H locs 0 0 (vx_MQ below (gQi D cA g0 sz (Q)) (gQx D cA g0 sz (X)) args s 1 6 (gA g0 sz)) (F0 m 35 ls [.int is0]) := by
    intro g r2 is0 h H locs ls hc hl
    unfold b_X10_remove_35 at h
    refine lv_istore_n (lv' := [(3, .int is0), (2, .ref r2)]) hx hb dX10_remove_35 rfl hl (by decide) rfl (fun ls hl => ?_)
    refine lv_aload_n hx hb dX10_remove_36 rfl (lv_at hl 1 rfl) ?_
    refine lv_iconst (v := 1) hx hb dX10_remove_37 (by decide) ?_
    obtain ⟨hk1, h⟩ := h
    refine g_puti CF hc hk1 rfl (by decide) (fun _ h9 => List.mem_cons_of_mem _ (List.mem_append_left _ (List.mem_append_left _ (List.mem_append_right _ (h9))))) tyX2 tyX2_ok nmX2 (k := 4) (by decide) (List.mem_cons_of_mem _ (List.mem_append_left _ (List.mem_append_left _ (List.mem_append_left _ (List.mem_append_left _ (List.mem_of_getElem? (i := 3) rfl)))))) rfl (v := 1) (narrow_01 (by decide : (1 : Int32) = 0 ∨ (1 : Int32) = 1)) (fits_01 (by decide : (1 : Int32) = 0 ∨ (1 : Int32) = 1)) rfl dX10_remove_38 (fun H locs hc => ?_)
    obtain ⟨g2, eg3⟩ : ∃ z, z = sU g r2 4 1 := ⟨_, rfl⟩
    have hc : gC D cA (gA g0 sz) s g2 H locs := by rw [eg3]; exact hc
    replace h := h g2 eg3
    refine lv_iload_n hx hb dX10_remove_41 rfl (lv_at hl 0 rfl) ?_
    refine W.widen (k := 1) (n := 6) (Nat.le_of_ble_eq_true rfl) (Nat.le_of_ble_eq_true rfl) ?_
    obtain ⟨hz4, h⟩ := h
    refine vx_ret ?_
    exact g_reti (r := is0) CF hr hlk hc (narrow_01 hz4) h dX10_remove_42
  unfold w_X10_remove at h
  obtain ⟨H, hH0⟩ : ∃ z, z = s.heap := ⟨_, rfl⟩
  rw [← hH0] at hc ⊢
  obtain ⟨locs, hlc0⟩ : ∃ z : List Loc, z = [] := ⟨_, rfl⟩
  rw [← hlc0] at hc ⊢
  refine lv_aload_n hx hb dX10_remove_0 rfl (lv_at hl 0 rfl) ?_
  obtain ⟨hk5, h⟩ := h
  obtain ⟨y6, e7, h⟩ := h
  refine g_getr CF hc hk5 rfl (by decide) (fun _ h9 => List.mem_cons_of_mem _ (List.mem_append_left _ (List.mem_append_left _ (List.mem_append_left _ (List.mem_append_right _ (h9)))))) (k := 0) (by decide) (List.mem_cons_of_mem _ (List.mem_append_left _ (List.mem_append_left _ (List.mem_append_left _ (List.mem_append_left _ (List.mem_of_getElem? (i := 2) rfl)))))) e7 rfl dX10_remove_1 ?_
  refine lv_iload_n hx hb dX10_remove_4 rfl (lv_at hl 1 rfl) ?_
  obtain ⟨hk8, h⟩ := h
  refine g_callq (va_runV (As := [.int p1]) (rest := []) CF (c_X0_documentAt h) (cwV 1 hts gX10_remove_X0_documentAt rfl rfl rfl (by decide +kernel) ⟨Nat.le_of_ble_eq_true rfl, Nat.le_of_ble_eq_true rfl⟩) (hc.preV hk8 rfl (by decide)) rfl rfl hl.1 rfl (lv_room (Nat.le_of_ble_eq_true rfl)) dX10_remove_5 ⟨Nat.le_of_ble_eq_true rfl, Nat.le_of_ble_eq_true rfl⟩) hc (fun o9 gq10 H locs hq hc => ?_)
  obtain ⟨rfl, h⟩ := hq
  refine g_astore_nq (lv' := [(2, va_rf o9), (0, .ref p0), (1, .int p1)]) CF dX10_remove_8 rfl hl (by decide) rfl (fun ls hl => ?_)
  refine g_aload_nq CF dX10_remove_9 rfl (lv_at hl 0 rfl) ?_
  refine g_ifnonnull (tgt := 23) CF dX10_remove_10 (by decide) (fun y11 e12 => ?_) (fun e12 => ?_)
  · have hu15 := h.2 y11 e12
    subst e12
    have h := hu15
    refine lv_aload_n hx hb dX10_remove_23 rfl (lv_at hl 0 rfl) ?_
    obtain ⟨hk13, h⟩ := h
    refine g_get CF hc hk13 rfl (by decide) (fun _ h9 => List.mem_cons_of_mem _ (List.mem_append_left _ (List.mem_append_left _ (List.mem_append_right _ (h9))))) (k := 4) (by decide) (List.mem_cons_of_mem _ (List.mem_append_left _ (List.mem_append_left _ (List.mem_append_left _ (List.mem_append_left _ (List.mem_of_getElem? (i := 3) rfl)))))) rfl dX10_remove_24 ?_
    refine lv_if_ne (tgt := 34) hx hb dX10_remove_27 (by decide) (fun c14 => ?_) (fun c14 => ?_)
    · have h := h.2 c14
      refine lv_iconst (v := 0) hx hb dX10_remove_34 (by decide) ?_
      exact hb_35 g0 y11 0 h _ _ _ hc (lv_sub hl [0] rfl)
    · have h := h.1 c14
      refine lv_iconst (v := 1) hx hb dX10_remove_30 (by decide) ?_
      refine lv_goto (tgt := 35) hx hb dX10_remove_31 (by decide) ?_
      exact hb_35 g0 y11 1 h _ _ _ hc (lv_sub hl [0] rfl)
  · have hu15 := h.1 e12
    subst e12
    have h := hu15
    exact g_throwS CF hflags hc (cls := "java/lang/IndexOutOfBoundsException") (text := "there is no such document") (names := ["java/lang/RuntimeException", "java/lang/Exception"]) (ik := 151) (is := 153) (ic := 155) (by decide) (by decide) (List.mem_cons_of_mem _ (List.mem_append_left _ (List.mem_append_left _ (List.mem_append_left _ (List.mem_append_left _ (List.mem_of_getElem? (i := 0) rfl)))))) (List.mem_cons_of_mem _ (List.mem_append_left _ (List.mem_append_left _ (List.mem_append_left _ (List.mem_append_left _ (List.mem_of_getElem? (i := 1) rfl)))))) (by decide +kernel) (fun _ h9 => List.mem_cons_of_mem _ (List.mem_append_right _ (h9))) ex_155_2 ex_ot ex_151_155_3 hl.1 dX10_remove_13 dX10_remove_16 dX10_remove_17 dX10_remove_19 dX10_remove_22 hxt (Nat.le_of_ble_eq_true rfl) (Nat.le_of_ble_eq_true rfl) (Nat.le_of_ble_eq_true rfl) (Nat.le_of_ble_eq_true rfl) hlk h (Nat.le_of_ble_eq_true rfl) (Nat.le_of_ble_eq_true rfl)
def w_X10_documents (g : gS) (p0 : Nat) (Q : Int32 → Prop) : Prop :=
  gK g p0 = 11 ∧ (∃ y2, gR g p0 0 = some y2 ∧ (gK g y2 = 1 ∧ (Q (gI g y2 1))))
abbrev r_X10_documents : Room := { frames := 0, cells := 0, slots := 0, locals := 0 }
set_option maxHeartbeats 4000000 in
set_option maxRecDepth 100000 in
theorem c_X10_documents {l : Launch} {D : va_G} {cA : Nat → ClassId} {sz : Nat} {g : gS} {p0 : Nat} {Q : Int32 → Prop} (h : w_X10_documents g p0 Q) : Met l yX10_documents wsX10_documents r_X10_documents (va_Pc [.ref p0] (gPre D cA g sz)) (gQi D cA g sz (fun r g2 => g = g2 ∧ Q r)) 0 0 (gA g sz) := by
  refine g_met (cc := cX10_documents) (maxL := 1) (ret := (some .int)) (own := RX10) (by decide) rfl rfl (Nat.le_of_ble_eq_true rfl) ?_
  intro p e s m args below meth c ls CF hr hlk hnm hc hl
  obtain ⟨hx, hb, hml, hown, hts⟩ := id CF
  have hl : lv_has ls 1 [(0, .ref p0)] := hl
  show W p l e r_X10_documents s m args below meth c s.heap [] 0 0 (MQ below (gQi D cA g sz (fun r g2 => g = g2 ∧ Q r)) args s 0 0 (gA g sz)) (F0 m 0 ls [])
  unfold w_X10_documents at h
  obtain ⟨H, hH0⟩ : ∃ z, z = s.heap := ⟨_, rfl⟩
  rw [← hH0] at hc ⊢
  obtain ⟨locs, hlc0⟩ : ∃ z : List Loc, z = [] := ⟨_, rfl⟩
  rw [← hlc0] at hc ⊢
  refine lv_aload_n hx hb dX10_documents_0 rfl (lv_at hl 0 rfl) ?_
  obtain ⟨hk1, h⟩ := h
  obtain ⟨y2, e3, h⟩ := h
  refine g_getr CF hc hk1 rfl (by decide) (fun _ h9 => List.mem_cons_of_mem _ (List.mem_append_left _ (List.mem_append_right _ (h9)))) (k := 0) (by decide) (List.mem_cons_of_mem _ (List.mem_append_left _ (List.mem_append_left _ (List.mem_of_getElem? (i := 0) rfl)))) e3 rfl dX10_documents_1 ?_
  obtain ⟨hk4, h⟩ := h
  refine g_get CF hc hk4 rfl (by decide) (fun _ h9 => List.mem_cons_of_mem _ (List.mem_append_right _ (h9))) (k := 1) (by decide) (List.mem_cons_of_mem _ (List.mem_append_left _ (List.mem_append_left _ (List.mem_of_getElem? (i := 1) rfl)))) rfl dX10_documents_4 ?_
  exact g_reti (r := (gI g y2 1)) CF hr hlk hc rfl ⟨rfl, h⟩ dX10_documents_7
def w_X10_stateOf (g : gS) (p0 : Nat) (p1 : Int32) (Q : Int32 → Prop) (X : String → Prop) : Prop :=
  gK g p0 = 11 ∧ (∃ y2, gR g p0 0 = some y2 ∧ (gK g y2 = 1 ∧ (w_X0_documentAt g y2 p1 (fun o5 => ((o5 = none → (X "java/lang/IndexOutOfBoundsException")) ∧ (∀ y7, o5 = some y7 → (gK g y7 = 3 ∧ (w_X2_state g y7 (fun x10 => (Q x10))))))))))
abbrev r_X10_stateOf : Room := { frames := 6, cells := 1, slots := 6, locals := 82 }
set_option maxHeartbeats 4000000 in
set_option maxRecDepth 100000 in
theorem c_X10_stateOf {l : Launch} {D : va_G} {cA : Nat → ClassId} {sz : Nat} {g : gS} {p0 : Nat} {p1 : Int32} {Q : Int32 → Prop} {X : String → Prop} (hflags : l.stackTraces = false) (h : w_X10_stateOf g p0 p1 Q X) : vx_Met l yX10_stateOf wsX10_stateOf r_X10_stateOf (va_Pc [.ref p0, .int p1] (gPre D cA g sz)) (gQi D cA g sz (fun r g2 => g = g2 ∧ Q r)) (gQx D cA g sz (fun E g2 => g = g2 ∧ X E)) 1 6 (gA g sz) := by
  refine g_xmet (cc := cX10_stateOf) (maxL := 3) (ret := (some .int)) (own := RX10) (by decide) rfl rfl (Nat.le_of_ble_eq_true rfl) ?_
  intro p e s m args below meth c ls CF hr hlk hnm hxt hc hl
  obtain ⟨hx, hb, hml, hown, hts⟩ := id CF
  have hl : lv_has ls 3 [(0, .ref p0), (1, .int p1)] := hl
  show W p l e r_X10_stateOf s m args below meth c s.heap [] 0 0 (vx_MQ below (gQi D cA g sz (fun r g2 => g = g2 ∧ Q r)) (gQx D cA g sz (fun E g2 => g = g2 ∧ X E)) args s 1 6 (gA g sz)) (F0 m 0 ls [])
  unfold w_X10_stateOf at h
  obtain ⟨H, hH0⟩ : ∃ z, z = s.heap := ⟨_, rfl⟩
  rw [← hH0] at hc ⊢
  obtain ⟨locs, hlc0⟩ : ∃ z : List Loc, z = [] := ⟨_, rfl⟩
  rw [← hlc0] at hc ⊢
  refine lv_aload_n hx hb dX10_stateOf_0 rfl (lv_at hl 0 rfl) ?_
  obtain ⟨hk1, h⟩ := h
  obtain ⟨y2, e3, h⟩ := h
  refine g_getr CF hc hk1 rfl (by decide) (fun _ h9 => List.mem_cons_of_mem _ (List.mem_append_left _ (List.mem_append_left _ (List.mem_append_left _ (List.mem_append_right _ (h9)))))) (k := 0) (by decide) (List.mem_cons_of_mem _ (List.mem_append_left _ (List.mem_append_left _ (List.mem_append_left _ (List.mem_append_left _ (List.mem_of_getElem? (i := 2) rfl)))))) e3 rfl dX10_stateOf_1 ?_
  refine lv_iload_n hx hb dX10_stateOf_4 rfl (lv_at hl 1 rfl) ?_
  obtain ⟨hk4, h⟩ := h
  refine g_callq (va_runV (As := [.int p1]) (rest := []) CF (c_X0_documentAt h) (cwV 1 hts gX10_stateOf_X0_documentAt rfl rfl rfl (by decide +kernel) ⟨Nat.le_of_ble_eq_true rfl, Nat.le_of_ble_eq_true rfl⟩) (hc.preV hk4 rfl (by decide)) rfl rfl hl.1 rfl (lv_room (Nat.le_of_ble_eq_true rfl)) dX10_stateOf_5 ⟨Nat.le_of_ble_eq_true rfl, Nat.le_of_ble_eq_true rfl⟩) hc (fun o5 gq6 H locs hq hc => ?_)
  obtain ⟨rfl, h⟩ := hq
  refine g_astore_nq (lv' := [(2, va_rf o5), (0, .ref p0), (1, .int p1)]) CF dX10_stateOf_8 rfl hl (by decide) rfl (fun ls hl => ?_)
  refine g_aload_nq CF dX10_stateOf_9 rfl (lv_at hl 0 rfl) ?_
  refine g_ifnonnull (tgt := 23) CF dX10_stateOf_10 (by decide) (fun y7 e8 => ?_) (fun e8 => ?_)
  · have hu12 := h.2 y7 e8
    subst e8
    have h := hu12
    refine lv_aload_n hx hb dX10_stateOf_23 rfl (lv_at hl 0 rfl) ?_
    obtain ⟨hk9, h⟩ := h
    refine g_calli (va_runV (As := []) (rest := []) CF (c_X2_state h) (cwV 0 hts gX10_stateOf_X2_state rfl rfl rfl (by decide +kernel) ⟨Nat.le_of_ble_eq_true rfl, Nat.le_of_ble_eq_true rfl⟩) (hc.preV hk9 rfl (by decide)) rfl rfl hl.1 rfl (lv_room (Nat.le_of_ble_eq_true rfl)) dX10_stateOf_24 ⟨Nat.le_of_ble_eq_true rfl, Nat.le_of_ble_eq_true rfl⟩) hc (fun x10 gq11 H locs hq hc => ?_)
    obtain ⟨rfl, h⟩ := hq
    refine W.widen (k := 1) (n := 6) (Nat.le_of_ble_eq_true rfl) (Nat.le_of_ble_eq_true rfl) ?_
    refine vx_ret ?_
    exact g_reti (r := x10) CF hr hlk hc rfl ⟨rfl, h⟩ dX10_stateOf_27
  · have hu12 := h.1 e8
    subst e8
    have h := hu12
    exact g_throwS CF hflags hc (cls := "java/lang/IndexOutOfBoundsException") (text := "there is no such document") (names := ["java/lang/RuntimeException", "java/lang/Exception"]) (ik := 151) (is := 153) (ic := 155) (by decide) (by decide) (List.mem_cons_of_mem _ (List.mem_append_left _ (List.mem_append_left _ (List.mem_append_left _ (List.mem_append_left _ (List.mem_of_getElem? (i := 0) rfl)))))) (List.mem_cons_of_mem _ (List.mem_append_left _ (List.mem_append_left _ (List.mem_append_left _ (List.mem_append_left _ (List.mem_of_getElem? (i := 1) rfl)))))) (by decide +kernel) (fun _ h9 => List.mem_cons_of_mem _ (List.mem_append_right _ (h9))) ex_155_2 ex_ot ex_151_155_3 hl.1 dX10_stateOf_13 dX10_stateOf_16 dX10_stateOf_17 dX10_stateOf_19 dX10_stateOf_22 hxt (Nat.le_of_ble_eq_true rfl) (Nat.le_of_ble_eq_true rfl) (Nat.le_of_ble_eq_true rfl) (Nat.le_of_ble_eq_true rfl) hlk ⟨rfl, h⟩ (Nat.le_of_ble_eq_true rfl) (Nat.le_of_ble_eq_true rfl)
def w_X10_flush (g0 : gS) (p0 : Nat) (Q : Int32 → gS → Prop) : Prop :=
  gK g0 p0 = 11 ∧ (∃ y2, gR g0 p0 0 = some y2 ∧ (gK g0 y2 = 1 ∧ (w_X0_flushBuffer g0 y2 (fun x5 g6 => (Q x5 g6)))))
abbrev r_X10_flush : Room := { frames := 5, cells := 0, slots := 0, locals := 111 }
set_option maxHeartbeats 4000000 in
set_option maxRecDepth 100000 in
theorem c_X10_flush {l : Launch} {D : va_G} {cA : Nat → ClassId} {sz : Nat} {g0 : gS} {p0 : Nat} {Q : Int32 → gS → Prop} (h : w_X10_flush g0 p0 Q) : Met l yX10_flush wsX10_flush r_X10_flush (va_Pc [.ref p0] (gPre D cA g0 sz)) (gQi D cA g0 sz (Q)) 0 0 (gA g0 sz) := by
  refine g_met (cc := cX10_flush) (maxL := 1) (ret := (some .int)) (own := RX10) (by decide) rfl rfl (Nat.le_of_ble_eq_true rfl) ?_
  intro p e s m args below meth c ls CF hr hlk hnm hc hl
  obtain ⟨hx, hb, hml, hown, hts⟩ := id CF
  have hl : lv_has ls 1 [(0, .ref p0)] := hl
  show W p l e r_X10_flush s m args below meth c s.heap [] 0 0 (MQ below (gQi D cA g0 sz (Q)) args s 0 0 (gA g0 sz)) (F0 m 0 ls [])
  unfold w_X10_flush at h
  obtain ⟨H, hH0⟩ : ∃ z, z = s.heap := ⟨_, rfl⟩
  rw [← hH0] at hc ⊢
  obtain ⟨locs, hlc0⟩ : ∃ z : List Loc, z = [] := ⟨_, rfl⟩
  rw [← hlc0] at hc ⊢
  refine lv_aload_n hx hb dX10_flush_0 rfl (lv_at hl 0 rfl) ?_
  obtain ⟨hk1, h⟩ := h
  obtain ⟨y2, e3, h⟩ := h
  refine g_getr CF hc hk1 rfl (by decide) (fun _ h9 => List.mem_cons_of_mem _ (List.mem_append_left _ (List.mem_append_left _ (List.mem_append_left _ (List.mem_append_left _ (List.mem_append_right _ (h9))))))) (k := 0) (by decide) (List.mem_cons_of_mem _ (List.mem_append_left _ (List.mem_append_left _ (List.mem_append_left _ (List.mem_append_left _ (List.mem_append_left _ (List.mem_append_left _ (List.mem_of_getElem? (i := 0) rfl)))))))) e3 rfl dX10_flush_1 ?_
  obtain ⟨hk4, h⟩ := h
  refine g_calli (va_runV (As := []) (rest := []) CF (c_X0_flushBuffer h) (cwV 0 hts gX10_flush_X0_flushBuffer rfl rfl rfl (by decide +kernel) ⟨Nat.le_of_ble_eq_true rfl, Nat.le_of_ble_eq_true rfl⟩) (hc.preV hk4 rfl (by decide)) rfl rfl hl.1 rfl (lv_room (Nat.le_of_ble_eq_true rfl)) dX10_flush_4 ⟨Nat.le_of_ble_eq_true rfl, Nat.le_of_ble_eq_true rfl⟩) hc (fun x5 g6 H locs hq hc => ?_)
  replace h := hq
  exact g_reti (r := x5) CF hr hlk hc rfl h dX10_flush_7
def w_X10_compact (g0 : gS) (p0 : Nat) (Q : Int32 → gS → Prop) : Prop :=
  gK g0 p0 = 11 ∧ (∃ y2, gR g0 p0 0 = some y2 ∧ (gK g0 y2 = 1 ∧ (w_X0_mergeAll g0 y2 (fun x5 g6 => (Q x5 g6)))))
abbrev r_X10_compact : Room := { frames := 5, cells := 0, slots := 0, locals := 111 }
set_option maxHeartbeats 4000000 in
set_option maxRecDepth 100000 in
theorem c_X10_compact {l : Launch} {D : va_G} {cA : Nat → ClassId} {sz : Nat} {g0 : gS} {p0 : Nat} {Q : Int32 → gS → Prop} (h : w_X10_compact g0 p0 Q) : Met l yX10_compact wsX10_compact r_X10_compact (va_Pc [.ref p0] (gPre D cA g0 sz)) (gQi D cA g0 sz (Q)) 0 0 (gA g0 sz) := by
  refine g_met (cc := cX10_compact) (maxL := 1) (ret := (some .int)) (own := RX10) (by decide) rfl rfl (Nat.le_of_ble_eq_true rfl) ?_
  intro p e s m args below meth c ls CF hr hlk hnm hc hl
  obtain ⟨hx, hb, hml, hown, hts⟩ := id CF
  have hl : lv_has ls 1 [(0, .ref p0)] := hl
  show W p l e r_X10_compact s m args below meth c s.heap [] 0 0 (MQ below (gQi D cA g0 sz (Q)) args s 0 0 (gA g0 sz)) (F0 m 0 ls [])
  unfold w_X10_compact at h
  obtain ⟨H, hH0⟩ : ∃ z, z = s.heap := ⟨_, rfl⟩
  rw [← hH0] at hc ⊢
  obtain ⟨locs, hlc0⟩ : ∃ z : List Loc, z = [] := ⟨_, rfl⟩
  rw [← hlc0] at hc ⊢
  refine lv_aload_n hx hb dX10_compact_0 rfl (lv_at hl 0 rfl) ?_
  obtain ⟨hk1, h⟩ := h
  obtain ⟨y2, e3, h⟩ := h
  refine g_getr CF hc hk1 rfl (by decide) (fun _ h9 => List.mem_cons_of_mem _ (List.mem_append_left _ (List.mem_append_left _ (List.mem_append_left _ (List.mem_append_left _ (List.mem_append_right _ (h9))))))) (k := 0) (by decide) (List.mem_cons_of_mem _ (List.mem_append_left _ (List.mem_append_left _ (List.mem_append_left _ (List.mem_append_left _ (List.mem_append_left _ (List.mem_append_left _ (List.mem_of_getElem? (i := 0) rfl)))))))) e3 rfl dX10_compact_1 ?_
  obtain ⟨hk4, h⟩ := h
  refine g_calli (va_runV (As := []) (rest := []) CF (c_X0_mergeAll h) (cwV 0 hts gX10_compact_X0_mergeAll rfl rfl rfl (by decide +kernel) ⟨Nat.le_of_ble_eq_true rfl, Nat.le_of_ble_eq_true rfl⟩) (hc.preV hk4 rfl (by decide)) rfl rfl hl.1 rfl (lv_room (Nat.le_of_ble_eq_true rfl)) dX10_compact_4 ⟨Nat.le_of_ble_eq_true rfl, Nat.le_of_ble_eq_true rfl⟩) hc (fun x5 g6 H locs hq hc => ?_)
  replace h := hq
  exact g_reti (r := x5) CF hr hlk hc rfl h dX10_compact_7
def w_X10_segments (g : gS) (p0 : Nat) (Q : Int32 → Prop) : Prop :=
  gK g p0 = 11 ∧ (∃ y2, gR g p0 0 = some y2 ∧ (gK g y2 = 1 ∧ (Q (gI g y2 4))))
abbrev r_X10_segments : Room := { frames := 0, cells := 0, slots := 0, locals := 0 }
set_option maxHeartbeats 4000000 in
set_option maxRecDepth 100000 in
theorem c_X10_segments {l : Launch} {D : va_G} {cA : Nat → ClassId} {sz : Nat} {g : gS} {p0 : Nat} {Q : Int32 → Prop} (h : w_X10_segments g p0 Q) : Met l yX10_segments wsX10_segments r_X10_segments (va_Pc [.ref p0] (gPre D cA g sz)) (gQi D cA g sz (fun r g2 => g = g2 ∧ Q r)) 0 0 (gA g sz) := by
  refine g_met (cc := cX10_segments) (maxL := 1) (ret := (some .int)) (own := RX10) (by decide) rfl rfl (Nat.le_of_ble_eq_true rfl) ?_
  intro p e s m args below meth c ls CF hr hlk hnm hc hl
  obtain ⟨hx, hb, hml, hown, hts⟩ := id CF
  have hl : lv_has ls 1 [(0, .ref p0)] := hl
  show W p l e r_X10_segments s m args below meth c s.heap [] 0 0 (MQ below (gQi D cA g sz (fun r g2 => g = g2 ∧ Q r)) args s 0 0 (gA g sz)) (F0 m 0 ls [])
  unfold w_X10_segments at h
  obtain ⟨H, hH0⟩ : ∃ z, z = s.heap := ⟨_, rfl⟩
  rw [← hH0] at hc ⊢
  obtain ⟨locs, hlc0⟩ : ∃ z : List Loc, z = [] := ⟨_, rfl⟩
  rw [← hlc0] at hc ⊢
  refine lv_aload_n hx hb dX10_segments_0 rfl (lv_at hl 0 rfl) ?_
  obtain ⟨hk1, h⟩ := h
  obtain ⟨y2, e3, h⟩ := h
  refine g_getr CF hc hk1 rfl (by decide) (fun _ h9 => List.mem_cons_of_mem _ (List.mem_append_left _ (List.mem_append_right _ (h9)))) (k := 0) (by decide) (List.mem_cons_of_mem _ (List.mem_append_left _ (List.mem_append_left _ (List.mem_of_getElem? (i := 0) rfl)))) e3 rfl dX10_segments_1 ?_
  obtain ⟨hk4, h⟩ := h
  refine g_get CF hc hk4 rfl (by decide) (fun _ h9 => List.mem_cons_of_mem _ (List.mem_append_right _ (h9))) (k := 4) (by decide) (List.mem_cons_of_mem _ (List.mem_append_left _ (List.mem_append_left _ (List.mem_of_getElem? (i := 1) rfl)))) rfl dX10_segments_4 ?_
  exact g_reti (r := (gI g y2 4)) CF hr hlk hc rfl ⟨rfl, h⟩ dX10_segments_7
def w_X10_tierOf (g : gS) (p0 : Nat) (p1 : Int32) (Q : Int32 → Prop) (X : String → Prop) : Prop :=
  gK g p0 = 11 ∧ (∃ y2, gR g p0 0 = some y2 ∧ (gK g y2 = 1 ∧ (w_X0_hasSegment g y2 p1 (fun x5 => ((x5 = 0 → (X "java/lang/IndexOutOfBoundsException")) ∧ (¬ x5 = 0 → (∃ y8, gR g p0 0 = some y8 ∧ (gK g y8 = 1 ∧ (w_X0_tierAt g y8 p1 (fun x11 => (Q x11)))))))))))
abbrev r_X10_tierOf : Room := { frames := 6, cells := 1, slots := 6, locals := 82 }
set_option maxHeartbeats 4000000 in
set_option maxRecDepth 100000 in
theorem c_X10_tierOf {l : Launch} {D : va_G} {cA : Nat → ClassId} {sz : Nat} {g : gS} {p0 : Nat} {p1 : Int32} {Q : Int32 → Prop} {X : String → Prop} (hflags : l.stackTraces = false) (h : w_X10_tierOf g p0 p1 Q X) : vx_Met l yX10_tierOf wsX10_tierOf r_X10_tierOf (va_Pc [.ref p0, .int p1] (gPre D cA g sz)) (gQi D cA g sz (fun r g2 => g = g2 ∧ Q r)) (gQx D cA g sz (fun E g2 => g = g2 ∧ X E)) 1 6 (gA g sz) := by
  refine g_xmet (cc := cX10_tierOf) (maxL := 2) (ret := (some .int)) (own := RX10) (by decide) rfl rfl (Nat.le_of_ble_eq_true rfl) ?_
  intro p e s m args below meth c ls CF hr hlk hnm hxt hc hl
  obtain ⟨hx, hb, hml, hown, hts⟩ := id CF
  have hl : lv_has ls 2 [(0, .ref p0), (1, .int p1)] := hl
  show W p l e r_X10_tierOf s m args below meth c s.heap [] 0 0 (vx_MQ below (gQi D cA g sz (fun r g2 => g = g2 ∧ Q r)) (gQx D cA g sz (fun E g2 => g = g2 ∧ X E)) args s 1 6 (gA g sz)) (F0 m 0 ls [])
  unfold w_X10_tierOf at h
  obtain ⟨H, hH0⟩ : ∃ z, z = s.heap := ⟨_, rfl⟩
  rw [← hH0] at hc ⊢
  obtain ⟨locs, hlc0⟩ : ∃ z : List Loc, z = [] := ⟨_, rfl⟩
  rw [← hlc0] at hc ⊢
  refine lv_aload_n hx hb dX10_tierOf_0 rfl (lv_at hl 0 rfl) ?_
  obtain ⟨hk1, h⟩ := h
  obtain ⟨y2, e3, h⟩ := h
  refine g_getr CF hc hk1 rfl (by decide) (fun _ h9 => List.mem_cons_of_mem _ (List.mem_append_left _ (List.mem_append_left _ (List.mem_append_right _ (h9))))) (k := 0) (by decide) (List.mem_cons_of_mem _ (List.mem_append_left _ (List.mem_append_left _ (List.mem_append_left _ (List.mem_of_getElem? (i := 2) rfl))))) e3 rfl dX10_tierOf_1 ?_
  refine lv_iload_n hx hb dX10_tierOf_4 rfl (lv_at hl 1 rfl) ?_
  obtain ⟨hk4, h⟩ := h
  refine g_calli (va_runV (As := [.int p1]) (rest := []) CF (c_X0_hasSegment h) (cwV 1 hts gX10_tierOf_X0_hasSegment rfl rfl rfl (by decide +kernel) ⟨Nat.le_of_ble_eq_true rfl, Nat.le_of_ble_eq_true rfl⟩) (hc.preV hk4 rfl (by decide)) rfl rfl hl.1 rfl (lv_room (Nat.le_of_ble_eq_true rfl)) dX10_tierOf_5 ⟨Nat.le_of_ble_eq_true rfl, Nat.le_of_ble_eq_true rfl⟩) hc (fun x5 gq6 H locs hq hc => ?_)
  obtain ⟨rfl, h⟩ := hq
  refine lv_if_ne (tgt := 21) hx hb dX10_tierOf_8 (by decide) (fun c7 => ?_) (fun c7 => ?_)
  · have h := h.2 c7
    refine lv_aload_n hx hb dX10_tierOf_21 rfl (lv_at hl 0 rfl) ?_
    obtain ⟨y8, e9, h⟩ := h
    refine g_getr CF hc hk1 rfl (by decide) (fun _ h9 => List.mem_cons_of_mem _ (List.mem_append_left _ (List.mem_append_left _ (List.mem_append_right _ (h9))))) (k := 0) (by decide) (List.mem_cons_of_mem _ (List.mem_append_left _ (List.mem_append_left _ (List.mem_append_left _ (List.mem_of_getElem? (i := 2) rfl))))) e9 rfl dX10_tierOf_22 ?_
    refine lv_iload_n hx hb dX10_tierOf_25 rfl (lv_at hl 1 rfl) ?_
    obtain ⟨hk10, h⟩ := h
    refine g_calli (va_runV (As := [.int p1]) (rest := []) CF (c_X0_tierAt h) (cwV 1 hts gX10_tierOf_X0_tierAt rfl rfl rfl (by decide +kernel) ⟨Nat.le_of_ble_eq_true rfl, Nat.le_of_ble_eq_true rfl⟩) (hc.preV hk10 rfl (by decide)) rfl rfl hl.1 rfl (lv_room (Nat.le_of_ble_eq_true rfl)) dX10_tierOf_26 ⟨Nat.le_of_ble_eq_true rfl, Nat.le_of_ble_eq_true rfl⟩) hc (fun x11 gq12 H locs hq hc => ?_)
    obtain ⟨rfl, h⟩ := hq
    refine W.widen (k := 1) (n := 6) (Nat.le_of_ble_eq_true rfl) (Nat.le_of_ble_eq_true rfl) ?_
    refine vx_ret ?_
    exact g_reti (r := x11) CF hr hlk hc rfl ⟨rfl, h⟩ dX10_tierOf_29
  · have h := h.1 c7
    exact g_throwS CF hflags hc (cls := "java/lang/IndexOutOfBoundsException") (text := "there is no such segment") (names := ["java/lang/RuntimeException", "java/lang/Exception"]) (ik := 151) (is := 206) (ic := 155) (by decide) (by decide) (List.mem_cons_of_mem _ (List.mem_append_left _ (List.mem_append_left _ (List.mem_append_left _ (List.mem_of_getElem? (i := 0) rfl))))) (List.mem_cons_of_mem _ (List.mem_append_left _ (List.mem_append_left _ (List.mem_append_left _ (List.mem_of_getElem? (i := 1) rfl))))) (by decide +kernel) (fun _ h9 => List.mem_cons_of_mem _ (List.mem_append_right _ (h9))) ex_155_2 ex_ot ex_151_155_3 hl.1 dX10_tierOf_11 dX10_tierOf_14 dX10_tierOf_15 dX10_tierOf_17 dX10_tierOf_20 hxt (Nat.le_of_ble_eq_true rfl) (Nat.le_of_ble_eq_true rfl) (Nat.le_of_ble_eq_true rfl) (Nat.le_of_ble_eq_true rfl) hlk ⟨rfl, h⟩ (Nat.le_of_ble_eq_true rfl) (Nat.le_of_ble_eq_true rfl)
def w_X10_sizeOf (g : gS) (p0 : Nat) (p1 : Int32) (Q : Int32 → Prop) (X : String → Prop) : Prop :=
  gK g p0 = 11 ∧ (∃ y2, gR g p0 0 = some y2 ∧ (gK g y2 = 1 ∧ (w_X0_hasSegment g y2 p1 (fun x5 => ((x5 = 0 → (X "java/lang/IndexOutOfBoundsException")) ∧ (¬ x5 = 0 → (∃ y8, gR g p0 0 = some y8 ∧ (gK g y8 = 1 ∧ (w_X0_countAt g y8 p1 (fun x11 => (Q x11)))))))))))
abbrev r_X10_sizeOf : Room := { frames := 6, cells := 1, slots := 6, locals := 82 }
set_option maxHeartbeats 4000000 in
set_option maxRecDepth 100000 in
theorem c_X10_sizeOf {l : Launch} {D : va_G} {cA : Nat → ClassId} {sz : Nat} {g : gS} {p0 : Nat} {p1 : Int32} {Q : Int32 → Prop} {X : String → Prop} (hflags : l.stackTraces = false) (h : w_X10_sizeOf g p0 p1 Q X) : vx_Met l yX10_sizeOf wsX10_sizeOf r_X10_sizeOf (va_Pc [.ref p0, .int p1] (gPre D cA g sz)) (gQi D cA g sz (fun r g2 => g = g2 ∧ Q r)) (gQx D cA g sz (fun E g2 => g = g2 ∧ X E)) 1 6 (gA g sz) := by
  refine g_xmet (cc := cX10_sizeOf) (maxL := 2) (ret := (some .int)) (own := RX10) (by decide) rfl rfl (Nat.le_of_ble_eq_true rfl) ?_
  intro p e s m args below meth c ls CF hr hlk hnm hxt hc hl
  obtain ⟨hx, hb, hml, hown, hts⟩ := id CF
  have hl : lv_has ls 2 [(0, .ref p0), (1, .int p1)] := hl
  show W p l e r_X10_sizeOf s m args below meth c s.heap [] 0 0 (vx_MQ below (gQi D cA g sz (fun r g2 => g = g2 ∧ Q r)) (gQx D cA g sz (fun E g2 => g = g2 ∧ X E)) args s 1 6 (gA g sz)) (F0 m 0 ls [])
  unfold w_X10_sizeOf at h
  obtain ⟨H, hH0⟩ : ∃ z, z = s.heap := ⟨_, rfl⟩
  rw [← hH0] at hc ⊢
  obtain ⟨locs, hlc0⟩ : ∃ z : List Loc, z = [] := ⟨_, rfl⟩
  rw [← hlc0] at hc ⊢
  refine lv_aload_n hx hb dX10_sizeOf_0 rfl (lv_at hl 0 rfl) ?_
  obtain ⟨hk1, h⟩ := h
  obtain ⟨y2, e3, h⟩ := h
  refine g_getr CF hc hk1 rfl (by decide) (fun _ h9 => List.mem_cons_of_mem _ (List.mem_append_left _ (List.mem_append_left _ (List.mem_append_left _ (List.mem_append_right _ (h9)))))) (k := 0) (by decide) (List.mem_cons_of_mem _ (List.mem_append_left _ (List.mem_append_left _ (List.mem_append_left _ (List.mem_append_left _ (List.mem_of_getElem? (i := 2) rfl)))))) e3 rfl dX10_sizeOf_1 ?_
  refine lv_iload_n hx hb dX10_sizeOf_4 rfl (lv_at hl 1 rfl) ?_
  obtain ⟨hk4, h⟩ := h
  refine g_calli (va_runV (As := [.int p1]) (rest := []) CF (c_X0_hasSegment h) (cwV 1 hts gX10_sizeOf_X0_hasSegment rfl rfl rfl (by decide +kernel) ⟨Nat.le_of_ble_eq_true rfl, Nat.le_of_ble_eq_true rfl⟩) (hc.preV hk4 rfl (by decide)) rfl rfl hl.1 rfl (lv_room (Nat.le_of_ble_eq_true rfl)) dX10_sizeOf_5 ⟨Nat.le_of_ble_eq_true rfl, Nat.le_of_ble_eq_true rfl⟩) hc (fun x5 gq6 H locs hq hc => ?_)
  obtain ⟨rfl, h⟩ := hq
  refine lv_if_ne (tgt := 21) hx hb dX10_sizeOf_8 (by decide) (fun c7 => ?_) (fun c7 => ?_)
  · have h := h.2 c7
    refine lv_aload_n hx hb dX10_sizeOf_21 rfl (lv_at hl 0 rfl) ?_
    obtain ⟨y8, e9, h⟩ := h
    refine g_getr CF hc hk1 rfl (by decide) (fun _ h9 => List.mem_cons_of_mem _ (List.mem_append_left _ (List.mem_append_left _ (List.mem_append_left _ (List.mem_append_right _ (h9)))))) (k := 0) (by decide) (List.mem_cons_of_mem _ (List.mem_append_left _ (List.mem_append_left _ (List.mem_append_left _ (List.mem_append_left _ (List.mem_of_getElem? (i := 2) rfl)))))) e9 rfl dX10_sizeOf_22 ?_
    refine lv_iload_n hx hb dX10_sizeOf_25 rfl (lv_at hl 1 rfl) ?_
    obtain ⟨hk10, h⟩ := h
    refine g_calli (va_runV (As := [.int p1]) (rest := []) CF (c_X0_countAt h) (cwV 1 hts gX10_sizeOf_X0_countAt rfl rfl rfl (by decide +kernel) ⟨Nat.le_of_ble_eq_true rfl, Nat.le_of_ble_eq_true rfl⟩) (hc.preV hk10 rfl (by decide)) rfl rfl hl.1 rfl (lv_room (Nat.le_of_ble_eq_true rfl)) dX10_sizeOf_26 ⟨Nat.le_of_ble_eq_true rfl, Nat.le_of_ble_eq_true rfl⟩) hc (fun x11 gq12 H locs hq hc => ?_)
    obtain ⟨rfl, h⟩ := hq
    refine W.widen (k := 1) (n := 6) (Nat.le_of_ble_eq_true rfl) (Nat.le_of_ble_eq_true rfl) ?_
    refine vx_ret ?_
    exact g_reti (r := x11) CF hr hlk hc rfl ⟨rfl, h⟩ dX10_sizeOf_29
  · have h := h.1 c7
    exact g_throwS CF hflags hc (cls := "java/lang/IndexOutOfBoundsException") (text := "there is no such segment") (names := ["java/lang/RuntimeException", "java/lang/Exception"]) (ik := 151) (is := 206) (ic := 155) (by decide) (by decide) (List.mem_cons_of_mem _ (List.mem_append_left _ (List.mem_append_left _ (List.mem_append_left _ (List.mem_append_left _ (List.mem_of_getElem? (i := 0) rfl)))))) (List.mem_cons_of_mem _ (List.mem_append_left _ (List.mem_append_left _ (List.mem_append_left _ (List.mem_append_left _ (List.mem_of_getElem? (i := 1) rfl)))))) (by decide +kernel) (fun _ h9 => List.mem_cons_of_mem _ (List.mem_append_right _ (h9))) ex_155_2 ex_ot ex_151_155_3 hl.1 dX10_sizeOf_11 dX10_sizeOf_14 dX10_sizeOf_15 dX10_sizeOf_17 dX10_sizeOf_20 hxt (Nat.le_of_ble_eq_true rfl) (Nat.le_of_ble_eq_true rfl) (Nat.le_of_ble_eq_true rfl) (Nat.le_of_ble_eq_true rfl) hlk ⟨rfl, h⟩ (Nat.le_of_ble_eq_true rfl) (Nat.le_of_ble_eq_true rfl)
def b_X10_isSetOf_17 (g : gS) (is0 : Int32) (Q : Int32 → Prop) : Prop :=
  (is0 = 0 ∨ is0 = 1) ∧ (Q is0)
def b_X10_isSetOf_16 (g : gS) (Q : Int32 → Prop) : Prop :=
  b_X10_isSetOf_17 g 0 Q
def w_X10_isSetOf (g : gS) (p0 : Int32) (p1 : Int32) (Q : Int32 → Prop) : Prop :=
  (p1 < 1 → (b_X10_isSetOf_16 g Q)) ∧ (¬ p1 < 1 → (((1 <<< (p0 &&& 31)) ≤ p1 → (b_X10_isSetOf_16 g Q)) ∧ (¬ (1 <<< (p0 &&& 31)) ≤ p1 → (b_X10_isSetOf_17 g 1 Q))))
abbrev r_X10_isSetOf : Room := { frames := 0, cells := 0, slots := 0, locals := 0 }
set_option maxHeartbeats 4000000 in
set_option maxRecDepth 100000 in
theorem c_X10_isSetOf {l : Launch} {D : va_G} {cA : Nat → ClassId} {sz : Nat} {g : gS} {p0 : Int32} {p1 : Int32} {Q : Int32 → Prop} (h : w_X10_isSetOf g p0 p1 Q) : Met l yX10_isSetOf wsX10_isSetOf r_X10_isSetOf (va_Pc [.int p0, .int p1] (gPre D cA g sz)) (gQi D cA g sz (fun r g2 => g = g2 ∧ Q r)) 0 0 (gA g sz) := by
  refine g_met (cc := cX10_isSetOf) (maxL := 2) (ret := (some .boolean)) (own := RX10) (by decide) rfl rfl (Nat.le_of_ble_eq_true rfl) ?_
  intro p e s m args below meth c ls CF hr hlk hnm hc hl
  obtain ⟨hx, hb, hml, hown, hts⟩ := id CF
  have hl : lv_has ls 2 [(0, .int p0), (1, .int p1)] := hl
  show W p l e r_X10_isSetOf s m args below meth c s.heap [] 0 0 (MQ below (gQi D cA g sz (fun r g2 => g = g2 ∧ Q r)) args s 0 0 (gA g sz)) (F0 m 0 ls [])
  have hb_17 : ∀ (is0 : Int32), b_X10_isSetOf_17 g is0 Q → ∀ (H : Heap) (locs : List Loc) (ls : Array Slot), gC D cA (gA g sz) s g H locs → lv_has ls 2 [] → W p l e r_X10_isSetOf s m args below meth c H locs 0 0 (MQ below (gQi D cA g sz (fun r g2 => g = g2 ∧ Q r)) args s 0 0 (gA g sz)) (F0 m 17 ls [.int is0]) := by
    intro is0 h H locs ls hc hl
    unfold b_X10_isSetOf_17 at h
    obtain ⟨hz1, h⟩ := h
    exact g_reti (r := is0) CF hr hlk hc (narrow_01 hz1) ⟨rfl, h⟩ dX10_isSetOf_17
  have hb_16 : b_X10_isSetOf_16 g Q → ∀ (H : Heap) (locs : List Loc) (ls : Array Slot), gC D cA (gA g sz) s g H locs → lv_has ls 2 [] → W p l e r_X10_isSetOf s m args below meth c H locs 0 0 (MQ below (gQi D cA g sz (fun r g2 => g = g2 ∧ Q r)) args s 0 0 (gA g sz)) (F0 m 16 ls []) := by
    intro h H locs ls hc hl
    unfold b_X10_isSetOf_16 at h
    refine lv_iconst (v := 0) hx hb dX10_isSetOf_16 (by decide) ?_
    exact hb_17 0 h _ _ _ hc (lv_sub hl [] rfl)
  unfold w_X10_isSetOf at h
  obtain ⟨H, hH0⟩ : ∃ z, z = s.heap := ⟨_, rfl⟩
  rw [← hH0] at hc ⊢
  obtain ⟨locs, hlc0⟩ : ∃ z : List Loc, z = [] := ⟨_, rfl⟩
  rw [← hlc0] at hc ⊢
  refine lv_iload_n hx hb dX10_isSetOf_0 rfl (lv_at hl 1 rfl) ?_
  refine lv_iconst (v := 1) hx hb dX10_isSetOf_1 (by decide) ?_
  refine lv_icmp_lt (tgt := 16) hx hb dX10_isSetOf_2 (by decide) (fun c2 => ?_) (fun c2 => ?_)
  · have h := h.1 c2
    exact hb_16  h _ _ _ hc (lv_sub hl [] rfl)
  · have h := h.2 c2
    refine lv_iload_n hx hb dX10_isSetOf_5 rfl (lv_at hl 1 rfl) ?_
    refine lv_iconst (v := 1) hx hb dX10_isSetOf_6 (by decide) ?_
    refine lv_iload_n hx hb dX10_isSetOf_7 rfl (lv_at hl 0 rfl) ?_
    refine lv_ishl hx hb dX10_isSetOf_8 ?_
    refine lv_icmp_ge (tgt := 16) hx hb dX10_isSetOf_9 (by decide) (fun c3 => ?_) (fun c3 => ?_)
    · have h := h.1 c3
      exact hb_16  h _ _ _ hc (lv_sub hl [] rfl)
    · have h := h.2 c3
      refine lv_iconst (v := 1) hx hb dX10_isSetOf_12 (by decide) ?_
      refine lv_goto (tgt := 17) hx hb dX10_isSetOf_13 (by decide) ?_
      exact hb_17 1 h _ _ _ hc (lv_sub hl [] rfl)
def b_X10_term_15 (g : gS) (Q : Int32 → gS → Prop) (X : String → gS → Prop) : Prop :=
  X "java/lang/IllegalArgumentException" g
def w_X10_term (g0 : gS) (p0 : Nat) (p1 : Int32) (p2 : Int32) (Q : Int32 → gS → Prop) (X : String → gS → Prop) : Prop :=
  w_X10_isTerm g0 p1 (fun x1 => ((x1 = 0 → (b_X10_term_15 g0 Q X)) ∧ (¬ x1 = 0 → (w_X10_isSetOf g0 3 p2 (fun x4 => ((x4 = 0 → (b_X10_term_15 g0 Q X)) ∧ (¬ x4 = 0 → (gK g0 p0 = 11 ∧ (∃ y8, gR g0 p0 2 = some y8 ∧ (gK g0 y8 = 7 ∧ (w_X6_isFull g0 y8 (fun x11 => ((x11 = 0 → (∀ q14, gK g0 q14 = 0 → (∀ g16, g16 = sNew g0 q14 6 0 → (w_X5_init g16 q14 0 (fun g19 => (gK g19 q14 = 6 ∧ (∀ g22, g22 = sU g19 q14 1 p1 → (gK g22 q14 = 6 ∧ (∀ g25, g25 = sU g22 q14 2 p2 → (gK g25 p0 = 11 ∧ (∃ y28, gR g25 p0 2 = some y28 ∧ (gK g25 y28 = 7 ∧ (w_X6_append g25 y28 q14 (fun x31 g32 => (Q x31 g32))))))))))))))) ∧ (¬ x11 = 0 → (X "java/lang/IllegalStateException" g0)))))))))))))))
abbrev r_X10_term : Room := { frames := 6, cells := 1, slots := 13, locals := 82 }
set_option maxHeartbeats 4000000 in
set_option maxRecDepth 100000 in
theorem c_X10_term {l : Launch} {D : va_G} {cA : Nat → ClassId} {sz : Nat} {g0 : gS} {p0 : Nat} {p1 : Int32} {p2 : Int32} {Q : Int32 → gS → Prop} {X : String → gS → Prop} (hflags : l.stackTraces = false) (h : w_X10_term g0 p0 p1 p2 Q X) : vx_Met l yX10_term wsX10_term r_X10_term (va_Pc [.ref p0, .int p1, .int p2] (gPre D cA g0 sz)) (gQi D cA g0 sz (Q)) (gQx D cA g0 sz (X)) 1 13 (gA g0 sz) := by
  refine g_xmet (cc := cX10_term) (maxL := 4) (ret := (some .int)) (own := RX10) (by decide) rfl rfl (Nat.le_of_ble_eq_true rfl) ?_
  intro p e s m args below meth c ls CF hr hlk hnm hxt hc hl
  obtain ⟨hx, hb, hml, hown, hts⟩ := id CF
  have hl : lv_has ls 4 [(0, .ref p0), (1, .int p1), (2, .int p2)] := hl
  show W p l e r_X10_term s m args below meth c s.heap [] 0 0 (vx_MQ below (gQi D cA g0 sz (Q)) (gQx D cA g0 sz (X)) args s 1 13 (gA g0 sz)) (F0 m 0 ls [])
  have hb_15 : ∀ (g : gS), b_X10_term_15 g Q X → ∀ (H : Heap) (locs : List Loc) (ls : Array Slot), gC D cA (gA g0 sz) s g H locs → lv_has ls 4 [] → W p l e r_X10_term s m args below meth c H locs 0 0 (vx_MQ below (gQi D cA g0 sz (Q)) (gQx D cA g0 sz (X)) args s 1 13 (gA g0 sz)) (F0 m 15 ls []) := by
    intro g h H locs ls hc hl
    unfold b_X10_term_15 at h
    exact g_throwS CF hflags hc (cls := "java/lang/IllegalArgumentException") (text := "there is no such term or set of fields") (names := ["java/lang/RuntimeException", "java/lang/Exception"]) (ik := 85) (is := 227) (ic := 89) (by decide) (by decide) (List.mem_cons_of_mem _ (List.mem_append_left _ (List.mem_append_left _ (List.mem_append_left _ (List.mem_append_left _ (List.mem_append_left _ (List.mem_append_left _ (List.mem_of_getElem? (i := 0) rfl)))))))) (List.mem_cons_of_mem _ (List.mem_append_left _ (List.mem_append_left _ (List.mem_append_left _ (List.mem_append_left _ (List.mem_append_left _ (List.mem_append_left _ (List.mem_of_getElem? (i := 1) rfl)))))))) (by decide +kernel) (fun _ h9 => List.mem_cons_of_mem _ (List.mem_append_left _ (List.mem_append_right _ (h9)))) ex_89_2 ex_ot ex_85_89_3 hl.1 dX10_term_15 dX10_term_18 dX10_term_19 dX10_term_21 dX10_term_24 hxt (Nat.le_of_ble_eq_true rfl) (Nat.le_of_ble_eq_true rfl) (Nat.le_of_ble_eq_true rfl) (Nat.le_of_ble_eq_true rfl) hlk h (Nat.le_of_ble_eq_true rfl) (Nat.le_of_ble_eq_true rfl)
  unfold w_X10_term at h
  obtain ⟨H, hH0⟩ : ∃ z, z = s.heap := ⟨_, rfl⟩
  rw [← hH0] at hc ⊢
  obtain ⟨locs, hlc0⟩ : ∃ z : List Loc, z = [] := ⟨_, rfl⟩
  rw [← hlc0] at hc ⊢
  refine lv_iload_n hx hb dX10_term_0 rfl (lv_at hl 1 rfl) ?_
  refine g_calli (va_runS (As := [.int p1]) (rest := []) CF (c_X10_isTerm h) (va_cwS 1 hts gX10_term_X10_isTerm rfl rfl rfl (by decide +kernel) ⟨Nat.le_of_ble_eq_true rfl, Nat.le_of_ble_eq_true rfl⟩) hc.preS rfl rfl hl.1 rfl (lv_room (Nat.le_of_ble_eq_true rfl)) dX10_term_1 ⟨Nat.le_of_ble_eq_true rfl, Nat.le_of_ble_eq_true rfl⟩) hc (fun x1 gq2 H locs hq hc => ?_)
  obtain ⟨rfl, h⟩ := hq
  refine lv_if_eq (tgt := 15) hx hb dX10_term_4 (by decide) (fun c3 => ?_) (fun c3 => ?_)
  · have h := h.1 c3
    exact hb_15 g0 h _ _ _ hc (lv_sub hl [] rfl)
  · have h := h.2 c3
    refine lv_iconst (v := 3) hx hb dX10_term_7 (by decide) ?_
    refine lv_iload_n hx hb dX10_term_8 rfl (lv_at hl 2 rfl) ?_
    refine g_calli (va_runS (As := [.int 3, .int p2]) (rest := []) CF (c_X10_isSetOf h) (va_cwS 2 hts gX10_term_X10_isSetOf rfl rfl rfl (by decide +kernel) ⟨Nat.le_of_ble_eq_true rfl, Nat.le_of_ble_eq_true rfl⟩) hc.preS rfl rfl hl.1 rfl (lv_room (Nat.le_of_ble_eq_true rfl)) dX10_term_9 ⟨Nat.le_of_ble_eq_true rfl, Nat.le_of_ble_eq_true rfl⟩) hc (fun x4 gq5 H locs hq hc => ?_)
    obtain ⟨rfl, h⟩ := hq
    refine lv_if_ne (tgt := 25) hx hb dX10_term_12 (by decide) (fun c6 => ?_) (fun c6 => ?_)
    · have h := h.2 c6
      refine lv_aload_n hx hb dX10_term_25 rfl (lv_at hl 0 rfl) ?_
      obtain ⟨hk7, h⟩ := h
      obtain ⟨y8, e9, h⟩ := h
      refine g_getr CF hc hk7 rfl (by decide) (fun _ h9 => List.mem_cons_of_mem _ (List.mem_append_left _ (List.mem_append_left _ (List.mem_append_left _ (List.mem_append_left _ (List.mem_append_right _ (h9))))))) (k := 2) (by decide) (List.mem_cons_of_mem _ (List.mem_append_left _ (List.mem_append_left _ (List.mem_append_left _ (List.mem_append_left _ (List.mem_append_left _ (List.mem_append_left _ (List.mem_of_getElem? (i := 4) rfl)))))))) e9 rfl dX10_term_26 ?_
      obtain ⟨hk10, h⟩ := h
      refine g_calli (va_runV (As := []) (rest := []) CF (c_X6_isFull h) (cwV 0 hts gX10_term_X6_isFull rfl rfl rfl (by decide +kernel) ⟨Nat.le_of_ble_eq_true rfl, Nat.le_of_ble_eq_true rfl⟩) (hc.preV hk10 rfl (by decide)) rfl rfl hl.1 rfl (lv_room (Nat.le_of_ble_eq_true rfl)) dX10_term_29 ⟨Nat.le_of_ble_eq_true rfl, Nat.le_of_ble_eq_true rfl⟩) hc (fun x11 gq12 H locs hq hc => ?_)
      obtain ⟨rfl, h⟩ := hq
      refine lv_if_eq (tgt := 45) hx hb dX10_term_32 (by decide) (fun c13 => ?_) (fun c13 => ?_)
      · have h := h.1 c13
        refine g_new CF hc (ci := 5) rfl (by decide) (fun _ h9 => List.mem_cons_of_mem _ (List.mem_append_left _ (List.mem_append_left _ (List.mem_append_left _ (List.mem_append_right _ (h9)))))) tyX5 tyX5_ok dfX5 (List.mem_cons_of_mem _ (List.mem_append_left _ (List.mem_append_left _ (List.mem_append_left _ (List.mem_append_left _ (List.mem_append_left _ (List.mem_append_left _ (List.mem_of_getElem? (i := 5) rfl)))))))) (List.mem_cons_of_mem _ (List.mem_append_left _ (List.mem_append_left _ (List.mem_append_left _ (List.mem_append_left _ (List.mem_append_left _ (List.mem_append_left _ (List.mem_of_getElem? (i := 6) rfl)))))))) (List.mem_cons_of_mem _ (List.mem_append_left _ (List.mem_append_left _ (List.mem_append_left _ (List.mem_append_left _ (List.mem_append_left _ (List.mem_append_left _ (List.mem_of_getElem? (i := 7) rfl)))))))) (Nat.le_of_ble_eq_true rfl) (Nat.le_of_ble_eq_true rfl) dX10_term_45 (fun q14 H locs hq15 hc => ?_)
        replace h := h q14 hq15
        obtain ⟨g16, eg17⟩ : ∃ z, z = sNew g0 q14 6 0 := ⟨_, rfl⟩
        have hc : gC D cA (gA g0 sz) s g16 H locs := by rw [eg17]; exact hc
        replace h := h g16 eg17
        refine W.widen (k := 1) (n := 13) (Nat.le_of_ble_eq_true rfl) (Nat.le_of_ble_eq_true rfl) ?_
        refine lv_dup hx hb dX10_term_48 rfl ?_
        refine lv_iconst (v := 0) hx hb dX10_term_49 (by decide) ?_
        refine g_callv (va_runI (b := q14) (As := [.int 0]) (rest := [.ref q14]) CF (c_X5_init h) (cwI 1 hts gX10_term_X5_init rfl rfl rfl (hts _ (List.mem_cons_of_mem _ (List.mem_append_left _ (List.mem_append_left _ (List.mem_append_left _ (List.mem_append_left _ (List.mem_append_left _ (List.mem_append_left _ (List.mem_of_getElem? (i := 7) rfl))))))))) (hts _ (List.mem_cons_of_mem _ (List.mem_append_left _ (List.mem_append_left _ (List.mem_append_left _ (List.mem_append_left _ (List.mem_append_left _ (List.mem_append_right _ (List.mem_of_getElem? (i := 0) rfl))))))))) (hts _ (List.mem_cons_of_mem _ (List.mem_append_left _ (List.mem_append_left _ (List.mem_append_left _ (List.mem_append_left _ (List.mem_append_left _ (List.mem_append_right _ (List.mem_of_getElem? (i := 1) rfl))))))))) rfl (by decide +kernel) ⟨Nat.le_of_ble_eq_true rfl, Nat.le_of_ble_eq_true rfl⟩) (hc.preS (As := .ref q14 :: [.int 0])) rfl rfl hl.1 rfl (lv_room (Nat.le_of_ble_eq_true rfl)) dX10_term_50 ⟨Nat.le_of_ble_eq_true rfl, Nat.le_of_ble_eq_true rfl⟩) hc (fun g19 H locs hq hc => ?_)
        replace h := hq
        refine lv_astore_n (lv' := [(3, .ref q14), (0, .ref p0), (1, .int p1), (2, .int p2)]) hx hb dX10_term_53 rfl hl (by decide) rfl (fun ls hl => ?_)
        refine lv_aload_n hx hb dX10_term_54 rfl (lv_at hl 0 rfl) ?_
        refine lv_iload_n hx hb dX10_term_55 rfl (lv_at hl 2 rfl) ?_
        obtain ⟨hk21, h⟩ := h
        refine g_puti CF hc hk21 rfl (by decide) (fun _ h9 => List.mem_cons_of_mem _ (List.mem_append_left _ (List.mem_append_left _ (List.mem_append_left _ (List.mem_append_right _ (h9)))))) tyX5 tyX5_ok nmX5 (k := 1) (by decide) (List.mem_cons_of_mem _ (List.mem_append_left _ (List.mem_append_left _ (List.mem_append_left _ (List.mem_append_left _ (List.mem_append_left _ (List.mem_append_left _ (List.mem_of_getElem? (i := 8) rfl)))))))) rfl (v := p1) rfl rfl rfl dX10_term_56 (fun H locs hc => ?_)
        obtain ⟨g22, eg23⟩ : ∃ z, z = sU g19 q14 1 p1 := ⟨_, rfl⟩
        have hc : gC D cA (gA g0 sz) s g22 H locs := by rw [eg23]; exact hc
        replace h := h g22 eg23
        refine lv_aload_n hx hb dX10_term_59 rfl (lv_at hl 0 rfl) ?_
        refine lv_iload_n hx hb dX10_term_60 rfl (lv_at hl 3 rfl) ?_
        obtain ⟨hk24, h⟩ := h
        refine g_puti CF hc hk24 rfl (by decide) (fun _ h9 => List.mem_cons_of_mem _ (List.mem_append_left _ (List.mem_append_left _ (List.mem_append_left _ (List.mem_append_right _ (h9)))))) tyX5 tyX5_ok nmX5 (k := 2) (by decide) (List.mem_cons_of_mem _ (List.mem_append_left _ (List.mem_append_left _ (List.mem_append_left _ (List.mem_append_left _ (List.mem_append_left _ (List.mem_append_left _ (List.mem_of_getElem? (i := 9) rfl)))))))) rfl (v := p2) rfl rfl rfl dX10_term_61 (fun H locs hc => ?_)
        obtain ⟨g25, eg26⟩ : ∃ z, z = sU g22 q14 2 p2 := ⟨_, rfl⟩
        have hc : gC D cA (gA g0 sz) s g25 H locs := by rw [eg26]; exact hc
        replace h := h g25 eg26
        refine lv_aload_n hx hb dX10_term_64 rfl (lv_at hl 1 rfl) ?_
        obtain ⟨hk27, h⟩ := h
        obtain ⟨y28, e29, h⟩ := h
        refine g_getr CF hc hk27 rfl (by decide) (fun _ h9 => List.mem_cons_of_mem _ (List.mem_append_left _ (List.mem_append_left _ (List.mem_append_left _ (List.mem_append_left _ (List.mem_append_right _ (h9))))))) (k := 2) (by decide) (List.mem_cons_of_mem _ (List.mem_append_left _ (List.mem_append_left _ (List.mem_append_left _ (List.mem_append_left _ (List.mem_append_left _ (List.mem_append_left _ (List.mem_of_getElem? (i := 4) rfl)))))))) e29 rfl dX10_term_65 ?_
        refine lv_aload_n hx hb dX10_term_68 rfl (lv_at hl 0 rfl) ?_
        obtain ⟨hk30, h⟩ := h
        refine g_calli (va_runV (As := [.ref q14]) (rest := []) CF (c_X6_append h) (cwV 1 hts gX10_term_X6_append rfl rfl rfl (by decide +kernel) ⟨Nat.le_of_ble_eq_true rfl, Nat.le_of_ble_eq_true rfl⟩) (hc.preV hk30 rfl (by decide)) rfl rfl hl.1 rfl (lv_room (Nat.le_of_ble_eq_true rfl)) dX10_term_69 ⟨Nat.le_of_ble_eq_true rfl, Nat.le_of_ble_eq_true rfl⟩) hc (fun x31 g32 H locs hq hc => ?_)
        replace h := hq
        refine vx_ret ?_
        exact g_reti (r := x31) CF hr hlk hc rfl h dX10_term_72
      · have h := h.2 c13
        exact g_throwS CF hflags hc (cls := "java/lang/IllegalStateException") (text := "there are 30 nodes") (names := ["java/lang/RuntimeException", "java/lang/Exception"]) (ik := 100) (is := 230) (ic := 104) (by decide) (by decide) (List.mem_cons_of_mem _ (List.mem_append_left _ (List.mem_append_left _ (List.mem_append_left _ (List.mem_append_left _ (List.mem_append_left _ (List.mem_append_left _ (List.mem_of_getElem? (i := 2) rfl)))))))) (List.mem_cons_of_mem _ (List.mem_append_left _ (List.mem_append_left _ (List.mem_append_left _ (List.mem_append_left _ (List.mem_append_left _ (List.mem_append_left _ (List.mem_of_getElem? (i := 3) rfl)))))))) (by decide +kernel) (fun _ h9 => List.mem_cons_of_mem _ (List.mem_append_right _ (h9))) ex_104_2 ex_ot ex_100_104_3 hl.1 dX10_term_35 dX10_term_38 dX10_term_39 dX10_term_41 dX10_term_44 hxt (Nat.le_of_ble_eq_true rfl) (Nat.le_of_ble_eq_true rfl) (Nat.le_of_ble_eq_true rfl) (Nat.le_of_ble_eq_true rfl) hlk h (Nat.le_of_ble_eq_true rfl) (Nat.le_of_ble_eq_true rfl)
    · have h := h.1 c6
      exact hb_15 g0 h _ _ _ hc (lv_sub hl [] rfl)
def b_X10_appendPair_22 (g : gS) (Q : Int32 → gS → Prop) (X : String → gS → Prop) : Prop :=
  X "java/lang/IndexOutOfBoundsException" g
def w_X10_appendPair (g0 : gS) (p0 : Nat) (p1 : Int32) (p2 : Int32) (p3 : Int32) (Q : Int32 → gS → Prop) (X : String → gS → Prop) : Prop :=
  gK g0 p0 = 11 ∧ (∃ y2, gR g0 p0 2 = some y2 ∧ (gK g0 y2 = 7 ∧ (w_X6_hasNode g0 y2 p2 (fun x5 => ((x5 = 0 → (b_X10_appendPair_22 g0 Q X)) ∧ (¬ x5 = 0 → (∃ y8, gR g0 p0 2 = some y8 ∧ (gK g0 y8 = 7 ∧ (w_X6_hasNode g0 y8 p3 (fun x11 => ((x11 = 0 → (b_X10_appendPair_22 g0 Q X)) ∧ (¬ x11 = 0 → (∃ y14, gR g0 p0 2 = some y14 ∧ (gK g0 y14 = 7 ∧ (w_X6_isFull g0 y14 (fun x17 => ((x17 = 0 → (∀ q20, gK g0 q20 = 0 → (∀ g22, g22 = sNew g0 q20 6 0 → (w_X5_init g22 q20 p1 (fun g25 => (gK g25 q20 = 6 ∧ (∀ g28, g28 = sU g25 q20 3 p2 → (gK g28 q20 = 6 ∧ (∀ g31, g31 = sU g28 q20 4 p3 → (gK g31 p0 = 11 ∧ (∃ y34, gR g31 p0 2 = some y34 ∧ (gK g31 y34 = 7 ∧ (w_X6_append g31 y34 q20 (fun x37 g38 => (Q x37 g38))))))))))))))) ∧ (¬ x17 = 0 → (X "java/lang/IllegalStateException" g0)))))))))))))))))))
abbrev r_X10_appendPair : Room := { frames := 6, cells := 1, slots := 13, locals := 82 }
set_option maxHeartbeats 4000000 in
set_option maxRecDepth 100000 in
theorem c_X10_appendPair {l : Launch} {D : va_G} {cA : Nat → ClassId} {sz : Nat} {g0 : gS} {p0 : Nat} {p1 : Int32} {p2 : Int32} {p3 : Int32} {Q : Int32 → gS → Prop} {X : String → gS → Prop} (hflags : l.stackTraces = false) (h : w_X10_appendPair g0 p0 p1 p2 p3 Q X) : vx_Met l yX10_appendPair wsX10_appendPair r_X10_appendPair (va_Pc [.ref p0, .int p1, .int p2, .int p3] (gPre D cA g0 sz)) (gQi D cA g0 sz (Q)) (gQx D cA g0 sz (X)) 1 13 (gA g0 sz) := by
  refine g_xmet (cc := cX10_appendPair) (maxL := 5) (ret := (some .int)) (own := RX10) (by decide) rfl rfl (Nat.le_of_ble_eq_true rfl) ?_
  intro p e s m args below meth c ls CF hr hlk hnm hxt hc hl
  obtain ⟨hx, hb, hml, hown, hts⟩ := id CF
  have hl : lv_has ls 5 [(0, .ref p0), (1, .int p1), (2, .int p2), (3, .int p3)] := hl
  show W p l e r_X10_appendPair s m args below meth c s.heap [] 0 0 (vx_MQ below (gQi D cA g0 sz (Q)) (gQx D cA g0 sz (X)) args s 1 13 (gA g0 sz)) (F0 m 0 ls [])
  have hb_22 : ∀ (g : gS), b_X10_appendPair_22 g Q X → ∀ (H : Heap) (locs : List Loc) (ls : Array Slot), gC D cA (gA g0 sz) s g H locs → lv_has ls 5 [] → W p l e r_X10_appendPair s m args below meth c H locs 0 0 (vx_MQ below (gQi D cA g0 sz (Q)) (gQx D cA g0 sz (X)) args s 1 13 (gA g0 sz)) (F0 m 22 ls []) := by
    intro g h H locs ls hc hl
    unfold b_X10_appendPair_22 at h
    exact g_throwS CF hflags hc (cls := "java/lang/IndexOutOfBoundsException") (text := "there is no such node") (names := ["java/lang/RuntimeException", "java/lang/Exception"]) (ik := 151) (is := 252) (ic := 155) (by decide) (by decide) (List.mem_cons_of_mem _ (List.mem_append_left _ (List.mem_append_left _ (List.mem_append_left _ (List.mem_append_left _ (List.mem_append_left _ (List.mem_append_left _ (List.mem_of_getElem? (i := 0) rfl)))))))) (List.mem_cons_of_mem _ (List.mem_append_left _ (List.mem_append_left _ (List.mem_append_left _ (List.mem_append_left _ (List.mem_append_left _ (List.mem_append_left _ (List.mem_of_getElem? (i := 1) rfl)))))))) (by decide +kernel) (fun _ h9 => List.mem_cons_of_mem _ (List.mem_append_left _ (List.mem_append_right _ (h9)))) ex_155_2 ex_ot ex_151_155_3 hl.1 dX10_appendPair_22 dX10_appendPair_25 dX10_appendPair_26 dX10_appendPair_28 dX10_appendPair_31 hxt (Nat.le_of_ble_eq_true rfl) (Nat.le_of_ble_eq_true rfl) (Nat.le_of_ble_eq_true rfl) (Nat.le_of_ble_eq_true rfl) hlk h (Nat.le_of_ble_eq_true rfl) (Nat.le_of_ble_eq_true rfl)
  unfold w_X10_appendPair at h
  obtain ⟨H, hH0⟩ : ∃ z, z = s.heap := ⟨_, rfl⟩
  rw [← hH0] at hc ⊢
  obtain ⟨locs, hlc0⟩ : ∃ z : List Loc, z = [] := ⟨_, rfl⟩
  rw [← hlc0] at hc ⊢
  refine lv_aload_n hx hb dX10_appendPair_0 rfl (lv_at hl 0 rfl) ?_
  obtain ⟨hk1, h⟩ := h
  obtain ⟨y2, e3, h⟩ := h
  refine g_getr CF hc hk1 rfl (by decide) (fun _ h9 => List.mem_cons_of_mem _ (List.mem_append_left _ (List.mem_append_left _ (List.mem_append_left _ (List.mem_append_left _ (List.mem_append_right _ (h9))))))) (k := 2) (by decide) (List.mem_cons_of_mem _ (List.mem_append_left _ (List.mem_append_left _ (List.mem_append_left _ (List.mem_append_left _ (List.mem_append_left _ (List.mem_append_left _ (List.mem_of_getElem? (i := 4) rfl)))))))) e3 rfl dX10_appendPair_1 ?_
  refine lv_iload_n hx hb dX10_appendPair_4 rfl (lv_at hl 2 rfl) ?_
  obtain ⟨hk4, h⟩ := h
  refine g_calli (va_runV (As := [.int p2]) (rest := []) CF (c_X6_hasNode h) (cwV 1 hts gX10_appendPair_X6_hasNode rfl rfl rfl (by decide +kernel) ⟨Nat.le_of_ble_eq_true rfl, Nat.le_of_ble_eq_true rfl⟩) (hc.preV hk4 rfl (by decide)) rfl rfl hl.1 rfl (lv_room (Nat.le_of_ble_eq_true rfl)) dX10_appendPair_5 ⟨Nat.le_of_ble_eq_true rfl, Nat.le_of_ble_eq_true rfl⟩) hc (fun x5 gq6 H locs hq hc => ?_)
  obtain ⟨rfl, h⟩ := hq
  refine lv_if_eq (tgt := 22) hx hb dX10_appendPair_8 (by decide) (fun c7 => ?_) (fun c7 => ?_)
  · have h := h.1 c7
    exact hb_22 g0 h _ _ _ hc (lv_sub hl [] rfl)
  · have h := h.2 c7
    refine lv_aload_n hx hb dX10_appendPair_11 rfl (lv_at hl 0 rfl) ?_
    obtain ⟨y8, e9, h⟩ := h
    refine g_getr CF hc hk1 rfl (by decide) (fun _ h9 => List.mem_cons_of_mem _ (List.mem_append_left _ (List.mem_append_left _ (List.mem_append_left _ (List.mem_append_left _ (List.mem_append_right _ (h9))))))) (k := 2) (by decide) (List.mem_cons_of_mem _ (List.mem_append_left _ (List.mem_append_left _ (List.mem_append_left _ (List.mem_append_left _ (List.mem_append_left _ (List.mem_append_left _ (List.mem_of_getElem? (i := 4) rfl)))))))) e9 rfl dX10_appendPair_12 ?_
    refine lv_iload_n hx hb dX10_appendPair_15 rfl (lv_at hl 3 rfl) ?_
    obtain ⟨hk10, h⟩ := h
    refine g_calli (va_runV (As := [.int p3]) (rest := []) CF (c_X6_hasNode h) (cwV 1 hts gX10_appendPair_X6_hasNode rfl rfl rfl (by decide +kernel) ⟨Nat.le_of_ble_eq_true rfl, Nat.le_of_ble_eq_true rfl⟩) (hc.preV hk10 rfl (by decide)) rfl rfl hl.1 rfl (lv_room (Nat.le_of_ble_eq_true rfl)) dX10_appendPair_16 ⟨Nat.le_of_ble_eq_true rfl, Nat.le_of_ble_eq_true rfl⟩) hc (fun x11 gq12 H locs hq hc => ?_)
    obtain ⟨rfl, h⟩ := hq
    refine lv_if_ne (tgt := 32) hx hb dX10_appendPair_19 (by decide) (fun c13 => ?_) (fun c13 => ?_)
    · have h := h.2 c13
      refine lv_aload_n hx hb dX10_appendPair_32 rfl (lv_at hl 0 rfl) ?_
      obtain ⟨y14, e15, h⟩ := h
      refine g_getr CF hc hk1 rfl (by decide) (fun _ h9 => List.mem_cons_of_mem _ (List.mem_append_left _ (List.mem_append_left _ (List.mem_append_left _ (List.mem_append_left _ (List.mem_append_right _ (h9))))))) (k := 2) (by decide) (List.mem_cons_of_mem _ (List.mem_append_left _ (List.mem_append_left _ (List.mem_append_left _ (List.mem_append_left _ (List.mem_append_left _ (List.mem_append_left _ (List.mem_of_getElem? (i := 4) rfl)))))))) e15 rfl dX10_appendPair_33 ?_
      obtain ⟨hk16, h⟩ := h
      refine g_calli (va_runV (As := []) (rest := []) CF (c_X6_isFull h) (cwV 0 hts gX10_appendPair_X6_isFull rfl rfl rfl (by decide +kernel) ⟨Nat.le_of_ble_eq_true rfl, Nat.le_of_ble_eq_true rfl⟩) (hc.preV hk16 rfl (by decide)) rfl rfl hl.1 rfl (lv_room (Nat.le_of_ble_eq_true rfl)) dX10_appendPair_36 ⟨Nat.le_of_ble_eq_true rfl, Nat.le_of_ble_eq_true rfl⟩) hc (fun x17 gq18 H locs hq hc => ?_)
      obtain ⟨rfl, h⟩ := hq
      refine lv_if_eq (tgt := 52) hx hb dX10_appendPair_39 (by decide) (fun c19 => ?_) (fun c19 => ?_)
      · have h := h.1 c19
        refine g_new CF hc (ci := 5) rfl (by decide) (fun _ h9 => List.mem_cons_of_mem _ (List.mem_append_left _ (List.mem_append_left _ (List.mem_append_left _ (List.mem_append_right _ (h9)))))) tyX5 tyX5_ok dfX5 (List.mem_cons_of_mem _ (List.mem_append_left _ (List.mem_append_left _ (List.mem_append_left _ (List.mem_append_left _ (List.mem_append_left _ (List.mem_append_left _ (List.mem_of_getElem? (i := 5) rfl)))))))) (List.mem_cons_of_mem _ (List.mem_append_left _ (List.mem_append_left _ (List.mem_append_left _ (List.mem_append_left _ (List.mem_append_left _ (List.mem_append_left _ (List.mem_of_getElem? (i := 6) rfl)))))))) (List.mem_cons_of_mem _ (List.mem_append_left _ (List.mem_append_left _ (List.mem_append_left _ (List.mem_append_left _ (List.mem_append_left _ (List.mem_append_left _ (List.mem_of_getElem? (i := 7) rfl)))))))) (Nat.le_of_ble_eq_true rfl) (Nat.le_of_ble_eq_true rfl) dX10_appendPair_52 (fun q20 H locs hq21 hc => ?_)
        replace h := h q20 hq21
        obtain ⟨g22, eg23⟩ : ∃ z, z = sNew g0 q20 6 0 := ⟨_, rfl⟩
        have hc : gC D cA (gA g0 sz) s g22 H locs := by rw [eg23]; exact hc
        replace h := h g22 eg23
        refine W.widen (k := 1) (n := 13) (Nat.le_of_ble_eq_true rfl) (Nat.le_of_ble_eq_true rfl) ?_
        refine lv_dup hx hb dX10_appendPair_55 rfl ?_
        refine lv_iload_n hx hb dX10_appendPair_56 rfl (lv_at hl 1 rfl) ?_
        refine g_callv (va_runI (b := q20) (As := [.int p1]) (rest := [.ref q20]) CF (c_X5_init h) (cwI 1 hts gX10_appendPair_X5_init rfl rfl rfl (hts _ (List.mem_cons_of_mem _ (List.mem_append_left _ (List.mem_append_left _ (List.mem_append_left _ (List.mem_append_left _ (List.mem_append_left _ (List.mem_append_left _ (List.mem_of_getElem? (i := 7) rfl))))))))) (hts _ (List.mem_cons_of_mem _ (List.mem_append_left _ (List.mem_append_left _ (List.mem_append_left _ (List.mem_append_left _ (List.mem_append_left _ (List.mem_append_right _ (List.mem_of_getElem? (i := 1) rfl))))))))) (hts _ (List.mem_cons_of_mem _ (List.mem_append_left _ (List.mem_append_left _ (List.mem_append_left _ (List.mem_append_left _ (List.mem_append_left _ (List.mem_append_right _ (List.mem_of_getElem? (i := 2) rfl))))))))) rfl (by decide +kernel) ⟨Nat.le_of_ble_eq_true rfl, Nat.le_of_ble_eq_true rfl⟩) (hc.preS (As := .ref q20 :: [.int p1])) rfl rfl hl.1 rfl (lv_room (Nat.le_of_ble_eq_true rfl)) dX10_appendPair_57 ⟨Nat.le_of_ble_eq_true rfl, Nat.le_of_ble_eq_true rfl⟩) hc (fun g25 H locs hq hc => ?_)
        replace h := hq
        refine lv_astore (lv' := [(4, .ref q20), (0, .ref p0), (1, .int p1), (2, .int p2), (3, .int p3)]) hx hb dX10_appendPair_60 hl (by decide) rfl (fun ls hl => ?_)
        refine lv_aload hx hb dX10_appendPair_62 (lv_at hl 0 rfl) ?_
        refine lv_iload_n hx hb dX10_appendPair_64 rfl (lv_at hl 3 rfl) ?_
        obtain ⟨hk27, h⟩ := h
        refine g_puti CF hc hk27 rfl (by decide) (fun _ h9 => List.mem_cons_of_mem _ (List.mem_append_left _ (List.mem_append_left _ (List.mem_append_left _ (List.mem_append_right _ (h9)))))) tyX5 tyX5_ok nmX5 (k := 3) (by decide) (List.mem_cons_of_mem _ (List.mem_append_left _ (List.mem_append_left _ (List.mem_append_left _ (List.mem_append_left _ (List.mem_append_left _ (List.mem_append_left _ (List.mem_of_getElem? (i := 8) rfl)))))))) rfl (v := p2) rfl rfl rfl dX10_appendPair_65 (fun H locs hc => ?_)
        obtain ⟨g28, eg29⟩ : ∃ z, z = sU g25 q20 3 p2 := ⟨_, rfl⟩
        have hc : gC D cA (gA g0 sz) s g28 H locs := by rw [eg29]; exact hc
        replace h := h g28 eg29
        refine lv_aload hx hb dX10_appendPair_68 (lv_at hl 0 rfl) ?_
        refine lv_iload_n hx hb dX10_appendPair_70 rfl (lv_at hl 4 rfl) ?_
        obtain ⟨hk30, h⟩ := h
        refine g_puti CF hc hk30 rfl (by decide) (fun _ h9 => List.mem_cons_of_mem _ (List.mem_append_left _ (List.mem_append_left _ (List.mem_append_left _ (List.mem_append_right _ (h9)))))) tyX5 tyX5_ok nmX5 (k := 4) (by decide) (List.mem_cons_of_mem _ (List.mem_append_left _ (List.mem_append_left _ (List.mem_append_left _ (List.mem_append_left _ (List.mem_append_left _ (List.mem_append_left _ (List.mem_of_getElem? (i := 9) rfl)))))))) rfl (v := p3) rfl rfl rfl dX10_appendPair_71 (fun H locs hc => ?_)
        obtain ⟨g31, eg32⟩ : ∃ z, z = sU g28 q20 4 p3 := ⟨_, rfl⟩
        have hc : gC D cA (gA g0 sz) s g31 H locs := by rw [eg32]; exact hc
        replace h := h g31 eg32
        refine lv_aload_n hx hb dX10_appendPair_74 rfl (lv_at hl 1 rfl) ?_
        obtain ⟨hk33, h⟩ := h
        obtain ⟨y34, e35, h⟩ := h
        refine g_getr CF hc hk33 rfl (by decide) (fun _ h9 => List.mem_cons_of_mem _ (List.mem_append_left _ (List.mem_append_left _ (List.mem_append_left _ (List.mem_append_left _ (List.mem_append_right _ (h9))))))) (k := 2) (by decide) (List.mem_cons_of_mem _ (List.mem_append_left _ (List.mem_append_left _ (List.mem_append_left _ (List.mem_append_left _ (List.mem_append_left _ (List.mem_append_left _ (List.mem_of_getElem? (i := 4) rfl)))))))) e35 rfl dX10_appendPair_75 ?_
        refine lv_aload hx hb dX10_appendPair_78 (lv_at hl 0 rfl) ?_
        obtain ⟨hk36, h⟩ := h
        refine g_calli (va_runV (As := [.ref q20]) (rest := []) CF (c_X6_append h) (cwV 1 hts gX10_appendPair_X6_append rfl rfl rfl (by decide +kernel) ⟨Nat.le_of_ble_eq_true rfl, Nat.le_of_ble_eq_true rfl⟩) (hc.preV hk36 rfl (by decide)) rfl rfl hl.1 rfl (lv_room (Nat.le_of_ble_eq_true rfl)) dX10_appendPair_80 ⟨Nat.le_of_ble_eq_true rfl, Nat.le_of_ble_eq_true rfl⟩) hc (fun x37 g38 H locs hq hc => ?_)
        replace h := hq
        refine vx_ret ?_
        exact g_reti (r := x37) CF hr hlk hc rfl h dX10_appendPair_83
      · have h := h.2 c19
        exact g_throwS CF hflags hc (cls := "java/lang/IllegalStateException") (text := "there are 30 nodes") (names := ["java/lang/RuntimeException", "java/lang/Exception"]) (ik := 100) (is := 230) (ic := 104) (by decide) (by decide) (List.mem_cons_of_mem _ (List.mem_append_left _ (List.mem_append_left _ (List.mem_append_left _ (List.mem_append_left _ (List.mem_append_left _ (List.mem_append_left _ (List.mem_of_getElem? (i := 2) rfl)))))))) (List.mem_cons_of_mem _ (List.mem_append_left _ (List.mem_append_left _ (List.mem_append_left _ (List.mem_append_left _ (List.mem_append_left _ (List.mem_append_left _ (List.mem_of_getElem? (i := 3) rfl)))))))) (by decide +kernel) (fun _ h9 => List.mem_cons_of_mem _ (List.mem_append_right _ (h9))) ex_104_2 ex_ot ex_100_104_3 hl.1 dX10_appendPair_42 dX10_appendPair_45 dX10_appendPair_46 dX10_appendPair_48 dX10_appendPair_51 hxt (Nat.le_of_ble_eq_true rfl) (Nat.le_of_ble_eq_true rfl) (Nat.le_of_ble_eq_true rfl) (Nat.le_of_ble_eq_true rfl) hlk h (Nat.le_of_ble_eq_true rfl) (Nat.le_of_ble_eq_true rfl)
    · have h := h.1 c13
      exact hb_22 g0 h _ _ _ hc (lv_sub hl [] rfl)
def w_X10_and (g0 : gS) (p0 : Nat) (p1 : Int32) (p2 : Int32) (Q : Int32 → gS → Prop) (X : String → gS → Prop) : Prop :=
  gK g0 p0 = 11 ∧ (w_X10_appendPair g0 p0 1 p1 p2 (fun x2 g3 => (Q x2 g3)) X)
abbrev r_X10_and : Room := { frames := 7, cells := 1, slots := 13, locals := 106 }
set_option maxHeartbeats 4000000 in
set_option maxRecDepth 100000 in
theorem c_X10_and {l : Launch} {D : va_G} {cA : Nat → ClassId} {sz : Nat} {g0 : gS} {p0 : Nat} {p1 : Int32} {p2 : Int32} {Q : Int32 → gS → Prop} {X : String → gS → Prop} (hflags : l.stackTraces = false) (h : w_X10_and g0 p0 p1 p2 Q X) : vx_Met l yX10_and wsX10_and r_X10_and (va_Pc [.ref p0, .int p1, .int p2] (gPre D cA g0 sz)) (gQi D cA g0 sz (Q)) (gQx D cA g0 sz (X)) 1 13 (gA g0 sz) := by
  refine g_xmet (cc := cX10_and) (maxL := 3) (ret := (some .int)) (own := RX10) (by decide) rfl rfl (Nat.le_of_ble_eq_true rfl) ?_
  intro p e s m args below meth c ls CF hr hlk hnm hxt hc hl
  obtain ⟨hx, hb, hml, hown, hts⟩ := id CF
  have hl : lv_has ls 3 [(0, .ref p0), (1, .int p1), (2, .int p2)] := hl
  show W p l e r_X10_and s m args below meth c s.heap [] 0 0 (vx_MQ below (gQi D cA g0 sz (Q)) (gQx D cA g0 sz (X)) args s 1 13 (gA g0 sz)) (F0 m 0 ls [])
  unfold w_X10_and at h
  obtain ⟨H, hH0⟩ : ∃ z, z = s.heap := ⟨_, rfl⟩
  rw [← hH0] at hc ⊢
  obtain ⟨locs, hlc0⟩ : ∃ z : List Loc, z = [] := ⟨_, rfl⟩
  rw [← hlc0] at hc ⊢
  refine lv_aload_n hx hb dX10_and_0 rfl (lv_at hl 0 rfl) ?_
  refine lv_iconst (v := 1) hx hb dX10_and_1 (by decide) ?_
  refine lv_iload_n hx hb dX10_and_2 rfl (lv_at hl 1 rfl) ?_
  refine lv_iload_n hx hb dX10_and_3 rfl (lv_at hl 2 rfl) ?_
  obtain ⟨hk1, h⟩ := h
  refine g_xcalli (vx_runV (As := [.int 1, .int p1, .int p2]) (rest := []) CF (c_X10_appendPair hflags h) (cwV 3 hts gX10_and_X10_appendPair rfl rfl rfl (by decide +kernel) ⟨Nat.le_of_ble_eq_true rfl, Nat.le_of_ble_eq_true rfl⟩) (hc.preV hk1 rfl (by decide)) rfl rfl hl.1 rfl (lv_room (Nat.le_of_ble_eq_true rfl)) dX10_and_4 ⟨Nat.le_of_ble_eq_true rfl, Nat.le_of_ble_eq_true rfl⟩) hc (fun E5 ce6 a7 gx8 H locs hq hc hcell hcv hccl => ?_) (fun x2 g3 H locs hq hc => ?_)
  · replace h := hq
    refine vx_widen (k := 1) (n := 13) (Nat.le_of_ble_eq_true rfl) (Nat.le_of_ble_eq_true rfl) ?_
    exact g_xout hlk hxt hc hcell hcv hccl h (Nat.le_of_ble_eq_true rfl) (Nat.le_of_ble_eq_true rfl)
  · replace h := hq
    refine W.widen (k := 1) (n := 13) (Nat.le_of_ble_eq_true rfl) (Nat.le_of_ble_eq_true rfl) ?_
    refine vx_ret ?_
    exact g_reti (r := x2) CF hr hlk hc rfl h dX10_and_7
def w_X10_or (g0 : gS) (p0 : Nat) (p1 : Int32) (p2 : Int32) (Q : Int32 → gS → Prop) (X : String → gS → Prop) : Prop :=
  gK g0 p0 = 11 ∧ (w_X10_appendPair g0 p0 2 p1 p2 (fun x2 g3 => (Q x2 g3)) X)
abbrev r_X10_or : Room := { frames := 7, cells := 1, slots := 13, locals := 106 }
set_option maxHeartbeats 4000000 in
set_option maxRecDepth 100000 in
theorem c_X10_or {l : Launch} {D : va_G} {cA : Nat → ClassId} {sz : Nat} {g0 : gS} {p0 : Nat} {p1 : Int32} {p2 : Int32} {Q : Int32 → gS → Prop} {X : String → gS → Prop} (hflags : l.stackTraces = false) (h : w_X10_or g0 p0 p1 p2 Q X) : vx_Met l yX10_or wsX10_or r_X10_or (va_Pc [.ref p0, .int p1, .int p2] (gPre D cA g0 sz)) (gQi D cA g0 sz (Q)) (gQx D cA g0 sz (X)) 1 13 (gA g0 sz) := by
  refine g_xmet (cc := cX10_or) (maxL := 3) (ret := (some .int)) (own := RX10) (by decide) rfl rfl (Nat.le_of_ble_eq_true rfl) ?_
  intro p e s m args below meth c ls CF hr hlk hnm hxt hc hl
  obtain ⟨hx, hb, hml, hown, hts⟩ := id CF
  have hl : lv_has ls 3 [(0, .ref p0), (1, .int p1), (2, .int p2)] := hl
  show W p l e r_X10_or s m args below meth c s.heap [] 0 0 (vx_MQ below (gQi D cA g0 sz (Q)) (gQx D cA g0 sz (X)) args s 1 13 (gA g0 sz)) (F0 m 0 ls [])
  unfold w_X10_or at h
  obtain ⟨H, hH0⟩ : ∃ z, z = s.heap := ⟨_, rfl⟩
  rw [← hH0] at hc ⊢
  obtain ⟨locs, hlc0⟩ : ∃ z : List Loc, z = [] := ⟨_, rfl⟩
  rw [← hlc0] at hc ⊢
  refine lv_aload_n hx hb dX10_or_0 rfl (lv_at hl 0 rfl) ?_
  refine lv_iconst (v := 2) hx hb dX10_or_1 (by decide) ?_
  refine lv_iload_n hx hb dX10_or_2 rfl (lv_at hl 1 rfl) ?_
  refine lv_iload_n hx hb dX10_or_3 rfl (lv_at hl 2 rfl) ?_
  obtain ⟨hk1, h⟩ := h
  refine g_xcalli (vx_runV (As := [.int 2, .int p1, .int p2]) (rest := []) CF (c_X10_appendPair hflags h) (cwV 3 hts gX10_or_X10_appendPair rfl rfl rfl (by decide +kernel) ⟨Nat.le_of_ble_eq_true rfl, Nat.le_of_ble_eq_true rfl⟩) (hc.preV hk1 rfl (by decide)) rfl rfl hl.1 rfl (lv_room (Nat.le_of_ble_eq_true rfl)) dX10_or_4 ⟨Nat.le_of_ble_eq_true rfl, Nat.le_of_ble_eq_true rfl⟩) hc (fun E5 ce6 a7 gx8 H locs hq hc hcell hcv hccl => ?_) (fun x2 g3 H locs hq hc => ?_)
  · replace h := hq
    refine vx_widen (k := 1) (n := 13) (Nat.le_of_ble_eq_true rfl) (Nat.le_of_ble_eq_true rfl) ?_
    exact g_xout hlk hxt hc hcell hcv hccl h (Nat.le_of_ble_eq_true rfl) (Nat.le_of_ble_eq_true rfl)
  · replace h := hq
    refine W.widen (k := 1) (n := 13) (Nat.le_of_ble_eq_true rfl) (Nat.le_of_ble_eq_true rfl) ?_
    refine vx_ret ?_
    exact g_reti (r := x2) CF hr hlk hc rfl h dX10_or_7
def w_X10_not (g0 : gS) (p0 : Nat) (p1 : Int32) (p2 : Int32) (Q : Int32 → gS → Prop) (X : String → gS → Prop) : Prop :=
  gK g0 p0 = 11 ∧ (w_X10_appendPair g0 p0 3 p1 p2 (fun x2 g3 => (Q x2 g3)) X)
abbrev r_X10_not : Room := { frames := 7, cells := 1, slots := 13, locals := 106 }
set_option maxHeartbeats 4000000 in
set_option maxRecDepth 100000 in
theorem c_X10_not {l : Launch} {D : va_G} {cA : Nat → ClassId} {sz : Nat} {g0 : gS} {p0 : Nat} {p1 : Int32} {p2 : Int32} {Q : Int32 → gS → Prop} {X : String → gS → Prop} (hflags : l.stackTraces = false) (h : w_X10_not g0 p0 p1 p2 Q X) : vx_Met l yX10_not wsX10_not r_X10_not (va_Pc [.ref p0, .int p1, .int p2] (gPre D cA g0 sz)) (gQi D cA g0 sz (Q)) (gQx D cA g0 sz (X)) 1 13 (gA g0 sz) := by
  refine g_xmet (cc := cX10_not) (maxL := 3) (ret := (some .int)) (own := RX10) (by decide) rfl rfl (Nat.le_of_ble_eq_true rfl) ?_
  intro p e s m args below meth c ls CF hr hlk hnm hxt hc hl
  obtain ⟨hx, hb, hml, hown, hts⟩ := id CF
  have hl : lv_has ls 3 [(0, .ref p0), (1, .int p1), (2, .int p2)] := hl
  show W p l e r_X10_not s m args below meth c s.heap [] 0 0 (vx_MQ below (gQi D cA g0 sz (Q)) (gQx D cA g0 sz (X)) args s 1 13 (gA g0 sz)) (F0 m 0 ls [])
  unfold w_X10_not at h
  obtain ⟨H, hH0⟩ : ∃ z, z = s.heap := ⟨_, rfl⟩
  rw [← hH0] at hc ⊢
  obtain ⟨locs, hlc0⟩ : ∃ z : List Loc, z = [] := ⟨_, rfl⟩
  rw [← hlc0] at hc ⊢
  refine lv_aload_n hx hb dX10_not_0 rfl (lv_at hl 0 rfl) ?_
  refine lv_iconst (v := 3) hx hb dX10_not_1 (by decide) ?_
  refine lv_iload_n hx hb dX10_not_2 rfl (lv_at hl 1 rfl) ?_
  refine lv_iload_n hx hb dX10_not_3 rfl (lv_at hl 2 rfl) ?_
  obtain ⟨hk1, h⟩ := h
  refine g_xcalli (vx_runV (As := [.int 3, .int p1, .int p2]) (rest := []) CF (c_X10_appendPair hflags h) (cwV 3 hts gX10_not_X10_appendPair rfl rfl rfl (by decide +kernel) ⟨Nat.le_of_ble_eq_true rfl, Nat.le_of_ble_eq_true rfl⟩) (hc.preV hk1 rfl (by decide)) rfl rfl hl.1 rfl (lv_room (Nat.le_of_ble_eq_true rfl)) dX10_not_4 ⟨Nat.le_of_ble_eq_true rfl, Nat.le_of_ble_eq_true rfl⟩) hc (fun E5 ce6 a7 gx8 H locs hq hc hcell hcv hccl => ?_) (fun x2 g3 H locs hq hc => ?_)
  · replace h := hq
    refine vx_widen (k := 1) (n := 13) (Nat.le_of_ble_eq_true rfl) (Nat.le_of_ble_eq_true rfl) ?_
    exact g_xout hlk hxt hc hcell hcv hccl h (Nat.le_of_ble_eq_true rfl) (Nat.le_of_ble_eq_true rfl)
  · replace h := hq
    refine W.widen (k := 1) (n := 13) (Nat.le_of_ble_eq_true rfl) (Nat.le_of_ble_eq_true rfl) ?_
    refine vx_ret ?_
    exact g_reti (r := x2) CF hr hlk hc rfl h dX10_not_7
def b_X10_near_67 (g : gS) (Q : Int32 → gS → Prop) (X : String → gS → Prop) : Prop :=
  X "java/lang/IllegalArgumentException" g
def b_X10_near_30 (g : gS) (Q : Int32 → gS → Prop) (X : String → gS → Prop) : Prop :=
  X "java/lang/IndexOutOfBoundsException" g
def w_X10_near (g0 : gS) (p0 : Nat) (p1 : Int32) (p2 : Int32) (p3 : Int32) (p4 : Int32) (Q : Int32 → gS → Prop) (X : String → gS → Prop) : Prop :=
  gK g0 p0 = 11 ∧ (∃ y2, gR g0 p0 2 = some y2 ∧ (gK g0 y2 = 7 ∧ (w_X6_nodeAt g0 y2 p1 (fun o5 => (∃ y7, gR g0 p0 2 = some y7 ∧ (gK g0 y7 = 7 ∧ (w_X6_nodeAt g0 y7 p2 (fun o10 => ((o5 = none → (b_X10_near_30 g0 Q X)) ∧ (∀ y12, o5 = some y12 → ((o10 = none → (b_X10_near_30 g0 Q X)) ∧ (∀ y14, o10 = some y14 → (gK g0 y12 = 6 ∧ (((gI g0 y12 0) = 0 → (gK g0 y14 = 6 ∧ (((gI g0 y14 0) = 0 → ((p3 < 1 → (b_X10_near_67 g0 Q X)) ∧ (¬ p3 < 1 → ((p3 ≤ 10 → (∃ y22, gR g0 p0 2 = some y22 ∧ (gK g0 y22 = 7 ∧ (w_X6_isFull g0 y22 (fun x25 => ((x25 = 0 → (∀ q28, gK g0 q28 = 0 → (∀ g30, g30 = sNew g0 q28 6 0 → (w_X5_init g30 q28 4 (fun g33 => (gK g33 q28 = 6 ∧ (∀ g36, g36 = sU g33 q28 3 p1 → (gK g36 q28 = 6 ∧ (∀ g39, g39 = sU g36 q28 4 p2 → (gK g39 q28 = 6 ∧ (∀ g42, g42 = sU g39 q28 5 p3 → (gK g42 q28 = 6 ∧ ((p4 = 0 ∨ p4 = 1) ∧ (∀ g46, g46 = sU g42 q28 6 p4 → (gK g46 p0 = 11 ∧ (∃ y49, gR g46 p0 2 = some y49 ∧ (gK g46 y49 = 7 ∧ (w_X6_append g46 y49 q28 (fun x52 g53 => (Q x52 g53)))))))))))))))))))) ∧ (¬ x25 = 0 → (X "java/lang/IllegalStateException" g0)))))))) ∧ (¬ p3 ≤ 10 → (b_X10_near_67 g0 Q X)))))) ∧ (¬ (gI g0 y14 0) = 0 → (b_X10_near_67 g0 Q X))))) ∧ (¬ (gI g0 y12 0) = 0 → (b_X10_near_67 g0 Q X))))))))))))))))
abbrev r_X10_near : Room := { frames := 6, cells := 1, slots := 13, locals := 82 }
set_option maxHeartbeats 4000000 in
set_option maxRecDepth 100000 in
theorem c_X10_near {l : Launch} {D : va_G} {cA : Nat → ClassId} {sz : Nat} {g0 : gS} {p0 : Nat} {p1 : Int32} {p2 : Int32} {p3 : Int32} {p4 : Int32} {Q : Int32 → gS → Prop} {X : String → gS → Prop} (hflags : l.stackTraces = false) (h : w_X10_near g0 p0 p1 p2 p3 p4 Q X) : vx_Met l yX10_near wsX10_near r_X10_near (va_Pc [.ref p0, .int p1, .int p2, .int p3, .int p4] (gPre D cA g0 sz)) (gQi D cA g0 sz (Q)) (gQx D cA g0 sz (X)) 1 13 (gA g0 sz) := by
  refine g_xmet (cc := cX10_near) (maxL := 8) (ret := (some .int)) (own := RX10) (by decide) rfl rfl (Nat.le_of_ble_eq_true rfl) ?_
  intro p e s m args below meth c ls CF hr hlk hnm hxt hc hl
  obtain ⟨hx, hb, hml, hown, hts⟩ := id CF
  have hl : lv_has ls 8 [(0, .ref p0), (1, .int p1), (2, .int p2), (3, .int p3), (4, .int p4)] := hl
  show W p l e r_X10_near s m args below meth c s.heap [] 0 0 (vx_MQ below (gQi D cA g0 sz (Q)) (gQx D cA g0 sz (X)) args s 1 13 (gA g0 sz)) (F0 m 0 ls [])
  have hb_67 : ∀ (g : gS), b_X10_near_67 g Q X → ∀ (H : Heap) (locs : List Loc) (ls : Array Slot), gC D cA (gA g0 sz) s g H locs → lv_has ls 8 [] → W p l e r_X10_near s m args below meth c H locs 0 0 (vx_MQ below (gQi D cA g0 sz (Q)) (gQx D cA g0 sz (X)) args s 1 13 (gA g0 sz)) (F0 m 67 ls []) := by
    intro g h H locs ls hc hl
    unfold b_X10_near_67 at h
    exact g_throwSW CF hflags hc (cls := "java/lang/IllegalArgumentException") (text := "not two term nodes, or there is no such distance") (names := ["java/lang/RuntimeException", "java/lang/Exception"]) (ik := 85) (is := 267) (ic := 89) (by decide) (by decide) (List.mem_cons_of_mem _ (List.mem_append_left _ (List.mem_append_left _ (List.mem_append_left _ (List.mem_append_left _ (List.mem_append_left _ (List.mem_append_left _ (List.mem_append_left _ (List.mem_of_getElem? (i := 2) rfl))))))))) (List.mem_cons_of_mem _ (List.mem_append_left _ (List.mem_append_left _ (List.mem_append_left _ (List.mem_append_left _ (List.mem_append_left _ (List.mem_append_left _ (List.mem_append_left _ (List.mem_of_getElem? (i := 3) rfl))))))))) (by decide +kernel) (fun _ h9 => List.mem_cons_of_mem _ (List.mem_append_left _ (List.mem_append_right _ (h9)))) ex_89_2 ex_ot ex_85_89_3 hl.1 dX10_near_67 dX10_near_70 dX10_near_71 dX10_near_74 dX10_near_77 hxt (Nat.le_of_ble_eq_true rfl) (Nat.le_of_ble_eq_true rfl) (Nat.le_of_ble_eq_true rfl) (Nat.le_of_ble_eq_true rfl) hlk h (Nat.le_of_ble_eq_true rfl) (Nat.le_of_ble_eq_true rfl)
  have hb_30 : ∀ (g : gS), b_X10_near_30 g Q X → ∀ (H : Heap) (locs : List Loc) (ls : Array Slot), gC D cA (gA g0 sz) s g H locs → lv_has ls 8 [] → W p l e r_X10_near s m args below meth c H locs 0 0 (vx_MQ below (gQi D cA g0 sz (Q)) (gQx D cA g0 sz (X)) args s 1 13 (gA g0 sz)) (F0 m 30 ls []) := by
    intro g h H locs ls hc hl
    unfold b_X10_near_30 at h
    exact g_throwS CF hflags hc (cls := "java/lang/IndexOutOfBoundsException") (text := "there is no such node") (names := ["java/lang/RuntimeException", "java/lang/Exception"]) (ik := 151) (is := 252) (ic := 155) (by decide) (by decide) (List.mem_cons_of_mem _ (List.mem_append_left _ (List.mem_append_left _ (List.mem_append_left _ (List.mem_append_left _ (List.mem_append_left _ (List.mem_append_left _ (List.mem_append_left _ (List.mem_of_getElem? (i := 0) rfl))))))))) (List.mem_cons_of_mem _ (List.mem_append_left _ (List.mem_append_left _ (List.mem_append_left _ (List.mem_append_left _ (List.mem_append_left _ (List.mem_append_left _ (List.mem_append_left _ (List.mem_of_getElem? (i := 1) rfl))))))))) (by decide +kernel) (fun _ h9 => List.mem_cons_of_mem _ (List.mem_append_left _ (List.mem_append_left _ (List.mem_append_right _ (h9))))) ex_155_2 ex_ot ex_151_155_3 hl.1 dX10_near_30 dX10_near_33 dX10_near_34 dX10_near_36 dX10_near_39 hxt (Nat.le_of_ble_eq_true rfl) (Nat.le_of_ble_eq_true rfl) (Nat.le_of_ble_eq_true rfl) (Nat.le_of_ble_eq_true rfl) hlk h (Nat.le_of_ble_eq_true rfl) (Nat.le_of_ble_eq_true rfl)
  unfold w_X10_near at h
  obtain ⟨H, hH0⟩ : ∃ z, z = s.heap := ⟨_, rfl⟩
  rw [← hH0] at hc ⊢
  obtain ⟨locs, hlc0⟩ : ∃ z : List Loc, z = [] := ⟨_, rfl⟩
  rw [← hlc0] at hc ⊢
  refine lv_aload_n hx hb dX10_near_0 rfl (lv_at hl 0 rfl) ?_
  obtain ⟨hk1, h⟩ := h
  obtain ⟨y2, e3, h⟩ := h
  refine g_getr CF hc hk1 rfl (by decide) (fun _ h9 => List.mem_cons_of_mem _ (List.mem_append_left _ (List.mem_append_left _ (List.mem_append_left _ (List.mem_append_left _ (List.mem_append_left _ (List.mem_append_right _ (h9)))))))) (k := 2) (by decide) (List.mem_cons_of_mem _ (List.mem_append_left _ (List.mem_append_left _ (List.mem_append_left _ (List.mem_append_left _ (List.mem_append_left _ (List.mem_append_left _ (List.mem_append_left _ (List.mem_of_getElem? (i := 6) rfl))))))))) e3 rfl dX10_near_1 ?_
  refine lv_iload_n hx hb dX10_near_4 rfl (lv_at hl 1 rfl) ?_
  obtain ⟨hk4, h⟩ := h
  refine g_callq (va_runV (As := [.int p1]) (rest := []) CF (c_X6_nodeAt h) (cwV 1 hts gX10_near_X6_nodeAt rfl rfl rfl (by decide +kernel) ⟨Nat.le_of_ble_eq_true rfl, Nat.le_of_ble_eq_true rfl⟩) (hc.preV hk4 rfl (by decide)) rfl rfl hl.1 rfl (lv_room (Nat.le_of_ble_eq_true rfl)) dX10_near_5 ⟨Nat.le_of_ble_eq_true rfl, Nat.le_of_ble_eq_true rfl⟩) hc (fun o5 gq6 H locs hq hc => ?_)
  obtain ⟨rfl, h⟩ := hq
  refine g_astoreq (lv' := [(5, va_rf o5), (0, .ref p0), (1, .int p1), (2, .int p2), (3, .int p3), (4, .int p4)]) CF dX10_near_8 hl (by decide) rfl (fun ls hl => ?_)
  refine lv_aload_n hx hb dX10_near_10 rfl (lv_at hl 1 rfl) ?_
  obtain ⟨y7, e8, h⟩ := h
  refine g_getr CF hc hk1 rfl (by decide) (fun _ h9 => List.mem_cons_of_mem _ (List.mem_append_left _ (List.mem_append_left _ (List.mem_append_left _ (List.mem_append_left _ (List.mem_append_left _ (List.mem_append_right _ (h9)))))))) (k := 2) (by decide) (List.mem_cons_of_mem _ (List.mem_append_left _ (List.mem_append_left _ (List.mem_append_left _ (List.mem_append_left _ (List.mem_append_left _ (List.mem_append_left _ (List.mem_append_left _ (List.mem_of_getElem? (i := 6) rfl))))))))) e8 rfl dX10_near_11 ?_
  refine lv_iload_n hx hb dX10_near_14 rfl (lv_at hl 3 rfl) ?_
  obtain ⟨hk9, h⟩ := h
  refine g_callq (va_runV (As := [.int p2]) (rest := []) CF (c_X6_nodeAt h) (cwV 1 hts gX10_near_X6_nodeAt rfl rfl rfl (by decide +kernel) ⟨Nat.le_of_ble_eq_true rfl, Nat.le_of_ble_eq_true rfl⟩) (hc.preV hk9 rfl (by decide)) rfl rfl hl.1 rfl (lv_room (Nat.le_of_ble_eq_true rfl)) dX10_near_15 ⟨Nat.le_of_ble_eq_true rfl, Nat.le_of_ble_eq_true rfl⟩) hc (fun o10 gq11 H locs hq hc => ?_)
  obtain ⟨rfl, h⟩ := hq
  refine g_astoreq (lv' := [(6, va_rf o10), (5, va_rf o5), (0, .ref p0), (1, .int p1), (2, .int p2), (3, .int p3), (4, .int p4)]) CF dX10_near_18 hl (by decide) (by cases o5 <;> rfl) (fun ls hl => ?_)
  refine g_aloadq CF dX10_near_20 (lv_at hl 1 rfl) ?_
  refine g_ifnull (tgt := 30) CF dX10_near_22 (by decide) (fun e13 => ?_) (fun y12 e13 => ?_)
  · have hu56 := h.1 e13
    subst e13
    have h := hu56
    exact hb_30 g0 h _ _ _ hc (lv_sub hl [] rfl)
  · have hu56 := h.2 y12 e13
    subst e13
    have h := hu56
    refine g_aloadq CF dX10_near_25 (lv_at hl 0 rfl) ?_
    refine g_ifnonnull (tgt := 40) CF dX10_near_27 (by decide) (fun y14 e15 => ?_) (fun e15 => ?_)
    · have hu55 := h.2 y14 e15
      subst e15
      have h := hu55
      refine lv_aload hx hb dX10_near_40 (lv_at hl 1 rfl) ?_
      obtain ⟨hk16, h⟩ := h
      refine g_get CF hc hk16 rfl (by decide) (fun _ h9 => List.mem_cons_of_mem _ (List.mem_append_left _ (List.mem_append_left _ (List.mem_append_left _ (List.mem_append_left _ (List.mem_append_right _ (h9))))))) (k := 0) (by decide) (List.mem_cons_of_mem _ (List.mem_append_left _ (List.mem_append_left _ (List.mem_append_left _ (List.mem_append_left _ (List.mem_append_left _ (List.mem_append_left _ (List.mem_append_left _ (List.mem_of_getElem? (i := 7) rfl))))))))) rfl dX10_near_42 ?_
      refine lv_if_ne (tgt := 67) hx hb dX10_near_45 (by decide) (fun c17 => ?_) (fun c17 => ?_)
      · have h := h.2 c17
        exact hb_67 g0 h _ _ _ hc (lv_sub hl [] rfl)
      · have h := h.1 c17
        refine lv_aload hx hb dX10_near_48 (lv_at hl 0 rfl) ?_
        obtain ⟨hk18, h⟩ := h
        refine g_get CF hc hk18 rfl (by decide) (fun _ h9 => List.mem_cons_of_mem _ (List.mem_append_left _ (List.mem_append_left _ (List.mem_append_left _ (List.mem_append_left _ (List.mem_append_right _ (h9))))))) (k := 0) (by decide) (List.mem_cons_of_mem _ (List.mem_append_left _ (List.mem_append_left _ (List.mem_append_left _ (List.mem_append_left _ (List.mem_append_left _ (List.mem_append_left _ (List.mem_append_left _ (List.mem_of_getElem? (i := 7) rfl))))))))) rfl dX10_near_50 ?_
        refine lv_if_ne (tgt := 67) hx hb dX10_near_53 (by decide) (fun c19 => ?_) (fun c19 => ?_)
        · have h := h.2 c19
          exact hb_67 g0 h _ _ _ hc (lv_sub hl [] rfl)
        · have h := h.1 c19
          refine lv_iload_n hx hb dX10_near_56 rfl (lv_at hl 5 rfl) ?_
          refine lv_iconst (v := 1) hx hb dX10_near_57 (by decide) ?_
          refine lv_icmp_lt (tgt := 67) hx hb dX10_near_58 (by decide) (fun c20 => ?_) (fun c20 => ?_)
          · have h := h.1 c20
            exact hb_67 g0 h _ _ _ hc (lv_sub hl [] rfl)
          · have h := h.2 c20
            refine lv_iload_n hx hb dX10_near_61 rfl (lv_at hl 5 rfl) ?_
            refine lv_bipush (v := 10) hx hb dX10_near_62 (by decide) ?_
            refine lv_icmp_le (tgt := 78) hx hb dX10_near_64 (by decide) (fun c21 => ?_) (fun c21 => ?_)
            · have h := h.1 c21
              refine lv_aload_n hx hb dX10_near_78 rfl (lv_at hl 2 rfl) ?_
              obtain ⟨y22, e23, h⟩ := h
              refine g_getr CF hc hk1 rfl (by decide) (fun _ h9 => List.mem_cons_of_mem _ (List.mem_append_left _ (List.mem_append_left _ (List.mem_append_left _ (List.mem_append_left _ (List.mem_append_left _ (List.mem_append_right _ (h9)))))))) (k := 2) (by decide) (List.mem_cons_of_mem _ (List.mem_append_left _ (List.mem_append_left _ (List.mem_append_left _ (List.mem_append_left _ (List.mem_append_left _ (List.mem_append_left _ (List.mem_append_left _ (List.mem_of_getElem? (i := 6) rfl))))))))) e23 rfl dX10_near_79 ?_
              obtain ⟨hk24, h⟩ := h
              refine g_calli (va_runV (As := []) (rest := []) CF (c_X6_isFull h) (cwV 0 hts gX10_near_X6_isFull rfl rfl rfl (by decide +kernel) ⟨Nat.le_of_ble_eq_true rfl, Nat.le_of_ble_eq_true rfl⟩) (hc.preV hk24 rfl (by decide)) rfl rfl hl.1 rfl (lv_room (Nat.le_of_ble_eq_true rfl)) dX10_near_82 ⟨Nat.le_of_ble_eq_true rfl, Nat.le_of_ble_eq_true rfl⟩) hc (fun x25 gq26 H locs hq hc => ?_)
              obtain ⟨rfl, h⟩ := hq
              refine lv_if_eq (tgt := 98) hx hb dX10_near_85 (by decide) (fun c27 => ?_) (fun c27 => ?_)
              · have h := h.1 c27
                refine g_new CF hc (ci := 5) rfl (by decide) (fun _ h9 => List.mem_cons_of_mem _ (List.mem_append_left _ (List.mem_append_left _ (List.mem_append_left _ (List.mem_append_left _ (List.mem_append_right _ (h9))))))) tyX5 tyX5_ok dfX5 (List.mem_cons_of_mem _ (List.mem_append_left _ (List.mem_append_left _ (List.mem_append_left _ (List.mem_append_left _ (List.mem_append_left _ (List.mem_append_left _ (List.mem_append_left _ (List.mem_of_getElem? (i := 8) rfl))))))))) (List.mem_cons_of_mem _ (List.mem_append_left _ (List.mem_append_left _ (List.mem_append_left _ (List.mem_append_left _ (List.mem_append_left _ (List.mem_append_left _ (List.mem_append_left _ (List.mem_of_getElem? (i := 9) rfl))))))))) (List.mem_cons_of_mem _ (List.mem_append_left _ (List.mem_append_left _ (List.mem_append_left _ (List.mem_append_left _ (List.mem_append_left _ (List.mem_append_left _ (List.mem_append_left _ (List.mem_of_getElem? (i := 10) rfl))))))))) (Nat.le_of_ble_eq_true rfl) (Nat.le_of_ble_eq_true rfl) dX10_near_98 (fun q28 H locs hq29 hc => ?_)
                replace h := h q28 hq29
                obtain ⟨g30, eg31⟩ : ∃ z, z = sNew g0 q28 6 0 := ⟨_, rfl⟩
                have hc : gC D cA (gA g0 sz) s g30 H locs := by rw [eg31]; exact hc
                replace h := h g30 eg31
                refine W.widen (k := 1) (n := 13) (Nat.le_of_ble_eq_true rfl) (Nat.le_of_ble_eq_true rfl) ?_
                refine lv_dup hx hb dX10_near_101 rfl ?_
                refine lv_iconst (v := 4) hx hb dX10_near_102 (by decide) ?_
                refine g_callv (va_runI (b := q28) (As := [.int 4]) (rest := [.ref q28]) CF (c_X5_init h) (cwI 1 hts gX10_near_X5_init rfl rfl rfl (hts _ (List.mem_cons_of_mem _ (List.mem_append_left _ (List.mem_append_left _ (List.mem_append_left _ (List.mem_append_left _ (List.mem_append_left _ (List.mem_append_left _ (List.mem_append_left _ (List.mem_of_getElem? (i := 10) rfl)))))))))) (hts _ (List.mem_cons_of_mem _ (List.mem_append_left _ (List.mem_append_left _ (List.mem_append_left _ (List.mem_append_left _ (List.mem_append_left _ (List.mem_append_left _ (List.mem_append_right _ (List.mem_of_getElem? (i := 2) rfl)))))))))) (hts _ (List.mem_cons_of_mem _ (List.mem_append_left _ (List.mem_append_left _ (List.mem_append_left _ (List.mem_append_left _ (List.mem_append_left _ (List.mem_append_left _ (List.mem_append_right _ (List.mem_of_getElem? (i := 3) rfl)))))))))) rfl (by decide +kernel) ⟨Nat.le_of_ble_eq_true rfl, Nat.le_of_ble_eq_true rfl⟩) (hc.preS (As := .ref q28 :: [.int 4])) rfl rfl hl.1 rfl (lv_room (Nat.le_of_ble_eq_true rfl)) dX10_near_103 ⟨Nat.le_of_ble_eq_true rfl, Nat.le_of_ble_eq_true rfl⟩) hc (fun g33 H locs hq hc => ?_)
                replace h := hq
                refine lv_astore (lv' := [(7, .ref q28), (6, .ref y14), (5, .ref y12), (0, .ref p0), (1, .int p1), (2, .int p2), (3, .int p3), (4, .int p4)]) hx hb dX10_near_106 hl (by decide) rfl (fun ls hl => ?_)
                refine lv_aload hx hb dX10_near_108 (lv_at hl 0 rfl) ?_
                refine lv_iload_n hx hb dX10_near_110 rfl (lv_at hl 4 rfl) ?_
                obtain ⟨hk35, h⟩ := h
                refine g_puti CF hc hk35 rfl (by decide) (fun _ h9 => List.mem_cons_of_mem _ (List.mem_append_left _ (List.mem_append_left _ (List.mem_append_left _ (List.mem_append_left _ (List.mem_append_right _ (h9))))))) tyX5 tyX5_ok nmX5 (k := 3) (by decide) (List.mem_cons_of_mem _ (List.mem_append_left _ (List.mem_append_left _ (List.mem_append_left _ (List.mem_append_left _ (List.mem_append_left _ (List.mem_append_left _ (List.mem_append_left _ (List.mem_of_getElem? (i := 11) rfl))))))))) rfl (v := p1) rfl rfl rfl dX10_near_111 (fun H locs hc => ?_)
                obtain ⟨g36, eg37⟩ : ∃ z, z = sU g33 q28 3 p1 := ⟨_, rfl⟩
                have hc : gC D cA (gA g0 sz) s g36 H locs := by rw [eg37]; exact hc
                replace h := h g36 eg37
                refine lv_aload hx hb dX10_near_114 (lv_at hl 0 rfl) ?_
                refine lv_iload_n hx hb dX10_near_116 rfl (lv_at hl 5 rfl) ?_
                obtain ⟨hk38, h⟩ := h
                refine g_puti CF hc hk38 rfl (by decide) (fun _ h9 => List.mem_cons_of_mem _ (List.mem_append_left _ (List.mem_append_left _ (List.mem_append_left _ (List.mem_append_left _ (List.mem_append_right _ (h9))))))) tyX5 tyX5_ok nmX5 (k := 4) (by decide) (List.mem_cons_of_mem _ (List.mem_append_left _ (List.mem_append_left _ (List.mem_append_left _ (List.mem_append_left _ (List.mem_append_left _ (List.mem_append_left _ (List.mem_append_left _ (List.mem_of_getElem? (i := 12) rfl))))))))) rfl (v := p2) rfl rfl rfl dX10_near_117 (fun H locs hc => ?_)
                obtain ⟨g39, eg40⟩ : ∃ z, z = sU g36 q28 4 p2 := ⟨_, rfl⟩
                have hc : gC D cA (gA g0 sz) s g39 H locs := by rw [eg40]; exact hc
                replace h := h g39 eg40
                refine lv_aload hx hb dX10_near_120 (lv_at hl 0 rfl) ?_
                refine lv_iload_n hx hb dX10_near_122 rfl (lv_at hl 6 rfl) ?_
                obtain ⟨hk41, h⟩ := h
                refine g_puti CF hc hk41 rfl (by decide) (fun _ h9 => List.mem_cons_of_mem _ (List.mem_append_left _ (List.mem_append_left _ (List.mem_append_left _ (List.mem_append_left _ (List.mem_append_right _ (h9))))))) tyX5 tyX5_ok nmX5 (k := 5) (by decide) (List.mem_cons_of_mem _ (List.mem_append_left _ (List.mem_append_left _ (List.mem_append_left _ (List.mem_append_left _ (List.mem_append_left _ (List.mem_append_left _ (List.mem_append_left _ (List.mem_of_getElem? (i := 13) rfl))))))))) rfl (v := p3) rfl rfl rfl dX10_near_123 (fun H locs hc => ?_)
                obtain ⟨g42, eg43⟩ : ∃ z, z = sU g39 q28 5 p3 := ⟨_, rfl⟩
                have hc : gC D cA (gA g0 sz) s g42 H locs := by rw [eg43]; exact hc
                replace h := h g42 eg43
                refine lv_aload hx hb dX10_near_126 (lv_at hl 0 rfl) ?_
                refine lv_iload hx hb dX10_near_128 (lv_at hl 7 rfl) ?_
                obtain ⟨hk44, h⟩ := h
                obtain ⟨hz45, h⟩ := h
                refine g_puti CF hc hk44 rfl (by decide) (fun _ h9 => List.mem_cons_of_mem _ (List.mem_append_left _ (List.mem_append_left _ (List.mem_append_left _ (List.mem_append_left _ (List.mem_append_right _ (h9))))))) tyX5 tyX5_ok nmX5 (k := 6) (by decide) (List.mem_cons_of_mem _ (List.mem_append_left _ (List.mem_append_left _ (List.mem_append_left _ (List.mem_append_left _ (List.mem_append_left _ (List.mem_append_left _ (List.mem_append_left _ (List.mem_of_getElem? (i := 14) rfl))))))))) rfl (v := p4) (narrow_01 hz45) (fits_01 hz45) rfl dX10_near_130 (fun H locs hc => ?_)
                obtain ⟨g46, eg47⟩ : ∃ z, z = sU g42 q28 6 p4 := ⟨_, rfl⟩
                have hc : gC D cA (gA g0 sz) s g46 H locs := by rw [eg47]; exact hc
                replace h := h g46 eg47
                refine lv_aload_n hx hb dX10_near_133 rfl (lv_at hl 3 rfl) ?_
                obtain ⟨hk48, h⟩ := h
                obtain ⟨y49, e50, h⟩ := h
                refine g_getr CF hc hk48 rfl (by decide) (fun _ h9 => List.mem_cons_of_mem _ (List.mem_append_left _ (List.mem_append_left _ (List.mem_append_left _ (List.mem_append_left _ (List.mem_append_left _ (List.mem_append_right _ (h9)))))))) (k := 2) (by decide) (List.mem_cons_of_mem _ (List.mem_append_left _ (List.mem_append_left _ (List.mem_append_left _ (List.mem_append_left _ (List.mem_append_left _ (List.mem_append_left _ (List.mem_append_left _ (List.mem_of_getElem? (i := 6) rfl))))))))) e50 rfl dX10_near_134 ?_
                refine lv_aload hx hb dX10_near_137 (lv_at hl 0 rfl) ?_
                obtain ⟨hk51, h⟩ := h
                refine g_calli (va_runV (As := [.ref q28]) (rest := []) CF (c_X6_append h) (cwV 1 hts gX10_near_X6_append rfl rfl rfl (by decide +kernel) ⟨Nat.le_of_ble_eq_true rfl, Nat.le_of_ble_eq_true rfl⟩) (hc.preV hk51 rfl (by decide)) rfl rfl hl.1 rfl (lv_room (Nat.le_of_ble_eq_true rfl)) dX10_near_139 ⟨Nat.le_of_ble_eq_true rfl, Nat.le_of_ble_eq_true rfl⟩) hc (fun x52 g53 H locs hq hc => ?_)
                replace h := hq
                refine vx_ret ?_
                exact g_reti (r := x52) CF hr hlk hc rfl h dX10_near_142
              · have h := h.2 c27
                exact g_throwS CF hflags hc (cls := "java/lang/IllegalStateException") (text := "there are 30 nodes") (names := ["java/lang/RuntimeException", "java/lang/Exception"]) (ik := 100) (is := 230) (ic := 104) (by decide) (by decide) (List.mem_cons_of_mem _ (List.mem_append_left _ (List.mem_append_left _ (List.mem_append_left _ (List.mem_append_left _ (List.mem_append_left _ (List.mem_append_left _ (List.mem_append_left _ (List.mem_of_getElem? (i := 4) rfl))))))))) (List.mem_cons_of_mem _ (List.mem_append_left _ (List.mem_append_left _ (List.mem_append_left _ (List.mem_append_left _ (List.mem_append_left _ (List.mem_append_left _ (List.mem_append_left _ (List.mem_of_getElem? (i := 5) rfl))))))))) (by decide +kernel) (fun _ h9 => List.mem_cons_of_mem _ (List.mem_append_right _ (h9))) ex_104_2 ex_ot ex_100_104_3 hl.1 dX10_near_88 dX10_near_91 dX10_near_92 dX10_near_94 dX10_near_97 hxt (Nat.le_of_ble_eq_true rfl) (Nat.le_of_ble_eq_true rfl) (Nat.le_of_ble_eq_true rfl) (Nat.le_of_ble_eq_true rfl) hlk h (Nat.le_of_ble_eq_true rfl) (Nat.le_of_ble_eq_true rfl)
            · have h := h.2 c21
              exact hb_67 g0 h _ _ _ hc (lv_sub hl [] rfl)
    · have hu55 := h.1 e15
      subst e15
      have h := hu55
      exact hb_30 g0 h _ _ _ hc (lv_sub hl [] rfl)
def b_X10_dated_14 (g : gS) (Q : Int32 → gS → Prop) (X : String → gS → Prop) : Prop :=
  X "java/lang/IllegalArgumentException" g
def w_X10_dated (g0 : gS) (p0 : Nat) (p1 : Int32) (p2 : Int32) (Q : Int32 → gS → Prop) (X : String → gS → Prop) : Prop :=
  w_X10_isDate g0 p1 (fun x1 => ((x1 = 0 → (b_X10_dated_14 g0 Q X)) ∧ (¬ x1 = 0 → (w_X10_isDate g0 p2 (fun x4 => ((x4 = 0 → (b_X10_dated_14 g0 Q X)) ∧ (¬ x4 = 0 → (gK g0 p0 = 11 ∧ (∃ y8, gR g0 p0 2 = some y8 ∧ (gK g0 y8 = 7 ∧ (w_X6_isFull g0 y8 (fun x11 => ((x11 = 0 → (∀ q14, gK g0 q14 = 0 → (∀ g16, g16 = sNew g0 q14 6 0 → (w_X5_init g16 q14 5 (fun g19 => (gK g19 q14 = 6 ∧ (∀ g22, g22 = sU g19 q14 7 p1 → (gK g22 q14 = 6 ∧ (∀ g25, g25 = sU g22 q14 8 p2 → (gK g25 p0 = 11 ∧ (∃ y28, gR g25 p0 2 = some y28 ∧ (gK g25 y28 = 7 ∧ (w_X6_append g25 y28 q14 (fun x31 g32 => (Q x31 g32))))))))))))))) ∧ (¬ x11 = 0 → (X "java/lang/IllegalStateException" g0)))))))))))))))
abbrev r_X10_dated : Room := { frames := 6, cells := 1, slots := 13, locals := 82 }
set_option maxHeartbeats 4000000 in
set_option maxRecDepth 100000 in
theorem c_X10_dated {l : Launch} {D : va_G} {cA : Nat → ClassId} {sz : Nat} {g0 : gS} {p0 : Nat} {p1 : Int32} {p2 : Int32} {Q : Int32 → gS → Prop} {X : String → gS → Prop} (hflags : l.stackTraces = false) (h : w_X10_dated g0 p0 p1 p2 Q X) : vx_Met l yX10_dated wsX10_dated r_X10_dated (va_Pc [.ref p0, .int p1, .int p2] (gPre D cA g0 sz)) (gQi D cA g0 sz (Q)) (gQx D cA g0 sz (X)) 1 13 (gA g0 sz) := by
  refine g_xmet (cc := cX10_dated) (maxL := 4) (ret := (some .int)) (own := RX10) (by decide) rfl rfl (Nat.le_of_ble_eq_true rfl) ?_
  intro p e s m args below meth c ls CF hr hlk hnm hxt hc hl
  obtain ⟨hx, hb, hml, hown, hts⟩ := id CF
  have hl : lv_has ls 4 [(0, .ref p0), (1, .int p1), (2, .int p2)] := hl
  show W p l e r_X10_dated s m args below meth c s.heap [] 0 0 (vx_MQ below (gQi D cA g0 sz (Q)) (gQx D cA g0 sz (X)) args s 1 13 (gA g0 sz)) (F0 m 0 ls [])
  have hb_14 : ∀ (g : gS), b_X10_dated_14 g Q X → ∀ (H : Heap) (locs : List Loc) (ls : Array Slot), gC D cA (gA g0 sz) s g H locs → lv_has ls 4 [] → W p l e r_X10_dated s m args below meth c H locs 0 0 (vx_MQ below (gQi D cA g0 sz (Q)) (gQx D cA g0 sz (X)) args s 1 13 (gA g0 sz)) (F0 m 14 ls []) := by
    intro g h H locs ls hc hl
    unfold b_X10_dated_14 at h
    exact g_throwSW CF hflags hc (cls := "java/lang/IllegalArgumentException") (text := "there is no such date") (names := ["java/lang/RuntimeException", "java/lang/Exception"]) (ik := 85) (is := 275) (ic := 89) (by decide) (by decide) (List.mem_cons_of_mem _ (List.mem_append_left _ (List.mem_append_left _ (List.mem_append_left _ (List.mem_append_left _ (List.mem_append_left _ (List.mem_append_left _ (List.mem_of_getElem? (i := 0) rfl)))))))) (List.mem_cons_of_mem _ (List.mem_append_left _ (List.mem_append_left _ (List.mem_append_left _ (List.mem_append_left _ (List.mem_append_left _ (List.mem_append_left _ (List.mem_of_getElem? (i := 1) rfl)))))))) (by decide +kernel) (fun _ h9 => List.mem_cons_of_mem _ (List.mem_append_left _ (List.mem_append_right _ (h9)))) ex_89_2 ex_ot ex_85_89_3 hl.1 dX10_dated_14 dX10_dated_17 dX10_dated_18 dX10_dated_21 dX10_dated_24 hxt (Nat.le_of_ble_eq_true rfl) (Nat.le_of_ble_eq_true rfl) (Nat.le_of_ble_eq_true rfl) (Nat.le_of_ble_eq_true rfl) hlk h (Nat.le_of_ble_eq_true rfl) (Nat.le_of_ble_eq_true rfl)
  unfold w_X10_dated at h
  obtain ⟨H, hH0⟩ : ∃ z, z = s.heap := ⟨_, rfl⟩
  rw [← hH0] at hc ⊢
  obtain ⟨locs, hlc0⟩ : ∃ z : List Loc, z = [] := ⟨_, rfl⟩
  rw [← hlc0] at hc ⊢
  refine lv_iload_n hx hb dX10_dated_0 rfl (lv_at hl 1 rfl) ?_
  refine g_calli (va_runS (As := [.int p1]) (rest := []) CF (c_X10_isDate h) (va_cwS 1 hts gX10_dated_X10_isDate rfl rfl rfl (by decide +kernel) ⟨Nat.le_of_ble_eq_true rfl, Nat.le_of_ble_eq_true rfl⟩) hc.preS rfl rfl hl.1 rfl (lv_room (Nat.le_of_ble_eq_true rfl)) dX10_dated_1 ⟨Nat.le_of_ble_eq_true rfl, Nat.le_of_ble_eq_true rfl⟩) hc (fun x1 gq2 H locs hq hc => ?_)
  obtain ⟨rfl, h⟩ := hq
  refine lv_if_eq (tgt := 14) hx hb dX10_dated_4 (by decide) (fun c3 => ?_) (fun c3 => ?_)
  · have h := h.1 c3
    exact hb_14 g0 h _ _ _ hc (lv_sub hl [] rfl)
  · have h := h.2 c3
    refine lv_iload_n hx hb dX10_dated_7 rfl (lv_at hl 2 rfl) ?_
    refine g_calli (va_runS (As := [.int p2]) (rest := []) CF (c_X10_isDate h) (va_cwS 1 hts gX10_dated_X10_isDate rfl rfl rfl (by decide +kernel) ⟨Nat.le_of_ble_eq_true rfl, Nat.le_of_ble_eq_true rfl⟩) hc.preS rfl rfl hl.1 rfl (lv_room (Nat.le_of_ble_eq_true rfl)) dX10_dated_8 ⟨Nat.le_of_ble_eq_true rfl, Nat.le_of_ble_eq_true rfl⟩) hc (fun x4 gq5 H locs hq hc => ?_)
    obtain ⟨rfl, h⟩ := hq
    refine lv_if_ne (tgt := 25) hx hb dX10_dated_11 (by decide) (fun c6 => ?_) (fun c6 => ?_)
    · have h := h.2 c6
      refine lv_aload_n hx hb dX10_dated_25 rfl (lv_at hl 0 rfl) ?_
      obtain ⟨hk7, h⟩ := h
      obtain ⟨y8, e9, h⟩ := h
      refine g_getr CF hc hk7 rfl (by decide) (fun _ h9 => List.mem_cons_of_mem _ (List.mem_append_left _ (List.mem_append_left _ (List.mem_append_left _ (List.mem_append_left _ (List.mem_append_right _ (h9))))))) (k := 2) (by decide) (List.mem_cons_of_mem _ (List.mem_append_left _ (List.mem_append_left _ (List.mem_append_left _ (List.mem_append_left _ (List.mem_append_left _ (List.mem_append_left _ (List.mem_of_getElem? (i := 4) rfl)))))))) e9 rfl dX10_dated_26 ?_
      obtain ⟨hk10, h⟩ := h
      refine g_calli (va_runV (As := []) (rest := []) CF (c_X6_isFull h) (cwV 0 hts gX10_dated_X6_isFull rfl rfl rfl (by decide +kernel) ⟨Nat.le_of_ble_eq_true rfl, Nat.le_of_ble_eq_true rfl⟩) (hc.preV hk10 rfl (by decide)) rfl rfl hl.1 rfl (lv_room (Nat.le_of_ble_eq_true rfl)) dX10_dated_29 ⟨Nat.le_of_ble_eq_true rfl, Nat.le_of_ble_eq_true rfl⟩) hc (fun x11 gq12 H locs hq hc => ?_)
      obtain ⟨rfl, h⟩ := hq
      refine lv_if_eq (tgt := 45) hx hb dX10_dated_32 (by decide) (fun c13 => ?_) (fun c13 => ?_)
      · have h := h.1 c13
        refine g_new CF hc (ci := 5) rfl (by decide) (fun _ h9 => List.mem_cons_of_mem _ (List.mem_append_left _ (List.mem_append_left _ (List.mem_append_left _ (List.mem_append_right _ (h9)))))) tyX5 tyX5_ok dfX5 (List.mem_cons_of_mem _ (List.mem_append_left _ (List.mem_append_left _ (List.mem_append_left _ (List.mem_append_left _ (List.mem_append_left _ (List.mem_append_left _ (List.mem_of_getElem? (i := 5) rfl)))))))) (List.mem_cons_of_mem _ (List.mem_append_left _ (List.mem_append_left _ (List.mem_append_left _ (List.mem_append_left _ (List.mem_append_left _ (List.mem_append_left _ (List.mem_of_getElem? (i := 6) rfl)))))))) (List.mem_cons_of_mem _ (List.mem_append_left _ (List.mem_append_left _ (List.mem_append_left _ (List.mem_append_left _ (List.mem_append_left _ (List.mem_append_left _ (List.mem_of_getElem? (i := 7) rfl)))))))) (Nat.le_of_ble_eq_true rfl) (Nat.le_of_ble_eq_true rfl) dX10_dated_45 (fun q14 H locs hq15 hc => ?_)
        replace h := h q14 hq15
        obtain ⟨g16, eg17⟩ : ∃ z, z = sNew g0 q14 6 0 := ⟨_, rfl⟩
        have hc : gC D cA (gA g0 sz) s g16 H locs := by rw [eg17]; exact hc
        replace h := h g16 eg17
        refine W.widen (k := 1) (n := 13) (Nat.le_of_ble_eq_true rfl) (Nat.le_of_ble_eq_true rfl) ?_
        refine lv_dup hx hb dX10_dated_48 rfl ?_
        refine lv_iconst (v := 5) hx hb dX10_dated_49 (by decide) ?_
        refine g_callv (va_runI (b := q14) (As := [.int 5]) (rest := [.ref q14]) CF (c_X5_init h) (cwI 1 hts gX10_dated_X5_init rfl rfl rfl (hts _ (List.mem_cons_of_mem _ (List.mem_append_left _ (List.mem_append_left _ (List.mem_append_left _ (List.mem_append_left _ (List.mem_append_left _ (List.mem_append_left _ (List.mem_of_getElem? (i := 7) rfl))))))))) (hts _ (List.mem_cons_of_mem _ (List.mem_append_left _ (List.mem_append_left _ (List.mem_append_left _ (List.mem_append_left _ (List.mem_append_left _ (List.mem_append_left _ (List.mem_of_getElem? (i := 21) rfl))))))))) (hts _ (List.mem_cons_of_mem _ (List.mem_append_left _ (List.mem_append_left _ (List.mem_append_left _ (List.mem_append_left _ (List.mem_append_left _ (List.mem_append_left _ (List.mem_of_getElem? (i := 22) rfl))))))))) rfl (by decide +kernel) ⟨Nat.le_of_ble_eq_true rfl, Nat.le_of_ble_eq_true rfl⟩) (hc.preS (As := .ref q14 :: [.int 5])) rfl rfl hl.1 rfl (lv_room (Nat.le_of_ble_eq_true rfl)) dX10_dated_50 ⟨Nat.le_of_ble_eq_true rfl, Nat.le_of_ble_eq_true rfl⟩) hc (fun g19 H locs hq hc => ?_)
        replace h := hq
        refine lv_astore_n (lv' := [(3, .ref q14), (0, .ref p0), (1, .int p1), (2, .int p2)]) hx hb dX10_dated_53 rfl hl (by decide) rfl (fun ls hl => ?_)
        refine lv_aload_n hx hb dX10_dated_54 rfl (lv_at hl 0 rfl) ?_
        refine lv_iload_n hx hb dX10_dated_55 rfl (lv_at hl 2 rfl) ?_
        obtain ⟨hk21, h⟩ := h
        refine g_puti CF hc hk21 rfl (by decide) (fun _ h9 => List.mem_cons_of_mem _ (List.mem_append_left _ (List.mem_append_left _ (List.mem_append_left _ (List.mem_append_right _ (h9)))))) tyX5 tyX5_ok nmX5 (k := 7) (by decide) (List.mem_cons_of_mem _ (List.mem_append_left _ (List.mem_append_left _ (List.mem_append_left _ (List.mem_append_left _ (List.mem_append_left _ (List.mem_append_left _ (List.mem_of_getElem? (i := 8) rfl)))))))) rfl (v := p1) rfl rfl rfl dX10_dated_56 (fun H locs hc => ?_)
        obtain ⟨g22, eg23⟩ : ∃ z, z = sU g19 q14 7 p1 := ⟨_, rfl⟩
        have hc : gC D cA (gA g0 sz) s g22 H locs := by rw [eg23]; exact hc
        replace h := h g22 eg23
        refine lv_aload_n hx hb dX10_dated_59 rfl (lv_at hl 0 rfl) ?_
        refine lv_iload_n hx hb dX10_dated_60 rfl (lv_at hl 3 rfl) ?_
        obtain ⟨hk24, h⟩ := h
        refine g_puti CF hc hk24 rfl (by decide) (fun _ h9 => List.mem_cons_of_mem _ (List.mem_append_left _ (List.mem_append_left _ (List.mem_append_left _ (List.mem_append_right _ (h9)))))) tyX5 tyX5_ok nmX5 (k := 8) (by decide) (List.mem_cons_of_mem _ (List.mem_append_left _ (List.mem_append_left _ (List.mem_append_left _ (List.mem_append_left _ (List.mem_append_left _ (List.mem_append_left _ (List.mem_of_getElem? (i := 9) rfl)))))))) rfl (v := p2) rfl rfl rfl dX10_dated_61 (fun H locs hc => ?_)
        obtain ⟨g25, eg26⟩ : ∃ z, z = sU g22 q14 8 p2 := ⟨_, rfl⟩
        have hc : gC D cA (gA g0 sz) s g25 H locs := by rw [eg26]; exact hc
        replace h := h g25 eg26
        refine lv_aload_n hx hb dX10_dated_64 rfl (lv_at hl 1 rfl) ?_
        obtain ⟨hk27, h⟩ := h
        obtain ⟨y28, e29, h⟩ := h
        refine g_getr CF hc hk27 rfl (by decide) (fun _ h9 => List.mem_cons_of_mem _ (List.mem_append_left _ (List.mem_append_left _ (List.mem_append_left _ (List.mem_append_left _ (List.mem_append_right _ (h9))))))) (k := 2) (by decide) (List.mem_cons_of_mem _ (List.mem_append_left _ (List.mem_append_left _ (List.mem_append_left _ (List.mem_append_left _ (List.mem_append_left _ (List.mem_append_left _ (List.mem_of_getElem? (i := 4) rfl)))))))) e29 rfl dX10_dated_65 ?_
        refine lv_aload_n hx hb dX10_dated_68 rfl (lv_at hl 0 rfl) ?_
        obtain ⟨hk30, h⟩ := h
        refine g_calli (va_runV (As := [.ref q14]) (rest := []) CF (c_X6_append h) (cwV 1 hts gX10_dated_X6_append rfl rfl rfl (by decide +kernel) ⟨Nat.le_of_ble_eq_true rfl, Nat.le_of_ble_eq_true rfl⟩) (hc.preV hk30 rfl (by decide)) rfl rfl hl.1 rfl (lv_room (Nat.le_of_ble_eq_true rfl)) dX10_dated_69 ⟨Nat.le_of_ble_eq_true rfl, Nat.le_of_ble_eq_true rfl⟩) hc (fun x31 g32 H locs hq hc => ?_)
        replace h := hq
        refine vx_ret ?_
        exact g_reti (r := x31) CF hr hlk hc rfl h dX10_dated_72
      · have h := h.2 c13
        exact g_throwS CF hflags hc (cls := "java/lang/IllegalStateException") (text := "there are 30 nodes") (names := ["java/lang/RuntimeException", "java/lang/Exception"]) (ik := 100) (is := 230) (ic := 104) (by decide) (by decide) (List.mem_cons_of_mem _ (List.mem_append_left _ (List.mem_append_left _ (List.mem_append_left _ (List.mem_append_left _ (List.mem_append_left _ (List.mem_append_left _ (List.mem_of_getElem? (i := 2) rfl)))))))) (List.mem_cons_of_mem _ (List.mem_append_left _ (List.mem_append_left _ (List.mem_append_left _ (List.mem_append_left _ (List.mem_append_left _ (List.mem_append_left _ (List.mem_of_getElem? (i := 3) rfl)))))))) (by decide +kernel) (fun _ h9 => List.mem_cons_of_mem _ (List.mem_append_right _ (h9))) ex_104_2 ex_ot ex_100_104_3 hl.1 dX10_dated_35 dX10_dated_38 dX10_dated_39 dX10_dated_41 dX10_dated_44 hxt (Nat.le_of_ble_eq_true rfl) (Nat.le_of_ble_eq_true rfl) (Nat.le_of_ble_eq_true rfl) (Nat.le_of_ble_eq_true rfl) hlk h (Nat.le_of_ble_eq_true rfl) (Nat.le_of_ble_eq_true rfl)
    · have h := h.1 c6
      exact hb_14 g0 h _ _ _ hc (lv_sub hl [] rfl)
def w_X10_kind (g0 : gS) (p0 : Nat) (p1 : Int32) (Q : Int32 → gS → Prop) (X : String → gS → Prop) : Prop :=
  w_X10_isSetOf g0 8 p1 (fun x1 => ((x1 = 0 → (X "java/lang/IllegalArgumentException" g0)) ∧ (¬ x1 = 0 → (gK g0 p0 = 11 ∧ (∃ y5, gR g0 p0 2 = some y5 ∧ (gK g0 y5 = 7 ∧ (w_X6_isFull g0 y5 (fun x8 => ((x8 = 0 → (∀ q11, gK g0 q11 = 0 → (∀ g13, g13 = sNew g0 q11 6 0 → (w_X5_init g13 q11 6 (fun g16 => (gK g16 q11 = 6 ∧ (∀ g19, g19 = sU g16 q11 9 p1 → (gK g19 p0 = 11 ∧ (∃ y22, gR g19 p0 2 = some y22 ∧ (gK g19 y22 = 7 ∧ (w_X6_append g19 y22 q11 (fun x25 g26 => (Q x25 g26))))))))))))) ∧ (¬ x8 = 0 → (X "java/lang/IllegalStateException" g0)))))))))))
abbrev r_X10_kind : Room := { frames := 6, cells := 1, slots := 13, locals := 82 }
set_option maxHeartbeats 4000000 in
set_option maxRecDepth 100000 in
theorem c_X10_kind {l : Launch} {D : va_G} {cA : Nat → ClassId} {sz : Nat} {g0 : gS} {p0 : Nat} {p1 : Int32} {Q : Int32 → gS → Prop} {X : String → gS → Prop} (hflags : l.stackTraces = false) (h : w_X10_kind g0 p0 p1 Q X) : vx_Met l yX10_kind wsX10_kind r_X10_kind (va_Pc [.ref p0, .int p1] (gPre D cA g0 sz)) (gQi D cA g0 sz (Q)) (gQx D cA g0 sz (X)) 1 13 (gA g0 sz) := by
  refine g_xmet (cc := cX10_kind) (maxL := 3) (ret := (some .int)) (own := RX10) (by decide) rfl rfl (Nat.le_of_ble_eq_true rfl) ?_
  intro p e s m args below meth c ls CF hr hlk hnm hxt hc hl
  obtain ⟨hx, hb, hml, hown, hts⟩ := id CF
  have hl : lv_has ls 3 [(0, .ref p0), (1, .int p1)] := hl
  show W p l e r_X10_kind s m args below meth c s.heap [] 0 0 (vx_MQ below (gQi D cA g0 sz (Q)) (gQx D cA g0 sz (X)) args s 1 13 (gA g0 sz)) (F0 m 0 ls [])
  unfold w_X10_kind at h
  obtain ⟨H, hH0⟩ : ∃ z, z = s.heap := ⟨_, rfl⟩
  rw [← hH0] at hc ⊢
  obtain ⟨locs, hlc0⟩ : ∃ z : List Loc, z = [] := ⟨_, rfl⟩
  rw [← hlc0] at hc ⊢
  refine lv_bipush (v := 8) hx hb dX10_kind_0 (by decide) ?_
  refine lv_iload_n hx hb dX10_kind_2 rfl (lv_at hl 1 rfl) ?_
  refine g_calli (va_runS (As := [.int 8, .int p1]) (rest := []) CF (c_X10_isSetOf h) (va_cwS 2 hts gX10_kind_X10_isSetOf rfl rfl rfl (by decide +kernel) ⟨Nat.le_of_ble_eq_true rfl, Nat.le_of_ble_eq_true rfl⟩) hc.preS rfl rfl hl.1 rfl (lv_room (Nat.le_of_ble_eq_true rfl)) dX10_kind_3 ⟨Nat.le_of_ble_eq_true rfl, Nat.le_of_ble_eq_true rfl⟩) hc (fun x1 gq2 H locs hq hc => ?_)
  obtain ⟨rfl, h⟩ := hq
  refine lv_if_ne (tgt := 20) hx hb dX10_kind_6 (by decide) (fun c3 => ?_) (fun c3 => ?_)
  · have h := h.2 c3
    refine lv_aload_n hx hb dX10_kind_20 rfl (lv_at hl 0 rfl) ?_
    obtain ⟨hk4, h⟩ := h
    obtain ⟨y5, e6, h⟩ := h
    refine g_getr CF hc hk4 rfl (by decide) (fun _ h9 => List.mem_cons_of_mem _ (List.mem_append_left _ (List.mem_append_left _ (List.mem_append_left _ (List.mem_append_left _ (List.mem_append_right _ (h9))))))) (k := 2) (by decide) (List.mem_cons_of_mem _ (List.mem_append_left _ (List.mem_append_left _ (List.mem_append_left _ (List.mem_append_left _ (List.mem_append_left _ (List.mem_append_left _ (List.mem_of_getElem? (i := 4) rfl)))))))) e6 rfl dX10_kind_21 ?_
    obtain ⟨hk7, h⟩ := h
    refine g_calli (va_runV (As := []) (rest := []) CF (c_X6_isFull h) (cwV 0 hts gX10_kind_X6_isFull rfl rfl rfl (by decide +kernel) ⟨Nat.le_of_ble_eq_true rfl, Nat.le_of_ble_eq_true rfl⟩) (hc.preV hk7 rfl (by decide)) rfl rfl hl.1 rfl (lv_room (Nat.le_of_ble_eq_true rfl)) dX10_kind_24 ⟨Nat.le_of_ble_eq_true rfl, Nat.le_of_ble_eq_true rfl⟩) hc (fun x8 gq9 H locs hq hc => ?_)
    obtain ⟨rfl, h⟩ := hq
    refine lv_if_eq (tgt := 40) hx hb dX10_kind_27 (by decide) (fun c10 => ?_) (fun c10 => ?_)
    · have h := h.1 c10
      refine g_new CF hc (ci := 5) rfl (by decide) (fun _ h9 => List.mem_cons_of_mem _ (List.mem_append_left _ (List.mem_append_left _ (List.mem_append_left _ (List.mem_append_right _ (h9)))))) tyX5 tyX5_ok dfX5 (List.mem_cons_of_mem _ (List.mem_append_left _ (List.mem_append_left _ (List.mem_append_left _ (List.mem_append_left _ (List.mem_append_left _ (List.mem_append_left _ (List.mem_of_getElem? (i := 5) rfl)))))))) (List.mem_cons_of_mem _ (List.mem_append_left _ (List.mem_append_left _ (List.mem_append_left _ (List.mem_append_left _ (List.mem_append_left _ (List.mem_append_left _ (List.mem_of_getElem? (i := 6) rfl)))))))) (List.mem_cons_of_mem _ (List.mem_append_left _ (List.mem_append_left _ (List.mem_append_left _ (List.mem_append_left _ (List.mem_append_left _ (List.mem_append_left _ (List.mem_of_getElem? (i := 7) rfl)))))))) (Nat.le_of_ble_eq_true rfl) (Nat.le_of_ble_eq_true rfl) dX10_kind_40 (fun q11 H locs hq12 hc => ?_)
      replace h := h q11 hq12
      obtain ⟨g13, eg14⟩ : ∃ z, z = sNew g0 q11 6 0 := ⟨_, rfl⟩
      have hc : gC D cA (gA g0 sz) s g13 H locs := by rw [eg14]; exact hc
      replace h := h g13 eg14
      refine W.widen (k := 1) (n := 13) (Nat.le_of_ble_eq_true rfl) (Nat.le_of_ble_eq_true rfl) ?_
      refine lv_dup hx hb dX10_kind_43 rfl ?_
      refine lv_bipush (v := 6) hx hb dX10_kind_44 (by decide) ?_
      refine g_callv (va_runI (b := q11) (As := [.int 6]) (rest := [.ref q11]) CF (c_X5_init h) (cwI 1 hts gX10_kind_X5_init rfl rfl rfl (hts _ (List.mem_cons_of_mem _ (List.mem_append_left _ (List.mem_append_left _ (List.mem_append_left _ (List.mem_append_left _ (List.mem_append_left _ (List.mem_append_left _ (List.mem_of_getElem? (i := 7) rfl))))))))) (hts _ (List.mem_cons_of_mem _ (List.mem_append_left _ (List.mem_append_left _ (List.mem_append_left _ (List.mem_append_left _ (List.mem_append_left _ (List.mem_append_left _ (List.mem_of_getElem? (i := 20) rfl))))))))) (hts _ (List.mem_cons_of_mem _ (List.mem_append_left _ (List.mem_append_left _ (List.mem_append_left _ (List.mem_append_left _ (List.mem_append_left _ (List.mem_append_left _ (List.mem_of_getElem? (i := 21) rfl))))))))) rfl (by decide +kernel) ⟨Nat.le_of_ble_eq_true rfl, Nat.le_of_ble_eq_true rfl⟩) (hc.preS (As := .ref q11 :: [.int 6])) rfl rfl hl.1 rfl (lv_room (Nat.le_of_ble_eq_true rfl)) dX10_kind_46 ⟨Nat.le_of_ble_eq_true rfl, Nat.le_of_ble_eq_true rfl⟩) hc (fun g16 H locs hq hc => ?_)
      replace h := hq
      refine lv_astore_n (lv' := [(2, .ref q11), (0, .ref p0), (1, .int p1)]) hx hb dX10_kind_49 rfl hl (by decide) rfl (fun ls hl => ?_)
      refine lv_aload_n hx hb dX10_kind_50 rfl (lv_at hl 0 rfl) ?_
      refine lv_iload_n hx hb dX10_kind_51 rfl (lv_at hl 2 rfl) ?_
      obtain ⟨hk18, h⟩ := h
      refine g_puti CF hc hk18 rfl (by decide) (fun _ h9 => List.mem_cons_of_mem _ (List.mem_append_left _ (List.mem_append_left _ (List.mem_append_left _ (List.mem_append_right _ (h9)))))) tyX5 tyX5_ok nmX5 (k := 9) (by decide) (List.mem_cons_of_mem _ (List.mem_append_left _ (List.mem_append_left _ (List.mem_append_left _ (List.mem_append_left _ (List.mem_append_left _ (List.mem_append_left _ (List.mem_of_getElem? (i := 8) rfl)))))))) rfl (v := p1) rfl rfl rfl dX10_kind_52 (fun H locs hc => ?_)
      obtain ⟨g19, eg20⟩ : ∃ z, z = sU g16 q11 9 p1 := ⟨_, rfl⟩
      have hc : gC D cA (gA g0 sz) s g19 H locs := by rw [eg20]; exact hc
      replace h := h g19 eg20
      refine lv_aload_n hx hb dX10_kind_55 rfl (lv_at hl 1 rfl) ?_
      obtain ⟨hk21, h⟩ := h
      obtain ⟨y22, e23, h⟩ := h
      refine g_getr CF hc hk21 rfl (by decide) (fun _ h9 => List.mem_cons_of_mem _ (List.mem_append_left _ (List.mem_append_left _ (List.mem_append_left _ (List.mem_append_left _ (List.mem_append_right _ (h9))))))) (k := 2) (by decide) (List.mem_cons_of_mem _ (List.mem_append_left _ (List.mem_append_left _ (List.mem_append_left _ (List.mem_append_left _ (List.mem_append_left _ (List.mem_append_left _ (List.mem_of_getElem? (i := 4) rfl)))))))) e23 rfl dX10_kind_56 ?_
      refine lv_aload_n hx hb dX10_kind_59 rfl (lv_at hl 0 rfl) ?_
      obtain ⟨hk24, h⟩ := h
      refine g_calli (va_runV (As := [.ref q11]) (rest := []) CF (c_X6_append h) (cwV 1 hts gX10_kind_X6_append rfl rfl rfl (by decide +kernel) ⟨Nat.le_of_ble_eq_true rfl, Nat.le_of_ble_eq_true rfl⟩) (hc.preV hk24 rfl (by decide)) rfl rfl hl.1 rfl (lv_room (Nat.le_of_ble_eq_true rfl)) dX10_kind_60 ⟨Nat.le_of_ble_eq_true rfl, Nat.le_of_ble_eq_true rfl⟩) hc (fun x25 g26 H locs hq hc => ?_)
      replace h := hq
      refine vx_ret ?_
      exact g_reti (r := x25) CF hr hlk hc rfl h dX10_kind_63
    · have h := h.2 c10
      exact g_throwS CF hflags hc (cls := "java/lang/IllegalStateException") (text := "there are 30 nodes") (names := ["java/lang/RuntimeException", "java/lang/Exception"]) (ik := 100) (is := 230) (ic := 104) (by decide) (by decide) (List.mem_cons_of_mem _ (List.mem_append_left _ (List.mem_append_left _ (List.mem_append_left _ (List.mem_append_left _ (List.mem_append_left _ (List.mem_append_left _ (List.mem_of_getElem? (i := 2) rfl)))))))) (List.mem_cons_of_mem _ (List.mem_append_left _ (List.mem_append_left _ (List.mem_append_left _ (List.mem_append_left _ (List.mem_append_left _ (List.mem_append_left _ (List.mem_of_getElem? (i := 3) rfl)))))))) (by decide +kernel) (fun _ h9 => List.mem_cons_of_mem _ (List.mem_append_right _ (h9))) ex_104_2 ex_ot ex_100_104_3 hl.1 dX10_kind_30 dX10_kind_33 dX10_kind_34 dX10_kind_36 dX10_kind_39 hxt (Nat.le_of_ble_eq_true rfl) (Nat.le_of_ble_eq_true rfl) (Nat.le_of_ble_eq_true rfl) (Nat.le_of_ble_eq_true rfl) hlk h (Nat.le_of_ble_eq_true rfl) (Nat.le_of_ble_eq_true rfl)
  · have h := h.1 c3
    exact g_throwSW CF hflags hc (cls := "java/lang/IllegalArgumentException") (text := "there is no such set of kinds") (names := ["java/lang/RuntimeException", "java/lang/Exception"]) (ik := 85) (is := 283) (ic := 89) (by decide) (by decide) (List.mem_cons_of_mem _ (List.mem_append_left _ (List.mem_append_left _ (List.mem_append_left _ (List.mem_append_left _ (List.mem_append_left _ (List.mem_append_left _ (List.mem_of_getElem? (i := 0) rfl)))))))) (List.mem_cons_of_mem _ (List.mem_append_left _ (List.mem_append_left _ (List.mem_append_left _ (List.mem_append_left _ (List.mem_append_left _ (List.mem_append_left _ (List.mem_of_getElem? (i := 1) rfl)))))))) (by decide +kernel) (fun _ h9 => List.mem_cons_of_mem _ (List.mem_append_left _ (List.mem_append_right _ (h9)))) ex_89_2 ex_ot ex_85_89_3 hl.1 dX10_kind_9 dX10_kind_12 dX10_kind_13 dX10_kind_16 dX10_kind_19 hxt (Nat.le_of_ble_eq_true rfl) (Nat.le_of_ble_eq_true rfl) (Nat.le_of_ble_eq_true rfl) (Nat.le_of_ble_eq_true rfl) hlk h (Nat.le_of_ble_eq_true rfl) (Nat.le_of_ble_eq_true rfl)
def b_X10_scaled_32 (g : gS) (Q : Int32 → gS → Prop) (X : String → gS → Prop) : Prop :=
  X "java/lang/IllegalArgumentException" g
def w_X10_scaled (g0 : gS) (p0 : Nat) (p1 : Int32) (p2 : Int32) (Q : Int32 → gS → Prop) (X : String → gS → Prop) : Prop :=
  gK g0 p0 = 11 ∧ (∃ y2, gR g0 p0 2 = some y2 ∧ (gK g0 y2 = 7 ∧ (w_X6_hasNode g0 y2 p1 (fun x5 => ((x5 = 0 → (X "java/lang/IndexOutOfBoundsException" g0)) ∧ (¬ x5 = 0 → ((p2 < 0 → (b_X10_scaled_32 g0 Q X)) ∧ (¬ p2 < 0 → ((p2 ≤ 500 → (∃ y10, gR g0 p0 2 = some y10 ∧ (gK g0 y10 = 7 ∧ (w_X6_isFull g0 y10 (fun x13 => ((x13 = 0 → (∀ q16, gK g0 q16 = 0 → (∀ g18, g18 = sNew g0 q16 6 0 → (w_X5_init g18 q16 7 (fun g21 => (gK g21 q16 = 6 ∧ (∀ g24, g24 = sU g21 q16 3 p1 → (gK g24 q16 = 6 ∧ (∀ g27, g27 = sU g24 q16 10 p2 → (gK g27 p0 = 11 ∧ (∃ y30, gR g27 p0 2 = some y30 ∧ (gK g27 y30 = 7 ∧ (w_X6_append g27 y30 q16 (fun x33 g34 => (Q x33 g34))))))))))))))) ∧ (¬ x13 = 0 → (X "java/lang/IllegalStateException" g0)))))))) ∧ (¬ p2 ≤ 500 → (b_X10_scaled_32 g0 Q X)))))))))))
abbrev r_X10_scaled : Room := { frames := 6, cells := 1, slots := 13, locals := 82 }
set_option maxHeartbeats 4000000 in
set_option maxRecDepth 100000 in
theorem c_X10_scaled {l : Launch} {D : va_G} {cA : Nat → ClassId} {sz : Nat} {g0 : gS} {p0 : Nat} {p1 : Int32} {p2 : Int32} {Q : Int32 → gS → Prop} {X : String → gS → Prop} (hflags : l.stackTraces = false) (h : w_X10_scaled g0 p0 p1 p2 Q X) : vx_Met l yX10_scaled wsX10_scaled r_X10_scaled (va_Pc [.ref p0, .int p1, .int p2] (gPre D cA g0 sz)) (gQi D cA g0 sz (Q)) (gQx D cA g0 sz (X)) 1 13 (gA g0 sz) := by
  refine g_xmet (cc := cX10_scaled) (maxL := 4) (ret := (some .int)) (own := RX10) (by decide) rfl rfl (Nat.le_of_ble_eq_true rfl) ?_
  intro p e s m args below meth c ls CF hr hlk hnm hxt hc hl
  obtain ⟨hx, hb, hml, hown, hts⟩ := id CF
  have hl : lv_has ls 4 [(0, .ref p0), (1, .int p1), (2, .int p2)] := hl
  show W p l e r_X10_scaled s m args below meth c s.heap [] 0 0 (vx_MQ below (gQi D cA g0 sz (Q)) (gQx D cA g0 sz (X)) args s 1 13 (gA g0 sz)) (F0 m 0 ls [])
  have hb_32 : ∀ (g : gS), b_X10_scaled_32 g Q X → ∀ (H : Heap) (locs : List Loc) (ls : Array Slot), gC D cA (gA g0 sz) s g H locs → lv_has ls 4 [] → W p l e r_X10_scaled s m args below meth c H locs 0 0 (vx_MQ below (gQi D cA g0 sz (Q)) (gQx D cA g0 sz (X)) args s 1 13 (gA g0 sz)) (F0 m 32 ls []) := by
    intro g h H locs ls hc hl
    unfold b_X10_scaled_32 at h
    exact g_throwSW CF hflags hc (cls := "java/lang/IllegalArgumentException") (text := "there are no such parts") (names := ["java/lang/RuntimeException", "java/lang/Exception"]) (ik := 85) (is := 288) (ic := 89) (by decide) (by decide) (List.mem_cons_of_mem _ (List.mem_append_left _ (List.mem_append_left _ (List.mem_append_left _ (List.mem_append_left _ (List.mem_append_left _ (List.mem_append_left _ (List.mem_append_left _ (List.mem_of_getElem? (i := 2) rfl))))))))) (List.mem_cons_of_mem _ (List.mem_append_left _ (List.mem_append_left _ (List.mem_append_left _ (List.mem_append_left _ (List.mem_append_left _ (List.mem_append_left _ (List.mem_append_left _ (List.mem_of_getElem? (i := 3) rfl))))))))) (by decide +kernel) (fun _ h9 => List.mem_cons_of_mem _ (List.mem_append_left _ (List.mem_append_right _ (h9)))) ex_89_2 ex_ot ex_85_89_3 hl.1 dX10_scaled_32 dX10_scaled_35 dX10_scaled_36 dX10_scaled_39 dX10_scaled_42 hxt (Nat.le_of_ble_eq_true rfl) (Nat.le_of_ble_eq_true rfl) (Nat.le_of_ble_eq_true rfl) (Nat.le_of_ble_eq_true rfl) hlk h (Nat.le_of_ble_eq_true rfl) (Nat.le_of_ble_eq_true rfl)
  unfold w_X10_scaled at h
  obtain ⟨H, hH0⟩ : ∃ z, z = s.heap := ⟨_, rfl⟩
  rw [← hH0] at hc ⊢
  obtain ⟨locs, hlc0⟩ : ∃ z : List Loc, z = [] := ⟨_, rfl⟩
  rw [← hlc0] at hc ⊢
  refine lv_aload_n hx hb dX10_scaled_0 rfl (lv_at hl 0 rfl) ?_
  obtain ⟨hk1, h⟩ := h
  obtain ⟨y2, e3, h⟩ := h
  refine g_getr CF hc hk1 rfl (by decide) (fun _ h9 => List.mem_cons_of_mem _ (List.mem_append_left _ (List.mem_append_left _ (List.mem_append_left _ (List.mem_append_left _ (List.mem_append_left _ (List.mem_append_right _ (h9)))))))) (k := 2) (by decide) (List.mem_cons_of_mem _ (List.mem_append_left _ (List.mem_append_left _ (List.mem_append_left _ (List.mem_append_left _ (List.mem_append_left _ (List.mem_append_left _ (List.mem_append_left _ (List.mem_of_getElem? (i := 6) rfl))))))))) e3 rfl dX10_scaled_1 ?_
  refine lv_iload_n hx hb dX10_scaled_4 rfl (lv_at hl 1 rfl) ?_
  obtain ⟨hk4, h⟩ := h
  refine g_calli (va_runV (As := [.int p1]) (rest := []) CF (c_X6_hasNode h) (cwV 1 hts gX10_scaled_X6_hasNode rfl rfl rfl (by decide +kernel) ⟨Nat.le_of_ble_eq_true rfl, Nat.le_of_ble_eq_true rfl⟩) (hc.preV hk4 rfl (by decide)) rfl rfl hl.1 rfl (lv_room (Nat.le_of_ble_eq_true rfl)) dX10_scaled_5 ⟨Nat.le_of_ble_eq_true rfl, Nat.le_of_ble_eq_true rfl⟩) hc (fun x5 gq6 H locs hq hc => ?_)
  obtain ⟨rfl, h⟩ := hq
  refine lv_if_ne (tgt := 21) hx hb dX10_scaled_8 (by decide) (fun c7 => ?_) (fun c7 => ?_)
  · have h := h.2 c7
    refine lv_iload_n hx hb dX10_scaled_21 rfl (lv_at hl 2 rfl) ?_
    refine lv_if_lt (tgt := 32) hx hb dX10_scaled_22 (by decide) (fun c8 => ?_) (fun c8 => ?_)
    · have h := h.1 c8
      exact hb_32 g0 h _ _ _ hc (lv_sub hl [] rfl)
    · have h := h.2 c8
      refine lv_iload_n hx hb dX10_scaled_25 rfl (lv_at hl 2 rfl) ?_
      refine lv_sipush (v := 500) hx hb dX10_scaled_26 (by decide) ?_
      refine lv_icmp_le (tgt := 43) hx hb dX10_scaled_29 (by decide) (fun c9 => ?_) (fun c9 => ?_)
      · have h := h.1 c9
        refine lv_aload_n hx hb dX10_scaled_43 rfl (lv_at hl 0 rfl) ?_
        obtain ⟨y10, e11, h⟩ := h
        refine g_getr CF hc hk1 rfl (by decide) (fun _ h9 => List.mem_cons_of_mem _ (List.mem_append_left _ (List.mem_append_left _ (List.mem_append_left _ (List.mem_append_left _ (List.mem_append_left _ (List.mem_append_right _ (h9)))))))) (k := 2) (by decide) (List.mem_cons_of_mem _ (List.mem_append_left _ (List.mem_append_left _ (List.mem_append_left _ (List.mem_append_left _ (List.mem_append_left _ (List.mem_append_left _ (List.mem_append_left _ (List.mem_of_getElem? (i := 6) rfl))))))))) e11 rfl dX10_scaled_44 ?_
        obtain ⟨hk12, h⟩ := h
        refine g_calli (va_runV (As := []) (rest := []) CF (c_X6_isFull h) (cwV 0 hts gX10_scaled_X6_isFull rfl rfl rfl (by decide +kernel) ⟨Nat.le_of_ble_eq_true rfl, Nat.le_of_ble_eq_true rfl⟩) (hc.preV hk12 rfl (by decide)) rfl rfl hl.1 rfl (lv_room (Nat.le_of_ble_eq_true rfl)) dX10_scaled_47 ⟨Nat.le_of_ble_eq_true rfl, Nat.le_of_ble_eq_true rfl⟩) hc (fun x13 gq14 H locs hq hc => ?_)
        obtain ⟨rfl, h⟩ := hq
        refine lv_if_eq (tgt := 63) hx hb dX10_scaled_50 (by decide) (fun c15 => ?_) (fun c15 => ?_)
        · have h := h.1 c15
          refine g_new CF hc (ci := 5) rfl (by decide) (fun _ h9 => List.mem_cons_of_mem _ (List.mem_append_left _ (List.mem_append_left _ (List.mem_append_left _ (List.mem_append_left _ (List.mem_append_right _ (h9))))))) tyX5 tyX5_ok dfX5 (List.mem_cons_of_mem _ (List.mem_append_left _ (List.mem_append_left _ (List.mem_append_left _ (List.mem_append_left _ (List.mem_append_left _ (List.mem_append_left _ (List.mem_append_left _ (List.mem_of_getElem? (i := 7) rfl))))))))) (List.mem_cons_of_mem _ (List.mem_append_left _ (List.mem_append_left _ (List.mem_append_left _ (List.mem_append_left _ (List.mem_append_left _ (List.mem_append_left _ (List.mem_append_left _ (List.mem_of_getElem? (i := 8) rfl))))))))) (List.mem_cons_of_mem _ (List.mem_append_left _ (List.mem_append_left _ (List.mem_append_left _ (List.mem_append_left _ (List.mem_append_left _ (List.mem_append_left _ (List.mem_append_left _ (List.mem_of_getElem? (i := 9) rfl))))))))) (Nat.le_of_ble_eq_true rfl) (Nat.le_of_ble_eq_true rfl) dX10_scaled_63 (fun q16 H locs hq17 hc => ?_)
          replace h := h q16 hq17
          obtain ⟨g18, eg19⟩ : ∃ z, z = sNew g0 q16 6 0 := ⟨_, rfl⟩
          have hc : gC D cA (gA g0 sz) s g18 H locs := by rw [eg19]; exact hc
          replace h := h g18 eg19
          refine W.widen (k := 1) (n := 13) (Nat.le_of_ble_eq_true rfl) (Nat.le_of_ble_eq_true rfl) ?_
          refine lv_dup hx hb dX10_scaled_66 rfl ?_
          refine lv_bipush (v := 7) hx hb dX10_scaled_67 (by decide) ?_
          refine g_callv (va_runI (b := q16) (As := [.int 7]) (rest := [.ref q16]) CF (c_X5_init h) (cwI 1 hts gX10_scaled_X5_init rfl rfl rfl (hts _ (List.mem_cons_of_mem _ (List.mem_append_left _ (List.mem_append_left _ (List.mem_append_left _ (List.mem_append_left _ (List.mem_append_left _ (List.mem_append_left _ (List.mem_append_left _ (List.mem_of_getElem? (i := 9) rfl)))))))))) (hts _ (List.mem_cons_of_mem _ (List.mem_append_left _ (List.mem_append_left _ (List.mem_append_left _ (List.mem_append_left _ (List.mem_append_left _ (List.mem_append_left _ (List.mem_append_right _ (List.mem_of_getElem? (i := 3) rfl)))))))))) (hts _ (List.mem_cons_of_mem _ (List.mem_append_left _ (List.mem_append_left _ (List.mem_append_left _ (List.mem_append_left _ (List.mem_append_left _ (List.mem_append_left _ (List.mem_append_right _ (List.mem_of_getElem? (i := 4) rfl)))))))))) rfl (by decide +kernel) ⟨Nat.le_of_ble_eq_true rfl, Nat.le_of_ble_eq_true rfl⟩) (hc.preS (As := .ref q16 :: [.int 7])) rfl rfl hl.1 rfl (lv_room (Nat.le_of_ble_eq_true rfl)) dX10_scaled_69 ⟨Nat.le_of_ble_eq_true rfl, Nat.le_of_ble_eq_true rfl⟩) hc (fun g21 H locs hq hc => ?_)
          replace h := hq
          refine lv_astore_n (lv' := [(3, .ref q16), (0, .ref p0), (1, .int p1), (2, .int p2)]) hx hb dX10_scaled_72 rfl hl (by decide) rfl (fun ls hl => ?_)
          refine lv_aload_n hx hb dX10_scaled_73 rfl (lv_at hl 0 rfl) ?_
          refine lv_iload_n hx hb dX10_scaled_74 rfl (lv_at hl 2 rfl) ?_
          obtain ⟨hk23, h⟩ := h
          refine g_puti CF hc hk23 rfl (by decide) (fun _ h9 => List.mem_cons_of_mem _ (List.mem_append_left _ (List.mem_append_left _ (List.mem_append_left _ (List.mem_append_left _ (List.mem_append_right _ (h9))))))) tyX5 tyX5_ok nmX5 (k := 3) (by decide) (List.mem_cons_of_mem _ (List.mem_append_left _ (List.mem_append_left _ (List.mem_append_left _ (List.mem_append_left _ (List.mem_append_left _ (List.mem_append_left _ (List.mem_append_left _ (List.mem_of_getElem? (i := 10) rfl))))))))) rfl (v := p1) rfl rfl rfl dX10_scaled_75 (fun H locs hc => ?_)
          obtain ⟨g24, eg25⟩ : ∃ z, z = sU g21 q16 3 p1 := ⟨_, rfl⟩
          have hc : gC D cA (gA g0 sz) s g24 H locs := by rw [eg25]; exact hc
          replace h := h g24 eg25
          refine lv_aload_n hx hb dX10_scaled_78 rfl (lv_at hl 0 rfl) ?_
          refine lv_iload_n hx hb dX10_scaled_79 rfl (lv_at hl 3 rfl) ?_
          obtain ⟨hk26, h⟩ := h
          refine g_puti CF hc hk26 rfl (by decide) (fun _ h9 => List.mem_cons_of_mem _ (List.mem_append_left _ (List.mem_append_left _ (List.mem_append_left _ (List.mem_append_left _ (List.mem_append_right _ (h9))))))) tyX5 tyX5_ok nmX5 (k := 10) (by decide) (List.mem_cons_of_mem _ (List.mem_append_left _ (List.mem_append_left _ (List.mem_append_left _ (List.mem_append_left _ (List.mem_append_left _ (List.mem_append_left _ (List.mem_append_left _ (List.mem_of_getElem? (i := 11) rfl))))))))) rfl (v := p2) rfl rfl rfl dX10_scaled_80 (fun H locs hc => ?_)
          obtain ⟨g27, eg28⟩ : ∃ z, z = sU g24 q16 10 p2 := ⟨_, rfl⟩
          have hc : gC D cA (gA g0 sz) s g27 H locs := by rw [eg28]; exact hc
          replace h := h g27 eg28
          refine lv_aload_n hx hb dX10_scaled_83 rfl (lv_at hl 1 rfl) ?_
          obtain ⟨hk29, h⟩ := h
          obtain ⟨y30, e31, h⟩ := h
          refine g_getr CF hc hk29 rfl (by decide) (fun _ h9 => List.mem_cons_of_mem _ (List.mem_append_left _ (List.mem_append_left _ (List.mem_append_left _ (List.mem_append_left _ (List.mem_append_left _ (List.mem_append_right _ (h9)))))))) (k := 2) (by decide) (List.mem_cons_of_mem _ (List.mem_append_left _ (List.mem_append_left _ (List.mem_append_left _ (List.mem_append_left _ (List.mem_append_left _ (List.mem_append_left _ (List.mem_append_left _ (List.mem_of_getElem? (i := 6) rfl))))))))) e31 rfl dX10_scaled_84 ?_
          refine lv_aload_n hx hb dX10_scaled_87 rfl (lv_at hl 0 rfl) ?_
          obtain ⟨hk32, h⟩ := h
          refine g_calli (va_runV (As := [.ref q16]) (rest := []) CF (c_X6_append h) (cwV 1 hts gX10_scaled_X6_append rfl rfl rfl (by decide +kernel) ⟨Nat.le_of_ble_eq_true rfl, Nat.le_of_ble_eq_true rfl⟩) (hc.preV hk32 rfl (by decide)) rfl rfl hl.1 rfl (lv_room (Nat.le_of_ble_eq_true rfl)) dX10_scaled_88 ⟨Nat.le_of_ble_eq_true rfl, Nat.le_of_ble_eq_true rfl⟩) hc (fun x33 g34 H locs hq hc => ?_)
          replace h := hq
          refine vx_ret ?_
          exact g_reti (r := x33) CF hr hlk hc rfl h dX10_scaled_91
        · have h := h.2 c15
          exact g_throwS CF hflags hc (cls := "java/lang/IllegalStateException") (text := "there are 30 nodes") (names := ["java/lang/RuntimeException", "java/lang/Exception"]) (ik := 100) (is := 230) (ic := 104) (by decide) (by decide) (List.mem_cons_of_mem _ (List.mem_append_left _ (List.mem_append_left _ (List.mem_append_left _ (List.mem_append_left _ (List.mem_append_left _ (List.mem_append_left _ (List.mem_append_left _ (List.mem_of_getElem? (i := 4) rfl))))))))) (List.mem_cons_of_mem _ (List.mem_append_left _ (List.mem_append_left _ (List.mem_append_left _ (List.mem_append_left _ (List.mem_append_left _ (List.mem_append_left _ (List.mem_append_left _ (List.mem_of_getElem? (i := 5) rfl))))))))) (by decide +kernel) (fun _ h9 => List.mem_cons_of_mem _ (List.mem_append_right _ (h9))) ex_104_2 ex_ot ex_100_104_3 hl.1 dX10_scaled_53 dX10_scaled_56 dX10_scaled_57 dX10_scaled_59 dX10_scaled_62 hxt (Nat.le_of_ble_eq_true rfl) (Nat.le_of_ble_eq_true rfl) (Nat.le_of_ble_eq_true rfl) (Nat.le_of_ble_eq_true rfl) hlk h (Nat.le_of_ble_eq_true rfl) (Nat.le_of_ble_eq_true rfl)
      · have h := h.2 c9
        exact hb_32 g0 h _ _ _ hc (lv_sub hl [] rfl)
  · have h := h.1 c7
    exact g_throwS CF hflags hc (cls := "java/lang/IndexOutOfBoundsException") (text := "there is no such node") (names := ["java/lang/RuntimeException", "java/lang/Exception"]) (ik := 151) (is := 252) (ic := 155) (by decide) (by decide) (List.mem_cons_of_mem _ (List.mem_append_left _ (List.mem_append_left _ (List.mem_append_left _ (List.mem_append_left _ (List.mem_append_left _ (List.mem_append_left _ (List.mem_append_left _ (List.mem_of_getElem? (i := 0) rfl))))))))) (List.mem_cons_of_mem _ (List.mem_append_left _ (List.mem_append_left _ (List.mem_append_left _ (List.mem_append_left _ (List.mem_append_left _ (List.mem_append_left _ (List.mem_append_left _ (List.mem_of_getElem? (i := 1) rfl))))))))) (by decide +kernel) (fun _ h9 => List.mem_cons_of_mem _ (List.mem_append_left _ (List.mem_append_left _ (List.mem_append_right _ (h9))))) ex_155_2 ex_ot ex_151_155_3 hl.1 dX10_scaled_11 dX10_scaled_14 dX10_scaled_15 dX10_scaled_17 dX10_scaled_20 hxt (Nat.le_of_ble_eq_true rfl) (Nat.le_of_ble_eq_true rfl) (Nat.le_of_ble_eq_true rfl) (Nat.le_of_ble_eq_true rfl) hlk h (Nat.le_of_ble_eq_true rfl) (Nat.le_of_ble_eq_true rfl)
def b_X10_most_54 (g : gS) (Q : Int32 → gS → Prop) (X : String → gS → Prop) : Prop :=
  X "java/lang/IllegalArgumentException" g
def b_X10_most_24 (g : gS) (Q : Int32 → gS → Prop) (X : String → gS → Prop) : Prop :=
  X "java/lang/IndexOutOfBoundsException" g
def w_X10_most (g0 : gS) (p0 : Nat) (p1 : Int32) (p2 : Int32) (p3 : Int32) (Q : Int32 → gS → Prop) (X : String → gS → Prop) : Prop :=
  gK g0 p0 = 11 ∧ (∃ y2, gR g0 p0 2 = some y2 ∧ (gK g0 y2 = 7 ∧ (w_X6_hasNode g0 y2 p1 (fun x5 => ((x5 = 0 → (b_X10_most_24 g0 Q X)) ∧ (¬ x5 = 0 → (∃ y8, gR g0 p0 2 = some y8 ∧ (gK g0 y8 = 7 ∧ ((p2 ≤ ((gI g0 y8 2) - p1) → ((p2 < 2 → (b_X10_most_54 g0 Q X)) ∧ (¬ p2 < 2 → ((4 < p2 → (b_X10_most_54 g0 Q X)) ∧ (¬ 4 < p2 → ((p3 < 1 → (b_X10_most_54 g0 Q X)) ∧ (¬ p3 < 1 → ((p3 ≤ p2 → (∃ y16, gR g0 p0 2 = some y16 ∧ (gK g0 y16 = 7 ∧ (w_X6_isFull g0 y16 (fun x19 => ((x19 = 0 → (∀ q22, gK g0 q22 = 0 → (∀ g24, g24 = sNew g0 q22 6 0 → (w_X5_init g24 q22 8 (fun g27 => (gK g27 q22 = 6 ∧ (∀ g30, g30 = sU g27 q22 3 p1 → (gK g30 q22 = 6 ∧ (∀ g33, g33 = sU g30 q22 11 p2 → (gK g33 q22 = 6 ∧ (∀ g36, g36 = sU g33 q22 12 p3 → (gK g36 p0 = 11 ∧ (∃ y39, gR g36 p0 2 = some y39 ∧ (gK g36 y39 = 7 ∧ (w_X6_append g36 y39 q22 (fun x42 g43 => (Q x42 g43))))))))))))))))) ∧ (¬ x19 = 0 → (X "java/lang/IllegalStateException" g0)))))))) ∧ (¬ p3 ≤ p2 → (b_X10_most_54 g0 Q X)))))))))) ∧ (¬ p2 ≤ ((gI g0 y8 2) - p1) → (b_X10_most_24 g0 Q X)))))))))))
abbrev r_X10_most : Room := { frames := 6, cells := 1, slots := 13, locals := 82 }
set_option maxHeartbeats 4000000 in
set_option maxRecDepth 100000 in
theorem c_X10_most {l : Launch} {D : va_G} {cA : Nat → ClassId} {sz : Nat} {g0 : gS} {p0 : Nat} {p1 : Int32} {p2 : Int32} {p3 : Int32} {Q : Int32 → gS → Prop} {X : String → gS → Prop} (hflags : l.stackTraces = false) (h : w_X10_most g0 p0 p1 p2 p3 Q X) : vx_Met l yX10_most wsX10_most r_X10_most (va_Pc [.ref p0, .int p1, .int p2, .int p3] (gPre D cA g0 sz)) (gQi D cA g0 sz (Q)) (gQx D cA g0 sz (X)) 1 13 (gA g0 sz) := by
  refine g_xmet (cc := cX10_most) (maxL := 5) (ret := (some .int)) (own := RX10) (by decide) rfl rfl (Nat.le_of_ble_eq_true rfl) ?_
  intro p e s m args below meth c ls CF hr hlk hnm hxt hc hl
  obtain ⟨hx, hb, hml, hown, hts⟩ := id CF
  have hl : lv_has ls 5 [(0, .ref p0), (1, .int p1), (2, .int p2), (3, .int p3)] := hl
  show W p l e r_X10_most s m args below meth c s.heap [] 0 0 (vx_MQ below (gQi D cA g0 sz (Q)) (gQx D cA g0 sz (X)) args s 1 13 (gA g0 sz)) (F0 m 0 ls [])
  have hb_54 : ∀ (g : gS), b_X10_most_54 g Q X → ∀ (H : Heap) (locs : List Loc) (ls : Array Slot), gC D cA (gA g0 sz) s g H locs → lv_has ls 5 [] → W p l e r_X10_most s m args below meth c H locs 0 0 (vx_MQ below (gQi D cA g0 sz (Q)) (gQx D cA g0 sz (X)) args s 1 13 (gA g0 sz)) (F0 m 54 ls []) := by
    intro g h H locs ls hc hl
    unfold b_X10_most_54 at h
    exact g_throwSW CF hflags hc (cls := "java/lang/IllegalArgumentException") (text := "there is no such number of nodes") (names := ["java/lang/RuntimeException", "java/lang/Exception"]) (ik := 85) (is := 294) (ic := 89) (by decide) (by decide) (List.mem_cons_of_mem _ (List.mem_append_left _ (List.mem_append_left _ (List.mem_append_left _ (List.mem_append_left _ (List.mem_append_left _ (List.mem_append_left _ (List.mem_append_left _ (List.mem_of_getElem? (i := 2) rfl))))))))) (List.mem_cons_of_mem _ (List.mem_append_left _ (List.mem_append_left _ (List.mem_append_left _ (List.mem_append_left _ (List.mem_append_left _ (List.mem_append_left _ (List.mem_append_left _ (List.mem_of_getElem? (i := 3) rfl))))))))) (by decide +kernel) (fun _ h9 => List.mem_cons_of_mem _ (List.mem_append_left _ (List.mem_append_right _ (h9)))) ex_89_2 ex_ot ex_85_89_3 hl.1 dX10_most_54 dX10_most_57 dX10_most_58 dX10_most_61 dX10_most_64 hxt (Nat.le_of_ble_eq_true rfl) (Nat.le_of_ble_eq_true rfl) (Nat.le_of_ble_eq_true rfl) (Nat.le_of_ble_eq_true rfl) hlk h (Nat.le_of_ble_eq_true rfl) (Nat.le_of_ble_eq_true rfl)
  have hb_24 : ∀ (g : gS), b_X10_most_24 g Q X → ∀ (H : Heap) (locs : List Loc) (ls : Array Slot), gC D cA (gA g0 sz) s g H locs → lv_has ls 5 [] → W p l e r_X10_most s m args below meth c H locs 0 0 (vx_MQ below (gQi D cA g0 sz (Q)) (gQx D cA g0 sz (X)) args s 1 13 (gA g0 sz)) (F0 m 24 ls []) := by
    intro g h H locs ls hc hl
    unfold b_X10_most_24 at h
    exact g_throwS CF hflags hc (cls := "java/lang/IndexOutOfBoundsException") (text := "there is no such node") (names := ["java/lang/RuntimeException", "java/lang/Exception"]) (ik := 151) (is := 252) (ic := 155) (by decide) (by decide) (List.mem_cons_of_mem _ (List.mem_append_left _ (List.mem_append_left _ (List.mem_append_left _ (List.mem_append_left _ (List.mem_append_left _ (List.mem_append_left _ (List.mem_append_left _ (List.mem_of_getElem? (i := 0) rfl))))))))) (List.mem_cons_of_mem _ (List.mem_append_left _ (List.mem_append_left _ (List.mem_append_left _ (List.mem_append_left _ (List.mem_append_left _ (List.mem_append_left _ (List.mem_append_left _ (List.mem_of_getElem? (i := 1) rfl))))))))) (by decide +kernel) (fun _ h9 => List.mem_cons_of_mem _ (List.mem_append_left _ (List.mem_append_left _ (List.mem_append_right _ (h9))))) ex_155_2 ex_ot ex_151_155_3 hl.1 dX10_most_24 dX10_most_27 dX10_most_28 dX10_most_30 dX10_most_33 hxt (Nat.le_of_ble_eq_true rfl) (Nat.le_of_ble_eq_true rfl) (Nat.le_of_ble_eq_true rfl) (Nat.le_of_ble_eq_true rfl) hlk h (Nat.le_of_ble_eq_true rfl) (Nat.le_of_ble_eq_true rfl)
  unfold w_X10_most at h
  obtain ⟨H, hH0⟩ : ∃ z, z = s.heap := ⟨_, rfl⟩
  rw [← hH0] at hc ⊢
  obtain ⟨locs, hlc0⟩ : ∃ z : List Loc, z = [] := ⟨_, rfl⟩
  rw [← hlc0] at hc ⊢
  refine lv_aload_n hx hb dX10_most_0 rfl (lv_at hl 0 rfl) ?_
  obtain ⟨hk1, h⟩ := h
  obtain ⟨y2, e3, h⟩ := h
  refine g_getr CF hc hk1 rfl (by decide) (fun _ h9 => List.mem_cons_of_mem _ (List.mem_append_left _ (List.mem_append_left _ (List.mem_append_left _ (List.mem_append_left _ (List.mem_append_left _ (List.mem_append_right _ (h9)))))))) (k := 2) (by decide) (List.mem_cons_of_mem _ (List.mem_append_left _ (List.mem_append_left _ (List.mem_append_left _ (List.mem_append_left _ (List.mem_append_left _ (List.mem_append_left _ (List.mem_append_left _ (List.mem_of_getElem? (i := 6) rfl))))))))) e3 rfl dX10_most_1 ?_
  refine lv_iload_n hx hb dX10_most_4 rfl (lv_at hl 1 rfl) ?_
  obtain ⟨hk4, h⟩ := h
  refine g_calli (va_runV (As := [.int p1]) (rest := []) CF (c_X6_hasNode h) (cwV 1 hts gX10_most_X6_hasNode rfl rfl rfl (by decide +kernel) ⟨Nat.le_of_ble_eq_true rfl, Nat.le_of_ble_eq_true rfl⟩) (hc.preV hk4 rfl (by decide)) rfl rfl hl.1 rfl (lv_room (Nat.le_of_ble_eq_true rfl)) dX10_most_5 ⟨Nat.le_of_ble_eq_true rfl, Nat.le_of_ble_eq_true rfl⟩) hc (fun x5 gq6 H locs hq hc => ?_)
  obtain ⟨rfl, h⟩ := hq
  refine lv_if_eq (tgt := 24) hx hb dX10_most_8 (by decide) (fun c7 => ?_) (fun c7 => ?_)
  · have h := h.1 c7
    exact hb_24 g0 h _ _ _ hc (lv_sub hl [] rfl)
  · have h := h.2 c7
    refine lv_iload_n hx hb dX10_most_11 rfl (lv_at hl 2 rfl) ?_
    refine lv_aload_n hx hb dX10_most_12 rfl (lv_at hl 0 rfl) ?_
    obtain ⟨y8, e9, h⟩ := h
    refine g_getr CF hc hk1 rfl (by decide) (fun _ h9 => List.mem_cons_of_mem _ (List.mem_append_left _ (List.mem_append_left _ (List.mem_append_left _ (List.mem_append_left _ (List.mem_append_left _ (List.mem_append_right _ (h9)))))))) (k := 2) (by decide) (List.mem_cons_of_mem _ (List.mem_append_left _ (List.mem_append_left _ (List.mem_append_left _ (List.mem_append_left _ (List.mem_append_left _ (List.mem_append_left _ (List.mem_append_left _ (List.mem_of_getElem? (i := 6) rfl))))))))) e9 rfl dX10_most_13 ?_
    obtain ⟨hk10, h⟩ := h
    refine g_get CF hc hk10 rfl (by decide) (fun _ h9 => List.mem_cons_of_mem _ (List.mem_append_left _ (List.mem_append_left _ (List.mem_append_left _ (List.mem_append_left _ (List.mem_append_right _ (h9))))))) (k := 2) (by decide) (List.mem_cons_of_mem _ (List.mem_append_left _ (List.mem_append_left _ (List.mem_append_left _ (List.mem_append_left _ (List.mem_append_left _ (List.mem_append_left _ (List.mem_append_left _ (List.mem_of_getElem? (i := 7) rfl))))))))) rfl dX10_most_16 ?_
    refine lv_iload_n hx hb dX10_most_19 rfl (lv_at hl 1 rfl) ?_
    refine lv_isub hx hb dX10_most_20 ?_
    refine lv_icmp_le (tgt := 34) hx hb dX10_most_21 (by decide) (fun c11 => ?_) (fun c11 => ?_)
    · have h := h.1 c11
      refine lv_iload_n hx hb dX10_most_34 rfl (lv_at hl 2 rfl) ?_
      refine lv_iconst (v := 2) hx hb dX10_most_35 (by decide) ?_
      refine lv_icmp_lt (tgt := 54) hx hb dX10_most_36 (by decide) (fun c12 => ?_) (fun c12 => ?_)
      · have h := h.1 c12
        exact hb_54 g0 h _ _ _ hc (lv_sub hl [] rfl)
      · have h := h.2 c12
        refine lv_iload_n hx hb dX10_most_39 rfl (lv_at hl 2 rfl) ?_
        refine lv_iconst (v := 4) hx hb dX10_most_40 (by decide) ?_
        refine lv_icmp_gt (tgt := 54) hx hb dX10_most_41 (by decide) (fun c13 => ?_) (fun c13 => ?_)
        · have h := h.1 c13
          exact hb_54 g0 h _ _ _ hc (lv_sub hl [] rfl)
        · have h := h.2 c13
          refine lv_iload_n hx hb dX10_most_44 rfl (lv_at hl 3 rfl) ?_
          refine lv_iconst (v := 1) hx hb dX10_most_45 (by decide) ?_
          refine lv_icmp_lt (tgt := 54) hx hb dX10_most_46 (by decide) (fun c14 => ?_) (fun c14 => ?_)
          · have h := h.1 c14
            exact hb_54 g0 h _ _ _ hc (lv_sub hl [] rfl)
          · have h := h.2 c14
            refine lv_iload_n hx hb dX10_most_49 rfl (lv_at hl 3 rfl) ?_
            refine lv_iload_n hx hb dX10_most_50 rfl (lv_at hl 2 rfl) ?_
            refine lv_icmp_le (tgt := 65) hx hb dX10_most_51 (by decide) (fun c15 => ?_) (fun c15 => ?_)
            · have h := h.1 c15
              refine lv_aload_n hx hb dX10_most_65 rfl (lv_at hl 0 rfl) ?_
              obtain ⟨y16, e17, h⟩ := h
              refine g_getr CF hc hk1 rfl (by decide) (fun _ h9 => List.mem_cons_of_mem _ (List.mem_append_left _ (List.mem_append_left _ (List.mem_append_left _ (List.mem_append_left _ (List.mem_append_left _ (List.mem_append_right _ (h9)))))))) (k := 2) (by decide) (List.mem_cons_of_mem _ (List.mem_append_left _ (List.mem_append_left _ (List.mem_append_left _ (List.mem_append_left _ (List.mem_append_left _ (List.mem_append_left _ (List.mem_append_left _ (List.mem_of_getElem? (i := 6) rfl))))))))) e17 rfl dX10_most_66 ?_
              obtain ⟨hk18, h⟩ := h
              refine g_calli (va_runV (As := []) (rest := []) CF (c_X6_isFull h) (cwV 0 hts gX10_most_X6_isFull rfl rfl rfl (by decide +kernel) ⟨Nat.le_of_ble_eq_true rfl, Nat.le_of_ble_eq_true rfl⟩) (hc.preV hk18 rfl (by decide)) rfl rfl hl.1 rfl (lv_room (Nat.le_of_ble_eq_true rfl)) dX10_most_69 ⟨Nat.le_of_ble_eq_true rfl, Nat.le_of_ble_eq_true rfl⟩) hc (fun x19 gq20 H locs hq hc => ?_)
              obtain ⟨rfl, h⟩ := hq
              refine lv_if_eq (tgt := 85) hx hb dX10_most_72 (by decide) (fun c21 => ?_) (fun c21 => ?_)
              · have h := h.1 c21
                refine g_new CF hc (ci := 5) rfl (by decide) (fun _ h9 => List.mem_cons_of_mem _ (List.mem_append_left _ (List.mem_append_left _ (List.mem_append_left _ (List.mem_append_right _ (h9)))))) tyX5 tyX5_ok dfX5 (List.mem_cons_of_mem _ (List.mem_append_left _ (List.mem_append_left _ (List.mem_append_left _ (List.mem_append_left _ (List.mem_append_left _ (List.mem_append_left _ (List.mem_append_left _ (List.mem_of_getElem? (i := 8) rfl))))))))) (List.mem_cons_of_mem _ (List.mem_append_left _ (List.mem_append_left _ (List.mem_append_left _ (List.mem_append_left _ (List.mem_append_left _ (List.mem_append_left _ (List.mem_append_left _ (List.mem_of_getElem? (i := 9) rfl))))))))) (List.mem_cons_of_mem _ (List.mem_append_left _ (List.mem_append_left _ (List.mem_append_left _ (List.mem_append_left _ (List.mem_append_left _ (List.mem_append_left _ (List.mem_append_left _ (List.mem_of_getElem? (i := 10) rfl))))))))) (Nat.le_of_ble_eq_true rfl) (Nat.le_of_ble_eq_true rfl) dX10_most_85 (fun q22 H locs hq23 hc => ?_)
                replace h := h q22 hq23
                obtain ⟨g24, eg25⟩ : ∃ z, z = sNew g0 q22 6 0 := ⟨_, rfl⟩
                have hc : gC D cA (gA g0 sz) s g24 H locs := by rw [eg25]; exact hc
                replace h := h g24 eg25
                refine W.widen (k := 1) (n := 13) (Nat.le_of_ble_eq_true rfl) (Nat.le_of_ble_eq_true rfl) ?_
                refine lv_dup hx hb dX10_most_88 rfl ?_
                refine lv_bipush (v := 8) hx hb dX10_most_89 (by decide) ?_
                refine g_callv (va_runI (b := q22) (As := [.int 8]) (rest := [.ref q22]) CF (c_X5_init h) (cwI 1 hts gX10_most_X5_init rfl rfl rfl (hts _ (List.mem_cons_of_mem _ (List.mem_append_left _ (List.mem_append_left _ (List.mem_append_left _ (List.mem_append_left _ (List.mem_append_left _ (List.mem_append_left _ (List.mem_append_left _ (List.mem_of_getElem? (i := 10) rfl)))))))))) (hts _ (List.mem_cons_of_mem _ (List.mem_append_left _ (List.mem_append_left _ (List.mem_append_left _ (List.mem_append_left _ (List.mem_append_left _ (List.mem_append_left _ (List.mem_append_right _ (List.mem_of_getElem? (i := 5) rfl)))))))))) (hts _ (List.mem_cons_of_mem _ (List.mem_append_left _ (List.mem_append_left _ (List.mem_append_left _ (List.mem_append_left _ (List.mem_append_left _ (List.mem_append_left _ (List.mem_append_right _ (List.mem_of_getElem? (i := 6) rfl)))))))))) rfl (by decide +kernel) ⟨Nat.le_of_ble_eq_true rfl, Nat.le_of_ble_eq_true rfl⟩) (hc.preS (As := .ref q22 :: [.int 8])) rfl rfl hl.1 rfl (lv_room (Nat.le_of_ble_eq_true rfl)) dX10_most_91 ⟨Nat.le_of_ble_eq_true rfl, Nat.le_of_ble_eq_true rfl⟩) hc (fun g27 H locs hq hc => ?_)
                replace h := hq
                refine lv_astore (lv' := [(4, .ref q22), (0, .ref p0), (1, .int p1), (2, .int p2), (3, .int p3)]) hx hb dX10_most_94 hl (by decide) rfl (fun ls hl => ?_)
                refine lv_aload hx hb dX10_most_96 (lv_at hl 0 rfl) ?_
                refine lv_iload_n hx hb dX10_most_98 rfl (lv_at hl 2 rfl) ?_
                obtain ⟨hk29, h⟩ := h
                refine g_puti CF hc hk29 rfl (by decide) (fun _ h9 => List.mem_cons_of_mem _ (List.mem_append_left _ (List.mem_append_left _ (List.mem_append_left _ (List.mem_append_right _ (h9)))))) tyX5 tyX5_ok nmX5 (k := 3) (by decide) (List.mem_cons_of_mem _ (List.mem_append_left _ (List.mem_append_left _ (List.mem_append_left _ (List.mem_append_left _ (List.mem_append_left _ (List.mem_append_left _ (List.mem_append_left _ (List.mem_of_getElem? (i := 11) rfl))))))))) rfl (v := p1) rfl rfl rfl dX10_most_99 (fun H locs hc => ?_)
                obtain ⟨g30, eg31⟩ : ∃ z, z = sU g27 q22 3 p1 := ⟨_, rfl⟩
                have hc : gC D cA (gA g0 sz) s g30 H locs := by rw [eg31]; exact hc
                replace h := h g30 eg31
                refine lv_aload hx hb dX10_most_102 (lv_at hl 0 rfl) ?_
                refine lv_iload_n hx hb dX10_most_104 rfl (lv_at hl 3 rfl) ?_
                obtain ⟨hk32, h⟩ := h
                refine g_puti CF hc hk32 rfl (by decide) (fun _ h9 => List.mem_cons_of_mem _ (List.mem_append_left _ (List.mem_append_left _ (List.mem_append_left _ (List.mem_append_right _ (h9)))))) tyX5 tyX5_ok nmX5 (k := 11) (by decide) (List.mem_cons_of_mem _ (List.mem_append_left _ (List.mem_append_left _ (List.mem_append_left _ (List.mem_append_left _ (List.mem_append_left _ (List.mem_append_left _ (List.mem_append_left _ (List.mem_of_getElem? (i := 12) rfl))))))))) rfl (v := p2) rfl rfl rfl dX10_most_105 (fun H locs hc => ?_)
                obtain ⟨g33, eg34⟩ : ∃ z, z = sU g30 q22 11 p2 := ⟨_, rfl⟩
                have hc : gC D cA (gA g0 sz) s g33 H locs := by rw [eg34]; exact hc
                replace h := h g33 eg34
                refine lv_aload hx hb dX10_most_108 (lv_at hl 0 rfl) ?_
                refine lv_iload_n hx hb dX10_most_110 rfl (lv_at hl 4 rfl) ?_
                obtain ⟨hk35, h⟩ := h
                refine g_puti CF hc hk35 rfl (by decide) (fun _ h9 => List.mem_cons_of_mem _ (List.mem_append_left _ (List.mem_append_left _ (List.mem_append_left _ (List.mem_append_right _ (h9)))))) tyX5 tyX5_ok nmX5 (k := 12) (by decide) (List.mem_cons_of_mem _ (List.mem_append_left _ (List.mem_append_left _ (List.mem_append_left _ (List.mem_append_left _ (List.mem_append_left _ (List.mem_append_left _ (List.mem_append_left _ (List.mem_of_getElem? (i := 13) rfl))))))))) rfl (v := p3) rfl rfl rfl dX10_most_111 (fun H locs hc => ?_)
                obtain ⟨g36, eg37⟩ : ∃ z, z = sU g33 q22 12 p3 := ⟨_, rfl⟩
                have hc : gC D cA (gA g0 sz) s g36 H locs := by rw [eg37]; exact hc
                replace h := h g36 eg37
                refine lv_aload_n hx hb dX10_most_114 rfl (lv_at hl 1 rfl) ?_
                obtain ⟨hk38, h⟩ := h
                obtain ⟨y39, e40, h⟩ := h
                refine g_getr CF hc hk38 rfl (by decide) (fun _ h9 => List.mem_cons_of_mem _ (List.mem_append_left _ (List.mem_append_left _ (List.mem_append_left _ (List.mem_append_left _ (List.mem_append_left _ (List.mem_append_right _ (h9)))))))) (k := 2) (by decide) (List.mem_cons_of_mem _ (List.mem_append_left _ (List.mem_append_left _ (List.mem_append_left _ (List.mem_append_left _ (List.mem_append_left _ (List.mem_append_left _ (List.mem_append_left _ (List.mem_of_getElem? (i := 6) rfl))))))))) e40 rfl dX10_most_115 ?_
                refine lv_aload hx hb dX10_most_118 (lv_at hl 0 rfl) ?_
                obtain ⟨hk41, h⟩ := h
                refine g_calli (va_runV (As := [.ref q22]) (rest := []) CF (c_X6_append h) (cwV 1 hts gX10_most_X6_append rfl rfl rfl (by decide +kernel) ⟨Nat.le_of_ble_eq_true rfl, Nat.le_of_ble_eq_true rfl⟩) (hc.preV hk41 rfl (by decide)) rfl rfl hl.1 rfl (lv_room (Nat.le_of_ble_eq_true rfl)) dX10_most_120 ⟨Nat.le_of_ble_eq_true rfl, Nat.le_of_ble_eq_true rfl⟩) hc (fun x42 g43 H locs hq hc => ?_)
                replace h := hq
                refine vx_ret ?_
                exact g_reti (r := x42) CF hr hlk hc rfl h dX10_most_123
              · have h := h.2 c21
                exact g_throwS CF hflags hc (cls := "java/lang/IllegalStateException") (text := "there are 30 nodes") (names := ["java/lang/RuntimeException", "java/lang/Exception"]) (ik := 100) (is := 230) (ic := 104) (by decide) (by decide) (List.mem_cons_of_mem _ (List.mem_append_left _ (List.mem_append_left _ (List.mem_append_left _ (List.mem_append_left _ (List.mem_append_left _ (List.mem_append_left _ (List.mem_append_left _ (List.mem_of_getElem? (i := 4) rfl))))))))) (List.mem_cons_of_mem _ (List.mem_append_left _ (List.mem_append_left _ (List.mem_append_left _ (List.mem_append_left _ (List.mem_append_left _ (List.mem_append_left _ (List.mem_append_left _ (List.mem_of_getElem? (i := 5) rfl))))))))) (by decide +kernel) (fun _ h9 => List.mem_cons_of_mem _ (List.mem_append_right _ (h9))) ex_104_2 ex_ot ex_100_104_3 hl.1 dX10_most_75 dX10_most_78 dX10_most_79 dX10_most_81 dX10_most_84 hxt (Nat.le_of_ble_eq_true rfl) (Nat.le_of_ble_eq_true rfl) (Nat.le_of_ble_eq_true rfl) (Nat.le_of_ble_eq_true rfl) hlk h (Nat.le_of_ble_eq_true rfl) (Nat.le_of_ble_eq_true rfl)
            · have h := h.2 c15
              exact hb_54 g0 h _ _ _ hc (lv_sub hl [] rfl)
    · have h := h.2 c11
      exact hb_24 g0 h _ _ _ hc (lv_sub hl [] rfl)
def w_X10_nodes (g : gS) (p0 : Nat) (Q : Int32 → Prop) : Prop :=
  gK g p0 = 11 ∧ (∃ y2, gR g p0 2 = some y2 ∧ (gK g y2 = 7 ∧ (Q (gI g y2 2))))
abbrev r_X10_nodes : Room := { frames := 0, cells := 0, slots := 0, locals := 0 }
set_option maxHeartbeats 4000000 in
set_option maxRecDepth 100000 in
theorem c_X10_nodes {l : Launch} {D : va_G} {cA : Nat → ClassId} {sz : Nat} {g : gS} {p0 : Nat} {Q : Int32 → Prop} (h : w_X10_nodes g p0 Q) : Met l yX10_nodes wsX10_nodes r_X10_nodes (va_Pc [.ref p0] (gPre D cA g sz)) (gQi D cA g sz (fun r g2 => g = g2 ∧ Q r)) 0 0 (gA g sz) := by
  refine g_met (cc := cX10_nodes) (maxL := 1) (ret := (some .int)) (own := RX10) (by decide) rfl rfl (Nat.le_of_ble_eq_true rfl) ?_
  intro p e s m args below meth c ls CF hr hlk hnm hc hl
  obtain ⟨hx, hb, hml, hown, hts⟩ := id CF
  have hl : lv_has ls 1 [(0, .ref p0)] := hl
  show W p l e r_X10_nodes s m args below meth c s.heap [] 0 0 (MQ below (gQi D cA g sz (fun r g2 => g = g2 ∧ Q r)) args s 0 0 (gA g sz)) (F0 m 0 ls [])
  unfold w_X10_nodes at h
  obtain ⟨H, hH0⟩ : ∃ z, z = s.heap := ⟨_, rfl⟩
  rw [← hH0] at hc ⊢
  obtain ⟨locs, hlc0⟩ : ∃ z : List Loc, z = [] := ⟨_, rfl⟩
  rw [← hlc0] at hc ⊢
  refine lv_aload_n hx hb dX10_nodes_0 rfl (lv_at hl 0 rfl) ?_
  obtain ⟨hk1, h⟩ := h
  obtain ⟨y2, e3, h⟩ := h
  refine g_getr CF hc hk1 rfl (by decide) (fun _ h9 => List.mem_cons_of_mem _ (List.mem_append_left _ (List.mem_append_right _ (h9)))) (k := 2) (by decide) (List.mem_cons_of_mem _ (List.mem_append_left _ (List.mem_append_left _ (List.mem_of_getElem? (i := 0) rfl)))) e3 rfl dX10_nodes_1 ?_
  obtain ⟨hk4, h⟩ := h
  refine g_get CF hc hk4 rfl (by decide) (fun _ h9 => List.mem_cons_of_mem _ (List.mem_append_right _ (h9))) (k := 2) (by decide) (List.mem_cons_of_mem _ (List.mem_append_left _ (List.mem_append_left _ (List.mem_of_getElem? (i := 1) rfl)))) rfl dX10_nodes_4 ?_
  exact g_reti (r := (gI g y2 2)) CF hr hlk hc rfl ⟨rfl, h⟩ dX10_nodes_7
def b_X10_score_55 (g : gS) (is0 : Int32) (Q : Int32 → gS → Prop) (X : String → gS → Prop) : Prop :=
  Q is0 g
def b_X10_score_24 (g : gS) (Q : Int32 → gS → Prop) (X : String → gS → Prop) : Prop :=
  X "java/lang/IndexOutOfBoundsException" g
def w_X10_score (g0 : gS) (p0 : Nat) (p1 : Int32) (p2 : Int32) (Q : Int32 → gS → Prop) (X : String → gS → Prop) : Prop :=
  gK g0 p0 = 11 ∧ (∃ y2, gR g0 p0 0 = some y2 ∧ (gK g0 y2 = 1 ∧ (w_X0_documentAt g0 y2 p2 (fun o5 => (∃ y7, gR g0 p0 2 = some y7 ∧ (gK g0 y7 = 7 ∧ (w_X6_hasNode g0 y7 p1 (fun x10 => ((x10 = 0 → (b_X10_score_24 g0 Q X)) ∧ (¬ x10 = 0 → ((o5 = none → (b_X10_score_24 g0 Q X)) ∧ (∀ y13, o5 = some y13 → (gK g0 y13 = 3 ∧ (w_X2_canBeFound g0 y13 (fun x16 => ((x16 = 0 → (b_X10_score_55 g0 (-1) Q X)) ∧ (¬ x16 = 0 → (∃ y19, gR g0 p0 6 = some y19 ∧ (gK g0 y19 = 9 ∧ (w_X8_scoreOf g0 y19 (some y13) p1 (fun x22 g23 => (b_X10_score_55 g23 x22 Q X))))))))))))))))))))))
abbrev r_X10_score : Room := { frames := 6, cells := 1, slots := 6, locals := 127 }
set_option maxHeartbeats 4000000 in
set_option maxRecDepth 100000 in
theorem c_X10_score {l : Launch} {D : va_G} {cA : Nat → ClassId} {sz : Nat} {g0 : gS} {p0 : Nat} {p1 : Int32} {p2 : Int32} {Q : Int32 → gS → Prop} {X : String → gS → Prop} (hflags : l.stackTraces = false) (h : w_X10_score g0 p0 p1 p2 Q X) : vx_Met l yX10_score wsX10_score r_X10_score (va_Pc [.ref p0, .int p1, .int p2] (gPre D cA g0 sz)) (gQi D cA g0 sz (Q)) (gQx D cA g0 sz (X)) 1 6 (gA g0 sz) := by
  refine g_xmet (cc := cX10_score) (maxL := 4) (ret := (some .int)) (own := RX10) (by decide) rfl rfl (Nat.le_of_ble_eq_true rfl) ?_
  intro p e s m args below meth c ls CF hr hlk hnm hxt hc hl
  obtain ⟨hx, hb, hml, hown, hts⟩ := id CF
  have hl : lv_has ls 4 [(0, .ref p0), (1, .int p1), (2, .int p2)] := hl
  show W p l e r_X10_score s m args below meth c s.heap [] 0 0 (vx_MQ below (gQi D cA g0 sz (Q)) (gQx D cA g0 sz (X)) args s 1 6 (gA g0 sz)) (F0 m 0 ls [])
  have hb_55 : ∀ (g : gS) (is0 : Int32), b_X10_score_55 g is0 Q X → ∀ (H : Heap) (locs : List Loc) (ls : Array Slot), gC D cA (gA g0 sz) s g H locs → lv_has ls 4 [] → W p l e r_X10_score s m args below meth c H locs 0 0 (vx_MQ below (gQi D cA g0 sz (Q)) (gQx D cA g0 sz (X)) args s 1 6 (gA g0 sz)) (F0 m 55 ls [.int is0]) := by
    intro g is0 h H locs ls hc hl
    unfold b_X10_score_55 at h
    refine W.widen (k := 1) (n := 6) (Nat.le_of_ble_eq_true rfl) (Nat.le_of_ble_eq_true rfl) ?_
    refine vx_ret ?_
    exact g_reti (r := is0) CF hr hlk hc rfl h dX10_score_55
  have hb_24 : ∀ (g : gS), b_X10_score_24 g Q X → ∀ (H : Heap) (locs : List Loc) (ls : Array Slot), gC D cA (gA g0 sz) s g H locs → lv_has ls 4 [] → W p l e r_X10_score s m args below meth c H locs 0 0 (vx_MQ below (gQi D cA g0 sz (Q)) (gQx D cA g0 sz (X)) args s 1 6 (gA g0 sz)) (F0 m 24 ls []) := by
    intro g h H locs ls hc hl
    unfold b_X10_score_24 at h
    exact g_throwSW CF hflags hc (cls := "java/lang/IndexOutOfBoundsException") (text := "there is no such node or document") (names := ["java/lang/RuntimeException", "java/lang/Exception"]) (ik := 151) (is := 305) (ic := 155) (by decide) (by decide) (List.mem_cons_of_mem _ (List.mem_append_left _ (List.mem_append_left _ (List.mem_append_left _ (List.mem_append_left _ (List.mem_append_left _ (List.mem_append_left _ (List.mem_append_left _ (List.mem_append_left _ (List.mem_append_left _ (List.mem_append_left _ (List.mem_append_left _ (List.mem_of_getElem? (i := 0) rfl))))))))))))) (List.mem_cons_of_mem _ (List.mem_append_left _ (List.mem_append_left _ (List.mem_append_left _ (List.mem_append_left _ (List.mem_append_left _ (List.mem_append_left _ (List.mem_append_left _ (List.mem_append_left _ (List.mem_append_left _ (List.mem_append_left _ (List.mem_append_left _ (List.mem_of_getElem? (i := 1) rfl))))))))))))) (by decide +kernel) (fun _ h9 => List.mem_cons_of_mem _ (List.mem_append_right _ (h9))) ex_155_2 ex_ot ex_151_155_3 hl.1 dX10_score_24 dX10_score_27 dX10_score_28 dX10_score_31 dX10_score_34 hxt (Nat.le_of_ble_eq_true rfl) (Nat.le_of_ble_eq_true rfl) (Nat.le_of_ble_eq_true rfl) (Nat.le_of_ble_eq_true rfl) hlk h (Nat.le_of_ble_eq_true rfl) (Nat.le_of_ble_eq_true rfl)
  unfold w_X10_score at h
  obtain ⟨H, hH0⟩ : ∃ z, z = s.heap := ⟨_, rfl⟩
  rw [← hH0] at hc ⊢
  obtain ⟨locs, hlc0⟩ : ∃ z : List Loc, z = [] := ⟨_, rfl⟩
  rw [← hlc0] at hc ⊢
  refine lv_aload_n hx hb dX10_score_0 rfl (lv_at hl 0 rfl) ?_
  obtain ⟨hk1, h⟩ := h
  obtain ⟨y2, e3, h⟩ := h
  refine g_getr CF hc hk1 rfl (by decide) (fun _ h9 => List.mem_cons_of_mem _ (List.mem_append_left _ (List.mem_append_left _ (List.mem_append_left _ (List.mem_append_left _ (List.mem_append_left _ (List.mem_append_left _ (List.mem_append_left _ (List.mem_append_left _ (List.mem_append_left _ (List.mem_append_right _ (h9)))))))))))) (k := 0) (by decide) (List.mem_cons_of_mem _ (List.mem_append_left _ (List.mem_append_left _ (List.mem_append_left _ (List.mem_append_left _ (List.mem_append_left _ (List.mem_append_left _ (List.mem_append_left _ (List.mem_append_left _ (List.mem_append_left _ (List.mem_append_left _ (List.mem_append_left _ (List.mem_of_getElem? (i := 2) rfl))))))))))))) e3 rfl dX10_score_1 ?_
  refine lv_iload_n hx hb dX10_score_4 rfl (lv_at hl 2 rfl) ?_
  obtain ⟨hk4, h⟩ := h
  refine g_callq (va_runV (As := [.int p2]) (rest := []) CF (c_X0_documentAt h) (cwV 1 hts gX10_score_X0_documentAt rfl rfl rfl (by decide +kernel) ⟨Nat.le_of_ble_eq_true rfl, Nat.le_of_ble_eq_true rfl⟩) (hc.preV hk4 rfl (by decide)) rfl rfl hl.1 rfl (lv_room (Nat.le_of_ble_eq_true rfl)) dX10_score_5 ⟨Nat.le_of_ble_eq_true rfl, Nat.le_of_ble_eq_true rfl⟩) hc (fun o5 gq6 H locs hq hc => ?_)
  obtain ⟨rfl, h⟩ := hq
  refine g_astore_nq (lv' := [(3, va_rf o5), (0, .ref p0), (1, .int p1), (2, .int p2)]) CF dX10_score_8 rfl hl (by decide) rfl (fun ls hl => ?_)
  refine lv_aload_n hx hb dX10_score_9 rfl (lv_at hl 1 rfl) ?_
  obtain ⟨y7, e8, h⟩ := h
  refine g_getr CF hc hk1 rfl (by decide) (fun _ h9 => List.mem_cons_of_mem _ (List.mem_append_left _ (List.mem_append_left _ (List.mem_append_left _ (List.mem_append_left _ (List.mem_append_left _ (List.mem_append_left _ (List.mem_append_left _ (List.mem_append_left _ (List.mem_append_left _ (List.mem_append_right _ (h9)))))))))))) (k := 2) (by decide) (List.mem_cons_of_mem _ (List.mem_append_left _ (List.mem_append_left _ (List.mem_append_left _ (List.mem_append_left _ (List.mem_append_left _ (List.mem_append_left _ (List.mem_append_left _ (List.mem_append_left _ (List.mem_append_left _ (List.mem_append_left _ (List.mem_append_left _ (List.mem_of_getElem? (i := 3) rfl))))))))))))) e8 rfl dX10_score_10 ?_
  refine lv_iload_n hx hb dX10_score_13 rfl (lv_at hl 2 rfl) ?_
  obtain ⟨hk9, h⟩ := h
  refine g_calli (va_runV (As := [.int p1]) (rest := []) CF (c_X6_hasNode h) (cwV 1 hts gX10_score_X6_hasNode rfl rfl rfl (by decide +kernel) ⟨Nat.le_of_ble_eq_true rfl, Nat.le_of_ble_eq_true rfl⟩) (hc.preV hk9 rfl (by decide)) rfl rfl hl.1 rfl (lv_room (Nat.le_of_ble_eq_true rfl)) dX10_score_14 ⟨Nat.le_of_ble_eq_true rfl, Nat.le_of_ble_eq_true rfl⟩) hc (fun x10 gq11 H locs hq hc => ?_)
  obtain ⟨rfl, h⟩ := hq
  refine lv_if_eq (tgt := 24) hx hb dX10_score_17 (by decide) (fun c12 => ?_) (fun c12 => ?_)
  · have h := h.1 c12
    exact hb_24 g0 h _ _ _ hc (lv_sub hl [] rfl)
  · have h := h.2 c12
    refine g_aload_nq CF dX10_score_20 rfl (lv_at hl 0 rfl) ?_
    refine g_ifnonnull (tgt := 35) CF dX10_score_21 (by decide) (fun y13 e14 => ?_) (fun e14 => ?_)
    · have hu25 := h.2 y13 e14
      subst e14
      have h := hu25
      refine lv_aload_n hx hb dX10_score_35 rfl (lv_at hl 0 rfl) ?_
      obtain ⟨hk15, h⟩ := h
      refine g_calli (va_runV (As := []) (rest := []) CF (c_X2_canBeFound h) (cwV 0 hts gX10_score_X2_canBeFound rfl rfl rfl (by decide +kernel) ⟨Nat.le_of_ble_eq_true rfl, Nat.le_of_ble_eq_true rfl⟩) (hc.preV hk15 rfl (by decide)) rfl rfl hl.1 rfl (lv_room (Nat.le_of_ble_eq_true rfl)) dX10_score_36 ⟨Nat.le_of_ble_eq_true rfl, Nat.le_of_ble_eq_true rfl⟩) hc (fun x16 gq17 H locs hq hc => ?_)
      obtain ⟨rfl, h⟩ := hq
      refine lv_if_eq (tgt := 54) hx hb dX10_score_39 (by decide) (fun c18 => ?_) (fun c18 => ?_)
      · have h := h.1 c18
        refine lv_iconst (v := (-1)) hx hb dX10_score_54 (by decide) ?_
        exact hb_55 g0 (-1) h _ _ _ hc (lv_sub hl [] rfl)
      · have h := h.2 c18
        refine lv_aload_n hx hb dX10_score_42 rfl (lv_at hl 1 rfl) ?_
        obtain ⟨y19, e20, h⟩ := h
        refine g_getr CF hc hk1 rfl (by decide) (fun _ h9 => List.mem_cons_of_mem _ (List.mem_append_left _ (List.mem_append_left _ (List.mem_append_left _ (List.mem_append_left _ (List.mem_append_left _ (List.mem_append_left _ (List.mem_append_left _ (List.mem_append_left _ (List.mem_append_left _ (List.mem_append_right _ (h9)))))))))))) (k := 6) (by decide) (List.mem_cons_of_mem _ (List.mem_append_left _ (List.mem_append_left _ (List.mem_append_left _ (List.mem_append_left _ (List.mem_append_left _ (List.mem_append_left _ (List.mem_append_left _ (List.mem_append_left _ (List.mem_append_left _ (List.mem_append_left _ (List.mem_append_left _ (List.mem_of_getElem? (i := 4) rfl))))))))))))) e20 rfl dX10_score_43 ?_
        refine lv_aload_n hx hb dX10_score_46 rfl (lv_at hl 0 rfl) ?_
        refine lv_iload_n hx hb dX10_score_47 rfl (lv_at hl 2 rfl) ?_
        obtain ⟨hk21, h⟩ := h
        refine g_calli (va_runV (As := [va_rf (some y13), .int p1]) (rest := []) CF (c_X8_scoreOf h) (cwV 2 hts gX10_score_X8_scoreOf rfl rfl rfl (by decide +kernel) ⟨Nat.le_of_ble_eq_true rfl, Nat.le_of_ble_eq_true rfl⟩) (hc.preV hk21 rfl (by decide)) rfl rfl hl.1 rfl (lv_room (Nat.le_of_ble_eq_true rfl)) dX10_score_48 ⟨Nat.le_of_ble_eq_true rfl, Nat.le_of_ble_eq_true rfl⟩) hc (fun x22 g23 H locs hq hc => ?_)
        replace h := hq
        refine lv_goto (tgt := 55) hx hb dX10_score_51 (by decide) ?_
        exact hb_55 g23 x22 h _ _ _ hc (lv_sub hl [] rfl)
    · have hu25 := h.1 e14
      subst e14
      have h := hu25
      exact hb_24 g0 h _ _ _ hc (lv_sub hl [] rfl)
def b_X10_scoreNow_33 (g : gS) (is0 : Int32) (Q : Int32 → gS → Prop) : Prop :=
  Q is0 g
def b_X10_scoreNow_20 (g : gS) (Q : Int32 → gS → Prop) : Prop :=
  b_X10_scoreNow_33 g (-1) Q
def w_X10_scoreNow (g0 : gS) (p0 : Nat) (p1 : Int32) (p2 : Int32) (Q : Int32 → gS → Prop) : Prop :=
  gK g0 p0 = 11 ∧ (∃ y2, gR g0 p0 0 = some y2 ∧ (gK g0 y2 = 1 ∧ (w_X0_documentAt g0 y2 p1 (fun o5 => ((o5 = none → (b_X10_scoreNow_20 g0 Q)) ∧ (∀ y7, o5 = some y7 → (gK g0 y7 = 3 ∧ (w_X2_canBeFound g0 y7 (fun x10 => ((x10 = 0 → (b_X10_scoreNow_20 g0 Q)) ∧ (¬ x10 = 0 → (∃ y13, gR g0 p0 6 = some y13 ∧ (gK g0 y13 = 9 ∧ (w_X8_scoreOf g0 y13 (some y7) p2 (fun x16 g17 => (b_X10_scoreNow_33 g17 x16 Q))))))))))))))))
abbrev r_X10_scoreNow : Room := { frames := 5, cells := 0, slots := 0, locals := 127 }
set_option maxHeartbeats 4000000 in
set_option maxRecDepth 100000 in
theorem c_X10_scoreNow {l : Launch} {D : va_G} {cA : Nat → ClassId} {sz : Nat} {g0 : gS} {p0 : Nat} {p1 : Int32} {p2 : Int32} {Q : Int32 → gS → Prop} (h : w_X10_scoreNow g0 p0 p1 p2 Q) : Met l yX10_scoreNow wsX10_scoreNow r_X10_scoreNow (va_Pc [.ref p0, .int p1, .int p2] (gPre D cA g0 sz)) (gQi D cA g0 sz (Q)) 0 0 (gA g0 sz) := by
  refine g_met (cc := cX10_scoreNow) (maxL := 4) (ret := (some .int)) (own := RX10) (by decide) rfl rfl (Nat.le_of_ble_eq_true rfl) ?_
  intro p e s m args below meth c ls CF hr hlk hnm hc hl
  obtain ⟨hx, hb, hml, hown, hts⟩ := id CF
  have hl : lv_has ls 4 [(0, .ref p0), (1, .int p1), (2, .int p2)] := hl
  show W p l e r_X10_scoreNow s m args below meth c s.heap [] 0 0 (MQ below (gQi D cA g0 sz (Q)) args s 0 0 (gA g0 sz)) (F0 m 0 ls [])
  have hb_33 : ∀ (g : gS) (is0 : Int32), b_X10_scoreNow_33 g is0 Q → ∀ (H : Heap) (locs : List Loc) (ls : Array Slot), gC D cA (gA g0 sz) s g H locs → lv_has ls 4 [] → W p l e r_X10_scoreNow s m args below meth c H locs 0 0 (MQ below (gQi D cA g0 sz (Q)) args s 0 0 (gA g0 sz)) (F0 m 33 ls [.int is0]) := by
    intro g is0 h H locs ls hc hl
    unfold b_X10_scoreNow_33 at h
    exact g_reti (r := is0) CF hr hlk hc rfl h dX10_scoreNow_33
  have hb_20 : ∀ (g : gS), b_X10_scoreNow_20 g Q → ∀ (H : Heap) (locs : List Loc) (ls : Array Slot), gC D cA (gA g0 sz) s g H locs → lv_has ls 4 [] → W p l e r_X10_scoreNow s m args below meth c H locs 0 0 (MQ below (gQi D cA g0 sz (Q)) args s 0 0 (gA g0 sz)) (F0 m 20 ls []) := by
    intro g h H locs ls hc hl
    unfold b_X10_scoreNow_20 at h
    refine lv_iconst (v := (-1)) hx hb dX10_scoreNow_20 (by decide) ?_
    refine lv_goto (tgt := 33) hx hb dX10_scoreNow_21 (by decide) ?_
    exact hb_33 g (-1) h _ _ _ hc (lv_sub hl [] rfl)
  unfold w_X10_scoreNow at h
  obtain ⟨H, hH0⟩ : ∃ z, z = s.heap := ⟨_, rfl⟩
  rw [← hH0] at hc ⊢
  obtain ⟨locs, hlc0⟩ : ∃ z : List Loc, z = [] := ⟨_, rfl⟩
  rw [← hlc0] at hc ⊢
  refine lv_aload_n hx hb dX10_scoreNow_0 rfl (lv_at hl 0 rfl) ?_
  obtain ⟨hk1, h⟩ := h
  obtain ⟨y2, e3, h⟩ := h
  refine g_getr CF hc hk1 rfl (by decide) (fun _ h9 => List.mem_cons_of_mem _ (List.mem_append_left _ (List.mem_append_left _ (List.mem_append_left _ (List.mem_append_left _ (List.mem_append_left _ (List.mem_append_left _ (List.mem_append_left _ (List.mem_append_left _ (List.mem_append_right _ (h9))))))))))) (k := 0) (by decide) (List.mem_cons_of_mem _ (List.mem_append_left _ (List.mem_append_left _ (List.mem_append_left _ (List.mem_append_left _ (List.mem_append_left _ (List.mem_append_left _ (List.mem_append_left _ (List.mem_append_left _ (List.mem_append_left _ (List.mem_append_left _ (List.mem_of_getElem? (i := 0) rfl)))))))))))) e3 rfl dX10_scoreNow_1 ?_
  refine lv_iload_n hx hb dX10_scoreNow_4 rfl (lv_at hl 1 rfl) ?_
  obtain ⟨hk4, h⟩ := h
  refine g_callq (va_runV (As := [.int p1]) (rest := []) CF (c_X0_documentAt h) (cwV 1 hts gX10_scoreNow_X0_documentAt rfl rfl rfl (by decide +kernel) ⟨Nat.le_of_ble_eq_true rfl, Nat.le_of_ble_eq_true rfl⟩) (hc.preV hk4 rfl (by decide)) rfl rfl hl.1 rfl (lv_room (Nat.le_of_ble_eq_true rfl)) dX10_scoreNow_5 ⟨Nat.le_of_ble_eq_true rfl, Nat.le_of_ble_eq_true rfl⟩) hc (fun o5 gq6 H locs hq hc => ?_)
  obtain ⟨rfl, h⟩ := hq
  refine g_astore_nq (lv' := [(3, va_rf o5), (0, .ref p0), (1, .int p1), (2, .int p2)]) CF dX10_scoreNow_8 rfl hl (by decide) rfl (fun ls hl => ?_)
  refine g_aload_nq CF dX10_scoreNow_9 rfl (lv_at hl 0 rfl) ?_
  refine g_ifnull (tgt := 20) CF dX10_scoreNow_10 (by decide) (fun e8 => ?_) (fun y7 e8 => ?_)
  · have hu19 := h.1 e8
    subst e8
    have h := hu19
    exact hb_20 g0 h _ _ _ hc (lv_sub hl [] rfl)
  · have hu19 := h.2 y7 e8
    subst e8
    have h := hu19
    refine lv_aload_n hx hb dX10_scoreNow_13 rfl (lv_at hl 0 rfl) ?_
    obtain ⟨hk9, h⟩ := h
    refine g_calli (va_runV (As := []) (rest := []) CF (c_X2_canBeFound h) (cwV 0 hts gX10_scoreNow_X2_canBeFound rfl rfl rfl (by decide +kernel) ⟨Nat.le_of_ble_eq_true rfl, Nat.le_of_ble_eq_true rfl⟩) (hc.preV hk9 rfl (by decide)) rfl rfl hl.1 rfl (lv_room (Nat.le_of_ble_eq_true rfl)) dX10_scoreNow_14 ⟨Nat.le_of_ble_eq_true rfl, Nat.le_of_ble_eq_true rfl⟩) hc (fun x10 gq11 H locs hq hc => ?_)
    obtain ⟨rfl, h⟩ := hq
    refine lv_if_ne (tgt := 24) hx hb dX10_scoreNow_17 (by decide) (fun c12 => ?_) (fun c12 => ?_)
    · have h := h.2 c12
      refine lv_aload_n hx hb dX10_scoreNow_24 rfl (lv_at hl 1 rfl) ?_
      obtain ⟨y13, e14, h⟩ := h
      refine g_getr CF hc hk1 rfl (by decide) (fun _ h9 => List.mem_cons_of_mem _ (List.mem_append_left _ (List.mem_append_left _ (List.mem_append_left _ (List.mem_append_left _ (List.mem_append_left _ (List.mem_append_left _ (List.mem_append_left _ (List.mem_append_left _ (List.mem_append_right _ (h9))))))))))) (k := 6) (by decide) (List.mem_cons_of_mem _ (List.mem_append_left _ (List.mem_append_left _ (List.mem_append_left _ (List.mem_append_left _ (List.mem_append_left _ (List.mem_append_left _ (List.mem_append_left _ (List.mem_append_left _ (List.mem_append_left _ (List.mem_append_left _ (List.mem_of_getElem? (i := 1) rfl)))))))))))) e14 rfl dX10_scoreNow_25 ?_
      refine lv_aload_n hx hb dX10_scoreNow_28 rfl (lv_at hl 0 rfl) ?_
      refine lv_iload_n hx hb dX10_scoreNow_29 rfl (lv_at hl 3 rfl) ?_
      obtain ⟨hk15, h⟩ := h
      refine g_calli (va_runV (As := [va_rf (some y7), .int p2]) (rest := []) CF (c_X8_scoreOf h) (cwV 2 hts gX10_scoreNow_X8_scoreOf rfl rfl rfl (by decide +kernel) ⟨Nat.le_of_ble_eq_true rfl, Nat.le_of_ble_eq_true rfl⟩) (hc.preV hk15 rfl (by decide)) rfl rfl hl.1 rfl (lv_room (Nat.le_of_ble_eq_true rfl)) dX10_scoreNow_30 ⟨Nat.le_of_ble_eq_true rfl, Nat.le_of_ble_eq_true rfl⟩) hc (fun x16 g17 H locs hq hc => ?_)
      replace h := hq
      exact hb_33 g17 x16 h _ _ _ hc (lv_sub hl [] rfl)
    · have h := h.1 c12
      exact hb_20 g0 h _ _ _ hc (lv_sub hl [] rfl)
